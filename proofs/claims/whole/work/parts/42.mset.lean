/-- bit f of p, as the machine reads it -/
def sp_bt (p f : Int) : Int := (Int32.ofInt (Int32.ofInt p >>> (Int32.ofInt f &&& 31)).toInt &&& Int32.ofInt 1).toInt
theorem sp_sh (f : Nat) (hf : f < 31) : ((Int32.ofInt (f : Int) &&& 31).toBitVec.smod 32).toNat = f := by
  have key : ∀ f : Nat, f < 31 → ((Int32.ofInt (f : Int) &&& 31).toBitVec.smod 32).toNat = f := by decide +kernel
  exact key f hf
theorem sp_ofN (n : Nat) : Int32.ofInt (n : Int) = nI n := Int32.ofInt_eq_ofNat
theorem sp_bt_nat {p f : Nat} (hp : p < 2 ^ 31) (hf : f < 31) : sp_bt (p : Int) (f : Int) = ((p / 2 ^ f % 2 : Nat) : Int) := by
  unfold sp_bt
  rw [Int32.ofInt_toInt, sp_ofN p, pk_shrN hp _ f (sp_sh f hf)]
  have h1 : p / 2 ^ f < 2 ^ 32 := Nat.lt_of_le_of_lt (Nat.div_le_self _ _) (by omega)
  have h2 := pk_andN h1 (m := Int32.ofInt 1) 1 (by decide +kernel)
  rw [h2, nI_toInt (by omega)]
theorem sp_bt_b {p f : Nat} (hp : p < 2 ^ 31) (hf : f < 31) : 0 ≤ sp_bt (p : Int) (f : Int) ∧ sp_bt (p : Int) (f : Int) ≤ 1 := by
  rw [sp_bt_nat hp hf]
  omega
/-- the first to die of those at the mill at hour t, of the first n; -1: none -/
def sp_df (a e r : Nat → Int) (t : Int) : Nat → Int
  | 0 => -1
  | n + 1 => if 0 < r n ∧ a n ≤ t ∧ (sp_df a e r t n < 0 ∨ e n < e (sp_df a e r t n).toNat) then (n : Int) else sp_df a e r t n
theorem sp_df_b (a e r : Nat → Int) (t : Int) : ∀ n : Nat, -1 ≤ sp_df a e r t n ∧ sp_df a e r t n < n
  | 0 => by rw [sp_df]; omega
  | n + 1 => by
    have := sp_df_b a e r t n
    rw [sp_df]
    split <;> omega
theorem sp_df_w (a e r : Nat → Int) (t : Int) : ∀ n : Nat, 0 ≤ sp_df a e r t n → 0 < r (sp_df a e r t n).toNat ∧ a (sp_df a e r t n).toNat ≤ t
  | 0, h => by rw [sp_df] at h; omega
  | n + 1, h => by
    rw [sp_df] at h ⊢
    split
    · rename_i q
      rw [Int.toNat_natCast]
      exact ⟨q.1, q.2.1⟩
    · rename_i q
      rw [if_neg q] at h
      exact sp_df_w a e r t n h
/-- the numbers that could reads -/
def iv_w (S : ms_T) : Prop := (0 ≤ S.1 2 ∧ S.1 2 ≤ 16) ∧ (1 ≤ S.1 7 ∧ S.1 7 ≤ 100) ∧ ∀ f : Nat, (f : Int) < S.1 2 → (1 ≤ S.2 41 f ∧ S.2 41 f ≤ 200) ∧ (0 ≤ S.2 73 f ∧ S.2 73 f ≤ 5000) ∧ (0 ≤ S.2 74 f ∧ S.2 74 f ≤ 5000)
def iv_r (S : ms_T) : Prop := ∀ f : Nat, (f : Int) < S.1 2 → 0 ≤ S.2 76 f ∧ S.2 76 f ≤ 200
set_option maxHeartbeats 1000000 in
theorem ml_M_dyingFirst {w : aw_T} {h0 h : ah_T} {S : ms_T} {d : Nat} (hd : 0 ≤ d) (hM : mo_I h0 h S) (hw : iv_w S) (hr : iv_r S) {t : Int} (ht : 0 ≤ t ∧ t ≤ 200000) {P : ap_T} (hP : P (some (av_i (sp_df (S.2 73) (S.2 74) (S.2 76) t (S.1 2).toNat))) h) : ∀ (r k : Nat), (k : Int) + r = S.1 2 → aw_W w mm_M_dyingFirst d P 4 [some (av_r 38), some (av_i (t)), some (av_i ((sp_df (S.2 73) (S.2 74) (S.2 76) t k))), some (av_i ((k : Int)))] [] h 0 0 := by
  intro r
  induction r with
  | zero =>
    intro k hk
    have a2 := hw.1
    have hfb := sp_df_b (S.2 73) (S.2 74) (S.2 76) t k
    refine ag_iload_n dd_M_dyingFirst_4 rfl ?_
    refine ag_aload_n dd_M_dyingFirst_5 rfl ?_
    refine ag_get dd_M_dyingFirst_6 fg_M_152 (mr_38 hM) rfl ?_
    refine ag_icmp_ge (tgt := 58) dd_M_dyingFirst_9 (by decide) (by omega) (by omega) (fun c1 => ?_) (fun c1 => ?_)
    · refine ag_iload_n dd_M_dyingFirst_58 rfl ?_
      refine ag_iret dd_M_dyingFirst_59 rfl ?_
      obtain rfl : k = (S.1 2).toNat := by omega
      exact hP
    · exfalso; omega
  | succ r ih =>
    intro k hk
    have a2 := hw.1
    have hfb := sp_df_b (S.2 73) (S.2 74) (S.2 76) t k
    refine ag_iload_n dd_M_dyingFirst_4 rfl ?_
    refine ag_aload_n dd_M_dyingFirst_5 rfl ?_
    refine ag_get dd_M_dyingFirst_6 fg_M_152 (mr_38 hM) rfl ?_
    refine ag_icmp_ge (tgt := 58) dd_M_dyingFirst_9 (by decide) (by omega) (by omega) (fun c1 => ?_) (fun c1 => ?_)
    · exfalso; omega
    · have hwk := hw.2.2 k (by omega)
      have hrk := hr k (by omega)
      refine ag_aload_n dd_M_dyingFirst_12 rfl ?_
      refine ag_get dd_M_dyingFirst_13 fg_M_146 (mr_38 hM) rfl ?_
      refine ag_iload_n dd_M_dyingFirst_16 rfl ?_
      refine ag_ialdN dd_M_dyingFirst_17 (mr_76 hM) (by decide) (by omega) ?_
      refine ag_if_le (tgt := 52) dd_M_dyingFirst_18 (by decide) (by omega) (fun c2 => ?_) (fun c2 => ?_)
      · refine ag_iincN (Lf := fun y => [some (av_r 38), some (av_i (t)), some (av_i ((sp_df (S.2 73) (S.2 74) (S.2 76) t k))), some (av_i (y))]) dd_M_dyingFirst_52 rfl (fun _ => rfl) rfl (by decide) (fun y3 ey3 => ?_)
        refine ag_goto (tgt := 4) dd_M_dyingFirst_55 (by decide) ?_
        have ek : (sp_df (S.2 73) (S.2 74) (S.2 76) t k) = sp_df (S.2 73) (S.2 74) (S.2 76) t (k + 1) := by
          rw [sp_df]
          first | rw [if_pos (by omega)] | rw [if_neg (by omega)]
        obtain rfl : y3 = ((k + 1 : Nat) : Int) := by omega
        rw [ek]
        exact ih (k + 1) (by omega)
      · refine ag_aload_n dd_M_dyingFirst_21 rfl ?_
        refine ag_get dd_M_dyingFirst_22 fg_M_137 (mr_38 hM) rfl ?_
        refine ag_iload_n dd_M_dyingFirst_25 rfl ?_
        refine ag_ialdN dd_M_dyingFirst_26 (mr_73 hM) (by decide) (by omega) ?_
        refine ag_iload_n dd_M_dyingFirst_27 rfl ?_
        refine ag_icmp_gt (tgt := 52) dd_M_dyingFirst_28 (by decide) (by omega) (by omega) (fun c4 => ?_) (fun c4 => ?_)
        · refine ag_iincN (Lf := fun y => [some (av_r 38), some (av_i (t)), some (av_i ((sp_df (S.2 73) (S.2 74) (S.2 76) t k))), some (av_i (y))]) dd_M_dyingFirst_52 rfl (fun _ => rfl) rfl (by decide) (fun y5 ey5 => ?_)
          refine ag_goto (tgt := 4) dd_M_dyingFirst_55 (by decide) ?_
          have ek : (sp_df (S.2 73) (S.2 74) (S.2 76) t k) = sp_df (S.2 73) (S.2 74) (S.2 76) t (k + 1) := by
            rw [sp_df]
            first | rw [if_pos (by omega)] | rw [if_neg (by omega)]
          obtain rfl : y5 = ((k + 1 : Nat) : Int) := by omega
          rw [ek]
          exact ih (k + 1) (by omega)
        · refine ag_iload_n dd_M_dyingFirst_31 rfl ?_
          refine ag_if_lt (tgt := 50) dd_M_dyingFirst_32 (by decide) (by omega) (fun c6 => ?_) (fun c6 => ?_)
          · refine ag_iload_n dd_M_dyingFirst_50 rfl ?_
            refine ag_istore_n (L' := [some (av_r 38), some (av_i (t)), some (av_i ((k : Int))), some (av_i ((k : Int)))]) dd_M_dyingFirst_51 rfl rfl (by decide) ?_
            refine ag_iincN (Lf := fun y => [some (av_r 38), some (av_i (t)), some (av_i ((k : Int))), some (av_i (y))]) dd_M_dyingFirst_52 rfl (fun _ => rfl) rfl (by decide) (fun y7 ey7 => ?_)
            refine ag_goto (tgt := 4) dd_M_dyingFirst_55 (by decide) ?_
            have ek : (k : Int) = sp_df (S.2 73) (S.2 74) (S.2 76) t (k + 1) := by
              rw [sp_df]
              first | rw [if_pos (by omega)] | rw [if_neg (by omega)]
            obtain rfl : y7 = ((k + 1 : Nat) : Int) := by omega
            rw [ek]
            exact ih (k + 1) (by omega)
          · have hdb := hw.2.2 (sp_df (S.2 73) (S.2 74) (S.2 76) t k).toNat (by omega)
            refine ag_aload_n dd_M_dyingFirst_35 rfl ?_
            refine ag_get dd_M_dyingFirst_36 fg_M_140 (mr_38 hM) rfl ?_
            refine ag_iload_n dd_M_dyingFirst_39 rfl ?_
            refine ag_ialdN dd_M_dyingFirst_40 (mr_74 hM) (by decide) (by omega) ?_
            refine ag_aload_n dd_M_dyingFirst_41 rfl ?_
            refine ag_get dd_M_dyingFirst_42 fg_M_140 (mr_38 hM) rfl ?_
            refine ag_iload_n dd_M_dyingFirst_45 rfl ?_
            refine ag_iald dd_M_dyingFirst_46 (mr_74 hM) (by decide) (by omega) ?_
            refine ag_icmp_ge (tgt := 52) dd_M_dyingFirst_47 (by decide) (by omega) (by omega) (fun c8 => ?_) (fun c8 => ?_)
            · refine ag_iincN (Lf := fun y => [some (av_r 38), some (av_i (t)), some (av_i ((sp_df (S.2 73) (S.2 74) (S.2 76) t k))), some (av_i (y))]) dd_M_dyingFirst_52 rfl (fun _ => rfl) rfl (by decide) (fun y9 ey9 => ?_)
              refine ag_goto (tgt := 4) dd_M_dyingFirst_55 (by decide) ?_
              have ek : (sp_df (S.2 73) (S.2 74) (S.2 76) t k) = sp_df (S.2 73) (S.2 74) (S.2 76) t (k + 1) := by
                rw [sp_df]
                first | rw [if_pos (by omega)] | rw [if_neg (by omega)]
              obtain rfl : y9 = ((k + 1 : Nat) : Int) := by omega
              rw [ek]
              exact ih (k + 1) (by omega)
            · refine ag_iload_n dd_M_dyingFirst_50 rfl ?_
              refine ag_istore_n (L' := [some (av_r 38), some (av_i (t)), some (av_i ((k : Int))), some (av_i ((k : Int)))]) dd_M_dyingFirst_51 rfl rfl (by decide) ?_
              refine ag_iincN (Lf := fun y => [some (av_r 38), some (av_i (t)), some (av_i ((k : Int))), some (av_i (y))]) dd_M_dyingFirst_52 rfl (fun _ => rfl) rfl (by decide) (fun y10 ey10 => ?_)
              refine ag_goto (tgt := 4) dd_M_dyingFirst_55 (by decide) ?_
              have ek : (k : Int) = sp_df (S.2 73) (S.2 74) (S.2 76) t (k + 1) := by
                rw [sp_df]
                first | rw [if_pos (by omega)] | rw [if_neg (by omega)]
              obtain rfl : y10 = ((k + 1 : Nat) : Int) := by omega
              rw [ek]
              exact ih (k + 1) (by omega)
set_option maxHeartbeats 1000000 in
theorem mc_M_dyingFirst {w : aw_T} {h0 h : ah_T} {S : ms_T} {d : Nat} (hd : 0 ≤ d) (hM : mo_I h0 h S) (hw : iv_w S) (hr : iv_r S) {t : Int} (ht : 0 ≤ t ∧ t ≤ 200000) : am_M w mm_M_dyingFirst d [av_r 38, av_i t] h 0 0 (fun r h' => r = some (av_i (sp_df (S.2 73) (S.2 74) (S.2 76) t (S.1 2).toNat)) ∧ h' = h) := by
  refine am_intro [some (av_r 38), some (av_i (t)), none, none] (by decide +kernel) (Nat.le_of_ble_eq_true rfl) rfl ?_
  refine ag_iconst dd_M_dyingFirst_0 ?_
  refine ag_istore_n (L' := [some (av_r 38), some (av_i (t)), some (av_i (-1)), none]) dd_M_dyingFirst_1 rfl rfl (by decide) ?_
  refine ag_iconst dd_M_dyingFirst_2 ?_
  refine ag_istore_n (L' := [some (av_r 38), some (av_i (t)), some (av_i (-1)), some (av_i (0))]) dd_M_dyingFirst_3 rfl rfl (by decide) ?_
  exact ml_M_dyingFirst hd hM hw hr ht ⟨rfl, rfl⟩ (S.1 2).toNat 0 (by have := hw.1; omega)
/-- the set's fields all stand -/
def sp_stN (S : ms_T) (p : Nat) : Nat → Bool
  | 0 => true
  | n + 1 => sp_stN S p n && (decide (p / 2 ^ n % 2 = 0) || decide (S.2 46 n = 0))
def sp_isSet (S : ms_T) (p g : Int) : Bool := decide (0 ≤ p ∧ p < ((2 ^ (S.1 2).toNat : Nat) : Int)) && decide (1 ≤ g ∧ g ≤ 9) && sp_stN S p.toNat (S.1 2).toNat
theorem sp_2p {n : Nat} (h : n ≤ 16) : (Int32.ofInt 1 <<< (Int32.ofInt (n : Int) &&& 31)).toInt = ((2 ^ n : Nat) : Int) := by
  have key : ∀ n : Nat, n ≤ 16 → (Int32.ofInt 1 <<< (Int32.ofInt (n : Int) &&& 31)).toInt = ((2 ^ n : Nat) : Int) := by decide +kernel
  exact key n h
theorem sp_2b {n : Nat} (h : n ≤ 16) : 1 ≤ 2 ^ n ∧ 2 ^ n ≤ 65536 := by
  have key : ∀ n : Nat, n ≤ 16 → 1 ≤ 2 ^ n ∧ 2 ^ n ≤ 65536 := by decide +kernel
  exact key n h
theorem sp_stN_f (S : ms_T) (p : Nat) (k : Nat) {n : Nat} (hk : k < n) (h : sp_stN S p (k + 1) = false) : sp_stN S p n = false := by
  induction n with
  | zero => omega
  | succ n ih =>
    by_cases e : k = n
    · subst e; exact h
    · rw [sp_stN, ih (by omega)]
      rfl
set_option maxHeartbeats 1000000 in
theorem ml_M_isSet {w : aw_T} {h0 h : ah_T} {S : ms_T} {d : Nat} (hd : 1 ≤ d) (hM : mo_I h0 h S) (hfs : iv_fs S) {p : Nat} (hp : p < 65536) {g : Int} {P : ap_T} (hP : P (some (av_i (if sp_stN S p (S.1 2).toNat = true then 1 else 0))) h) : ∀ (r k : Nat), (k : Int) + r = S.1 2 → sp_stN S p k = true → aw_W w mm_M_isSet d P 30 [some (av_r 38), some (av_i ((p : Int))), some (av_i (g)), some (av_i ((k : Int)))] [] h 0 0 := by
  intro r
  induction r with
  | zero =>
    intro k hk hst
    have a2 := hfs.1
    refine ag_iload_n dd_M_isSet_30 rfl ?_
    refine ag_aload_n dd_M_isSet_31 rfl ?_
    refine ag_get dd_M_isSet_32 fg_M_152 (mr_38 hM) rfl ?_
    refine ag_icmp_ge (tgt := 64) dd_M_isSet_35 (by decide) (by omega) (by omega) (fun c1 => ?_) (fun c1 => ?_)
    · refine ag_iconst dd_M_isSet_64 ?_
      refine ag_zret dd_M_isSet_65 rfl (by first | exact Or.inl rfl | exact Or.inr rfl | omega) ?_
      obtain rfl : k = (S.1 2).toNat := by omega
      rw [hst] at hP
      exact hP
    · exfalso; omega
  | succ r ih =>
    intro k hk hst
    have a2 := hfs.1
    refine ag_iload_n dd_M_isSet_30 rfl ?_
    refine ag_aload_n dd_M_isSet_31 rfl ?_
    refine ag_get dd_M_isSet_32 fg_M_152 (mr_38 hM) rfl ?_
    refine ag_icmp_ge (tgt := 64) dd_M_isSet_35 (by decide) (by omega) (by omega) (fun c1 => ?_) (fun c1 => ?_)
    · exfalso; omega
    · obtain ⟨-, -, -, -, -, -, h46, -⟩ := hfs.2 k (by omega)
      have hbt := sp_bt_nat (p := p) (f := k) (by omega) (by omega)
      unfold sp_bt at hbt
      refine ag_iload_n dd_M_isSet_38 rfl ?_
      refine ag_iload_n dd_M_isSet_39 rfl ?_
      refine ag_ishr dd_M_isSet_40 ?_
      refine ag_iconst dd_M_isSet_41 ?_
      refine ag_iand dd_M_isSet_42 ?_
      refine ag_to hbt ?_
      refine ag_iconst dd_M_isSet_43 ?_
      refine ag_icmp_ne (tgt := 58) dd_M_isSet_44 (by decide) (by omega) (by omega) (fun c2 => ?_) (fun c2 => ?_)
      · refine ag_iincN (Lf := fun y => [some (av_r 38), some (av_i ((p : Int))), some (av_i (g)), some (av_i (y))]) dd_M_isSet_58 rfl (fun _ => rfl) rfl (by decide) (fun y3 ey3 => ?_)
        refine ag_goto (tgt := 30) dd_M_isSet_61 (by decide) ?_
        obtain rfl : y3 = ((k + 1 : Nat) : Int) := by omega
        exact ih (k + 1) (by omega) (by simp [sp_stN, hst]; omega)
      · refine ag_aload_n dd_M_isSet_47 rfl ?_
        refine ag_get dd_M_isSet_48 fg_M_45 (mr_38 hM) rfl ?_
        refine ag_iload_n dd_M_isSet_51 rfl ?_
        refine ag_ialdN dd_M_isSet_52 (mr_46 hM) (by decide) (by omega) ?_
        refine ag_if_eq (tgt := 58) dd_M_isSet_53 (by decide) (by omega) (fun c4 => ?_) (fun c4 => ?_)
        · refine ag_iincN (Lf := fun y => [some (av_r 38), some (av_i ((p : Int))), some (av_i (g)), some (av_i (y))]) dd_M_isSet_58 rfl (fun _ => rfl) rfl (by decide) (fun y5 ey5 => ?_)
          refine ag_goto (tgt := 30) dd_M_isSet_61 (by decide) ?_
          obtain rfl : y5 = ((k + 1 : Nat) : Int) := by omega
          exact ih (k + 1) (by omega) (by simp [sp_stN, hst]; omega)
        · refine ag_iconst dd_M_isSet_56 ?_
          refine ag_zret dd_M_isSet_57 rfl (by first | exact Or.inl rfl | exact Or.inr rfl | omega) ?_
          have hf : sp_stN S p (S.1 2).toNat = false := sp_stN_f S p k (by omega) (by simp [sp_stN, hst]; omega)
          rw [hf] at hP
          exact hP
set_option maxHeartbeats 1000000 in
theorem mc_M_isSet {w : aw_T} {h0 h : ah_T} {S : ms_T} {d : Nat} (hd : 1 ≤ d) (hM : mo_I h0 h S) {p : Int} (hp : -2147483648 ≤ p ∧ p < 2147483648) {g : Int} (hg : -2147483648 ≤ g ∧ g < 2147483648) (hfs : iv_fs S) : am_M w mm_M_isSet d [av_r 38, av_i p, av_i g] h 0 0 (fun r h' => r = some (av_i (if sp_isSet S p g = true then 1 else 0)) ∧ h' = h) := by
  refine am_intro [some (av_r 38), some (av_i (p)), some (av_i (g)), none] (by decide +kernel) (Nat.le_of_ble_eq_true rfl) rfl ?_
  have a2 := hfs.1
  refine ag_iload_n dd_M_isSet_0 rfl ?_
  refine ag_iconst dd_M_isSet_1 ?_
  refine ag_iconst dd_M_isSet_2 ?_
  refine ag_aload_n dd_M_isSet_3 rfl ?_
  refine ag_get dd_M_isSet_4 fg_M_152 (mr_38 hM) rfl ?_
  refine ag_ishl dd_M_isSet_7 ?_
  have h2p := sp_2p (n := (S.1 2).toNat) (by omega)
  have h2b := sp_2b (n := (S.1 2).toNat) (by omega)
  rw [show (((S.1 2).toNat : Nat) : Int) = S.1 2 by omega] at h2p
  refine ag_to h2p ?_
  refine ag_iconst dd_M_isSet_8 ?_
  refine ag_isub dd_M_isSet_9 ?_
  refine ag_rS dd_M_isSet_10 fi_M_155 (mc_M_isIn (d := 0) (by omega) (by omega) (by omega)) rfl rfl (by omega) (Nat.le_of_ble_eq_true rfl) ?_
  refine ag_if_eqB (tgt := 26) dd_M_isSet_13 (by decide) (fun c1 => ?_) (fun c1 => ?_)
  · refine ag_iconst dd_M_isSet_26 ?_
    refine ag_zret dd_M_isSet_27 rfl (by first | exact Or.inl rfl | exact Or.inr rfl | omega) ?_
    refine ⟨?_, rfl⟩
    have e1 : sp_isSet S p g = false := by
      unfold sp_isSet
      first | rw [decide_eq_false (p := 0 ≤ p ∧ p < ((2 ^ (S.1 2).toNat : Nat) : Int)) (by omega)]; rfl | (rw [decide_eq_false (p := 1 ≤ g ∧ g ≤ 9) (by omega)]; simp)
    rw [e1]
    rfl
  · refine ag_iload_n dd_M_isSet_16 rfl ?_
    refine ag_iconst dd_M_isSet_17 ?_
    refine ag_bipush dd_M_isSet_18 (by decide +kernel) ?_
    refine ag_rS dd_M_isSet_20 fi_M_155 (mc_M_isIn (d := 0) (by omega) (by omega) (by omega)) rfl rfl (by omega) (Nat.le_of_ble_eq_true rfl) ?_
    refine ag_if_neB (tgt := 28) dd_M_isSet_23 (by decide) (fun c2 => ?_) (fun c2 => ?_)
    · refine ag_toL (L := [some (av_r 38), some (av_i (((p.toNat : Nat) : Int))), some (av_i (g)), none]) (by rw [show ((p.toNat : Nat) : Int) = p by omega]) ?_
      refine ag_iconst dd_M_isSet_28 ?_
      refine ag_istore_n (L' := [some (av_r 38), some (av_i (((p.toNat : Nat) : Int))), some (av_i (g)), some (av_i (0))]) dd_M_isSet_29 rfl rfl (by decide) ?_
      refine ml_M_isSet hd hM hfs (by omega) ?_ (S.1 2).toNat 0 (by omega) rfl
      refine ⟨?_, rfl⟩
      have e1 : sp_isSet S p g = sp_stN S p.toNat (S.1 2).toNat := by
        unfold sp_isSet
        rw [decide_eq_true (by omega), decide_eq_true (by omega)]
        rfl
      rw [e1]
    · refine ag_iconst dd_M_isSet_26 ?_
      refine ag_zret dd_M_isSet_27 rfl (by first | exact Or.inl rfl | exact Or.inr rfl | omega) ?_
      refine ⟨?_, rfl⟩
      have e1 : sp_isSet S p g = false := by
        unfold sp_isSet
        first | rw [decide_eq_false (p := 0 ≤ p ∧ p < ((2 ^ (S.1 2).toNat : Nat) : Int)) (by omega)]; rfl | (rw [decide_eq_false (p := 1 ≤ g ∧ g ≤ 9) (by omega)]; simp)
      rw [e1]
      rfl
