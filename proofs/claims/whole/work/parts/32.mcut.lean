theorem ai_uu {α : Type} (f : Nat → α) (k : Nat) (v u : α) : ai_up (ai_up f k v) k u = ai_up f k u := by
  funext j
  by_cases e : j = k <;> simp [ai_up, e]
theorem ai_uc {α : Type} (f : Nat → α) {k j : Nat} (v u : α) (h : k ≠ j) : ai_up (ai_up f k v) j u = ai_up (ai_up f j u) k v := by
  funext i
  by_cases e : i = k
  · subst e; simp [ai_up, h]
  · simp [ai_up, e]
def sp_trip (k : Int) : Int := if k < 1 then 1 else (k + 9).tdiv 10
theorem sp_trip_b {k : Int} (h : 0 ≤ k ∧ k ≤ 60) : 1 ≤ sp_trip k ∧ sp_trip k ≤ 6 := by
  unfold sp_trip
  split
  · omega
  · rw [Int.tdiv_eq_ediv_of_nonneg (by omega)]
    omega
/-- how sweet field f is at hour t -/
def sp_swt (S : ms_T) (f : Nat) (t : Int) : Int :=
  if 0 ≤ S.2 49 f then S.2 50 f else
    if S.2 43 f - (if S.2 44 f < t then t - S.2 44 f else S.2 44 f - t).tdiv (S.2 45 f) < 0 then 0
    else S.2 43 f - (if S.2 44 f < t then t - S.2 44 f else S.2 44 f - t).tdiv (S.2 45 f)
/-- a field's numbers -/
def iv_f (S : ms_T) (f : Nat) : Prop := (0 ≤ S.2 40 f ∧ S.2 40 f < S.1 1) ∧ (1 ≤ S.2 41 f ∧ S.2 41 f ≤ 200) ∧ (0 ≤ S.2 42 f ∧ S.2 42 f ≤ 60) ∧ (1 ≤ S.2 43 f ∧ S.2 43 f ≤ 30) ∧ (0 ≤ S.2 44 f ∧ S.2 44 f ≤ 4000) ∧ (1 ≤ S.2 45 f ∧ S.2 45 f ≤ 100) ∧ (0 ≤ S.2 46 f ∧ S.2 46 f ≤ 3) ∧ (0 ≤ S.2 47 f ∧ S.2 47 f ≤ 200) ∧ (0 ≤ S.2 48 f ∧ S.2 48 f ≤ 9) ∧ (-1 ≤ S.2 49 f ∧ S.2 49 f ≤ 4000) ∧ (0 ≤ S.2 50 f ∧ S.2 50 f ≤ 30) ∧ (-1 ≤ S.2 51 f ∧ S.2 51 f ≤ 15)
def iv_fs (S : ms_T) : Prop := (0 ≤ S.1 2 ∧ S.1 2 ≤ 16) ∧ ∀ f : Nat, (f : Int) < S.1 2 → iv_f S f
def iv_sw (S : ms_T) (f : Nat) : Prop := (1 ≤ S.2 43 f ∧ S.2 43 f ≤ 30) ∧ (0 ≤ S.2 44 f ∧ S.2 44 f ≤ 4000) ∧ (1 ≤ S.2 45 f ∧ S.2 45 f ≤ 100) ∧ (-1 ≤ S.2 49 f ∧ S.2 49 f ≤ 4000) ∧ (0 ≤ S.2 50 f ∧ S.2 50 f ≤ 30)
theorem iv_f.sw {S : ms_T} {f : Nat} (h : iv_f S f) : iv_sw S f := by
  obtain ⟨-, -, -, h43, h44, h45, -, -, -, h49, h50, -⟩ := h
  exact ⟨h43, h44, h45, h49, h50⟩
theorem sp_td {a b : Int} (ha : 0 ≤ a) (hb : 1 ≤ b) : 0 ≤ a.tdiv b ∧ a.tdiv b ≤ a := by
  rw [Int.tdiv_eq_ediv_of_nonneg ha]
  exact ⟨Int.ediv_nonneg ha (by omega), Int.ediv_le_self b ha⟩
theorem sp_swt_b {S : ms_T} {f : Nat} {t : Int} (h : iv_f S f) : 0 ≤ sp_swt S f t ∧ sp_swt S f t ≤ 30 := by
  obtain ⟨-, -, -, h43, h44, h45, -, -, -, -, h50, -⟩ := h
  unfold sp_swt
  split
  · exact h50
  · have h1 := sp_td (a := if S.2 44 f < t then t - S.2 44 f else S.2 44 f - t) (b := S.2 45 f) (by split <;> omega) (by omega)
    generalize (if S.2 44 f < t then t - S.2 44 f else S.2 44 f - t).tdiv (S.2 45 f) = q at h1 ⊢
    split <;> omega
set_option maxHeartbeats 1000000 in
theorem mc_M_trip {w : aw_T} {h : ah_T} {d : Nat} {a : Int} (ha : 0 ≤ a ∧ a ≤ 60) : am_M w mm_M_trip d [av_i a] h 0 0 (fun r h' => r = some (av_i (sp_trip a)) ∧ h' = h) := by
  refine am_intro [some (av_i (a))] (by decide +kernel) (Nat.le_of_ble_eq_true rfl) rfl ?_
  refine ag_iload_n dd_M_trip_0 rfl ?_
  refine ag_iconst dd_M_trip_1 ?_
  refine ag_icmp_ge (tgt := 9) dd_M_trip_2 (by decide) (by omega) (by omega) (fun c1 => ?_) (fun c1 => ?_)
  · refine ag_iload_n dd_M_trip_9 rfl ?_
    refine ag_bipush dd_M_trip_10 (by decide +kernel) ?_
    refine ag_iadd dd_M_trip_12 ?_
    refine ag_bipush dd_M_trip_13 (by decide +kernel) ?_
    refine ag_idiv dd_M_trip_15 (by omega) (by omega) (by omega) ?_
    refine ag_iret dd_M_trip_16 rfl ?_
    exact ⟨by unfold sp_trip; first | rw [if_pos (by omega)] | rw [if_neg (by omega)], rfl⟩
  · refine ag_iconst dd_M_trip_5 ?_
    refine ag_goto (tgt := 16) dd_M_trip_6 (by decide) ?_
    refine ag_iret dd_M_trip_16 rfl ?_
    exact ⟨by unfold sp_trip; first | rw [if_pos (by omega)] | rw [if_neg (by omega)], rfl⟩
set_option maxHeartbeats 1000000 in
theorem mc_M_sweetAt {w : aw_T} {h0 h : ah_T} {S : ms_T} {d : Nat} (hd : 0 ≤ d) (hM : mo_I h0 h S) {f : Nat} (hfl : f < 16) (hf : iv_sw S f) {t : Int} (ht : 0 ≤ t ∧ t ≤ 5000) : am_M w mm_M_sweetAt d [av_r 38, av_i (f : Int), av_i t] h 0 0 (fun r h' => r = some (av_i (sp_swt S f t)) ∧ h' = h) := by
  refine am_intro [some (av_r 38), some (av_i ((f : Int))), some (av_i (t)), none, none] (by decide +kernel) (Nat.le_of_ble_eq_true rfl) rfl ?_
  have hf2 := hf
  obtain ⟨h43, h44, h45, h49, h50⟩ := hf2
  refine ag_aload_n dd_M_sweetAt_0 rfl ?_
  refine ag_get dd_M_sweetAt_1 fg_M_54 (mr_38 hM) rfl ?_
  refine ag_iload_n dd_M_sweetAt_4 rfl ?_
  refine ag_ialdN dd_M_sweetAt_5 (mr_49 hM) (by decide) (by omega) ?_
  refine ag_if_lt (tgt := 16) dd_M_sweetAt_6 (by decide) (by omega) (fun c1 => ?_) (fun c1 => ?_)
  · refine ag_iload_n dd_M_sweetAt_16 rfl ?_
    refine ag_aload_n dd_M_sweetAt_17 rfl ?_
    refine ag_get dd_M_sweetAt_18 fg_M_39 (mr_38 hM) rfl ?_
    refine ag_iload_n dd_M_sweetAt_21 rfl ?_
    refine ag_ialdN dd_M_sweetAt_22 (mr_44 hM) (by decide) (by omega) ?_
    refine ag_icmp_le (tgt := 37) dd_M_sweetAt_23 (by decide) (by omega) (by omega) (fun c2 => ?_) (fun c2 => ?_)
    · refine ag_aload_n dd_M_sweetAt_37 rfl ?_
      refine ag_get dd_M_sweetAt_38 fg_M_39 (mr_38 hM) rfl ?_
      refine ag_iload_n dd_M_sweetAt_41 rfl ?_
      refine ag_ialdN dd_M_sweetAt_42 (mr_44 hM) (by decide) (by omega) ?_
      refine ag_iload_n dd_M_sweetAt_43 rfl ?_
      refine ag_isub dd_M_sweetAt_44 ?_
      refine ag_istore_nN (Lf := fun y => [some (av_r 38), some (av_i ((f : Int))), some (av_i (t)), some (av_i (y)), none]) dd_M_sweetAt_45 (fun _ => rfl) rfl (by decide) (fun y3 ey3 => ?_)
      have htd := sp_td (a := y3) (b := S.2 45 f) (by omega) (by omega)
      refine ag_aload_n dd_M_sweetAt_46 rfl ?_
      refine ag_get dd_M_sweetAt_47 fg_M_36 (mr_38 hM) rfl ?_
      refine ag_iload_n dd_M_sweetAt_50 rfl ?_
      refine ag_ialdN dd_M_sweetAt_51 (mr_43 hM) (by decide) (by omega) ?_
      refine ag_iload_n dd_M_sweetAt_52 rfl ?_
      refine ag_aload_n dd_M_sweetAt_53 rfl ?_
      refine ag_get dd_M_sweetAt_54 fg_M_42 (mr_38 hM) rfl ?_
      refine ag_iload_n dd_M_sweetAt_57 rfl ?_
      refine ag_ialdN dd_M_sweetAt_58 (mr_45 hM) (by decide) (by omega) ?_
      refine ag_idiv dd_M_sweetAt_59 (by omega) (by omega) (by omega) ?_
      refine ag_isub dd_M_sweetAt_60 ?_
      refine ag_istoreN (Lf := fun y => [some (av_r 38), some (av_i ((f : Int))), some (av_i (t)), some (av_i (y3)), some (av_i (y))]) dd_M_sweetAt_61 (fun _ => rfl) rfl (by decide) (fun y4 ey4 => ?_)
      refine ag_iload dd_M_sweetAt_63 rfl ?_
      refine ag_if_ge (tgt := 72) dd_M_sweetAt_65 (by decide) (by omega) (fun c5 => ?_) (fun c5 => ?_)
      · refine ag_iload dd_M_sweetAt_72 rfl ?_
        refine ag_iret dd_M_sweetAt_74 rfl ?_
        refine ⟨?_, rfl⟩
        unfold sp_swt
        rw [if_neg (by omega)]
        congr 2
        have eif : (if S.2 44 f < t then t - S.2 44 f else S.2 44 f - t) = y3 := by
          first | rw [if_pos (by omega)]; omega | rw [if_neg (by omega)]; omega
        rw [eif]
        first | rw [if_pos (by omega)] | (rw [if_neg (by omega)]; omega)
      · refine ag_iconst dd_M_sweetAt_68 ?_
        refine ag_goto (tgt := 74) dd_M_sweetAt_69 (by decide) ?_
        refine ag_iret dd_M_sweetAt_74 rfl ?_
        refine ⟨?_, rfl⟩
        unfold sp_swt
        rw [if_neg (by omega)]
        congr 2
        have eif : (if S.2 44 f < t then t - S.2 44 f else S.2 44 f - t) = y3 := by
          first | rw [if_pos (by omega)]; omega | rw [if_neg (by omega)]; omega
        rw [eif]
        first | rw [if_pos (by omega)] | (rw [if_neg (by omega)]; omega)
    · refine ag_iload_n dd_M_sweetAt_26 rfl ?_
      refine ag_aload_n dd_M_sweetAt_27 rfl ?_
      refine ag_get dd_M_sweetAt_28 fg_M_39 (mr_38 hM) rfl ?_
      refine ag_iload_n dd_M_sweetAt_31 rfl ?_
      refine ag_ialdN dd_M_sweetAt_32 (mr_44 hM) (by decide) (by omega) ?_
      refine ag_isub dd_M_sweetAt_33 ?_
      refine ag_goto (tgt := 45) dd_M_sweetAt_34 (by decide) ?_
      refine ag_istore_nN (Lf := fun y => [some (av_r 38), some (av_i ((f : Int))), some (av_i (t)), some (av_i (y)), none]) dd_M_sweetAt_45 (fun _ => rfl) rfl (by decide) (fun y6 ey6 => ?_)
      have htd := sp_td (a := y6) (b := S.2 45 f) (by omega) (by omega)
      refine ag_aload_n dd_M_sweetAt_46 rfl ?_
      refine ag_get dd_M_sweetAt_47 fg_M_36 (mr_38 hM) rfl ?_
      refine ag_iload_n dd_M_sweetAt_50 rfl ?_
      refine ag_ialdN dd_M_sweetAt_51 (mr_43 hM) (by decide) (by omega) ?_
      refine ag_iload_n dd_M_sweetAt_52 rfl ?_
      refine ag_aload_n dd_M_sweetAt_53 rfl ?_
      refine ag_get dd_M_sweetAt_54 fg_M_42 (mr_38 hM) rfl ?_
      refine ag_iload_n dd_M_sweetAt_57 rfl ?_
      refine ag_ialdN dd_M_sweetAt_58 (mr_45 hM) (by decide) (by omega) ?_
      refine ag_idiv dd_M_sweetAt_59 (by omega) (by omega) (by omega) ?_
      refine ag_isub dd_M_sweetAt_60 ?_
      refine ag_istoreN (Lf := fun y => [some (av_r 38), some (av_i ((f : Int))), some (av_i (t)), some (av_i (y6)), some (av_i (y))]) dd_M_sweetAt_61 (fun _ => rfl) rfl (by decide) (fun y7 ey7 => ?_)
      refine ag_iload dd_M_sweetAt_63 rfl ?_
      refine ag_if_ge (tgt := 72) dd_M_sweetAt_65 (by decide) (by omega) (fun c8 => ?_) (fun c8 => ?_)
      · refine ag_iload dd_M_sweetAt_72 rfl ?_
        refine ag_iret dd_M_sweetAt_74 rfl ?_
        refine ⟨?_, rfl⟩
        unfold sp_swt
        rw [if_neg (by omega)]
        congr 2
        have eif : (if S.2 44 f < t then t - S.2 44 f else S.2 44 f - t) = y6 := by
          first | rw [if_pos (by omega)]; omega | rw [if_neg (by omega)]; omega
        rw [eif]
        first | rw [if_pos (by omega)] | (rw [if_neg (by omega)]; omega)
      · refine ag_iconst dd_M_sweetAt_68 ?_
        refine ag_goto (tgt := 74) dd_M_sweetAt_69 (by decide) ?_
        refine ag_iret dd_M_sweetAt_74 rfl ?_
        refine ⟨?_, rfl⟩
        unfold sp_swt
        rw [if_neg (by omega)]
        congr 2
        have eif : (if S.2 44 f < t then t - S.2 44 f else S.2 44 f - t) = y6 := by
          first | rw [if_pos (by omega)]; omega | rw [if_neg (by omega)]; omega
        rw [eif]
        first | rw [if_pos (by omega)] | (rw [if_neg (by omega)]; omega)
  · refine ag_aload_n dd_M_sweetAt_9 rfl ?_
    refine ag_get dd_M_sweetAt_10 fg_M_57 (mr_38 hM) rfl ?_
    refine ag_iload_n dd_M_sweetAt_13 rfl ?_
    refine ag_ialdN dd_M_sweetAt_14 (mr_50 hM) (by decide) (by omega) ?_
    refine ag_iret dd_M_sweetAt_15 rfl ?_
    exact ⟨by unfold sp_swt; rw [if_pos (by omega)], rfl⟩
def sp_fgN (S : ms_T) : Nat → Int
  | 0 => S.1 4
  | n + 1 => sp_fgN S n - (if S.2 46 n = 1 then S.2 48 n else 0)
def sp_fg (S : ms_T) : Int := sp_fgN S (S.1 2).toNat
theorem sp_fgN_b {S : ms_T} (hfs : iv_fs S) (hg : 1 ≤ S.1 4 ∧ S.1 4 ≤ 9) : ∀ n : Nat, (n : Int) ≤ S.1 2 → 1 - 9 * (n : Int) ≤ sp_fgN S n ∧ sp_fgN S n ≤ 9
  | 0, _ => by
    rw [sp_fgN]
    omega
  | n + 1, hn => by
    have ih := sp_fgN_b hfs hg n (by omega)
    obtain ⟨-, -, -, -, -, -, -, -, h48, -⟩ := hfs.2 n (by omega)
    rw [sp_fgN]
    split <;> omega
set_option maxHeartbeats 1000000 in
theorem ml_M_freeGangs {w : aw_T} {h0 h : ah_T} {S : ms_T} {d : Nat} (hd : 0 ≤ d) (hM : mo_I h0 h S) (hfs : iv_fs S) (hg : 1 ≤ S.1 4 ∧ S.1 4 ≤ 9) {P : ap_T} (hP : P (some (av_i (sp_fg S))) h) : ∀ (r k : Nat), (k : Int) + r = S.1 2 → aw_W w mm_M_freeGangs d P 7 [some (av_r 38), some (av_i ((sp_fgN S k))), some (av_i ((k : Int)))] [] h 0 0 := by
  intro r
  induction r with
  | zero =>
    intro k hk
    have hb := sp_fgN_b hfs hg k (by omega)
    have hf1 := hfs.1
    refine ag_iload_n dd_M_freeGangs_7 rfl ?_
    refine ag_aload_n dd_M_freeGangs_8 rfl ?_
    refine ag_get dd_M_freeGangs_9 fg_M_152 (mr_38 hM) rfl ?_
    refine ag_icmp_ge (tgt := 44) dd_M_freeGangs_12 (by decide) (by omega) (by omega) (fun c1 => ?_) (fun c1 => ?_)
    · refine ag_iload_n dd_M_freeGangs_44 rfl ?_
      refine ag_iret dd_M_freeGangs_45 rfl ?_
      obtain rfl : k = (S.1 2).toNat := by omega
      exact hP
    · exfalso; omega
  | succ r ih =>
    intro k hk
    have hb := sp_fgN_b hfs hg k (by omega)
    have hf1 := hfs.1
    refine ag_iload_n dd_M_freeGangs_7 rfl ?_
    refine ag_aload_n dd_M_freeGangs_8 rfl ?_
    refine ag_get dd_M_freeGangs_9 fg_M_152 (mr_38 hM) rfl ?_
    refine ag_icmp_ge (tgt := 44) dd_M_freeGangs_12 (by decide) (by omega) (by omega) (fun c1 => ?_) (fun c1 => ?_)
    · exfalso; omega
    · obtain ⟨-, -, -, -, -, -, h46, -, h48, -⟩ := hfs.2 k (by omega)
      refine ag_iload_n dd_M_freeGangs_15 rfl ?_
      refine ag_aload_n dd_M_freeGangs_16 rfl ?_
      refine ag_get dd_M_freeGangs_17 fg_M_45 (mr_38 hM) rfl ?_
      refine ag_iload_n dd_M_freeGangs_20 rfl ?_
      refine ag_ialdN dd_M_freeGangs_21 (mr_46 hM) (by decide) (by omega) ?_
      refine ag_iconst dd_M_freeGangs_22 ?_
      refine ag_icmp_ne (tgt := 35) dd_M_freeGangs_23 (by decide) (by omega) (by omega) (fun c2 => ?_) (fun c2 => ?_)
      · refine ag_iconst dd_M_freeGangs_35 ?_
        refine ag_isub dd_M_freeGangs_36 ?_
        refine ag_istore_nN (Lf := fun y => [some (av_r 38), some (av_i (y)), some (av_i ((k : Int)))]) dd_M_freeGangs_37 (fun _ => rfl) rfl (by decide) (fun y3 ey3 => ?_)
        refine ag_iincN (Lf := fun y => [some (av_r 38), some (av_i (y3)), some (av_i (y))]) dd_M_freeGangs_38 rfl (fun _ => rfl) rfl (by decide) (fun y4 ey4 => ?_)
        refine ag_goto (tgt := 7) dd_M_freeGangs_41 (by decide) ?_
        have ek : y3 = sp_fgN S (k + 1) := by
          rw [sp_fgN]
          first | rw [if_pos (by omega)]; omega | rw [if_neg (by omega)]; omega
        obtain rfl : y4 = ((k + 1 : Nat) : Int) := by omega
        rw [ek]
        exact ih (k + 1) (by omega)
      · refine ag_aload_n dd_M_freeGangs_26 rfl ?_
        refine ag_get dd_M_freeGangs_27 fg_M_51 (mr_38 hM) rfl ?_
        refine ag_iload_n dd_M_freeGangs_30 rfl ?_
        refine ag_ialdN dd_M_freeGangs_31 (mr_48 hM) (by decide) (by omega) ?_
        refine ag_goto (tgt := 36) dd_M_freeGangs_32 (by decide) ?_
        refine ag_isub dd_M_freeGangs_36 ?_
        refine ag_istore_nN (Lf := fun y => [some (av_r 38), some (av_i (y)), some (av_i ((k : Int)))]) dd_M_freeGangs_37 (fun _ => rfl) rfl (by decide) (fun y5 ey5 => ?_)
        refine ag_iincN (Lf := fun y => [some (av_r 38), some (av_i (y5)), some (av_i (y))]) dd_M_freeGangs_38 rfl (fun _ => rfl) rfl (by decide) (fun y6 ey6 => ?_)
        refine ag_goto (tgt := 7) dd_M_freeGangs_41 (by decide) ?_
        have ek : y5 = sp_fgN S (k + 1) := by
          rw [sp_fgN]
          first | rw [if_pos (by omega)]; omega | rw [if_neg (by omega)]; omega
        obtain rfl : y6 = ((k + 1 : Nat) : Int) := by omega
        rw [ek]
        exact ih (k + 1) (by omega)
set_option maxHeartbeats 1000000 in
theorem mc_M_freeGangs {w : aw_T} {h0 h : ah_T} {S : ms_T} {d : Nat} (hd : 0 ≤ d) (hM : mo_I h0 h S) (hfs : iv_fs S) (hg : 1 ≤ S.1 4 ∧ S.1 4 ≤ 9) : am_M w mm_M_freeGangs d [av_r 38] h 0 0 (fun r h' => r = some (av_i (sp_fg S)) ∧ h' = h) := by
  refine am_intro [some (av_r 38), none, none] (by decide +kernel) (Nat.le_of_ble_eq_true rfl) rfl ?_
  refine ag_aload_n dd_M_freeGangs_0 rfl ?_
  refine ag_get dd_M_freeGangs_1 fg_M_7 (mr_38 hM) rfl ?_
  refine ag_istore_nN (Lf := fun y => [some (av_r 38), some (av_i (y)), none]) dd_M_freeGangs_4 (fun _ => rfl) rfl (by decide) (fun y1 ey1 => ?_)
  refine ag_iconst dd_M_freeGangs_5 ?_
  refine ag_istore_n (L' := [some (av_r 38), some (av_i (y1)), some (av_i (0))]) dd_M_freeGangs_6 rfl rfl (by decide) ?_
  subst_vars
  exact ml_M_freeGangs hd hM hfs hg ⟨rfl, rfl⟩ (S.1 2).toNat 0 (by have := hfs.1; omega)
theorem sp_tn_b {S : ms_T} (ho : iv_ord S) : ∀ (r k : Nat), (k : Int) + r ≤ S.1 39 → -1 ≤ sp_tn S r k ∧ sp_tn S r k < 10
  | 0, _, _ => by rw [sp_tn]; omega
  | r + 1, k, h => by
    have h1 := ho.2.1 k (by omega)
    have ih := sp_tn_b ho r (k + 1) (by omega)
    rw [sp_tn]
    split <;> omega
theorem sp_turn_b {S : ms_T} (ho : iv_ord S) : -1 ≤ sp_turn S ∧ sp_turn S < 10 := sp_tn_b ho _ 0 (by have := ho.1; omega)
def sp_thr (S : ms_T) (f : Int) : ms_T := (S.1, ai_up S.2 67 (ai_up (S.2 67) f.toNat 1))
def sp_pass (S : ms_T) : Option av_T × ms_T := if sp_turn S < 0 then (some (av_i (-1)), S) else (some (av_i (sp_turn (sp_thr S (sp_turn S)))), sp_thr S (sp_turn S))
theorem iv_ord_thr {S : ms_T} (ho : iv_ord S) (f : Int) : iv_ord (sp_thr S f) := by
  refine ⟨ho.1, fun i hi => ?_, fun i => ?_⟩
  · simpa [sp_thr, ai_up] using ho.2.1 i hi
  · have h1 := ho.2.2 i
    simp only [sp_thr, ai_up_s]
    by_cases e : i = f.toNat
    · rw [e, ai_up_s]; omega
    · rw [ai_up_n _ _ e]; exact h1
set_option maxHeartbeats 1000000 in
theorem mc_M_pass {w : aw_T} {h0 h : ah_T} {S : ms_T} {d : Nat} (hd : 1 ≤ d) (hM : mo_I h0 h S) (ho : iv_ord S) : am_M w mm_M_pass d [av_r 38] h 0 0 (mo_P h0 (sp_pass S)) := by
  refine am_intro [some (av_r 38), none] (by decide +kernel) (Nat.le_of_ble_eq_true rfl) rfl ?_
  have hb := sp_turn_b ho
  refine ag_aload_n dd_M_pass_0 rfl ?_
  refine ag_rV dd_M_pass_1 fi_M_176 (mr_38 hM) rfl (mc_M_turn (d := 0) (by omega) hM ho) rfl rfl (by omega) (Nat.le_of_ble_eq_true rfl) ?_
  refine ag_istore_nN (Lf := fun y => [some (av_r 38), some (av_i (y))]) dd_M_pass_4 (fun _ => rfl) rfl (by decide) (fun y1 ey1 => ?_)
  refine ag_iload_n dd_M_pass_5 rfl ?_
  refine ag_if_ge (tgt := 11) dd_M_pass_6 (by decide) (by omega) (fun c2 => ?_) (fun c2 => ?_)
  · refine ag_aload_n dd_M_pass_11 rfl ?_
    refine ag_get dd_M_pass_12 fg_M_113 (mr_38 hM) rfl ?_
    refine ag_iload_n dd_M_pass_15 rfl ?_
    refine ag_iconst dd_M_pass_16 ?_
    refine ms_67 dd_M_pass_17 hM (by omega) (by first | exact Or.inl rfl | exact Or.inr rfl | omega) (fun h S3 eS3 hM => ?_)
    refine ag_aload_n dd_M_pass_18 rfl ?_
    have ho2 := iv_ord_thr ho (sp_turn S)
    have eS : S3 = sp_thr S (sp_turn S) := by subst_vars; rfl
    rw [eS] at hM
    refine ag_rV dd_M_pass_19 fi_M_176 (mr_38 hM) rfl (mc_M_turn (d := 0) (by omega) hM ho2) rfl rfl (by omega) (Nat.le_of_ble_eq_true rfl) ?_
    refine ag_iret dd_M_pass_22 rfl ?_
    unfold sp_pass
    rw [if_neg (by omega)]
    exact ⟨rfl, hM⟩
  · refine ag_iconst dd_M_pass_9 ?_
    refine ag_iret dd_M_pass_10 rfl ?_
    unfold sp_pass
    rw [if_pos (by omega)]
    exact ⟨rfl, hM⟩
