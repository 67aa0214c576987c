theorem or_bit {p i : Nat} (hp : p < 65536) (hi : i < 16) : (Int32.ofInt (p : Int) ||| Int32.ofInt (Int32.ofInt 1 <<< (Int32.ofInt (i : Int) &&& 31)).toInt).toInt = ((p ||| 2 ^ i : Nat) : Int) := by
  have h1 : 2 ^ i < 65536 * 1 := by
    have := Nat.pow_lt_pow_right (a := 2) (by omega) hi
    omega
  rw [sp_2p (by omega : i ≤ 16)]
  exact sp_or (by omega) (by omega)
theorem or_lt {p i : Nat} (hp : p < 65536) (hi : i < 16) : p ||| 2 ^ i < 65536 := Nat.or_lt_two_pow (n := 16) hp (Nat.pow_lt_pow_right (by omega) hi)
/-- the search, as the chooser does it: what is the best so far, and its worth -/
def se_ (K : ms_T) : Nat → Nat → Int → Nat → Int × Nat → Int × Nat
  | 0, k, v, p, b => if v + K.2 13 k ≤ b.1 then b else (v, p)
  | n + 1, k, v, p, b => if v + K.2 (13 + (n + 1)) k ≤ b.1 then b else
      if 0 < k ∧ (K.1 6).toNat / 2 ^ n % 2 = 1 ∧ ft_ K (p ||| 2 ^ n) n = true then se_ K n (k - 1) (v + K.2 8 n) (p ||| 2 ^ n) (se_ K n k v p b) else se_ K n k v p b
/-- the state with another best -/
def kb_ (K : ms_T) (b : Int × Nat) : ms_T := (ai_up (ai_up K.1 9 b.1) 10 (b.2 : Int), K.2)
theorem kb_v {K : ms_T} (h : kv_ K) (b : Int × Nat) : kv_ (kb_ K b) := h
theorem ff_kb (K : ms_T) (b : Int × Nat) (t : Int) (p : Nat) : ∀ m j u, ff_ (kb_ K b) t p m j u = ff_ K t p m j u
  | 0, _, _ => rfl
  | m + 1, j, u => by
    rw [ff_, ff_, ff_kb K b t p m, ff_kb K b t p m]
    rfl
theorem fi_kb (K : ms_T) (b : Int × Nat) (p : Nat) (t : Int) : ∀ m j, fi_w (kb_ K b) p t m j = fi_w K p t m j
  | 0, _ => rfl
  | m + 1, j => by
    rw [fi_w, fi_w, fi_kb K b p t m, ff_kb]
    rfl
theorem ft_kb (K : ms_T) (b : Int × Nat) (p i : Nat) : ft_ (kb_ K b) p i = ft_ K p i := fi_kb K b p _ _ _
/-- the numbers of the rows 'most' are small -/
def km_ (K : ms_T) : Prop := (∀ m k : Nat, m < 17 → k < 10 → 0 ≤ K.2 (13 + m) k ∧ K.2 (13 + m) k ≤ 100000) ∧ (0 ≤ K.1 6 ∧ K.1 6 < 65536)
theorem se_bd {K : ms_T} (hv : kv_ K) : ∀ (n k : Nat) (v : Int) (p : Nat) (b : Int × Nat), n ≤ 16 → (0 ≤ v ∧ v + 6000 * (n : Int) ≤ 100000) → (-10 ≤ b.1 ∧ b.1 ≤ 200000) → -10 ≤ (se_ K n k v p b).1 ∧ (se_ K n k v p b).1 ≤ 200000
  | 0, k, v, p, b, _, h1, h2 => by
    rw [se_]
    split
    · exact h2
    · show -10 ≤ v ∧ v ≤ 200000
      omega
  | n + 1, k, v, p, b, hn, h1, h2 => by
    have hw := (hv.2.2.2 n (by omega)).2.1
    have g1 := se_bd hv n k v p b (by omega) (by omega) h2
    rw [se_]
    split
    · exact h2
    · split
      · exact se_bd hv n (k - 1) (v + K.2 8 n) _ _ (by omega) (by omega) g1
      · exact g1
set_option maxHeartbeats 1000000 in
theorem mc_Chooser_search {w : aw_T} {h0 : ah_T} {K : ms_T} (hv : kv_ K) (hm : km_ K) : ∀ n : Nat, n ≤ 16 → ∀ (k : Nat) (v : Int) (p : Nat) (b : Int × Nat) (h : ah_T), kc_I h0 h (kb_ K b) → k ≤ 9 → (0 ≤ v ∧ v + 6000 * ((n : Nat) : Int) ≤ 100000) ∧ (-10 ≤ b.1 ∧ b.1 ≤ 200000) → p < 65536 → am_M w mm_Chooser_search (n + 3) [av_r 6, av_i ((n : Nat) : Int), av_i (k : Int), av_i v, av_i (p : Int)] h 0 0 (fun r1 h1 => r1 = none ∧ kc_I h0 h1 (kb_ K (se_ K n k v p b))) := by
  intro n
  induction n with
  | zero =>
    intro hn k v p b h hK hk9 hvb hp
    refine am_intro [some (av_r 6), some (av_i (((0 : Nat) : Int))), some (av_i ((k : Int))), some (av_i (v)), some (av_i ((p : Int))), none, none] (by decide +kernel) (Nat.le_of_ble_eq_true rfl) rfl ?_
    refine ag_iload_n dd_Chooser_search_0 rfl ?_
    refine ag_iconst dd_Chooser_search_1 ?_
    refine ag_bipush dd_Chooser_search_2 (by decide +kernel) ?_
    refine ag_rS dd_Chooser_search_4 fi_Chooser_60 (mc_X_isWithin (d := 0) (by omega) (by omega) (by omega)) rfl rfl (by omega) (Nat.le_of_ble_eq_true rfl) ?_
    refine ag_if_eqB (tgt := 20) dd_Chooser_search_7 (by decide) (fun c1 => ?_) (fun c1 => ?_)
    · exfalso; omega
    · refine ag_iload_n dd_Chooser_search_10 rfl ?_
      refine ag_iconst dd_Chooser_search_11 ?_
      refine ag_bipush dd_Chooser_search_12 (by decide +kernel) ?_
      refine ag_rS dd_Chooser_search_14 fi_Chooser_60 (mc_X_isWithin (d := 0) (by omega) (by omega) (by omega)) rfl rfl (by omega) (Nat.le_of_ble_eq_true rfl) ?_
      refine ag_if_neB (tgt := 21) dd_Chooser_search_17 (by decide) (fun c2 => ?_) (fun c2 => ?_)
      · have e13 : K.2 (13 + 0) k = K.2 13 k := rfl
        have hmm := hm.1 0 k (by omega) (by omega)
        have e9 : (kb_ K b).1 9 = b.1 := rfl
        have e6 : (kb_ K b).1 6 = K.1 6 := rfl
        have em : (kb_ K b).2 (13 + 0) k = K.2 (13 + 0) k := rfl
        refine ag_iload_n dd_Chooser_search_21 rfl ?_
        refine ag_aload_n dd_Chooser_search_22 rfl ?_
        refine ag_get dd_Chooser_search_23 fg_Chooser_29 (kx_6 hK) rfl ?_
        refine ag_iload_n dd_Chooser_search_26 rfl ?_
        refine ag_aaldN dd_Chooser_search_27 (kx_12 hK) (by decide) (by omega) ?_
        rw [show kq_ 0 = some (13 + 0) from if_pos (by omega)]
        refine ag_iload_n dd_Chooser_search_28 rfl ?_
        refine ag_ialdN dd_Chooser_search_29 (kx_m hK (m := 0) (by omega)) (by decide) (by omega) ?_
        refine ag_iadd dd_Chooser_search_30 ?_
        refine ag_aload_n dd_Chooser_search_31 rfl ?_
        refine ag_get dd_Chooser_search_32 fg_Chooser_81 (kx_6 hK) rfl ?_
        refine ag_icmp_gt (tgt := 39) dd_Chooser_search_35 (by decide) (by omega) (by omega) (fun c3 => ?_) (fun c3 => ?_)
        · refine ag_iload_n dd_Chooser_search_39 rfl ?_
          refine ag_if_ne (tgt := 55) dd_Chooser_search_40 (by decide) (by omega) (fun c4 => ?_) (fun c4 => ?_)
          · exfalso; omega
          · refine ag_aload_n dd_Chooser_search_43 rfl ?_
            refine ag_iload_n dd_Chooser_search_44 rfl ?_
            refine kp_9 dd_Chooser_search_45 fp_Chooser_81 hK (fun h K5 eK5 hK => ?_)
            refine ag_aload_n dd_Chooser_search_48 rfl ?_
            refine ag_iload dd_Chooser_search_49 rfl ?_
            refine kp_10 dd_Chooser_search_51 fp_Chooser_84 hK (fun h K6 eK6 hK => ?_)
            refine ag_vret dd_Chooser_search_54 rfl ?_
            have es : se_ K 0 k v p b = (v, p) := if_neg (by omega)
            rw [es]
            subst_vars
            refine ⟨rfl, ?_⟩
            have e1 : kb_ K (v, p) = (ai_up (ai_up (kb_ K b).1 9 v, (kb_ K b).2).1 10 (p : Int), (ai_up (kb_ K b).1 9 v, (kb_ K b).2).2) := by
              refine Prod.ext (funext fun j => ?_) rfl
              show ai_up (ai_up K.1 9 v) 10 (p : Int) j = ai_up (ai_up (ai_up (ai_up K.1 9 b.1) 10 (b.2 : Int)) 9 v) 10 (p : Int) j
              by_cases z1 : j = 10
              · rw [z1, ai_up_s, ai_up_s]
              · rw [ai_up_n _ _ z1, ai_up_n _ _ z1]
                by_cases z2 : j = 9
                · rw [z2, ai_up_s, ai_up_s]
                · rw [ai_up_n _ _ z2, ai_up_n _ _ z2, ai_up_n _ _ z1, ai_up_n _ _ z2]
            rw [e1]
            exact hK
        · refine ag_vret dd_Chooser_search_38 rfl ?_
          have es : se_ K 0 k v p b = b := if_pos (by omega)
          rw [es]
          exact ⟨rfl, hK⟩
      · exfalso; omega
  | succ n ih =>
    intro hn k v p b h hK hk9 hvb hp
    have IH := ih (by omega)
    refine am_intro [some (av_r 6), some (av_i (((n + 1 : Nat) : Int))), some (av_i ((k : Int))), some (av_i (v)), some (av_i ((p : Int))), none, none] (by decide +kernel) (Nat.le_of_ble_eq_true rfl) rfl ?_
    refine ag_iload_n dd_Chooser_search_0 rfl ?_
    refine ag_iconst dd_Chooser_search_1 ?_
    refine ag_bipush dd_Chooser_search_2 (by decide +kernel) ?_
    refine ag_rS dd_Chooser_search_4 fi_Chooser_60 (mc_X_isWithin (d := 0) (by omega) (by omega) (by omega)) rfl rfl (by omega) (Nat.le_of_ble_eq_true rfl) ?_
    refine ag_if_eqB (tgt := 20) dd_Chooser_search_7 (by decide) (fun c1 => ?_) (fun c1 => ?_)
    · exfalso; omega
    · refine ag_iload_n dd_Chooser_search_10 rfl ?_
      refine ag_iconst dd_Chooser_search_11 ?_
      refine ag_bipush dd_Chooser_search_12 (by decide +kernel) ?_
      refine ag_rS dd_Chooser_search_14 fi_Chooser_60 (mc_X_isWithin (d := 0) (by omega) (by omega) (by omega)) rfl rfl (by omega) (Nat.le_of_ble_eq_true rfl) ?_
      refine ag_if_neB (tgt := 21) dd_Chooser_search_17 (by decide) (fun c2 => ?_) (fun c2 => ?_)
      · have hmm := hm.1 (n + 1) k (by omega) (by omega)
        have e9 : (kb_ K b).1 9 = b.1 := rfl
        have e6 : (kb_ K b).1 6 = K.1 6 := rfl
        have em : (kb_ K b).2 (13 + (n + 1)) k = K.2 (13 + (n + 1)) k := rfl
        refine ag_iload_n dd_Chooser_search_21 rfl ?_
        refine ag_aload_n dd_Chooser_search_22 rfl ?_
        refine ag_get dd_Chooser_search_23 fg_Chooser_29 (kx_6 hK) rfl ?_
        refine ag_iload_n dd_Chooser_search_26 rfl ?_
        refine ag_aaldN dd_Chooser_search_27 (kx_12 hK) (by decide) (by omega) ?_
        rw [show kq_ (n + 1) = some (13 + (n + 1)) from if_pos (by omega)]
        refine ag_iload_n dd_Chooser_search_28 rfl ?_
        refine ag_ialdN dd_Chooser_search_29 (kx_m hK (m := (n + 1)) (by omega)) (by decide) (by omega) ?_
        refine ag_iadd dd_Chooser_search_30 ?_
        refine ag_aload_n dd_Chooser_search_31 rfl ?_
        refine ag_get dd_Chooser_search_32 fg_Chooser_81 (kx_6 hK) rfl ?_
        refine ag_icmp_gt (tgt := 39) dd_Chooser_search_35 (by decide) (by omega) (by omega) (fun c3 => ?_) (fun c3 => ?_)
        · refine ag_iload_n dd_Chooser_search_39 rfl ?_
          refine ag_if_ne (tgt := 55) dd_Chooser_search_40 (by decide) (by omega) (fun c4 => ?_) (fun c4 => ?_)
          · refine ag_iload_n dd_Chooser_search_55 rfl ?_
            refine ag_iconst dd_Chooser_search_56 ?_
            refine ag_isub dd_Chooser_search_57 ?_
            rw [show ((n + 1 : Nat) : Int) - 1 = (n : Int) by omega]
            refine ag_istore (L' := [some (av_r 6), some (av_i (((n + 1 : Nat) : Int))), some (av_i ((k : Int))), some (av_i (v)), some (av_i ((p : Int))), some (av_i ((n : Int))), none]) dd_Chooser_search_58 rfl rfl (by decide) ?_
            have h6b := hm.2
            refine ag_aload_n dd_Chooser_search_60 rfl ?_
            refine ag_iload dd_Chooser_search_61 rfl ?_
            refine ag_iload_n dd_Chooser_search_63 rfl ?_
            refine ag_iload_n dd_Chooser_search_64 rfl ?_
            refine ag_iload dd_Chooser_search_65 rfl ?_
            refine ag_wV dd_Chooser_search_67 fi_Chooser_87 (kx_6 hK) rfl (IH k v p b h hK (by omega) (by omega) hp) rfl rfl (by omega) (Nat.le_of_ble_eq_true rfl) (fun r1 h hP => ?_)
            obtain ⟨rfl, hK1⟩ := hP
            clear hK
            have hK := hK1
            clear hK1
            have hbd := se_bd hv n k v p b (by omega) (by omega) (by omega)
            obtain ⟨b2, hb2⟩ : ∃ b2, b2 = se_ K n k v p b := ⟨_, rfl⟩
            rw [← hb2] at hK hbd
            refine ag_iload dd_Chooser_search_70 rfl ?_
            refine ag_iconst dd_Chooser_search_72 ?_
            refine ag_iload dd_Chooser_search_73 rfl ?_
            refine ag_ishl dd_Chooser_search_75 ?_
            refine ag_ior dd_Chooser_search_76 ?_
            refine ag_to (or_bit hp (by omega)) ?_
            refine ag_istore (L' := [some (av_r 6), some (av_i (((n + 1 : Nat) : Int))), some (av_i ((k : Int))), some (av_i (v)), some (av_i ((p : Int))), some (av_i ((n : Int))), some (av_i (((p ||| 2 ^ n : Nat) : Int)))]) dd_Chooser_search_77 rfl rfl (by decide) ?_
            refine ag_iload_n dd_Chooser_search_79 rfl ?_
            refine ag_if_le (tgt := 126) dd_Chooser_search_80 (by decide) (by omega) (fun c5 => ?_) (fun c5 => ?_)
            · refine ag_vret dd_Chooser_search_126 rfl ?_
              rw [se_, if_neg (by omega), ← hb2]
              first
              | (rw [if_pos ⟨by omega, by assumption, by assumption⟩]; exact ⟨rfl, hK1⟩)
              | (rw [if_neg (fun z => by
                  first
                  | exact absurd z.1 (by omega)
                  | exact (by assumption : ¬ (K.1 6).toNat / 2 ^ n % 2 = 1) z.2.1
                  | exact (by assumption : ¬ ft_ K (p ||| 2 ^ n) n = true) z.2.2)]; exact ⟨rfl, hK⟩)
            · refine ag_aload_n dd_Chooser_search_83 rfl ?_
              refine ag_get dd_Chooser_search_84 fg_Chooser_36 (kx_6 hK) rfl ?_
              refine ag_iload dd_Chooser_search_87 rfl ?_
              rw [show (kb_ K b2).1 6 = ((K.1 6).toNat : Int) by show K.1 6 = _; omega]
              refine ag_rS dd_Chooser_search_89 fi_Chooser_95 (mc_X_holdsBit (d := 0) (by omega) (by omega)) rfl rfl (by omega) (Nat.le_of_ble_eq_true rfl) ?_
              refine ag_if_eqB (tgt := 126) dd_Chooser_search_92 (by decide) (fun c6 => ?_) (fun c6 => ?_)
              · refine ag_vret dd_Chooser_search_126 rfl ?_
                rw [se_, if_neg (by omega), ← hb2]
                first
                | (rw [if_pos ⟨by omega, by assumption, by assumption⟩]; exact ⟨rfl, hK1⟩)
                | (rw [if_neg (fun z => by
                    first
                    | exact absurd z.1 (by omega)
                    | exact (by assumption : ¬ (K.1 6).toNat / 2 ^ n % 2 = 1) z.2.1
                    | exact (by assumption : ¬ ft_ K (p ||| 2 ^ n) n = true) z.2.2)]; exact ⟨rfl, hK⟩)
              · have hwn := (hv.2.2.2 n (by omega)).2.1
                refine ag_aload_n dd_Chooser_search_95 rfl ?_
                refine ag_iload dd_Chooser_search_96 rfl ?_
                refine ag_iload dd_Chooser_search_98 rfl ?_
                refine ag_rV dd_Chooser_search_100 fi_Chooser_91 (kx_6 hK) rfl (mc_Chooser_fits (d := 2) (by omega) hK (kb_v hv b2) (p := p ||| 2 ^ n) (i := n) (or_lt hp (by omega)) (by omega)) rfl rfl (by omega) (Nat.le_of_ble_eq_true rfl) ?_
                rw [ft_kb]
                refine ag_if_eqB (tgt := 126) dd_Chooser_search_103 (by decide) (fun c7 => ?_) (fun c7 => ?_)
                · refine ag_vret dd_Chooser_search_126 rfl ?_
                  rw [se_, if_neg (by omega), ← hb2]
                  first
                  | (rw [if_pos ⟨by omega, by assumption, by assumption⟩]; exact ⟨rfl, hK1⟩)
                  | (rw [if_neg (fun z => by
                      first
                      | exact absurd z.1 (by omega)
                      | exact (by assumption : ¬ (K.1 6).toNat / 2 ^ n % 2 = 1) z.2.1
                      | exact (by assumption : ¬ ft_ K (p ||| 2 ^ n) n = true) z.2.2)]; exact ⟨rfl, hK⟩)
                · refine ag_aload_n dd_Chooser_search_106 rfl ?_
                  refine ag_iload dd_Chooser_search_107 rfl ?_
                  refine ag_iload_n dd_Chooser_search_109 rfl ?_
                  refine ag_iconst dd_Chooser_search_110 ?_
                  refine ag_isub dd_Chooser_search_111 ?_
                  refine ag_iload_n dd_Chooser_search_112 rfl ?_
                  refine ag_aload_n dd_Chooser_search_113 rfl ?_
                  refine ag_get dd_Chooser_search_114 fg_Chooser_15 (kx_6 hK) rfl ?_
                  refine ag_iload dd_Chooser_search_117 rfl ?_
                  refine ag_ialdN dd_Chooser_search_119 (kx_a hK (by decide) (by decide)) (by decide) (by omega) ?_
                  refine ag_iadd dd_Chooser_search_120 ?_
                  refine ag_iload dd_Chooser_search_121 rfl ?_
                  rw [show (k : Int) - 1 = ((k - 1 : Nat) : Int) by omega, show v + (kb_ K b2).2 8 n = v + K.2 8 n from rfl]
                  refine ag_wV dd_Chooser_search_123 fi_Chooser_87 (kx_6 hK) rfl (IH (k - 1) (v + K.2 8 n) (p ||| 2 ^ n) b2 h hK (by omega) (by omega) (or_lt hp (by omega))) rfl rfl (by omega) (Nat.le_of_ble_eq_true rfl) (fun r1 h hP => ?_)
                  obtain ⟨rfl, hK1⟩ := hP
                  refine ag_vret dd_Chooser_search_126 rfl ?_
                  rw [se_, if_neg (by omega), ← hb2]
                  first
                  | (rw [if_pos ⟨by omega, by assumption, by assumption⟩]; exact ⟨rfl, hK1⟩)
                  | (rw [if_neg (fun z => by
                      first
                      | exact absurd z.1 (by omega)
                      | exact (by assumption : ¬ (K.1 6).toNat / 2 ^ n % 2 = 1) z.2.1
                      | exact (by assumption : ¬ ft_ K (p ||| 2 ^ n) n = true) z.2.2)]; exact ⟨rfl, hK⟩)
          · exfalso; omega
        · refine ag_vret dd_Chooser_search_38 rfl ?_
          have es : se_ K (n + 1) k v p b = b := if_pos (by omega)
          rw [es]
          exact ⟨rfl, hK⟩
      · exfalso; omega
