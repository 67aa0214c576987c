abbrev en_T : Type := Int × (Int × (Int × (Int × Int)))
def ef_ (E : en_T) : Int → Int := sp_let E.1 E.2.1 E.2.2.1 E.2.2.2.1 E.2.2.2.2
def eb_ (E : en_T) : Prop := iv_b E.1 ∧ iv_b E.2.1 ∧ iv_b E.2.2.1 ∧ iv_b E.2.2.2.1 ∧ iv_b E.2.2.2.2
theorem eb_ef {E : en_T} (h : eb_ E) (x : Int) : iv_b (ef_ E x) := by
  unfold ef_ sp_let
  obtain ⟨h1, h2, h3, h4, h5⟩ := h
  split
  · exact h1
  · split
    · exact h2
    · split
      · exact h3
      · split
        · exact h4
        · exact h5
/-- what was read so far: its worth, and where the reading stands -/
def PQ_ (h : ah_T) (F : Nat) (ts : List tk_T) (E : en_T) (x : pr_T) (v : Int) : Prop := iv_b v ∧ match x with
  | .inl q => vl_ (ef_ E) q.1 v ∧ FS_ h F ts E (.inl q.2)
  | .inr e => FS_ h F ts E (.inr e)
def po_ (h : ah_T) (F : Nat) (ts : List tk_T) (E : en_T) (x : pr_T) : ap_T := fun r1 h1 => ∃ v, r1 = some (av_i v) ∧ PQ_ h1 F ts E x v ∧ fe_ h h1 F
def ap_ (f : List tk_T → pr_T) (s : rs_T) : pr_T := match s with
  | .inl r => f r
  | .inr e => .inr e
theorem ap_b (f : List tk_T → pr_T) (g : List (Int × Int) → List tk_T → pr_T) (s : rs_T) : ap_ (fun r => pr_b (f r) g) s = pr_b (ap_ f s) g := by
  cases s <;> rfl
theorem hs_inl (r : List tk_T) : hs_ (.inl r) = pr_h r := rfl
theorem hs_inr (e : Int × Int) : hs_ (.inr e) = 0 := rfl
theorem z_b : iv_b 0 := ⟨by decide, by decide⟩
set_option maxHeartbeats 1000000 in
theorem mc_Formula_number {w : aw_T} {h : ah_T} {d : Nat} (hd : 1 ≤ d) {F : Nat} {ts : List tk_T} {E : Int × (Int × (Int × (Int × Int)))} {r : List tk_T} (H : FS_ h F ts E (.inl r)) {x : Int} (hx : pr_h r = 1000 + x) (hx0 : 0 ≤ x) : am_M w mm_Formula_number d [av_r F, av_i x] h 0 0 (po_ h F ts E (pr_lf r)) := by
  refine am_intro [some (av_r (F)), some (av_i (x))] (by decide +kernel) (Nat.le_of_ble_eq_true rfl) rfl ?_
  have Hb := hs_b H
  have H0 := H
  obtain ⟨ha, a, ft, pl, hc, hss⟩ := H0
  rw [hs_inl] at Hb
  refine ag_iload_n dd_Formula_number_0 rfl ?_
  refine ag_sipush dd_Formula_number_1 (by decide +kernel) ?_
  refine ag_icmp_le (tgt := 14) dd_Formula_number_4 (by decide) (by omega) (by omega) (fun c1 => ?_) (fun c1 => ?_)
  · refine ag_aload_n dd_Formula_number_14 rfl ?_
    refine ag_dup dd_Formula_number_15 rfl ?_
    refine ag_get dd_Formula_number_16 fg_Formula_67 hc rfl ?_
    refine ag_iconst dd_Formula_number_19 ?_
    refine ag_iadd dd_Formula_number_20 ?_
    refine hp_i dd_Formula_number_21 fp_Formula_67 hc (Nat.le_of_ble_eq_true rfl) (fun h huN => ?_)
    have hu1 := huN
    clear huN
    refine ag_iload_n dd_Formula_number_24 rfl ?_
    refine ag_iret dd_Formula_number_25 rfl ?_
    have e1 : pr_lf r = .inl ([(0, x)], r.tail) := by
      unfold pr_lf
      rw [if_pos (by omega), if_neg (by omega), hx, show (1000 + x - 1000 : Int) = x by omega]
    rw [e1]
    exact ⟨x, rfl, ⟨by unfold iv_b; omega, vl_num _ (by omega), FS_nx ha hss (by omega) hu1 rfl⟩, fe_hu hu1⟩
  · refine ag_aload_n dd_Formula_number_7 rfl ?_
    refine ag_iconst dd_Formula_number_8 ?_
    refine ag_wV dd_Formula_number_9 fi_Formula_117 hc rfl (mc_Formula_stop (d := 0) (by omega) H (k := 2) (by omega)) rfl rfl (by omega) (Nat.le_of_ble_eq_true rfl) (fun r1 h hP => ?_)
    obtain ⟨rfl, H2, hfe⟩ := hP
    refine ag_iconst dd_Formula_number_12 ?_
    refine ag_iret dd_Formula_number_13 rfl ?_
    have e1 : pr_lf r = .inr (2, pr_p r) := by
      unfold pr_lf
      rw [if_pos (by omega), if_pos (by omega)]
    rw [e1]
    exact ⟨0, rfl, ⟨z_b, H2⟩, hfe⟩
set_option maxHeartbeats 1000000 in
theorem mc_Formula_letter {w : aw_T} {h : ah_T} {d : Nat} (hd : 1 ≤ d) {F : Nat} {ts : List tk_T} {E : Int × (Int × (Int × (Int × Int)))} {s : rs_T} (H : FS_ h F ts E s) (hE : eb_ E) {x : Int} (hx : x = hs_ s) (hx0 : x < 1000) : am_M w mm_Formula_letter d [av_r F, av_i x] h 0 0 (po_ h F ts E (ap_ pr_lf s)) := by
  refine am_intro [some (av_r (F)), some (av_i (x)), none] (by decide +kernel) (Nat.le_of_ble_eq_true rfl) rfl ?_
  have Hb := hs_b H
  have H0 := H
  obtain ⟨ha, a, ft, pl, hc, hss⟩ := H0
  refine ag_iconst dd_Formula_letter_0 ?_
  refine ag_istore_n (L' := [some (av_r (F)), some (av_i (x)), some (av_i (0))]) dd_Formula_letter_1 rfl rfl (by decide) ?_
  refine ag_iload_n dd_Formula_letter_2 rfl ?_
  rcases (show (¬ x = 98 ∧ ¬ x = 104 ∧ ¬ x = 109 ∧ ¬ x = 115 ∧ ¬ x = 116) ∨ x = 98 ∨ x = 104 ∨ x = 109 ∨ x = 115 ∨ x = 116 by omega) with c1 | c1 | c1 | c1 | c1 | c1
  · refine ag_lookup (tgt := 92) (off := 89) dd_Formula_letter_3 (by omega) (by decide +kernel) (by have ⟨q0, q1, q2, q3, q4⟩ := c1; simp only [Op.lookupswitch.offset_cons]; simp [Op.lookupswitch.offset, q0, Ne.symm q0, q1, Ne.symm q1, q2, Ne.symm q2, q3, Ne.symm q3, q4, Ne.symm q4]) (by decide) ?_
    refine ag_aload_n dd_Formula_letter_92 rfl ?_
    refine ag_iconst dd_Formula_letter_93 ?_
    refine ag_wV dd_Formula_letter_94 fi_Formula_117 hc rfl (mc_Formula_stop (d := 0) (by omega) H (k := 1) (by omega)) rfl rfl (by omega) (Nat.le_of_ble_eq_true rfl) (fun r1 h hP => ?_)
    obtain ⟨rfl, H2, hfe⟩ := hP
    refine ag_iconst dd_Formula_letter_97 ?_
    refine ag_iret dd_Formula_letter_98 rfl ?_
    have hc1 := c1
    cases s with
    | inr e => exact ⟨0, rfl, ⟨z_b, H2⟩, hfe⟩
    | inl r =>
      rw [hs_inl] at hx
      have hix : pr_ix (pr_h r) = -1 := by
        rcases pr_ix_s (pr_h r) with q | q
        · exact q
        · omega
      have e1 : ap_ pr_lf (.inl r) = .inr (1, pr_p r) := by
        show pr_lf r = _
        unfold pr_lf
        rw [if_neg (by omega), if_neg (by omega)]
      rw [e1]
      exact ⟨0, rfl, ⟨z_b, H2⟩, hfe⟩
  · refine ag_lookup (tgt := 76) (off := 73) dd_Formula_letter_3 (by omega) (by decide +kernel) (by rw [c1]; rfl) (by decide) ?_
    refine ag_aload_n dd_Formula_letter_76 rfl ?_
    refine ag_get dd_Formula_letter_77 fg_Formula_61 hc rfl ?_
    refine ag_istore_nN (Lf := fun y => [some (av_r (F)), some (av_i (x)), some (av_i (y))]) dd_Formula_letter_80 (fun _ => rfl) rfl (by decide) (fun y2 ey2 => ?_)
    refine ag_goto (tgt := 99) dd_Formula_letter_81 (by decide) ?_
    refine ag_aload_n dd_Formula_letter_99 rfl ?_
    refine ag_dup dd_Formula_letter_100 rfl ?_
    refine ag_get dd_Formula_letter_101 fg_Formula_67 hc rfl ?_
    refine ag_iconst dd_Formula_letter_104 ?_
    refine ag_iadd dd_Formula_letter_105 ?_
    refine hp_i dd_Formula_letter_106 fp_Formula_67 hc (Nat.le_of_ble_eq_true rfl) (fun h huN => ?_)
    have hu1 := huN
    clear huN
    refine ag_iload_n dd_Formula_letter_109 rfl ?_
    refine ag_iret dd_Formula_letter_110 rfl ?_
    have hc1 := c1
    cases s with
    | inr e =>
      rw [hs_inr] at hx
      omega
    | inl r =>
      rw [hs_inl] at hx
      have hix : pr_ix (pr_h r) = 3 := by rw [← hx, hc1]; rfl
      have e1 : ap_ pr_lf (.inl r) = .inl ([(1, 3)], r.tail) := by
        show pr_lf r = _
        unfold pr_lf
        rw [if_neg (by omega), if_pos (by omega), hix]
      rw [e1]
      have ev : y2 = ef_ E 3 := by first | rfl | (rw [ey2]; rfl)
      rw [ev]
      exact ⟨_, rfl, ⟨eb_ef hE _, vl_let (eb_ef hE _), FS_nx ha hss (by omega) hu1 rfl⟩, fe_hu hu1⟩
  · refine ag_lookup (tgt := 84) (off := 81) dd_Formula_letter_3 (by omega) (by decide +kernel) (by rw [c1]; rfl) (by decide) ?_
    refine ag_aload_n dd_Formula_letter_84 rfl ?_
    refine ag_get dd_Formula_letter_85 fg_Formula_64 hc rfl ?_
    refine ag_istore_nN (Lf := fun y => [some (av_r (F)), some (av_i (x)), some (av_i (y))]) dd_Formula_letter_88 (fun _ => rfl) rfl (by decide) (fun y3 ey3 => ?_)
    refine ag_goto (tgt := 99) dd_Formula_letter_89 (by decide) ?_
    refine ag_aload_n dd_Formula_letter_99 rfl ?_
    refine ag_dup dd_Formula_letter_100 rfl ?_
    refine ag_get dd_Formula_letter_101 fg_Formula_67 hc rfl ?_
    refine ag_iconst dd_Formula_letter_104 ?_
    refine ag_iadd dd_Formula_letter_105 ?_
    refine hp_i dd_Formula_letter_106 fp_Formula_67 hc (Nat.le_of_ble_eq_true rfl) (fun h huN => ?_)
    have hu1 := huN
    clear huN
    refine ag_iload_n dd_Formula_letter_109 rfl ?_
    refine ag_iret dd_Formula_letter_110 rfl ?_
    have hc1 := c1
    cases s with
    | inr e =>
      rw [hs_inr] at hx
      omega
    | inl r =>
      rw [hs_inl] at hx
      have hix : pr_ix (pr_h r) = 4 := by rw [← hx, hc1]; rfl
      have e1 : ap_ pr_lf (.inl r) = .inl ([(1, 4)], r.tail) := by
        show pr_lf r = _
        unfold pr_lf
        rw [if_neg (by omega), if_pos (by omega), hix]
      rw [e1]
      have ev : y3 = ef_ E 4 := by first | rfl | (rw [ey3]; rfl)
      rw [ev]
      exact ⟨_, rfl, ⟨eb_ef hE _, vl_let (eb_ef hE _), FS_nx ha hss (by omega) hu1 rfl⟩, fe_hu hu1⟩
  · refine ag_lookup (tgt := 68) (off := 65) dd_Formula_letter_3 (by omega) (by decide +kernel) (by rw [c1]; rfl) (by decide) ?_
    refine ag_aload_n dd_Formula_letter_68 rfl ?_
    refine ag_get dd_Formula_letter_69 fg_Formula_58 hc rfl ?_
    refine ag_istore_nN (Lf := fun y => [some (av_r (F)), some (av_i (x)), some (av_i (y))]) dd_Formula_letter_72 (fun _ => rfl) rfl (by decide) (fun y4 ey4 => ?_)
    refine ag_goto (tgt := 99) dd_Formula_letter_73 (by decide) ?_
    refine ag_aload_n dd_Formula_letter_99 rfl ?_
    refine ag_dup dd_Formula_letter_100 rfl ?_
    refine ag_get dd_Formula_letter_101 fg_Formula_67 hc rfl ?_
    refine ag_iconst dd_Formula_letter_104 ?_
    refine ag_iadd dd_Formula_letter_105 ?_
    refine hp_i dd_Formula_letter_106 fp_Formula_67 hc (Nat.le_of_ble_eq_true rfl) (fun h huN => ?_)
    have hu1 := huN
    clear huN
    refine ag_iload_n dd_Formula_letter_109 rfl ?_
    refine ag_iret dd_Formula_letter_110 rfl ?_
    have hc1 := c1
    cases s with
    | inr e =>
      rw [hs_inr] at hx
      omega
    | inl r =>
      rw [hs_inl] at hx
      have hix : pr_ix (pr_h r) = 2 := by rw [← hx, hc1]; rfl
      have e1 : ap_ pr_lf (.inl r) = .inl ([(1, 2)], r.tail) := by
        show pr_lf r = _
        unfold pr_lf
        rw [if_neg (by omega), if_pos (by omega), hix]
      rw [e1]
      have ev : y4 = ef_ E 2 := by first | rfl | (rw [ey4]; rfl)
      rw [ev]
      exact ⟨_, rfl, ⟨eb_ef hE _, vl_let (eb_ef hE _), FS_nx ha hss (by omega) hu1 rfl⟩, fe_hu hu1⟩
  · refine ag_lookup (tgt := 60) (off := 57) dd_Formula_letter_3 (by omega) (by decide +kernel) (by rw [c1]; rfl) (by decide) ?_
    refine ag_aload_n dd_Formula_letter_60 rfl ?_
    refine ag_get dd_Formula_letter_61 fg_Formula_55 hc rfl ?_
    refine ag_istore_nN (Lf := fun y => [some (av_r (F)), some (av_i (x)), some (av_i (y))]) dd_Formula_letter_64 (fun _ => rfl) rfl (by decide) (fun y5 ey5 => ?_)
    refine ag_goto (tgt := 99) dd_Formula_letter_65 (by decide) ?_
    refine ag_aload_n dd_Formula_letter_99 rfl ?_
    refine ag_dup dd_Formula_letter_100 rfl ?_
    refine ag_get dd_Formula_letter_101 fg_Formula_67 hc rfl ?_
    refine ag_iconst dd_Formula_letter_104 ?_
    refine ag_iadd dd_Formula_letter_105 ?_
    refine hp_i dd_Formula_letter_106 fp_Formula_67 hc (Nat.le_of_ble_eq_true rfl) (fun h huN => ?_)
    have hu1 := huN
    clear huN
    refine ag_iload_n dd_Formula_letter_109 rfl ?_
    refine ag_iret dd_Formula_letter_110 rfl ?_
    have hc1 := c1
    cases s with
    | inr e =>
      rw [hs_inr] at hx
      omega
    | inl r =>
      rw [hs_inl] at hx
      have hix : pr_ix (pr_h r) = 1 := by rw [← hx, hc1]; rfl
      have e1 : ap_ pr_lf (.inl r) = .inl ([(1, 1)], r.tail) := by
        show pr_lf r = _
        unfold pr_lf
        rw [if_neg (by omega), if_pos (by omega), hix]
      rw [e1]
      have ev : y5 = ef_ E 1 := by first | rfl | (rw [ey5]; rfl)
      rw [ev]
      exact ⟨_, rfl, ⟨eb_ef hE _, vl_let (eb_ef hE _), FS_nx ha hss (by omega) hu1 rfl⟩, fe_hu hu1⟩
  · refine ag_lookup (tgt := 52) (off := 49) dd_Formula_letter_3 (by omega) (by decide +kernel) (by rw [c1]; rfl) (by decide) ?_
    refine ag_aload_n dd_Formula_letter_52 rfl ?_
    refine ag_get dd_Formula_letter_53 fg_Formula_52 hc rfl ?_
    refine ag_istore_nN (Lf := fun y => [some (av_r (F)), some (av_i (x)), some (av_i (y))]) dd_Formula_letter_56 (fun _ => rfl) rfl (by decide) (fun y6 ey6 => ?_)
    refine ag_goto (tgt := 99) dd_Formula_letter_57 (by decide) ?_
    refine ag_aload_n dd_Formula_letter_99 rfl ?_
    refine ag_dup dd_Formula_letter_100 rfl ?_
    refine ag_get dd_Formula_letter_101 fg_Formula_67 hc rfl ?_
    refine ag_iconst dd_Formula_letter_104 ?_
    refine ag_iadd dd_Formula_letter_105 ?_
    refine hp_i dd_Formula_letter_106 fp_Formula_67 hc (Nat.le_of_ble_eq_true rfl) (fun h huN => ?_)
    have hu1 := huN
    clear huN
    refine ag_iload_n dd_Formula_letter_109 rfl ?_
    refine ag_iret dd_Formula_letter_110 rfl ?_
    have hc1 := c1
    cases s with
    | inr e =>
      rw [hs_inr] at hx
      omega
    | inl r =>
      rw [hs_inl] at hx
      have hix : pr_ix (pr_h r) = 0 := by rw [← hx, hc1]; rfl
      have e1 : ap_ pr_lf (.inl r) = .inl ([(1, 0)], r.tail) := by
        show pr_lf r = _
        unfold pr_lf
        rw [if_neg (by omega), if_pos (by omega), hix]
      rw [e1]
      have ev : y6 = ef_ E 0 := by first | rfl | (rw [ey6]; rfl)
      rw [ev]
      exact ⟨_, rfl, ⟨eb_ef hE _, vl_let (eb_ef hE _), FS_nx ha hss (by omega) hu1 rfl⟩, fe_hu hu1⟩
set_option maxHeartbeats 1000000 in
theorem ml_Formula_product {w : aw_T} {d dd : Nat} (hd : dd + 1 ≤ d) (hd2 : 2 ≤ d) {F : Nat} {ts : List tk_T} {E : en_T} (hE : eb_ E) {o : Int} {one : List tk_T → pr_T} (HS : ∀ (h : ah_T) (F : Nat) (ts : List tk_T) (E : en_T) (s : rs_T), FS_ h F ts E s → eb_ E → am_M w mm_Formula_one dd [av_r F, av_i o] h 0 0 (po_ h F ts E (ap_ (one) s))) {h0 : ah_T} {P : ap_T} : ∀ (k i : Nat) (x : pr_T) (v : Int) (h : ah_T), i + k = 100 → PQ_ h F ts E x v → fe_ h0 h F → (∀ (v : Int) (h : ah_T), PQ_ h F ts E (pr_b x (fun c r => pr_pl one k c r)) v → fe_ h0 h F → P (some (av_i v)) h) → aw_W w mm_Formula_product d P 8 [some (av_r (F)), some (av_i (o)), some (av_i (v)), some (av_i ((i : Int))), none, none] [] h 0 0 := by
  intro k
  induction k with
  | zero =>
    intro i x v h hik hPQ hfe hX
    have ex : pr_b x (fun c r => pr_pl one 0 c r) = x := by
      cases x <;> rfl
    rw [ex] at hX
    refine ag_iload_n dd_Formula_product_8 rfl ?_
    refine ag_bipush dd_Formula_product_9 (by decide +kernel) ?_
    refine ag_icmp_ge (tgt := 95) dd_Formula_product_11 (by decide) (by omega) (by omega) (fun c1 => ?_) (fun c1 => ?_)
    · refine ag_iload_n dd_Formula_product_95 rfl ?_
      refine ag_iret dd_Formula_product_96 rfl ?_
      exact hX v h hPQ hfe
    · exfalso; omega
  | succ k ih =>
    intro i x v h hik hPQ hfe hX
    cases x with
    | inr e =>
      obtain ⟨hv, H⟩ := hPQ
      have hPQ : PQ_ h F ts E (.inr e) v := ⟨hv, H⟩
      have H0 := H
      obtain ⟨ha, a, ft, pl, hc, hss⟩ := H0
      have hsr := hs_inr e
      refine ag_iload_n dd_Formula_product_8 rfl ?_
      refine ag_bipush dd_Formula_product_9 (by decide +kernel) ?_
      refine ag_icmp_ge (tgt := 95) dd_Formula_product_11 (by decide) (by omega) (by omega) (fun c1 => ?_) (fun c1 => ?_)
      · exfalso; omega
      · refine ag_aload_n dd_Formula_product_14 rfl ?_
        refine ag_rV dd_Formula_product_15 fi_Formula_86 hc rfl (mc_Formula_token (d := 0) (by omega) H) rfl rfl (by omega) (Nat.le_of_ble_eq_true rfl) ?_
        refine ag_bipush dd_Formula_product_18 (by decide +kernel) ?_
        refine ag_icmp_eq (tgt := 32) dd_Formula_product_20 (by decide) (by omega) (by omega) (fun c2 => ?_) (fun c2 => ?_)
        · exfalso; omega
        · refine ag_aload_n dd_Formula_product_23 rfl ?_
          refine ag_rV dd_Formula_product_24 fi_Formula_86 hc rfl (mc_Formula_token (d := 0) (by omega) H) rfl rfl (by omega) (Nat.le_of_ble_eq_true rfl) ?_
          refine ag_bipush dd_Formula_product_27 (by decide +kernel) ?_
          refine ag_icmp_ne (tgt := 95) dd_Formula_product_29 (by decide) (by omega) (by omega) (fun c3 => ?_) (fun c3 => ?_)
          · refine ag_iload_n dd_Formula_product_95 rfl ?_
            refine ag_iret dd_Formula_product_96 rfl ?_
            exact hX v h hPQ hfe
          · exfalso; omega
    | inl q =>
      obtain ⟨c, r⟩ := q
      obtain ⟨hv, hvl, H⟩ := hPQ
      have hPQ : PQ_ h F ts E (.inl (c, r)) v := ⟨hv, hvl, H⟩
      replace H : FS_ h F ts E (.inl r) := H
      replace hvl : vl_ (ef_ E) c v := hvl
      have Hb := hs_b H
      have H0 := H
      obtain ⟨ha, a, ft, pl, hc, hss⟩ := H0
      have hsr := hs_inl r
      refine ag_iload_n dd_Formula_product_8 rfl ?_
      refine ag_bipush dd_Formula_product_9 (by decide +kernel) ?_
      refine ag_icmp_ge (tgt := 95) dd_Formula_product_11 (by decide) (by omega) (by omega) (fun c1 => ?_) (fun c1 => ?_)
      · exfalso; omega
      · refine ag_aload_n dd_Formula_product_14 rfl ?_
        refine ag_rV dd_Formula_product_15 fi_Formula_86 hc rfl (mc_Formula_token (d := 0) (by omega) H) rfl rfl (by omega) (Nat.le_of_ble_eq_true rfl) ?_
        refine ag_bipush dd_Formula_product_18 (by decide +kernel) ?_
        refine ag_icmp_eq (tgt := 32) dd_Formula_product_20 (by decide) (by omega) (by omega) (fun c2 => ?_) (fun c2 => ?_)
        · refine ag_aload_n dd_Formula_product_32 rfl ?_
          refine ag_rV dd_Formula_product_33 fi_Formula_86 hc rfl (mc_Formula_token (d := 0) (by omega) H) rfl rfl (by omega) (Nat.le_of_ble_eq_true rfl) ?_
          refine ag_bipush dd_Formula_product_36 (by decide +kernel) ?_
          refine ag_icmp_ne (tgt := 45) dd_Formula_product_38 (by decide) (by omega) (by omega) (fun c3 => ?_) (fun c3 => ?_)
          · refine ag_iconst dd_Formula_product_45 ?_
            refine ag_istore (L' := [some (av_r (F)), some (av_i (o)), some (av_i (v)), some (av_i ((i : Int))), some (av_i (0)), none]) dd_Formula_product_46 rfl rfl (by decide) ?_
            refine ag_aload_n dd_Formula_product_48 rfl ?_
            refine ag_dup dd_Formula_product_49 rfl ?_
            refine ag_get dd_Formula_product_50 fg_Formula_67 hc rfl ?_
            refine ag_iconst dd_Formula_product_53 ?_
            refine ag_iadd dd_Formula_product_54 ?_
            refine hp_i dd_Formula_product_55 fp_Formula_67 hc (Nat.le_of_ble_eq_true rfl) (fun h huN => ?_)
            have hu1 := huN
            clear huN
            have H2 := FS_nx ha hss (by omega) hu1 rfl
            have hfe1 := fe_tr hfe (fe_hu hu1)
            refine ag_aload_n dd_Formula_product_58 rfl ?_
            refine ag_iload_n dd_Formula_product_59 rfl ?_
            refine ag_wV dd_Formula_product_60 fi_Formula_94 H2.2.choose_spec.choose_spec.choose_spec.1 rfl (HS h F ts E (.inl r.tail) H2 hE) rfl rfl (by omega) (Nat.le_of_ble_eq_true rfl) (fun r1 h hP => ?_)
            obtain ⟨v2, rfl, hP2, hfe2⟩ := hP
            replace hfe2 := fe_tr hfe1 hfe2
            have hv2 := hP2.1
            have hvv := hv
            unfold iv_b at hv2 hvv
            have hmul := sp_mulb hv hP2.1
            have htd := sp_tdb (b := v2) hv
            refine ag_istore (L' := [some (av_r (F)), some (av_i (o)), some (av_i (v)), some (av_i ((i : Int))), some (av_i (0)), some (av_i (v2))]) dd_Formula_product_63 rfl rfl (by decide) ?_
            refine ag_iload dd_Formula_product_65 rfl ?_
            refine ag_if_eq (tgt := 82) dd_Formula_product_67 (by decide) (by omega) (fun c4 => ?_) (fun c4 => ?_)
            · refine ag_iload_n dd_Formula_product_82 rfl ?_
              refine ag_iload dd_Formula_product_83 rfl ?_
              refine ag_rS dd_Formula_product_85 fi_Formula_97 (mc_X_quotient (by omega) (by omega)) rfl rfl (by omega) (Nat.le_of_ble_eq_true rfl) ?_
              refine ag_istore_nN (Lf := fun y => [some (av_r (F)), some (av_i (o)), some (av_i (y)), some (av_i ((i : Int))), some (av_i (0)), some (av_i (v2))]) dd_Formula_product_88 (fun _ => rfl) rfl (by decide) (fun y5 ey5 => ?_)
              refine ag_iincN (Lf := fun y => [some (av_r (F)), some (av_i (o)), some (av_i (y5)), some (av_i (y)), some (av_i (0)), some (av_i (v2))]) dd_Formula_product_89 rfl (fun _ => rfl) rfl (by decide) (fun y6 ey6 => ?_)
              refine ag_goto (tgt := 8) dd_Formula_product_92 (by decide) ?_
              have ev : y5 = sp_act 6 v v2 := by
                rw [ey5]
                unfold sp_act
                repeat (first | rw [if_pos (by decide)] | rw [if_neg (by decide)])
                rw [show sp_clip (v.tdiv v2) = v.tdiv v2 by unfold sp_clip; rw [if_neg (by omega), if_neg (by omega)]]
                rfl
              obtain rfl : y6 = ((i + 1 : Nat) : Int) := by omega
              rw [ev]
              refine ag_weak [some (av_r (F)), some (av_i (o)), some (av_i ((sp_act 6 v v2))), some (av_i (((i + 1 : Nat) : Int))), none, none] (by simp [al_le]) ?_
              have hva := sp_act_b hv hP2.1 6
              cases hq : one r.tail with
              | inr e =>
                rw [show ap_ (one) (.inl r.tail) = .inr e from hq] at hP2
                have ex : pr_b (.inl (c, r)) (fun c r => pr_pl one (k + 1) c r) = pr_b (.inr e) (fun c r => pr_pl one k c r) := by
                  rw [pr_b_l, pr_pl, if_pos (by omega), hq, pr_b_r, pr_b_r]
                exact ih (i + 1) (.inr e) (sp_act 6 v v2) h (by omega) ⟨hva, hP2.2⟩ hfe2 (fun v h z => hX v h (by rw [ex]; exact z))
              | inl q =>
                obtain ⟨c2, r2⟩ := q
                rw [show ap_ (one) (.inl r.tail) = .inl (c2, r2) from hq] at hP2
                have ex : pr_b (.inl (c, r)) (fun c r => pr_pl one (k + 1) c r) = pr_b (.inl (c ++ c2 ++ [(6, 0)], r2)) (fun c r => pr_pl one k c r) := by
                  rw [pr_b_l, pr_pl, if_pos (by omega), hq, pr_b_l, pr_b_l, if_neg (by omega)]
                exact ih (i + 1) (.inl (c ++ c2 ++ [(6, 0)], r2)) (sp_act 6 v v2) h (by omega) ⟨hva, vl_op hvl hP2.2.1 (by decide), hP2.2.2⟩ hfe2 (fun v h z => hX v h (by rw [ex]; exact z))
            · exfalso; omega
          · refine ag_iconst dd_Formula_product_41 ?_
            refine ag_goto (tgt := 46) dd_Formula_product_42 (by decide) ?_
            refine ag_istore (L' := [some (av_r (F)), some (av_i (o)), some (av_i (v)), some (av_i ((i : Int))), some (av_i (1)), none]) dd_Formula_product_46 rfl rfl (by decide) ?_
            refine ag_aload_n dd_Formula_product_48 rfl ?_
            refine ag_dup dd_Formula_product_49 rfl ?_
            refine ag_get dd_Formula_product_50 fg_Formula_67 hc rfl ?_
            refine ag_iconst dd_Formula_product_53 ?_
            refine ag_iadd dd_Formula_product_54 ?_
            refine hp_i dd_Formula_product_55 fp_Formula_67 hc (Nat.le_of_ble_eq_true rfl) (fun h huN => ?_)
            have hu1 := huN
            clear huN
            have H2 := FS_nx ha hss (by omega) hu1 rfl
            have hfe1 := fe_tr hfe (fe_hu hu1)
            refine ag_aload_n dd_Formula_product_58 rfl ?_
            refine ag_iload_n dd_Formula_product_59 rfl ?_
            refine ag_wV dd_Formula_product_60 fi_Formula_94 H2.2.choose_spec.choose_spec.choose_spec.1 rfl (HS h F ts E (.inl r.tail) H2 hE) rfl rfl (by omega) (Nat.le_of_ble_eq_true rfl) (fun r1 h hP => ?_)
            obtain ⟨v2, rfl, hP2, hfe2⟩ := hP
            replace hfe2 := fe_tr hfe1 hfe2
            have hv2 := hP2.1
            have hvv := hv
            unfold iv_b at hv2 hvv
            have hmul := sp_mulb hv hP2.1
            have htd := sp_tdb (b := v2) hv
            refine ag_istore (L' := [some (av_r (F)), some (av_i (o)), some (av_i (v)), some (av_i ((i : Int))), some (av_i (1)), some (av_i (v2))]) dd_Formula_product_63 rfl rfl (by decide) ?_
            refine ag_iload dd_Formula_product_65 rfl ?_
            refine ag_if_eq (tgt := 82) dd_Formula_product_67 (by decide) (by omega) (fun c7 => ?_) (fun c7 => ?_)
            · exfalso; omega
            · refine ag_iload_n dd_Formula_product_70 rfl ?_
              refine ag_i2l dd_Formula_product_71 (by omega) ?_
              refine ag_iload dd_Formula_product_72 rfl ?_
              refine ag_i2l dd_Formula_product_74 (by omega) ?_
              refine ag_lmul dd_Formula_product_75 ?_
              refine ag_rS dd_Formula_product_76 fi_Formula_90 (mc_Formula_limit (d := 1) (by omega) (by omega)) rfl rfl (by omega) (Nat.le_of_ble_eq_true rfl) ?_
              refine ag_goto (tgt := 88) dd_Formula_product_79 (by decide) ?_
              refine ag_istore_nN (Lf := fun y => [some (av_r (F)), some (av_i (o)), some (av_i (y)), some (av_i ((i : Int))), some (av_i (1)), some (av_i (v2))]) dd_Formula_product_88 (fun _ => rfl) rfl (by decide) (fun y8 ey8 => ?_)
              refine ag_iincN (Lf := fun y => [some (av_r (F)), some (av_i (o)), some (av_i (y8)), some (av_i (y)), some (av_i (1)), some (av_i (v2))]) dd_Formula_product_89 rfl (fun _ => rfl) rfl (by decide) (fun y9 ey9 => ?_)
              refine ag_goto (tgt := 8) dd_Formula_product_92 (by decide) ?_
              have ev : y8 = sp_act 5 v v2 := by
                rw [ey8]
                unfold sp_act
                repeat (first | rw [if_pos (by decide)] | rw [if_neg (by decide)])
                try rfl
              obtain rfl : y9 = ((i + 1 : Nat) : Int) := by omega
              rw [ev]
              refine ag_weak [some (av_r (F)), some (av_i (o)), some (av_i ((sp_act 5 v v2))), some (av_i (((i + 1 : Nat) : Int))), none, none] (by simp [al_le]) ?_
              have hva := sp_act_b hv hP2.1 5
              cases hq : one r.tail with
              | inr e =>
                rw [show ap_ (one) (.inl r.tail) = .inr e from hq] at hP2
                have ex : pr_b (.inl (c, r)) (fun c r => pr_pl one (k + 1) c r) = pr_b (.inr e) (fun c r => pr_pl one k c r) := by
                  rw [pr_b_l, pr_pl, if_pos (by omega), hq, pr_b_r, pr_b_r]
                exact ih (i + 1) (.inr e) (sp_act 5 v v2) h (by omega) ⟨hva, hP2.2⟩ hfe2 (fun v h z => hX v h (by rw [ex]; exact z))
              | inl q =>
                obtain ⟨c2, r2⟩ := q
                rw [show ap_ (one) (.inl r.tail) = .inl (c2, r2) from hq] at hP2
                have ex : pr_b (.inl (c, r)) (fun c r => pr_pl one (k + 1) c r) = pr_b (.inl (c ++ c2 ++ [(5, 0)], r2)) (fun c r => pr_pl one k c r) := by
                  rw [pr_b_l, pr_pl, if_pos (by omega), hq, pr_b_l, pr_b_l, if_pos (by omega)]
                exact ih (i + 1) (.inl (c ++ c2 ++ [(5, 0)], r2)) (sp_act 5 v v2) h (by omega) ⟨hva, vl_op hvl hP2.2.1 (by decide), hP2.2.2⟩ hfe2 (fun v h z => hX v h (by rw [ex]; exact z))
        · refine ag_aload_n dd_Formula_product_23 rfl ?_
          refine ag_rV dd_Formula_product_24 fi_Formula_86 hc rfl (mc_Formula_token (d := 0) (by omega) H) rfl rfl (by omega) (Nat.le_of_ble_eq_true rfl) ?_
          refine ag_bipush dd_Formula_product_27 (by decide +kernel) ?_
          refine ag_icmp_ne (tgt := 95) dd_Formula_product_29 (by decide) (by omega) (by omega) (fun c10 => ?_) (fun c10 => ?_)
          · refine ag_iload_n dd_Formula_product_95 rfl ?_
            refine ag_iret dd_Formula_product_96 rfl ?_
            have ex : pr_b (.inl (c, r)) (fun c r => pr_pl one (k + 1) c r) = .inl (c, r) := by
              rw [pr_b_l, pr_pl, if_neg (by omega)]
            rw [ex] at hX
            exact hX v h hPQ hfe
          · refine ag_aload_n dd_Formula_product_32 rfl ?_
            refine ag_rV dd_Formula_product_33 fi_Formula_86 hc rfl (mc_Formula_token (d := 0) (by omega) H) rfl rfl (by omega) (Nat.le_of_ble_eq_true rfl) ?_
            refine ag_bipush dd_Formula_product_36 (by decide +kernel) ?_
            refine ag_icmp_ne (tgt := 45) dd_Formula_product_38 (by decide) (by omega) (by omega) (fun c11 => ?_) (fun c11 => ?_)
            · refine ag_iconst dd_Formula_product_45 ?_
              refine ag_istore (L' := [some (av_r (F)), some (av_i (o)), some (av_i (v)), some (av_i ((i : Int))), some (av_i (0)), none]) dd_Formula_product_46 rfl rfl (by decide) ?_
              refine ag_aload_n dd_Formula_product_48 rfl ?_
              refine ag_dup dd_Formula_product_49 rfl ?_
              refine ag_get dd_Formula_product_50 fg_Formula_67 hc rfl ?_
              refine ag_iconst dd_Formula_product_53 ?_
              refine ag_iadd dd_Formula_product_54 ?_
              refine hp_i dd_Formula_product_55 fp_Formula_67 hc (Nat.le_of_ble_eq_true rfl) (fun h huN => ?_)
              have hu1 := huN
              clear huN
              have H2 := FS_nx ha hss (by omega) hu1 rfl
              have hfe1 := fe_tr hfe (fe_hu hu1)
              refine ag_aload_n dd_Formula_product_58 rfl ?_
              refine ag_iload_n dd_Formula_product_59 rfl ?_
              refine ag_wV dd_Formula_product_60 fi_Formula_94 H2.2.choose_spec.choose_spec.choose_spec.1 rfl (HS h F ts E (.inl r.tail) H2 hE) rfl rfl (by omega) (Nat.le_of_ble_eq_true rfl) (fun r1 h hP => ?_)
              obtain ⟨v2, rfl, hP2, hfe2⟩ := hP
              replace hfe2 := fe_tr hfe1 hfe2
              have hv2 := hP2.1
              have hvv := hv
              unfold iv_b at hv2 hvv
              have hmul := sp_mulb hv hP2.1
              have htd := sp_tdb (b := v2) hv
              refine ag_istore (L' := [some (av_r (F)), some (av_i (o)), some (av_i (v)), some (av_i ((i : Int))), some (av_i (0)), some (av_i (v2))]) dd_Formula_product_63 rfl rfl (by decide) ?_
              refine ag_iload dd_Formula_product_65 rfl ?_
              refine ag_if_eq (tgt := 82) dd_Formula_product_67 (by decide) (by omega) (fun c12 => ?_) (fun c12 => ?_)
              · refine ag_iload_n dd_Formula_product_82 rfl ?_
                refine ag_iload dd_Formula_product_83 rfl ?_
                refine ag_rS dd_Formula_product_85 fi_Formula_97 (mc_X_quotient (by omega) (by omega)) rfl rfl (by omega) (Nat.le_of_ble_eq_true rfl) ?_
                refine ag_istore_nN (Lf := fun y => [some (av_r (F)), some (av_i (o)), some (av_i (y)), some (av_i ((i : Int))), some (av_i (0)), some (av_i (v2))]) dd_Formula_product_88 (fun _ => rfl) rfl (by decide) (fun y13 ey13 => ?_)
                refine ag_iincN (Lf := fun y => [some (av_r (F)), some (av_i (o)), some (av_i (y13)), some (av_i (y)), some (av_i (0)), some (av_i (v2))]) dd_Formula_product_89 rfl (fun _ => rfl) rfl (by decide) (fun y14 ey14 => ?_)
                refine ag_goto (tgt := 8) dd_Formula_product_92 (by decide) ?_
                have ev : y13 = sp_act 6 v v2 := by
                  rw [ey13]
                  unfold sp_act
                  repeat (first | rw [if_pos (by decide)] | rw [if_neg (by decide)])
                  rw [show sp_clip (v.tdiv v2) = v.tdiv v2 by unfold sp_clip; rw [if_neg (by omega), if_neg (by omega)]]
                  rfl
                obtain rfl : y14 = ((i + 1 : Nat) : Int) := by omega
                rw [ev]
                refine ag_weak [some (av_r (F)), some (av_i (o)), some (av_i ((sp_act 6 v v2))), some (av_i (((i + 1 : Nat) : Int))), none, none] (by simp [al_le]) ?_
                have hva := sp_act_b hv hP2.1 6
                cases hq : one r.tail with
                | inr e =>
                  rw [show ap_ (one) (.inl r.tail) = .inr e from hq] at hP2
                  have ex : pr_b (.inl (c, r)) (fun c r => pr_pl one (k + 1) c r) = pr_b (.inr e) (fun c r => pr_pl one k c r) := by
                    rw [pr_b_l, pr_pl, if_pos (by omega), hq, pr_b_r, pr_b_r]
                  exact ih (i + 1) (.inr e) (sp_act 6 v v2) h (by omega) ⟨hva, hP2.2⟩ hfe2 (fun v h z => hX v h (by rw [ex]; exact z))
                | inl q =>
                  obtain ⟨c2, r2⟩ := q
                  rw [show ap_ (one) (.inl r.tail) = .inl (c2, r2) from hq] at hP2
                  have ex : pr_b (.inl (c, r)) (fun c r => pr_pl one (k + 1) c r) = pr_b (.inl (c ++ c2 ++ [(6, 0)], r2)) (fun c r => pr_pl one k c r) := by
                    rw [pr_b_l, pr_pl, if_pos (by omega), hq, pr_b_l, pr_b_l, if_neg (by omega)]
                  exact ih (i + 1) (.inl (c ++ c2 ++ [(6, 0)], r2)) (sp_act 6 v v2) h (by omega) ⟨hva, vl_op hvl hP2.2.1 (by decide), hP2.2.2⟩ hfe2 (fun v h z => hX v h (by rw [ex]; exact z))
              · exfalso; omega
            · refine ag_iconst dd_Formula_product_41 ?_
              refine ag_goto (tgt := 46) dd_Formula_product_42 (by decide) ?_
              refine ag_istore (L' := [some (av_r (F)), some (av_i (o)), some (av_i (v)), some (av_i ((i : Int))), some (av_i (1)), none]) dd_Formula_product_46 rfl rfl (by decide) ?_
              refine ag_aload_n dd_Formula_product_48 rfl ?_
              refine ag_dup dd_Formula_product_49 rfl ?_
              refine ag_get dd_Formula_product_50 fg_Formula_67 hc rfl ?_
              refine ag_iconst dd_Formula_product_53 ?_
              refine ag_iadd dd_Formula_product_54 ?_
              refine hp_i dd_Formula_product_55 fp_Formula_67 hc (Nat.le_of_ble_eq_true rfl) (fun h huN => ?_)
              have hu1 := huN
              clear huN
              have H2 := FS_nx ha hss (by omega) hu1 rfl
              have hfe1 := fe_tr hfe (fe_hu hu1)
              refine ag_aload_n dd_Formula_product_58 rfl ?_
              refine ag_iload_n dd_Formula_product_59 rfl ?_
              refine ag_wV dd_Formula_product_60 fi_Formula_94 H2.2.choose_spec.choose_spec.choose_spec.1 rfl (HS h F ts E (.inl r.tail) H2 hE) rfl rfl (by omega) (Nat.le_of_ble_eq_true rfl) (fun r1 h hP => ?_)
              obtain ⟨v2, rfl, hP2, hfe2⟩ := hP
              replace hfe2 := fe_tr hfe1 hfe2
              have hv2 := hP2.1
              have hvv := hv
              unfold iv_b at hv2 hvv
              have hmul := sp_mulb hv hP2.1
              have htd := sp_tdb (b := v2) hv
              refine ag_istore (L' := [some (av_r (F)), some (av_i (o)), some (av_i (v)), some (av_i ((i : Int))), some (av_i (1)), some (av_i (v2))]) dd_Formula_product_63 rfl rfl (by decide) ?_
              refine ag_iload dd_Formula_product_65 rfl ?_
              refine ag_if_eq (tgt := 82) dd_Formula_product_67 (by decide) (by omega) (fun c15 => ?_) (fun c15 => ?_)
              · exfalso; omega
              · refine ag_iload_n dd_Formula_product_70 rfl ?_
                refine ag_i2l dd_Formula_product_71 (by omega) ?_
                refine ag_iload dd_Formula_product_72 rfl ?_
                refine ag_i2l dd_Formula_product_74 (by omega) ?_
                refine ag_lmul dd_Formula_product_75 ?_
                refine ag_rS dd_Formula_product_76 fi_Formula_90 (mc_Formula_limit (d := 1) (by omega) (by omega)) rfl rfl (by omega) (Nat.le_of_ble_eq_true rfl) ?_
                refine ag_goto (tgt := 88) dd_Formula_product_79 (by decide) ?_
                refine ag_istore_nN (Lf := fun y => [some (av_r (F)), some (av_i (o)), some (av_i (y)), some (av_i ((i : Int))), some (av_i (1)), some (av_i (v2))]) dd_Formula_product_88 (fun _ => rfl) rfl (by decide) (fun y16 ey16 => ?_)
                refine ag_iincN (Lf := fun y => [some (av_r (F)), some (av_i (o)), some (av_i (y16)), some (av_i (y)), some (av_i (1)), some (av_i (v2))]) dd_Formula_product_89 rfl (fun _ => rfl) rfl (by decide) (fun y17 ey17 => ?_)
                refine ag_goto (tgt := 8) dd_Formula_product_92 (by decide) ?_
                have ev : y16 = sp_act 5 v v2 := by
                  rw [ey16]
                  unfold sp_act
                  repeat (first | rw [if_pos (by decide)] | rw [if_neg (by decide)])
                  try rfl
                obtain rfl : y17 = ((i + 1 : Nat) : Int) := by omega
                rw [ev]
                refine ag_weak [some (av_r (F)), some (av_i (o)), some (av_i ((sp_act 5 v v2))), some (av_i (((i + 1 : Nat) : Int))), none, none] (by simp [al_le]) ?_
                have hva := sp_act_b hv hP2.1 5
                cases hq : one r.tail with
                | inr e =>
                  rw [show ap_ (one) (.inl r.tail) = .inr e from hq] at hP2
                  have ex : pr_b (.inl (c, r)) (fun c r => pr_pl one (k + 1) c r) = pr_b (.inr e) (fun c r => pr_pl one k c r) := by
                    rw [pr_b_l, pr_pl, if_pos (by omega), hq, pr_b_r, pr_b_r]
                  exact ih (i + 1) (.inr e) (sp_act 5 v v2) h (by omega) ⟨hva, hP2.2⟩ hfe2 (fun v h z => hX v h (by rw [ex]; exact z))
                | inl q =>
                  obtain ⟨c2, r2⟩ := q
                  rw [show ap_ (one) (.inl r.tail) = .inl (c2, r2) from hq] at hP2
                  have ex : pr_b (.inl (c, r)) (fun c r => pr_pl one (k + 1) c r) = pr_b (.inl (c ++ c2 ++ [(5, 0)], r2)) (fun c r => pr_pl one k c r) := by
                    rw [pr_b_l, pr_pl, if_pos (by omega), hq, pr_b_l, pr_b_l, if_pos (by omega)]
                  exact ih (i + 1) (.inl (c ++ c2 ++ [(5, 0)], r2)) (sp_act 5 v v2) h (by omega) ⟨hva, vl_op hvl hP2.2.1 (by decide), hP2.2.2⟩ hfe2 (fun v h z => hX v h (by rw [ex]; exact z))
set_option maxHeartbeats 1000000 in
theorem mc_Formula_product {w : aw_T} {h : ah_T} {d : Nat} {dd : Nat} (hd : dd + 1 ≤ d) (hd2 : 2 ≤ d) {F : Nat} {ts : List tk_T} {E : en_T} {s : rs_T} (H : FS_ h F ts E s) (hE : eb_ E) {o : Int} {one : List tk_T → pr_T} (HS : ∀ (h : ah_T) (F : Nat) (ts : List tk_T) (E : en_T) (s : rs_T), FS_ h F ts E s → eb_ E → am_M w mm_Formula_one dd [av_r F, av_i o] h 0 0 (po_ h F ts E (ap_ (one) s))) : am_M w mm_Formula_product d [av_r F, av_i o] h 0 0 (po_ h F ts E (ap_ (pr_pr one) s)) := by
  refine am_intro [some (av_r (F)), some (av_i (o)), none, none, none, none] (by decide +kernel) (Nat.le_of_ble_eq_true rfl) rfl ?_
  have H0 := H
  obtain ⟨ha, a, ft, pl, hc, hss⟩ := H0
  refine ag_aload_n dd_Formula_product_0 rfl ?_
  refine ag_iload_n dd_Formula_product_1 rfl ?_
  refine ag_wV dd_Formula_product_2 fi_Formula_94 hc rfl (HS h F ts E s H hE) rfl rfl (by omega) (Nat.le_of_ble_eq_true rfl) (fun r1 h hP => ?_)
  obtain ⟨v, rfl, hPQ, hfe⟩ := hP
  refine ag_istore_n (L' := [some (av_r (F)), some (av_i (o)), some (av_i (v)), none, none, none]) dd_Formula_product_5 rfl rfl (by decide) ?_
  refine ag_iconst dd_Formula_product_6 ?_
  refine ag_istore_n (L' := [some (av_r (F)), some (av_i (o)), some (av_i (v)), some (av_i (0)), none, none]) dd_Formula_product_7 rfl rfl (by decide) ?_
  have ex : ap_ (pr_pr one) s = pr_b (ap_ (one) s) (fun c r => pr_pl one 100 c r) := ap_b (one) (fun c r => pr_pl one 100 c r) s
  rw [ex]
  exact ml_Formula_product hd hd2 hE HS 100 0 _ v h (by omega) hPQ hfe (fun v h z1 z2 => ⟨v, rfl, z1, z2⟩)
set_option maxHeartbeats 1000000 in
theorem ml_Formula_sum {w : aw_T} {d dd : Nat} (hd : dd + 1 ≤ d) (hd2 : 2 ≤ d) {F : Nat} {ts : List tk_T} {E : en_T} (hE : eb_ E) {o : Int} {one : List tk_T → pr_T} (HS : ∀ (h : ah_T) (F : Nat) (ts : List tk_T) (E : en_T) (s : rs_T), FS_ h F ts E s → eb_ E → am_M w mm_Formula_product dd [av_r F, av_i o] h 0 0 (po_ h F ts E (ap_ (pr_pr one) s))) {h0 : ah_T} {P : ap_T} : ∀ (k i : Nat) (x : pr_T) (v : Int) (h : ah_T), i + k = 100 → PQ_ h F ts E x v → fe_ h0 h F → (∀ (v : Int) (h : ah_T), PQ_ h F ts E (pr_b x (fun c r => pr_sl one k c r)) v → fe_ h0 h F → P (some (av_i v)) h) → aw_W w mm_Formula_sum d P 8 [some (av_r (F)), some (av_i (o)), some (av_i (v)), some (av_i ((i : Int))), none, none] [] h 0 0 := by
  intro k
  induction k with
  | zero =>
    intro i x v h hik hPQ hfe hX
    have ex : pr_b x (fun c r => pr_sl one 0 c r) = x := by
      cases x <;> rfl
    rw [ex] at hX
    refine ag_iload_n dd_Formula_sum_8 rfl ?_
    refine ag_bipush dd_Formula_sum_9 (by decide +kernel) ?_
    refine ag_icmp_ge (tgt := 95) dd_Formula_sum_11 (by decide) (by omega) (by omega) (fun c1 => ?_) (fun c1 => ?_)
    · refine ag_iload_n dd_Formula_sum_95 rfl ?_
      refine ag_iret dd_Formula_sum_96 rfl ?_
      exact hX v h hPQ hfe
    · exfalso; omega
  | succ k ih =>
    intro i x v h hik hPQ hfe hX
    cases x with
    | inr e =>
      obtain ⟨hv, H⟩ := hPQ
      have hPQ : PQ_ h F ts E (.inr e) v := ⟨hv, H⟩
      have H0 := H
      obtain ⟨ha, a, ft, pl, hc, hss⟩ := H0
      have hsr := hs_inr e
      refine ag_iload_n dd_Formula_sum_8 rfl ?_
      refine ag_bipush dd_Formula_sum_9 (by decide +kernel) ?_
      refine ag_icmp_ge (tgt := 95) dd_Formula_sum_11 (by decide) (by omega) (by omega) (fun c1 => ?_) (fun c1 => ?_)
      · exfalso; omega
      · refine ag_aload_n dd_Formula_sum_14 rfl ?_
        refine ag_rV dd_Formula_sum_15 fi_Formula_86 hc rfl (mc_Formula_token (d := 0) (by omega) H) rfl rfl (by omega) (Nat.le_of_ble_eq_true rfl) ?_
        refine ag_bipush dd_Formula_sum_18 (by decide +kernel) ?_
        refine ag_icmp_eq (tgt := 32) dd_Formula_sum_20 (by decide) (by omega) (by omega) (fun c2 => ?_) (fun c2 => ?_)
        · exfalso; omega
        · refine ag_aload_n dd_Formula_sum_23 rfl ?_
          refine ag_rV dd_Formula_sum_24 fi_Formula_86 hc rfl (mc_Formula_token (d := 0) (by omega) H) rfl rfl (by omega) (Nat.le_of_ble_eq_true rfl) ?_
          refine ag_bipush dd_Formula_sum_27 (by decide +kernel) ?_
          refine ag_icmp_ne (tgt := 95) dd_Formula_sum_29 (by decide) (by omega) (by omega) (fun c3 => ?_) (fun c3 => ?_)
          · refine ag_iload_n dd_Formula_sum_95 rfl ?_
            refine ag_iret dd_Formula_sum_96 rfl ?_
            exact hX v h hPQ hfe
          · exfalso; omega
    | inl q =>
      obtain ⟨c, r⟩ := q
      obtain ⟨hv, hvl, H⟩ := hPQ
      have hPQ : PQ_ h F ts E (.inl (c, r)) v := ⟨hv, hvl, H⟩
      replace H : FS_ h F ts E (.inl r) := H
      replace hvl : vl_ (ef_ E) c v := hvl
      have Hb := hs_b H
      have H0 := H
      obtain ⟨ha, a, ft, pl, hc, hss⟩ := H0
      have hsr := hs_inl r
      refine ag_iload_n dd_Formula_sum_8 rfl ?_
      refine ag_bipush dd_Formula_sum_9 (by decide +kernel) ?_
      refine ag_icmp_ge (tgt := 95) dd_Formula_sum_11 (by decide) (by omega) (by omega) (fun c1 => ?_) (fun c1 => ?_)
      · exfalso; omega
      · refine ag_aload_n dd_Formula_sum_14 rfl ?_
        refine ag_rV dd_Formula_sum_15 fi_Formula_86 hc rfl (mc_Formula_token (d := 0) (by omega) H) rfl rfl (by omega) (Nat.le_of_ble_eq_true rfl) ?_
        refine ag_bipush dd_Formula_sum_18 (by decide +kernel) ?_
        refine ag_icmp_eq (tgt := 32) dd_Formula_sum_20 (by decide) (by omega) (by omega) (fun c2 => ?_) (fun c2 => ?_)
        · refine ag_aload_n dd_Formula_sum_32 rfl ?_
          refine ag_rV dd_Formula_sum_33 fi_Formula_86 hc rfl (mc_Formula_token (d := 0) (by omega) H) rfl rfl (by omega) (Nat.le_of_ble_eq_true rfl) ?_
          refine ag_bipush dd_Formula_sum_36 (by decide +kernel) ?_
          refine ag_icmp_ne (tgt := 45) dd_Formula_sum_38 (by decide) (by omega) (by omega) (fun c3 => ?_) (fun c3 => ?_)
          · refine ag_iconst dd_Formula_sum_45 ?_
            refine ag_istore (L' := [some (av_r (F)), some (av_i (o)), some (av_i (v)), some (av_i ((i : Int))), some (av_i (0)), none]) dd_Formula_sum_46 rfl rfl (by decide) ?_
            refine ag_aload_n dd_Formula_sum_48 rfl ?_
            refine ag_dup dd_Formula_sum_49 rfl ?_
            refine ag_get dd_Formula_sum_50 fg_Formula_67 hc rfl ?_
            refine ag_iconst dd_Formula_sum_53 ?_
            refine ag_iadd dd_Formula_sum_54 ?_
            refine hp_i dd_Formula_sum_55 fp_Formula_67 hc (Nat.le_of_ble_eq_true rfl) (fun h huN => ?_)
            have hu1 := huN
            clear huN
            have H2 := FS_nx ha hss (by omega) hu1 rfl
            have hfe1 := fe_tr hfe (fe_hu hu1)
            refine ag_aload_n dd_Formula_sum_58 rfl ?_
            refine ag_iload_n dd_Formula_sum_59 rfl ?_
            refine ag_wV dd_Formula_sum_60 fi_Formula_83 H2.2.choose_spec.choose_spec.choose_spec.1 rfl (HS h F ts E (.inl r.tail) H2 hE) rfl rfl (by omega) (Nat.le_of_ble_eq_true rfl) (fun r1 h hP => ?_)
            obtain ⟨v2, rfl, hP2, hfe2⟩ := hP
            replace hfe2 := fe_tr hfe1 hfe2
            have hv2 := hP2.1
            have hvv := hv
            unfold iv_b at hv2 hvv
            have hmul := sp_mulb hv hP2.1
            have htd := sp_tdb (b := v2) hv
            refine ag_istore (L' := [some (av_r (F)), some (av_i (o)), some (av_i (v)), some (av_i ((i : Int))), some (av_i (0)), some (av_i (v2))]) dd_Formula_sum_63 rfl rfl (by decide) ?_
            refine ag_iload dd_Formula_sum_65 rfl ?_
            refine ag_if_eq (tgt := 79) dd_Formula_sum_67 (by decide) (by omega) (fun c4 => ?_) (fun c4 => ?_)
            · refine ag_iload_n dd_Formula_sum_79 rfl ?_
              refine ag_i2l dd_Formula_sum_80 (by omega) ?_
              refine ag_iload dd_Formula_sum_81 rfl ?_
              refine ag_i2l dd_Formula_sum_83 (by omega) ?_
              refine ag_lsub dd_Formula_sum_84 ?_
              refine ag_rS dd_Formula_sum_85 fi_Formula_90 (mc_Formula_limit (d := 1) (by omega) (by omega)) rfl rfl (by omega) (Nat.le_of_ble_eq_true rfl) ?_
              refine ag_istore_nN (Lf := fun y => [some (av_r (F)), some (av_i (o)), some (av_i (y)), some (av_i ((i : Int))), some (av_i (0)), some (av_i (v2))]) dd_Formula_sum_88 (fun _ => rfl) rfl (by decide) (fun y5 ey5 => ?_)
              refine ag_iincN (Lf := fun y => [some (av_r (F)), some (av_i (o)), some (av_i (y5)), some (av_i (y)), some (av_i (0)), some (av_i (v2))]) dd_Formula_sum_89 rfl (fun _ => rfl) rfl (by decide) (fun y6 ey6 => ?_)
              refine ag_goto (tgt := 8) dd_Formula_sum_92 (by decide) ?_
              have ev : y5 = sp_act 4 v v2 := by
                rw [ey5]
                unfold sp_act
                repeat (first | rw [if_pos (by decide)] | rw [if_neg (by decide)])
                try rfl
              obtain rfl : y6 = ((i + 1 : Nat) : Int) := by omega
              rw [ev]
              refine ag_weak [some (av_r (F)), some (av_i (o)), some (av_i ((sp_act 4 v v2))), some (av_i (((i + 1 : Nat) : Int))), none, none] (by simp [al_le]) ?_
              have hva := sp_act_b hv hP2.1 4
              cases hq : pr_pr one r.tail with
              | inr e =>
                rw [show ap_ (pr_pr one) (.inl r.tail) = .inr e from hq] at hP2
                have ex : pr_b (.inl (c, r)) (fun c r => pr_sl one (k + 1) c r) = pr_b (.inr e) (fun c r => pr_sl one k c r) := by
                  rw [pr_b_l, pr_sl, if_pos (by omega), hq, pr_b_r, pr_b_r]
                exact ih (i + 1) (.inr e) (sp_act 4 v v2) h (by omega) ⟨hva, hP2.2⟩ hfe2 (fun v h z => hX v h (by rw [ex]; exact z))
              | inl q =>
                obtain ⟨c2, r2⟩ := q
                rw [show ap_ (pr_pr one) (.inl r.tail) = .inl (c2, r2) from hq] at hP2
                have ex : pr_b (.inl (c, r)) (fun c r => pr_sl one (k + 1) c r) = pr_b (.inl (c ++ c2 ++ [(4, 0)], r2)) (fun c r => pr_sl one k c r) := by
                  rw [pr_b_l, pr_sl, if_pos (by omega), hq, pr_b_l, pr_b_l, if_neg (by omega)]
                exact ih (i + 1) (.inl (c ++ c2 ++ [(4, 0)], r2)) (sp_act 4 v v2) h (by omega) ⟨hva, vl_op hvl hP2.2.1 (by decide), hP2.2.2⟩ hfe2 (fun v h z => hX v h (by rw [ex]; exact z))
            · exfalso; omega
          · refine ag_iconst dd_Formula_sum_41 ?_
            refine ag_goto (tgt := 46) dd_Formula_sum_42 (by decide) ?_
            refine ag_istore (L' := [some (av_r (F)), some (av_i (o)), some (av_i (v)), some (av_i ((i : Int))), some (av_i (1)), none]) dd_Formula_sum_46 rfl rfl (by decide) ?_
            refine ag_aload_n dd_Formula_sum_48 rfl ?_
            refine ag_dup dd_Formula_sum_49 rfl ?_
            refine ag_get dd_Formula_sum_50 fg_Formula_67 hc rfl ?_
            refine ag_iconst dd_Formula_sum_53 ?_
            refine ag_iadd dd_Formula_sum_54 ?_
            refine hp_i dd_Formula_sum_55 fp_Formula_67 hc (Nat.le_of_ble_eq_true rfl) (fun h huN => ?_)
            have hu1 := huN
            clear huN
            have H2 := FS_nx ha hss (by omega) hu1 rfl
            have hfe1 := fe_tr hfe (fe_hu hu1)
            refine ag_aload_n dd_Formula_sum_58 rfl ?_
            refine ag_iload_n dd_Formula_sum_59 rfl ?_
            refine ag_wV dd_Formula_sum_60 fi_Formula_83 H2.2.choose_spec.choose_spec.choose_spec.1 rfl (HS h F ts E (.inl r.tail) H2 hE) rfl rfl (by omega) (Nat.le_of_ble_eq_true rfl) (fun r1 h hP => ?_)
            obtain ⟨v2, rfl, hP2, hfe2⟩ := hP
            replace hfe2 := fe_tr hfe1 hfe2
            have hv2 := hP2.1
            have hvv := hv
            unfold iv_b at hv2 hvv
            have hmul := sp_mulb hv hP2.1
            have htd := sp_tdb (b := v2) hv
            refine ag_istore (L' := [some (av_r (F)), some (av_i (o)), some (av_i (v)), some (av_i ((i : Int))), some (av_i (1)), some (av_i (v2))]) dd_Formula_sum_63 rfl rfl (by decide) ?_
            refine ag_iload dd_Formula_sum_65 rfl ?_
            refine ag_if_eq (tgt := 79) dd_Formula_sum_67 (by decide) (by omega) (fun c7 => ?_) (fun c7 => ?_)
            · exfalso; omega
            · refine ag_iload_n dd_Formula_sum_70 rfl ?_
              refine ag_i2l dd_Formula_sum_71 (by omega) ?_
              refine ag_iload dd_Formula_sum_72 rfl ?_
              refine ag_i2l dd_Formula_sum_74 (by omega) ?_
              refine ag_ladd dd_Formula_sum_75 ?_
              refine ag_goto (tgt := 85) dd_Formula_sum_76 (by decide) ?_
              refine ag_rS dd_Formula_sum_85 fi_Formula_90 (mc_Formula_limit (d := 1) (by omega) (by omega)) rfl rfl (by omega) (Nat.le_of_ble_eq_true rfl) ?_
              refine ag_istore_nN (Lf := fun y => [some (av_r (F)), some (av_i (o)), some (av_i (y)), some (av_i ((i : Int))), some (av_i (1)), some (av_i (v2))]) dd_Formula_sum_88 (fun _ => rfl) rfl (by decide) (fun y8 ey8 => ?_)
              refine ag_iincN (Lf := fun y => [some (av_r (F)), some (av_i (o)), some (av_i (y8)), some (av_i (y)), some (av_i (1)), some (av_i (v2))]) dd_Formula_sum_89 rfl (fun _ => rfl) rfl (by decide) (fun y9 ey9 => ?_)
              refine ag_goto (tgt := 8) dd_Formula_sum_92 (by decide) ?_
              have ev : y8 = sp_act 3 v v2 := by
                rw [ey8]
                unfold sp_act
                repeat (first | rw [if_pos (by decide)] | rw [if_neg (by decide)])
                try rfl
              obtain rfl : y9 = ((i + 1 : Nat) : Int) := by omega
              rw [ev]
              refine ag_weak [some (av_r (F)), some (av_i (o)), some (av_i ((sp_act 3 v v2))), some (av_i (((i + 1 : Nat) : Int))), none, none] (by simp [al_le]) ?_
              have hva := sp_act_b hv hP2.1 3
              cases hq : pr_pr one r.tail with
              | inr e =>
                rw [show ap_ (pr_pr one) (.inl r.tail) = .inr e from hq] at hP2
                have ex : pr_b (.inl (c, r)) (fun c r => pr_sl one (k + 1) c r) = pr_b (.inr e) (fun c r => pr_sl one k c r) := by
                  rw [pr_b_l, pr_sl, if_pos (by omega), hq, pr_b_r, pr_b_r]
                exact ih (i + 1) (.inr e) (sp_act 3 v v2) h (by omega) ⟨hva, hP2.2⟩ hfe2 (fun v h z => hX v h (by rw [ex]; exact z))
              | inl q =>
                obtain ⟨c2, r2⟩ := q
                rw [show ap_ (pr_pr one) (.inl r.tail) = .inl (c2, r2) from hq] at hP2
                have ex : pr_b (.inl (c, r)) (fun c r => pr_sl one (k + 1) c r) = pr_b (.inl (c ++ c2 ++ [(3, 0)], r2)) (fun c r => pr_sl one k c r) := by
                  rw [pr_b_l, pr_sl, if_pos (by omega), hq, pr_b_l, pr_b_l, if_pos (by omega)]
                exact ih (i + 1) (.inl (c ++ c2 ++ [(3, 0)], r2)) (sp_act 3 v v2) h (by omega) ⟨hva, vl_op hvl hP2.2.1 (by decide), hP2.2.2⟩ hfe2 (fun v h z => hX v h (by rw [ex]; exact z))
        · refine ag_aload_n dd_Formula_sum_23 rfl ?_
          refine ag_rV dd_Formula_sum_24 fi_Formula_86 hc rfl (mc_Formula_token (d := 0) (by omega) H) rfl rfl (by omega) (Nat.le_of_ble_eq_true rfl) ?_
          refine ag_bipush dd_Formula_sum_27 (by decide +kernel) ?_
          refine ag_icmp_ne (tgt := 95) dd_Formula_sum_29 (by decide) (by omega) (by omega) (fun c10 => ?_) (fun c10 => ?_)
          · refine ag_iload_n dd_Formula_sum_95 rfl ?_
            refine ag_iret dd_Formula_sum_96 rfl ?_
            have ex : pr_b (.inl (c, r)) (fun c r => pr_sl one (k + 1) c r) = .inl (c, r) := by
              rw [pr_b_l, pr_sl, if_neg (by omega)]
            rw [ex] at hX
            exact hX v h hPQ hfe
          · refine ag_aload_n dd_Formula_sum_32 rfl ?_
            refine ag_rV dd_Formula_sum_33 fi_Formula_86 hc rfl (mc_Formula_token (d := 0) (by omega) H) rfl rfl (by omega) (Nat.le_of_ble_eq_true rfl) ?_
            refine ag_bipush dd_Formula_sum_36 (by decide +kernel) ?_
            refine ag_icmp_ne (tgt := 45) dd_Formula_sum_38 (by decide) (by omega) (by omega) (fun c11 => ?_) (fun c11 => ?_)
            · refine ag_iconst dd_Formula_sum_45 ?_
              refine ag_istore (L' := [some (av_r (F)), some (av_i (o)), some (av_i (v)), some (av_i ((i : Int))), some (av_i (0)), none]) dd_Formula_sum_46 rfl rfl (by decide) ?_
              refine ag_aload_n dd_Formula_sum_48 rfl ?_
              refine ag_dup dd_Formula_sum_49 rfl ?_
              refine ag_get dd_Formula_sum_50 fg_Formula_67 hc rfl ?_
              refine ag_iconst dd_Formula_sum_53 ?_
              refine ag_iadd dd_Formula_sum_54 ?_
              refine hp_i dd_Formula_sum_55 fp_Formula_67 hc (Nat.le_of_ble_eq_true rfl) (fun h huN => ?_)
              have hu1 := huN
              clear huN
              have H2 := FS_nx ha hss (by omega) hu1 rfl
              have hfe1 := fe_tr hfe (fe_hu hu1)
              refine ag_aload_n dd_Formula_sum_58 rfl ?_
              refine ag_iload_n dd_Formula_sum_59 rfl ?_
              refine ag_wV dd_Formula_sum_60 fi_Formula_83 H2.2.choose_spec.choose_spec.choose_spec.1 rfl (HS h F ts E (.inl r.tail) H2 hE) rfl rfl (by omega) (Nat.le_of_ble_eq_true rfl) (fun r1 h hP => ?_)
              obtain ⟨v2, rfl, hP2, hfe2⟩ := hP
              replace hfe2 := fe_tr hfe1 hfe2
              have hv2 := hP2.1
              have hvv := hv
              unfold iv_b at hv2 hvv
              have hmul := sp_mulb hv hP2.1
              have htd := sp_tdb (b := v2) hv
              refine ag_istore (L' := [some (av_r (F)), some (av_i (o)), some (av_i (v)), some (av_i ((i : Int))), some (av_i (0)), some (av_i (v2))]) dd_Formula_sum_63 rfl rfl (by decide) ?_
              refine ag_iload dd_Formula_sum_65 rfl ?_
              refine ag_if_eq (tgt := 79) dd_Formula_sum_67 (by decide) (by omega) (fun c12 => ?_) (fun c12 => ?_)
              · refine ag_iload_n dd_Formula_sum_79 rfl ?_
                refine ag_i2l dd_Formula_sum_80 (by omega) ?_
                refine ag_iload dd_Formula_sum_81 rfl ?_
                refine ag_i2l dd_Formula_sum_83 (by omega) ?_
                refine ag_lsub dd_Formula_sum_84 ?_
                refine ag_rS dd_Formula_sum_85 fi_Formula_90 (mc_Formula_limit (d := 1) (by omega) (by omega)) rfl rfl (by omega) (Nat.le_of_ble_eq_true rfl) ?_
                refine ag_istore_nN (Lf := fun y => [some (av_r (F)), some (av_i (o)), some (av_i (y)), some (av_i ((i : Int))), some (av_i (0)), some (av_i (v2))]) dd_Formula_sum_88 (fun _ => rfl) rfl (by decide) (fun y13 ey13 => ?_)
                refine ag_iincN (Lf := fun y => [some (av_r (F)), some (av_i (o)), some (av_i (y13)), some (av_i (y)), some (av_i (0)), some (av_i (v2))]) dd_Formula_sum_89 rfl (fun _ => rfl) rfl (by decide) (fun y14 ey14 => ?_)
                refine ag_goto (tgt := 8) dd_Formula_sum_92 (by decide) ?_
                have ev : y13 = sp_act 4 v v2 := by
                  rw [ey13]
                  unfold sp_act
                  repeat (first | rw [if_pos (by decide)] | rw [if_neg (by decide)])
                  try rfl
                obtain rfl : y14 = ((i + 1 : Nat) : Int) := by omega
                rw [ev]
                refine ag_weak [some (av_r (F)), some (av_i (o)), some (av_i ((sp_act 4 v v2))), some (av_i (((i + 1 : Nat) : Int))), none, none] (by simp [al_le]) ?_
                have hva := sp_act_b hv hP2.1 4
                cases hq : pr_pr one r.tail with
                | inr e =>
                  rw [show ap_ (pr_pr one) (.inl r.tail) = .inr e from hq] at hP2
                  have ex : pr_b (.inl (c, r)) (fun c r => pr_sl one (k + 1) c r) = pr_b (.inr e) (fun c r => pr_sl one k c r) := by
                    rw [pr_b_l, pr_sl, if_pos (by omega), hq, pr_b_r, pr_b_r]
                  exact ih (i + 1) (.inr e) (sp_act 4 v v2) h (by omega) ⟨hva, hP2.2⟩ hfe2 (fun v h z => hX v h (by rw [ex]; exact z))
                | inl q =>
                  obtain ⟨c2, r2⟩ := q
                  rw [show ap_ (pr_pr one) (.inl r.tail) = .inl (c2, r2) from hq] at hP2
                  have ex : pr_b (.inl (c, r)) (fun c r => pr_sl one (k + 1) c r) = pr_b (.inl (c ++ c2 ++ [(4, 0)], r2)) (fun c r => pr_sl one k c r) := by
                    rw [pr_b_l, pr_sl, if_pos (by omega), hq, pr_b_l, pr_b_l, if_neg (by omega)]
                  exact ih (i + 1) (.inl (c ++ c2 ++ [(4, 0)], r2)) (sp_act 4 v v2) h (by omega) ⟨hva, vl_op hvl hP2.2.1 (by decide), hP2.2.2⟩ hfe2 (fun v h z => hX v h (by rw [ex]; exact z))
              · exfalso; omega
            · refine ag_iconst dd_Formula_sum_41 ?_
              refine ag_goto (tgt := 46) dd_Formula_sum_42 (by decide) ?_
              refine ag_istore (L' := [some (av_r (F)), some (av_i (o)), some (av_i (v)), some (av_i ((i : Int))), some (av_i (1)), none]) dd_Formula_sum_46 rfl rfl (by decide) ?_
              refine ag_aload_n dd_Formula_sum_48 rfl ?_
              refine ag_dup dd_Formula_sum_49 rfl ?_
              refine ag_get dd_Formula_sum_50 fg_Formula_67 hc rfl ?_
              refine ag_iconst dd_Formula_sum_53 ?_
              refine ag_iadd dd_Formula_sum_54 ?_
              refine hp_i dd_Formula_sum_55 fp_Formula_67 hc (Nat.le_of_ble_eq_true rfl) (fun h huN => ?_)
              have hu1 := huN
              clear huN
              have H2 := FS_nx ha hss (by omega) hu1 rfl
              have hfe1 := fe_tr hfe (fe_hu hu1)
              refine ag_aload_n dd_Formula_sum_58 rfl ?_
              refine ag_iload_n dd_Formula_sum_59 rfl ?_
              refine ag_wV dd_Formula_sum_60 fi_Formula_83 H2.2.choose_spec.choose_spec.choose_spec.1 rfl (HS h F ts E (.inl r.tail) H2 hE) rfl rfl (by omega) (Nat.le_of_ble_eq_true rfl) (fun r1 h hP => ?_)
              obtain ⟨v2, rfl, hP2, hfe2⟩ := hP
              replace hfe2 := fe_tr hfe1 hfe2
              have hv2 := hP2.1
              have hvv := hv
              unfold iv_b at hv2 hvv
              have hmul := sp_mulb hv hP2.1
              have htd := sp_tdb (b := v2) hv
              refine ag_istore (L' := [some (av_r (F)), some (av_i (o)), some (av_i (v)), some (av_i ((i : Int))), some (av_i (1)), some (av_i (v2))]) dd_Formula_sum_63 rfl rfl (by decide) ?_
              refine ag_iload dd_Formula_sum_65 rfl ?_
              refine ag_if_eq (tgt := 79) dd_Formula_sum_67 (by decide) (by omega) (fun c15 => ?_) (fun c15 => ?_)
              · exfalso; omega
              · refine ag_iload_n dd_Formula_sum_70 rfl ?_
                refine ag_i2l dd_Formula_sum_71 (by omega) ?_
                refine ag_iload dd_Formula_sum_72 rfl ?_
                refine ag_i2l dd_Formula_sum_74 (by omega) ?_
                refine ag_ladd dd_Formula_sum_75 ?_
                refine ag_goto (tgt := 85) dd_Formula_sum_76 (by decide) ?_
                refine ag_rS dd_Formula_sum_85 fi_Formula_90 (mc_Formula_limit (d := 1) (by omega) (by omega)) rfl rfl (by omega) (Nat.le_of_ble_eq_true rfl) ?_
                refine ag_istore_nN (Lf := fun y => [some (av_r (F)), some (av_i (o)), some (av_i (y)), some (av_i ((i : Int))), some (av_i (1)), some (av_i (v2))]) dd_Formula_sum_88 (fun _ => rfl) rfl (by decide) (fun y16 ey16 => ?_)
                refine ag_iincN (Lf := fun y => [some (av_r (F)), some (av_i (o)), some (av_i (y16)), some (av_i (y)), some (av_i (1)), some (av_i (v2))]) dd_Formula_sum_89 rfl (fun _ => rfl) rfl (by decide) (fun y17 ey17 => ?_)
                refine ag_goto (tgt := 8) dd_Formula_sum_92 (by decide) ?_
                have ev : y16 = sp_act 3 v v2 := by
                  rw [ey16]
                  unfold sp_act
                  repeat (first | rw [if_pos (by decide)] | rw [if_neg (by decide)])
                  try rfl
                obtain rfl : y17 = ((i + 1 : Nat) : Int) := by omega
                rw [ev]
                refine ag_weak [some (av_r (F)), some (av_i (o)), some (av_i ((sp_act 3 v v2))), some (av_i (((i + 1 : Nat) : Int))), none, none] (by simp [al_le]) ?_
                have hva := sp_act_b hv hP2.1 3
                cases hq : pr_pr one r.tail with
                | inr e =>
                  rw [show ap_ (pr_pr one) (.inl r.tail) = .inr e from hq] at hP2
                  have ex : pr_b (.inl (c, r)) (fun c r => pr_sl one (k + 1) c r) = pr_b (.inr e) (fun c r => pr_sl one k c r) := by
                    rw [pr_b_l, pr_sl, if_pos (by omega), hq, pr_b_r, pr_b_r]
                  exact ih (i + 1) (.inr e) (sp_act 3 v v2) h (by omega) ⟨hva, hP2.2⟩ hfe2 (fun v h z => hX v h (by rw [ex]; exact z))
                | inl q =>
                  obtain ⟨c2, r2⟩ := q
                  rw [show ap_ (pr_pr one) (.inl r.tail) = .inl (c2, r2) from hq] at hP2
                  have ex : pr_b (.inl (c, r)) (fun c r => pr_sl one (k + 1) c r) = pr_b (.inl (c ++ c2 ++ [(3, 0)], r2)) (fun c r => pr_sl one k c r) := by
                    rw [pr_b_l, pr_sl, if_pos (by omega), hq, pr_b_l, pr_b_l, if_pos (by omega)]
                  exact ih (i + 1) (.inl (c ++ c2 ++ [(3, 0)], r2)) (sp_act 3 v v2) h (by omega) ⟨hva, vl_op hvl hP2.2.1 (by decide), hP2.2.2⟩ hfe2 (fun v h z => hX v h (by rw [ex]; exact z))
set_option maxHeartbeats 1000000 in
theorem mc_Formula_sum {w : aw_T} {h : ah_T} {d : Nat} {dd : Nat} (hd : dd + 1 ≤ d) (hd2 : 2 ≤ d) {F : Nat} {ts : List tk_T} {E : en_T} {s : rs_T} (H : FS_ h F ts E s) (hE : eb_ E) {o : Int} {one : List tk_T → pr_T} (HS : ∀ (h : ah_T) (F : Nat) (ts : List tk_T) (E : en_T) (s : rs_T), FS_ h F ts E s → eb_ E → am_M w mm_Formula_product dd [av_r F, av_i o] h 0 0 (po_ h F ts E (ap_ (pr_pr one) s))) : am_M w mm_Formula_sum d [av_r F, av_i o] h 0 0 (po_ h F ts E (ap_ (pr_sm one) s)) := by
  refine am_intro [some (av_r (F)), some (av_i (o)), none, none, none, none] (by decide +kernel) (Nat.le_of_ble_eq_true rfl) rfl ?_
  have H0 := H
  obtain ⟨ha, a, ft, pl, hc, hss⟩ := H0
  refine ag_aload_n dd_Formula_sum_0 rfl ?_
  refine ag_iload_n dd_Formula_sum_1 rfl ?_
  refine ag_wV dd_Formula_sum_2 fi_Formula_83 hc rfl (HS h F ts E s H hE) rfl rfl (by omega) (Nat.le_of_ble_eq_true rfl) (fun r1 h hP => ?_)
  obtain ⟨v, rfl, hPQ, hfe⟩ := hP
  refine ag_istore_n (L' := [some (av_r (F)), some (av_i (o)), some (av_i (v)), none, none, none]) dd_Formula_sum_5 rfl rfl (by decide) ?_
  refine ag_iconst dd_Formula_sum_6 ?_
  refine ag_istore_n (L' := [some (av_r (F)), some (av_i (o)), some (av_i (v)), some (av_i (0)), none, none]) dd_Formula_sum_7 rfl rfl (by decide) ?_
  have ex : ap_ (pr_sm one) s = pr_b (ap_ (pr_pr one) s) (fun c r => pr_sl one 100 c r) := ap_b (pr_pr one) (fun c r => pr_sl one 100 c r) s
  rw [ex]
  exact ml_Formula_sum hd hd2 hE HS 100 0 _ v h (by omega) hPQ hfe (fun v h z1 z2 => ⟨v, rfl, z1, z2⟩)
