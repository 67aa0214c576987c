def so2 (x : pr_T) : rs_T := match x with
  | .inl q => .inl q.2
  | .inr e => .inr e
theorem PQ_fs {h : ah_T} {F : Nat} {ts : List tk_T} {E : en_T} {x : pr_T} {v : Int} (H : PQ_ h F ts E x v) : FS_ h F ts E (so2 x) := by
  cases x with
  | inl q => exact H.2.2
  | inr e => exact H.2
theorem PQ_take {h h' : ah_T} {F : Nat} {ts : List tk_T} {E : en_T} {x : pr_T} {v : Int} {k : Int} (H : PQ_ h F ts E x v) (H2 : FS_ h' F ts E (sk_ k (so2 x))) : PQ_ h' F ts E (pr_b x (fun c r => pr_tk k c r)) v := by
  cases x with
  | inr e => exact ⟨H.1, H2⟩
  | inl q =>
    obtain ⟨c, r⟩ := q
    rw [pr_b_l]
    unfold pr_tk
    by_cases e : pr_h r = k
    · rw [if_pos e]
      have e1 : sk_ k (so2 (.inl (c, r))) = .inl r.tail := if_pos e
      rw [e1] at H2
      exact ⟨H.1, H.2.1, H2⟩
    · rw [if_neg e]
      have e1 : sk_ k (so2 (.inl (c, r))) = .inr (1, pr_p r) := if_neg e
      rw [e1] at H2
      exact ⟨H.1, H2⟩
/-- the worth of min and max, at the end of reading both -/
theorem PQ_two {h : ah_T} {F : Nat} {ts : List tk_T} {E : en_T} {one : List tk_T → pr_T} {o v v2 : Int} (ho : o = 7 ∨ o = 8) {t2 : List tk_T} {h1 : ah_T} (h1v : PQ_ h1 F ts E (pr_b (pr_sm one t2) (fun c r => pr_tk 44 c r)) v) (h2v : PQ_ h F ts E (pr_b (ap_ (pr_sm one) (so2 (pr_b (pr_sm one t2) (fun c r => pr_tk 44 c r)))) (fun c r => pr_tk 41 c r)) v2) : PQ_ h F ts E (pr_mm one o t2) (sp_act o v v2) := by
  have hb := sp_act_b h1v.1 h2v.1 o
  unfold pr_mm
  cases hx : pr_sm one t2 with
  | inr e =>
    rw [hx] at h2v
    exact ⟨hb, h2v.2⟩
  | inl q =>
    obtain ⟨c, r⟩ := q
    rw [hx, pr_b_l] at h1v h2v
    rw [pr_b_l]
    cases hy : pr_tk 44 c r with
    | inr e =>
      rw [hy] at h2v
      exact ⟨hb, h2v.2⟩
    | inl q =>
      obtain ⟨c1, r1⟩ := q
      rw [hy] at h1v h2v
      rw [pr_b_l]
      replace h2v : PQ_ h F ts E (pr_b (pr_sm one r1) (fun c r => pr_tk 41 c r)) v2 := h2v
      cases hz : pr_sm one r1 with
      | inr e =>
        rw [hz] at h2v
        exact ⟨hb, h2v.2⟩
      | inl q =>
        obtain ⟨c2, r2⟩ := q
        rw [hz, pr_b_l] at h2v
        rw [pr_b_l]
        unfold pr_tk at h2v ⊢
        by_cases e : pr_h r2 = 41
        · rw [if_pos e] at h2v ⊢
          exact ⟨hb, vl_op h1v.2.1 h2v.2.1 (by omega), h2v.2.2⟩
        · rw [if_neg e] at h2v ⊢
          exact ⟨hb, h2v.2⟩
set_option maxHeartbeats 1000000 in
theorem mc_Formula_bracket {w : aw_T} {h : ah_T} {d : Nat} (hd : 2 ≤ d) {F : Nat} {ts : List tk_T} {E : en_T} {r : List tk_T} (H : FS_ h F ts E (.inl r)) (hE : eb_ E) {o : Int} (ho : 0 ≤ o ∧ o ≤ 8) {one : List tk_T → pr_T} {dd : Nat} (hdd : dd + 1 ≤ d) (HS : o < 8 → ∀ (h : ah_T) (F : Nat) (ts : List tk_T) (E : en_T) (s : rs_T), FS_ h F ts E s → eb_ E → am_M w mm_Formula_sum dd [av_r F, av_i (o + 1)] h 0 0 (po_ h F ts E (ap_ (pr_sm one) s))) (hr : pr_h r = 40) : am_M w mm_Formula_bracket d [av_r F, av_i o] h 0 0 (po_ h F ts E (if 8 ≤ o then .inr (3, pr_p r) else pr_b (pr_sm one r.tail) (fun c r => pr_tk 41 c r))) := by
  refine am_intro [some (av_r (F)), some (av_i (o)), none] (by decide +kernel) (Nat.le_of_ble_eq_true rfl) rfl ?_
  have H0 := H
  obtain ⟨ha, a, ft, pl, hc, hss⟩ := H0
  refine ag_aload_n dd_Formula_bracket_0 rfl ?_
  refine ag_bipush dd_Formula_bracket_1 (by decide +kernel) ?_
  refine ag_iload_n dd_Formula_bracket_3 rfl ?_
  refine ag_wV dd_Formula_bracket_4 fi_Formula_103 hc rfl (mc_Formula_opens (d := 1) (by omega) H (x := 40) (o := o) (by omega) (by omega)) rfl rfl (by omega) (Nat.le_of_ble_eq_true rfl) (fun r1 h hP => ?_)
  obtain ⟨rfl, HO, hfeO⟩ := hP
  refine ag_if_neB (tgt := 12) dd_Formula_bracket_7 (by decide) (fun c2 => ?_) (fun c2 => ?_)
  · have h8 : ¬ 8 ≤ o := by
      intro q
      have eo : so_ 40 o (.inl r) = (false, .inr (3, pr_p r)) := by
        show (if pr_h r = 40 then _ else _) = _
        rw [if_pos hr, if_pos q]
      have : (so_ 40 o (.inl r)).1 = true := by assumption
      rw [eo] at this
      exact absurd this Bool.false_ne_true
    refine ag_aload_n dd_Formula_bracket_12 rfl ?_
    refine ag_iload_n dd_Formula_bracket_13 rfl ?_
    refine ag_iconst dd_Formula_bracket_14 ?_
    refine ag_iadd dd_Formula_bracket_15 ?_
    have eo : so_ 40 o (.inl r) = (true, .inl r.tail) := by
      show (if pr_h r = 40 then _ else _) = _
      rw [if_pos hr, if_neg (by omega)]
    rw [eo] at HO
    replace HO : FS_ h F ts E (.inl r.tail) := HO
    refine ag_wV dd_Formula_bracket_16 fi_Formula_76 HO.2.choose_spec.choose_spec.choose_spec.1 rfl (HS (by omega) h F ts E (.inl r.tail) HO hE) rfl rfl (by omega) (Nat.le_of_ble_eq_true rfl) (fun r1 h hP => ?_)
    obtain ⟨v, rfl, hPQ, hfeS⟩ := hP
    have HQ := PQ_fs hPQ
    refine ag_istore_n (L' := [some (av_r (F)), some (av_i (o)), some (av_i (v))]) dd_Formula_bracket_19 rfl rfl (by decide) ?_
    refine ag_aload_n dd_Formula_bracket_20 rfl ?_
    refine ag_bipush dd_Formula_bracket_21 (by decide +kernel) ?_
    refine ag_wV dd_Formula_bracket_23 fi_Formula_79 HQ.2.choose_spec.choose_spec.choose_spec.1 rfl (mc_Formula_take (d := 1) (by omega) HQ (x := 41) (by omega)) rfl rfl (by omega) (Nat.le_of_ble_eq_true rfl) (fun r1 h hP => ?_)
    obtain ⟨rfl, HT, hfeT⟩ := hP
    skip
    refine ag_iload_n dd_Formula_bracket_26 rfl ?_
    refine ag_iret dd_Formula_bracket_27 rfl ?_
    rw [if_neg (by omega)]
    exact ⟨v, rfl, PQ_take hPQ HT, fe_tr hfeO (fe_tr hfeS hfeT)⟩
  · refine ag_iconst dd_Formula_bracket_10 ?_
    refine ag_iret dd_Formula_bracket_11 rfl ?_
    have h8 : 8 ≤ o := by
      by_cases q : 8 ≤ o
      · exact q
      · have eo : so_ 40 o (.inl r) = (true, .inl r.tail) := by
          show (if pr_h r = 40 then _ else _) = _
          rw [if_pos hr, if_neg q]
        have : ¬ (so_ 40 o (.inl r)).1 = true := by assumption
        rw [eo] at this
        exact absurd rfl this
    rw [if_pos h8]
    have eo : so_ 40 o (.inl r) = (false, .inr (3, pr_p r)) := by
      show (if pr_h r = 40 then _ else _) = _
      rw [if_pos hr, if_pos h8]
    rw [eo] at HO
    exact ⟨0, rfl, ⟨z_b, HO⟩, hfeO⟩
set_option maxHeartbeats 1000000 in
theorem mc_Formula_lesserOrGreater {w : aw_T} {h : ah_T} {d : Nat} (hd : 2 ≤ d) {F : Nat} {ts : List tk_T} {E : en_T} {r : List tk_T} (H : FS_ h F ts E (.inl r)) (hE : eb_ E) {o : Int} (ho : 0 ≤ o ∧ o ≤ 8) {one : List tk_T → pr_T} {dd : Nat} (hdd : dd + 1 ≤ d) (HS : o < 8 → ∀ (h : ah_T) (F : Nat) (ts : List tk_T) (E : en_T) (s : rs_T), FS_ h F ts E s → eb_ E → am_M w mm_Formula_sum dd [av_r F, av_i (o + 1)] h 0 0 (po_ h F ts E (ap_ (pr_sm one) s))) {z : Int} (hz : z = 0 ∨ z = 1) (hr : pr_h r = 2 ∨ pr_h r = 3) : am_M w mm_Formula_lesserOrGreater d [av_r F, av_i z, av_i o] h 0 0 (po_ h F ts E (if pr_h r.tail = 40 then (if 8 ≤ o then .inr (3, pr_p r.tail) else pr_mm one (if z = 1 then 7 else 8) r.tail.tail) else .inr (1, pr_p r.tail))) := by
  refine am_intro [some (av_r (F)), some (av_i (z)), some (av_i (o)), none, none] (by decide +kernel) (Nat.le_of_ble_eq_true rfl) rfl ?_
  have H0 := H
  obtain ⟨ha, a, ft, pl, hc, hss⟩ := H0
  refine ag_aload_n dd_Formula_lesserOrGreater_0 rfl ?_
  refine ag_dup dd_Formula_lesserOrGreater_1 rfl ?_
  refine ag_get dd_Formula_lesserOrGreater_2 fg_Formula_67 hc rfl ?_
  refine ag_iconst dd_Formula_lesserOrGreater_5 ?_
  refine ag_iadd dd_Formula_lesserOrGreater_6 ?_
  refine hp_i dd_Formula_lesserOrGreater_7 fp_Formula_67 hc (Nat.le_of_ble_eq_true rfl) (fun h huN => ?_)
  have hu1 := huN
  clear huN
  have HN : FS_ h F ts E (.inl r.tail) := FS_nx ha hss (by omega) hu1 rfl
  have hfe1 := fe_hu hu1
  refine ag_aload_n dd_Formula_lesserOrGreater_10 rfl ?_
  refine ag_bipush dd_Formula_lesserOrGreater_11 (by decide +kernel) ?_
  refine ag_iload_n dd_Formula_lesserOrGreater_13 rfl ?_
  refine ag_wV dd_Formula_lesserOrGreater_14 fi_Formula_103 HN.2.choose_spec.choose_spec.choose_spec.1 rfl (mc_Formula_opens (d := 1) (by omega) HN (x := 40) (o := o) (by omega) (by omega)) rfl rfl (by omega) (Nat.le_of_ble_eq_true rfl) (fun r1 h hP => ?_)
  obtain ⟨rfl, HO, hfeO⟩ := hP
  refine ag_if_neB (tgt := 22) dd_Formula_lesserOrGreater_17 (by decide) (fun c2 => ?_) (fun c2 => ?_)
  · have hq40 : pr_h r.tail = 40 ∧ ¬ 8 ≤ o := by
      rcases (show pr_h r.tail ≠ 40 ∨ (pr_h r.tail = 40 ∧ 8 ≤ o) ∨ (pr_h r.tail = 40 ∧ ¬ 8 ≤ o) by omega) with q | q | q
      · have eo : so_ 40 o (.inl r.tail) = (false, .inr (1, pr_p r.tail)) := if_neg q
        have : (so_ 40 o (.inl r.tail)).1 = true := by assumption
        rw [eo] at this
        exact absurd this Bool.false_ne_true
      · have eo : so_ 40 o (.inl r.tail) = (false, .inr (3, pr_p r.tail)) := by
          show (if pr_h r.tail = 40 then _ else _) = _
          rw [if_pos q.1, if_pos q.2]
        have : (so_ 40 o (.inl r.tail)).1 = true := by assumption
        rw [eo] at this
        exact absurd this Bool.false_ne_true
      · exact q
    have eo : so_ 40 o (.inl r.tail) = (true, .inl r.tail.tail) := by
      show (if pr_h r.tail = 40 then _ else _) = _
      rw [if_pos hq40.1, if_neg hq40.2]
    rw [eo] at HO
    replace HO : FS_ h F ts E (.inl r.tail.tail) := HO
    have h8 := hq40.2
    replace hq40 := hq40.1
    refine ag_aload_n dd_Formula_lesserOrGreater_22 rfl ?_
    refine ag_iload_n dd_Formula_lesserOrGreater_23 rfl ?_
    refine ag_iconst dd_Formula_lesserOrGreater_24 ?_
    refine ag_iadd dd_Formula_lesserOrGreater_25 ?_
    refine ag_wV dd_Formula_lesserOrGreater_26 fi_Formula_76 HO.2.choose_spec.choose_spec.choose_spec.1 rfl (HS (by omega) h F ts E (.inl r.tail.tail) HO hE) rfl rfl (by omega) (Nat.le_of_ble_eq_true rfl) (fun r1 h hP => ?_)
    obtain ⟨v, rfl, hPQ, hfeS⟩ := hP
    have HQ := PQ_fs hPQ
    refine ag_istore_n (L' := [some (av_r (F)), some (av_i (z)), some (av_i (o)), some (av_i (v)), none]) dd_Formula_lesserOrGreater_29 rfl rfl (by decide) ?_
    refine ag_aload_n dd_Formula_lesserOrGreater_30 rfl ?_
    refine ag_bipush dd_Formula_lesserOrGreater_31 (by decide +kernel) ?_
    refine ag_wV dd_Formula_lesserOrGreater_33 fi_Formula_79 HQ.2.choose_spec.choose_spec.choose_spec.1 rfl (mc_Formula_take (d := 1) (by omega) HQ (x := 44) (by omega)) rfl rfl (by omega) (Nat.le_of_ble_eq_true rfl) (fun r1 h hP => ?_)
    obtain ⟨rfl, HT, hfeT⟩ := hP
    have hPT := PQ_take hPQ HT
    have HQ2 := PQ_fs hPT
    have hfe2 := fe_tr hfe1 (fe_tr hfeO (fe_tr hfeS hfeT))
    refine ag_aload_n dd_Formula_lesserOrGreater_36 rfl ?_
    refine ag_iload_n dd_Formula_lesserOrGreater_37 rfl ?_
    refine ag_iconst dd_Formula_lesserOrGreater_38 ?_
    refine ag_iadd dd_Formula_lesserOrGreater_39 ?_
    refine ag_wV dd_Formula_lesserOrGreater_40 fi_Formula_76 HQ2.2.choose_spec.choose_spec.choose_spec.1 rfl (HS (by omega) h F ts E _ HQ2 hE) rfl rfl (by omega) (Nat.le_of_ble_eq_true rfl) (fun r1 h hP => ?_)
    obtain ⟨v2, rfl, hPQ2, hfeS2⟩ := hP
    have HQ3 := PQ_fs hPQ2
    refine ag_istore (L' := [some (av_r (F)), some (av_i (z)), some (av_i (o)), some (av_i (v)), some (av_i (v2))]) dd_Formula_lesserOrGreater_43 rfl rfl (by decide) ?_
    refine ag_aload_n dd_Formula_lesserOrGreater_45 rfl ?_
    refine ag_bipush dd_Formula_lesserOrGreater_46 (by decide +kernel) ?_
    refine ag_wV dd_Formula_lesserOrGreater_48 fi_Formula_79 HQ3.2.choose_spec.choose_spec.choose_spec.1 rfl (mc_Formula_take (d := 1) (by omega) HQ3 (x := 41) (by omega)) rfl rfl (by omega) (Nat.le_of_ble_eq_true rfl) (fun r1 h hP => ?_)
    obtain ⟨rfl, HT, hfeT⟩ := hP
    have hPT2 := PQ_take hPQ2 HT
    have hfe3 := fe_tr hfe2 (fe_tr hfeS2 hfeT)
    have hvb := hPT.1
    have hvb2 := hPT2.1
    unfold iv_b at hvb hvb2
    refine ag_iload_n dd_Formula_lesserOrGreater_51 rfl ?_
    refine ag_if_eq (tgt := 64) dd_Formula_lesserOrGreater_52 (by decide) (by omega) (fun c3 => ?_) (fun c3 => ?_)
    · refine ag_iload_n dd_Formula_lesserOrGreater_64 rfl ?_
      refine ag_iload dd_Formula_lesserOrGreater_65 rfl ?_
      refine ag_max dd_Formula_lesserOrGreater_67 fi_Formula_49 fo_maxs fo_m fo_maxc (by omega) (by omega) (by omega) (Nat.le_of_ble_eq_true rfl) ?_
      refine ag_iret dd_Formula_lesserOrGreater_70 rfl ?_
      rw [if_pos hq40, if_neg (by omega)]
      have hz2 : (if z = 1 then (7 : Int) else 8) = 8 := by rw [if_neg (by omega)]
      rw [hz2]
      have hw := PQ_two (o := 8) (by omega) hPT hPT2
      have ev : sp_act 8 v v2 = max v v2 := by
        unfold sp_act
        repeat (first | rw [if_pos (by decide)] | rw [if_neg (by decide)])
        first | (split <;> omega) | (show (if v < v2 then v else v2) = _; split <;> omega) | (show (if v2 < v then v else v2) = _; split <;> omega)
      rw [ev] at hw
      exact ⟨_, rfl, hw, hfe3⟩
    · refine ag_iload_n dd_Formula_lesserOrGreater_55 rfl ?_
      refine ag_iload dd_Formula_lesserOrGreater_56 rfl ?_
      refine ag_min dd_Formula_lesserOrGreater_58 fi_Formula_24 fo_mins fo_m fo_minc (by omega) (by omega) (by omega) (Nat.le_of_ble_eq_true rfl) ?_
      refine ag_goto (tgt := 70) dd_Formula_lesserOrGreater_61 (by decide) ?_
      refine ag_iret dd_Formula_lesserOrGreater_70 rfl ?_
      rw [if_pos hq40, if_neg (by omega)]
      have hz2 : (if z = 1 then (7 : Int) else 8) = 7 := by rw [if_pos (by omega)]
      rw [hz2]
      have hw := PQ_two (o := 7) (by omega) hPT hPT2
      have ev : sp_act 7 v v2 = min v v2 := by
        unfold sp_act
        repeat (first | rw [if_pos (by decide)] | rw [if_neg (by decide)])
        first | (split <;> omega) | (show (if v < v2 then v else v2) = _; split <;> omega) | (show (if v2 < v then v else v2) = _; split <;> omega)
      rw [ev] at hw
      exact ⟨_, rfl, hw, hfe3⟩
  · refine ag_iconst dd_Formula_lesserOrGreater_20 ?_
    refine ag_iret dd_Formula_lesserOrGreater_21 rfl ?_
    rcases (show pr_h r.tail ≠ 40 ∨ (pr_h r.tail = 40 ∧ 8 ≤ o) ∨ (pr_h r.tail = 40 ∧ ¬ 8 ≤ o) by omega) with q | q | q
    · have eo : so_ 40 o (.inl r.tail) = (false, .inr (1, pr_p r.tail)) := if_neg q
      rw [eo] at HO
      rw [if_neg q]
      exact ⟨0, rfl, ⟨z_b, HO⟩, fe_tr hfe1 hfeO⟩
    · have eo : so_ 40 o (.inl r.tail) = (false, .inr (3, pr_p r.tail)) := by
        show (if pr_h r.tail = 40 then _ else _) = _
        rw [if_pos q.1, if_pos q.2]
      rw [eo] at HO
      rw [if_pos q.1, if_pos q.2]
      exact ⟨0, rfl, ⟨z_b, HO⟩, fe_tr hfe1 hfeO⟩
    · have eo : so_ 40 o (.inl r.tail) = (true, .inl r.tail.tail) := by
        show (if pr_h r.tail = 40 then _ else _) = _
        rw [if_pos q.1, if_neg q.2]
      have : ¬ (so_ 40 o (.inl r.tail)).1 = true := by assumption
      rw [eo] at this
      exact absurd rfl this
/-- the contract of an operand, with d levels left -/
def C1_ (w : aw_T) (d : Nat) : Prop := ∀ (h : ah_T) (F : Nat) (ts : List tk_T) (E : en_T) (s : rs_T), FS_ h F ts E s → eb_ E → am_M w mm_Formula_one (4 * d + 4) [av_r F, av_i (8 - (d : Int))] h 0 0 (po_ h F ts E (ap_ (pr_one d) s))
theorem C1_sum {w : aw_T} {d : Nat} (H : C1_ w d) : ∀ (h : ah_T) (F : Nat) (ts : List tk_T) (E : en_T) (s : rs_T), FS_ h F ts E s → eb_ E → am_M w mm_Formula_sum (4 * d + 6) [av_r F, av_i (8 - (d : Int))] h 0 0 (po_ h F ts E (ap_ (pr_sm (pr_one d)) s)) :=
  fun h F ts E s H1 hE => mc_Formula_sum (dd := 4 * d + 5) (by omega) (by omega) H1 hE (fun h F ts E s H1 hE => mc_Formula_product (dd := 4 * d + 4) (by omega) (by omega) H1 hE H)
theorem pr_one_lf {d : Nat} {r : List tk_T} (h : pr_h r ≠ 45 ∧ pr_h r ≠ 40 ∧ pr_h r ≠ 2 ∧ pr_h r ≠ 3) : pr_one d r = pr_lf r := by
  cases d with
  | zero => rw [pr_one, if_neg (by omega), if_neg (by omega)]
  | succ d => rw [pr_one, if_neg (by omega), if_neg (by omega), if_neg (by omega)]
set_option maxHeartbeats 1000000 in
theorem C1_0 {w : aw_T} : C1_ w 0 := by
  intro h F ts E s H1 hE
  rw [show (8 - ((0 : Nat) : Int)) = 8 by decide]
  have H0 := H1
  cases s with
  | inr e =>
    have H := H1
    obtain ⟨ha, a, ft, pl, hc, hss⟩ := H0
    show am_M w mm_Formula_one _ _ h 0 0 (po_ h F ts E (.inr e))
    refine am_intro [some (av_r (F)), some (av_i (8)), none] (by decide +kernel) (Nat.le_of_ble_eq_true rfl) rfl ?_
    have hsr := hs_inr e
    refine ag_aload_n dd_Formula_one_0 rfl ?_
    refine ag_rV dd_Formula_one_1 fi_Formula_86 hc rfl (mc_Formula_token (d := 0) (by omega) H) rfl rfl (by omega) (Nat.le_of_ble_eq_true rfl) ?_
    refine ag_istore_nN (Lf := fun y => [some (av_r (F)), some (av_i (8)), some (av_i (y))]) dd_Formula_one_4 (fun _ => rfl) rfl (by decide) (fun y1 ey1 => ?_)
    refine ag_iload_n dd_Formula_one_5 rfl ?_
    refine ag_sipush dd_Formula_one_6 (by decide +kernel) ?_
    refine ag_icmp_lt (tgt := 22) dd_Formula_one_9 (by decide) (by omega) (by omega) (fun c2 => ?_) (fun c2 => ?_)
    · refine ag_iload_n dd_Formula_one_22 rfl ?_
      rcases (show (¬ y1 = 2 ∧ ¬ y1 = 3 ∧ ¬ y1 = 40 ∧ ¬ y1 = 45) ∨ y1 = 2 ∨ y1 = 3 ∨ y1 = 40 ∨ y1 = 45 by omega) with c3 | c3 | c3 | c3 | c3
      · refine ag_lookup (tgt := 107) (off := 84) dd_Formula_one_23 (by omega) (by decide +kernel) (by have ⟨q0, q1, q2, q3⟩ := c3; simp only [Op.lookupswitch.offset_cons]; simp [Op.lookupswitch.offset, q0, Ne.symm q0, q1, Ne.symm q1, q2, Ne.symm q2, q3, Ne.symm q3]) (by decide) ?_
        refine ag_aload_n dd_Formula_one_107 rfl ?_
        refine ag_iload_n dd_Formula_one_108 rfl ?_
        refine ag_wV dd_Formula_one_109 fi_Formula_114 hc rfl (mc_Formula_letter (d := 1) (by omega) H hE (x := y1) ey1 (by omega)) rfl rfl (by omega) (Nat.le_of_ble_eq_true rfl) (fun r1 h hP => ?_)
        obtain ⟨v, rfl, hP2, hfe⟩ := hP
        refine ag_iret dd_Formula_one_112 rfl ?_
        exact ⟨v, rfl, hP2, hfe⟩
      · exfalso; omega
      · exfalso; omega
      · exfalso; omega
      · exfalso; omega
    · exfalso; omega
  | inl r =>
    have H := H1
    have Hb := hs_b H
    obtain ⟨ha, a, ft, pl, hc, hss⟩ := H0
    refine am_intro [some (av_r (F)), some (av_i (8)), none] (by decide +kernel) (Nat.le_of_ble_eq_true rfl) rfl ?_
    have hsr := hs_inl r
    refine ag_aload_n dd_Formula_one_0 rfl ?_
    refine ag_rV dd_Formula_one_1 fi_Formula_86 hc rfl (mc_Formula_token (d := 0) (by omega) H) rfl rfl (by omega) (Nat.le_of_ble_eq_true rfl) ?_
    refine ag_istore_nN (Lf := fun y => [some (av_r (F)), some (av_i (8)), some (av_i (y))]) dd_Formula_one_4 (fun _ => rfl) rfl (by decide) (fun y1 ey1 => ?_)
    refine ag_iload_n dd_Formula_one_5 rfl ?_
    refine ag_sipush dd_Formula_one_6 (by decide +kernel) ?_
    refine ag_icmp_lt (tgt := 22) dd_Formula_one_9 (by decide) (by omega) (by omega) (fun c2 => ?_) (fun c2 => ?_)
    · refine ag_iload_n dd_Formula_one_22 rfl ?_
      rcases (show (¬ y1 = 2 ∧ ¬ y1 = 3 ∧ ¬ y1 = 40 ∧ ¬ y1 = 45) ∨ y1 = 2 ∨ y1 = 3 ∨ y1 = 40 ∨ y1 = 45 by omega) with c3 | c3 | c3 | c3 | c3
      · refine ag_lookup (tgt := 107) (off := 84) dd_Formula_one_23 (by omega) (by decide +kernel) (by have ⟨q0, q1, q2, q3⟩ := c3; simp only [Op.lookupswitch.offset_cons]; simp [Op.lookupswitch.offset, q0, Ne.symm q0, q1, Ne.symm q1, q2, Ne.symm q2, q3, Ne.symm q3]) (by decide) ?_
        refine ag_aload_n dd_Formula_one_107 rfl ?_
        refine ag_iload_n dd_Formula_one_108 rfl ?_
        refine ag_wV dd_Formula_one_109 fi_Formula_114 hc rfl (mc_Formula_letter (d := 1) (by omega) H hE (x := y1) ey1 (by omega)) rfl rfl (by omega) (Nat.le_of_ble_eq_true rfl) (fun r1 h hP => ?_)
        obtain ⟨v, rfl, hP2, hfe⟩ := hP
        refine ag_iret dd_Formula_one_112 rfl ?_
        have e1 : ap_ (pr_one 0) (.inl r) = pr_lf r := pr_one_lf (by omega)
        rw [e1]
        exact ⟨v, rfl, hP2, hfe⟩
      · refine ag_lookup (tgt := 93) (off := 70) dd_Formula_one_23 (by omega) (by decide +kernel) (by rw [c3]; rfl) (by decide) ?_
        refine ag_aload_n dd_Formula_one_93 rfl ?_
        refine ag_iconst dd_Formula_one_94 ?_
        refine ag_iload_n dd_Formula_one_95 rfl ?_
        refine ag_wV dd_Formula_one_96 fi_Formula_110 hc rfl (mc_Formula_lesserOrGreater (d := 3) (by omega) H hE (o := 8) (by omega) (one := pr_one 0) (dd := 2) (by omega) (fun q => absurd q (by decide)) (z := 1) (by omega) (by omega)) rfl rfl (by omega) (Nat.le_of_ble_eq_true rfl) (fun r1 h hP => ?_)
        obtain ⟨v, rfl, hP2, hfe⟩ := hP
        refine ag_iret dd_Formula_one_99 rfl ?_
        have e1 : ap_ (pr_one 0) (.inl r) = (if pr_h r.tail = 40 then .inr (3, pr_p r.tail) else .inr (1, pr_p r.tail)) := by
          show pr_one 0 r = _
          rw [pr_one, if_neg (by omega), if_pos (by omega)]
        rw [e1]
        rw [if_pos (by decide : (8 : Int) ≤ 8)] at hP2
        exact ⟨v, rfl, hP2, hfe⟩
      · refine ag_lookup (tgt := 100) (off := 77) dd_Formula_one_23 (by omega) (by decide +kernel) (by rw [c3]; rfl) (by decide) ?_
        refine ag_aload_n dd_Formula_one_100 rfl ?_
        refine ag_iconst dd_Formula_one_101 ?_
        refine ag_iload_n dd_Formula_one_102 rfl ?_
        refine ag_wV dd_Formula_one_103 fi_Formula_110 hc rfl (mc_Formula_lesserOrGreater (d := 3) (by omega) H hE (o := 8) (by omega) (one := pr_one 0) (dd := 2) (by omega) (fun q => absurd q (by decide)) (z := 0) (by omega) (by omega)) rfl rfl (by omega) (Nat.le_of_ble_eq_true rfl) (fun r1 h hP => ?_)
        obtain ⟨v, rfl, hP2, hfe⟩ := hP
        refine ag_iret dd_Formula_one_106 rfl ?_
        have e1 : ap_ (pr_one 0) (.inl r) = (if pr_h r.tail = 40 then .inr (3, pr_p r.tail) else .inr (1, pr_p r.tail)) := by
          show pr_one 0 r = _
          rw [pr_one, if_neg (by omega), if_pos (by omega)]
        rw [e1]
        rw [if_pos (by decide : (8 : Int) ≤ 8)] at hP2
        exact ⟨v, rfl, hP2, hfe⟩
      · refine ag_lookup (tgt := 87) (off := 64) dd_Formula_one_23 (by omega) (by decide +kernel) (by rw [c3]; rfl) (by decide) ?_
        refine ag_aload_n dd_Formula_one_87 rfl ?_
        refine ag_iload_n dd_Formula_one_88 rfl ?_
        refine ag_wV dd_Formula_one_89 fi_Formula_107 hc rfl (mc_Formula_bracket (d := 3) (by omega) H hE (o := 8) (by omega) (one := pr_one 0) (dd := 2) (by omega) (fun q => absurd q (by decide)) (by omega)) rfl rfl (by omega) (Nat.le_of_ble_eq_true rfl) (fun r1 h hP => ?_)
        obtain ⟨v, rfl, hP2, hfe⟩ := hP
        refine ag_iret dd_Formula_one_92 rfl ?_
        have e1 : ap_ (pr_one 0) (.inl r) = .inr (3, pr_p r) := by
          show pr_one 0 r = _
          rw [pr_one, if_pos (by omega)]
        rw [e1]
        rw [if_pos (by omega)] at hP2
        exact ⟨v, rfl, hP2, hfe⟩
      · refine ag_lookup (tgt := 64) (off := 41) dd_Formula_one_23 (by omega) (by decide +kernel) (by rw [c3]; rfl) (by decide) ?_
        refine ag_aload_n dd_Formula_one_64 rfl ?_
        refine ag_bipush dd_Formula_one_65 (by decide +kernel) ?_
        refine ag_iload_n dd_Formula_one_67 rfl ?_
        refine ag_wV dd_Formula_one_68 fi_Formula_103 hc rfl (mc_Formula_opens (d := 1) (by omega) H (x := 45) (o := 8) (by omega) (by omega)) rfl rfl (by omega) (Nat.le_of_ble_eq_true rfl) (fun r1 h hP => ?_)
        obtain ⟨rfl, HO, hfeO⟩ := hP
        have eo : so_ 45 8 (.inl r) = (false, .inr (3, pr_p r)) := by
          show (if pr_h r = 45 then _ else _) = _
          rw [if_pos (by omega), if_pos (by omega)]
        rw [eo] at HO
        rw [eo]
        show aw_W _ _ _ _ _ _ (av_i 0 :: _) _ _ _
        refine ag_if_eq (tgt := 85) dd_Formula_one_71 (by decide) (by omega) (fun c4 => ?_) (fun c4 => ?_)
        · refine ag_iconst dd_Formula_one_85 ?_
          refine ag_iret dd_Formula_one_86 rfl ?_
          have e1 : ap_ (pr_one 0) (.inl r) = .inr (3, pr_p r) := by
            show pr_one 0 r = _
            rw [pr_one, if_pos (by omega)]
          rw [e1]
          exact ⟨0, rfl, ⟨z_b, HO⟩, hfeO⟩
        · exfalso; omega
    · refine ag_aload_n dd_Formula_one_12 rfl ?_
      refine ag_iload_n dd_Formula_one_13 rfl ?_
      refine ag_sipush dd_Formula_one_14 (by decide +kernel) ?_
      refine ag_isub dd_Formula_one_17 ?_
      refine ag_wV dd_Formula_one_18 fi_Formula_100 hc rfl (mc_Formula_number (d := 1) (by omega) H (x := y1 - 1000) (by omega) (by omega)) rfl rfl (by omega) (Nat.le_of_ble_eq_true rfl) (fun r1 h hP => ?_)
      obtain ⟨v, rfl, hP2, hfe⟩ := hP
      refine ag_iret dd_Formula_one_21 rfl ?_
      have e1 : ap_ (pr_one 0) (.inl r) = pr_lf r := pr_one_lf (by omega)
      rw [e1]
      exact ⟨v, rfl, hP2, hfe⟩
set_option maxHeartbeats 1000000 in
theorem C1_s {w : aw_T} {d : Nat} (hd8 : d < 8) (HC : C1_ w d) : C1_ w (d + 1) := by
  intro h F ts E s H1 hE
  have H0 := H1
  cases s with
  | inr e =>
    have H := H1
    obtain ⟨ha, a, ft, pl, hc, hss⟩ := H0
    show am_M w mm_Formula_one _ _ h 0 0 (po_ h F ts E (.inr e))
    refine am_intro [some (av_r (F)), some (av_i ((8 - ((d + 1 : Nat) : Int)))), none] (by decide +kernel) (Nat.le_of_ble_eq_true rfl) rfl ?_
    have hsr := hs_inr e
    refine ag_aload_n dd_Formula_one_0 rfl ?_
    refine ag_rV dd_Formula_one_1 fi_Formula_86 hc rfl (mc_Formula_token (d := 0) (by omega) H) rfl rfl (by omega) (Nat.le_of_ble_eq_true rfl) ?_
    refine ag_istore_nN (Lf := fun y => [some (av_r (F)), some (av_i ((8 - ((d + 1 : Nat) : Int)))), some (av_i (y))]) dd_Formula_one_4 (fun _ => rfl) rfl (by decide) (fun y1 ey1 => ?_)
    refine ag_iload_n dd_Formula_one_5 rfl ?_
    refine ag_sipush dd_Formula_one_6 (by decide +kernel) ?_
    refine ag_icmp_lt (tgt := 22) dd_Formula_one_9 (by decide) (by omega) (by omega) (fun c2 => ?_) (fun c2 => ?_)
    · refine ag_iload_n dd_Formula_one_22 rfl ?_
      rcases (show (¬ y1 = 2 ∧ ¬ y1 = 3 ∧ ¬ y1 = 40 ∧ ¬ y1 = 45) ∨ y1 = 2 ∨ y1 = 3 ∨ y1 = 40 ∨ y1 = 45 by omega) with c3 | c3 | c3 | c3 | c3
      · refine ag_lookup (tgt := 107) (off := 84) dd_Formula_one_23 (by omega) (by decide +kernel) (by have ⟨q0, q1, q2, q3⟩ := c3; simp only [Op.lookupswitch.offset_cons]; simp [Op.lookupswitch.offset, q0, Ne.symm q0, q1, Ne.symm q1, q2, Ne.symm q2, q3, Ne.symm q3]) (by decide) ?_
        refine ag_aload_n dd_Formula_one_107 rfl ?_
        refine ag_iload_n dd_Formula_one_108 rfl ?_
        refine ag_wV dd_Formula_one_109 fi_Formula_114 hc rfl (mc_Formula_letter (d := 1) (by omega) H hE (x := y1) ey1 (by omega)) rfl rfl (by omega) (Nat.le_of_ble_eq_true rfl) (fun r1 h hP => ?_)
        obtain ⟨v, rfl, hP2, hfe⟩ := hP
        refine ag_iret dd_Formula_one_112 rfl ?_
        exact ⟨v, rfl, hP2, hfe⟩
      · exfalso; omega
      · exfalso; omega
      · exfalso; omega
      · exfalso; omega
    · exfalso; omega
  | inl r =>
    have H := H1
    have Hb := hs_b H
    obtain ⟨ha, a, ft, pl, hc, hss⟩ := H0
    refine am_intro [some (av_r (F)), some (av_i ((8 - ((d + 1 : Nat) : Int)))), none] (by decide +kernel) (Nat.le_of_ble_eq_true rfl) rfl ?_
    have hsr := hs_inl r
    refine ag_aload_n dd_Formula_one_0 rfl ?_
    refine ag_rV dd_Formula_one_1 fi_Formula_86 hc rfl (mc_Formula_token (d := 0) (by omega) H) rfl rfl (by omega) (Nat.le_of_ble_eq_true rfl) ?_
    refine ag_istore_nN (Lf := fun y => [some (av_r (F)), some (av_i ((8 - ((d + 1 : Nat) : Int)))), some (av_i (y))]) dd_Formula_one_4 (fun _ => rfl) rfl (by decide) (fun y1 ey1 => ?_)
    refine ag_iload_n dd_Formula_one_5 rfl ?_
    refine ag_sipush dd_Formula_one_6 (by decide +kernel) ?_
    refine ag_icmp_lt (tgt := 22) dd_Formula_one_9 (by decide) (by omega) (by omega) (fun c2 => ?_) (fun c2 => ?_)
    · refine ag_iload_n dd_Formula_one_22 rfl ?_
      rcases (show (¬ y1 = 2 ∧ ¬ y1 = 3 ∧ ¬ y1 = 40 ∧ ¬ y1 = 45) ∨ y1 = 2 ∨ y1 = 3 ∨ y1 = 40 ∨ y1 = 45 by omega) with c3 | c3 | c3 | c3 | c3
      · refine ag_lookup (tgt := 107) (off := 84) dd_Formula_one_23 (by omega) (by decide +kernel) (by have ⟨q0, q1, q2, q3⟩ := c3; simp only [Op.lookupswitch.offset_cons]; simp [Op.lookupswitch.offset, q0, Ne.symm q0, q1, Ne.symm q1, q2, Ne.symm q2, q3, Ne.symm q3]) (by decide) ?_
        refine ag_aload_n dd_Formula_one_107 rfl ?_
        refine ag_iload_n dd_Formula_one_108 rfl ?_
        refine ag_wV dd_Formula_one_109 fi_Formula_114 hc rfl (mc_Formula_letter (d := 1) (by omega) H hE (x := y1) ey1 (by omega)) rfl rfl (by omega) (Nat.le_of_ble_eq_true rfl) (fun r1 h hP => ?_)
        obtain ⟨v, rfl, hP2, hfe⟩ := hP
        refine ag_iret dd_Formula_one_112 rfl ?_
        have e1 : ap_ (pr_one (d + 1)) (.inl r) = pr_lf r := pr_one_lf (by omega)
        rw [e1]
        exact ⟨v, rfl, hP2, hfe⟩
      · refine ag_lookup (tgt := 93) (off := 70) dd_Formula_one_23 (by omega) (by decide +kernel) (by rw [c3]; rfl) (by decide) ?_
        refine ag_aload_n dd_Formula_one_93 rfl ?_
        refine ag_iconst dd_Formula_one_94 ?_
        refine ag_iload_n dd_Formula_one_95 rfl ?_
        refine ag_wV dd_Formula_one_96 fi_Formula_110 hc rfl (mc_Formula_lesserOrGreater (d := (4 * d + 7)) (by omega) H hE (o := (8 - ((d + 1 : Nat) : Int))) (by omega) (one := pr_one d) (dd := (4 * d + 6)) (by omega) (fun _ => by rw [show (8 - ((d + 1 : Nat) : Int)) + 1 = 8 - (d : Int) by omega]; exact C1_sum HC) (z := 1) (by omega) (by omega)) rfl rfl (by omega) (Nat.le_of_ble_eq_true rfl) (fun r1 h hP => ?_)
        obtain ⟨v, rfl, hP2, hfe⟩ := hP
        refine ag_iret dd_Formula_one_99 rfl ?_
        have e1 : ap_ (pr_one (d + 1)) (.inl r) = (if pr_h r.tail = 40 then pr_mm (pr_one d) 7 r.tail.tail else .inr (1, pr_p r.tail)) := by
          show pr_one (d + 1) r = _
          rw [pr_one, if_neg (by omega), if_neg (by omega), if_pos (by omega), if_pos (show pr_h r = 2 by omega)]
        rw [e1]
        rw [if_neg (show ¬ 8 ≤ (8 - ((d + 1 : Nat) : Int)) by omega)] at hP2
        exact ⟨v, rfl, hP2, hfe⟩
      · refine ag_lookup (tgt := 100) (off := 77) dd_Formula_one_23 (by omega) (by decide +kernel) (by rw [c3]; rfl) (by decide) ?_
        refine ag_aload_n dd_Formula_one_100 rfl ?_
        refine ag_iconst dd_Formula_one_101 ?_
        refine ag_iload_n dd_Formula_one_102 rfl ?_
        refine ag_wV dd_Formula_one_103 fi_Formula_110 hc rfl (mc_Formula_lesserOrGreater (d := (4 * d + 7)) (by omega) H hE (o := (8 - ((d + 1 : Nat) : Int))) (by omega) (one := pr_one d) (dd := (4 * d + 6)) (by omega) (fun _ => by rw [show (8 - ((d + 1 : Nat) : Int)) + 1 = 8 - (d : Int) by omega]; exact C1_sum HC) (z := 0) (by omega) (by omega)) rfl rfl (by omega) (Nat.le_of_ble_eq_true rfl) (fun r1 h hP => ?_)
        obtain ⟨v, rfl, hP2, hfe⟩ := hP
        refine ag_iret dd_Formula_one_106 rfl ?_
        have e1 : ap_ (pr_one (d + 1)) (.inl r) = (if pr_h r.tail = 40 then pr_mm (pr_one d) 8 r.tail.tail else .inr (1, pr_p r.tail)) := by
          show pr_one (d + 1) r = _
          rw [pr_one, if_neg (by omega), if_neg (by omega), if_pos (by omega), if_neg (show ¬ pr_h r = 2 by omega)]
        rw [e1]
        rw [if_neg (show ¬ 8 ≤ (8 - ((d + 1 : Nat) : Int)) by omega)] at hP2
        exact ⟨v, rfl, hP2, hfe⟩
      · refine ag_lookup (tgt := 87) (off := 64) dd_Formula_one_23 (by omega) (by decide +kernel) (by rw [c3]; rfl) (by decide) ?_
        refine ag_aload_n dd_Formula_one_87 rfl ?_
        refine ag_iload_n dd_Formula_one_88 rfl ?_
        refine ag_wV dd_Formula_one_89 fi_Formula_107 hc rfl (mc_Formula_bracket (d := (4 * d + 7)) (by omega) H hE (o := (8 - ((d + 1 : Nat) : Int))) (by omega) (one := pr_one d) (dd := (4 * d + 6)) (by omega) (fun _ => by rw [show (8 - ((d + 1 : Nat) : Int)) + 1 = 8 - (d : Int) by omega]; exact C1_sum HC) (by omega)) rfl rfl (by omega) (Nat.le_of_ble_eq_true rfl) (fun r1 h hP => ?_)
        obtain ⟨v, rfl, hP2, hfe⟩ := hP
        refine ag_iret dd_Formula_one_92 rfl ?_
        have e1 : ap_ (pr_one (d + 1)) (.inl r) = pr_b (pr_sm (pr_one d) r.tail) (fun c r => pr_tk 41 c r) := by
          show pr_one (d + 1) r = _
          rw [pr_one, if_neg (by omega), if_pos (by omega)]
        rw [e1]
        rw [if_neg (by omega)] at hP2
        exact ⟨v, rfl, hP2, hfe⟩
      · refine ag_lookup (tgt := 64) (off := 41) dd_Formula_one_23 (by omega) (by decide +kernel) (by rw [c3]; rfl) (by decide) ?_
        refine ag_aload_n dd_Formula_one_64 rfl ?_
        refine ag_bipush dd_Formula_one_65 (by decide +kernel) ?_
        refine ag_iload_n dd_Formula_one_67 rfl ?_
        refine ag_wV dd_Formula_one_68 fi_Formula_103 hc rfl (mc_Formula_opens (d := 1) (by omega) H (x := 45) (o := (8 - ((d + 1 : Nat) : Int))) (by omega) (by omega)) rfl rfl (by omega) (Nat.le_of_ble_eq_true rfl) (fun r1 h hP => ?_)
        obtain ⟨rfl, HO, hfeO⟩ := hP
        have eo : so_ 45 (8 - ((d + 1 : Nat) : Int)) (.inl r) = (true, .inl r.tail) := by
          show (if pr_h r = 45 then _ else _) = _
          rw [if_pos (by omega), if_neg (by omega)]
        rw [eo] at HO
        rw [eo]
        show aw_W _ _ _ _ _ _ (av_i 1 :: _) _ _ _
        replace HO : FS_ h F ts E (.inl r.tail) := HO
        refine ag_if_eq (tgt := 85) dd_Formula_one_71 (by decide) (by omega) (fun c4 => ?_) (fun c4 => ?_)
        · exfalso; omega
        · refine ag_aload_n dd_Formula_one_74 rfl ?_
          refine ag_iload_n dd_Formula_one_75 rfl ?_
          refine ag_iconst dd_Formula_one_76 ?_
          refine ag_iadd dd_Formula_one_77 ?_
          rw [show (8 - ((d + 1 : Nat) : Int)) + 1 = 8 - (d : Int) by omega]
          refine ag_wV dd_Formula_one_78 fi_Formula_94 HO.2.choose_spec.choose_spec.choose_spec.1 rfl (HC h F ts E (.inl r.tail) HO hE) rfl rfl (by omega) (Nat.le_of_ble_eq_true rfl) (fun r1 h hP => ?_)
          obtain ⟨v, rfl, hP2, hfe⟩ := hP
          refine ag_ineg dd_Formula_one_81 ?_
          refine ag_goto (tgt := 86) dd_Formula_one_82 (by decide) ?_
          refine ag_iret dd_Formula_one_86 rfl ?_
          have e1 : ap_ (pr_one (d + 1)) (.inl r) = pr_b (pr_one d r.tail) (fun c r => .inl (c ++ [(2, 0)], r)) := by
            show pr_one (d + 1) r = _
            rw [pr_one, if_pos (by omega)]
          rw [e1]
          refine ⟨_, rfl, ?_, fe_tr hfeO hfe⟩
          replace hP2 : PQ_ h F ts E (pr_one d r.tail) v := hP2
          have hvb := hP2.1
          cases hq : pr_one d r.tail with
          | inr e =>
            rw [hq] at hP2
            exact ⟨by unfold iv_b at hvb ⊢; omega, hP2.2⟩
          | inl q =>
            rw [hq] at hP2
            exact ⟨by unfold iv_b at hvb ⊢; omega, vl_neg hP2.2.1, hP2.2.2⟩
    · refine ag_aload_n dd_Formula_one_12 rfl ?_
      refine ag_iload_n dd_Formula_one_13 rfl ?_
      refine ag_sipush dd_Formula_one_14 (by decide +kernel) ?_
      refine ag_isub dd_Formula_one_17 ?_
      refine ag_wV dd_Formula_one_18 fi_Formula_100 hc rfl (mc_Formula_number (d := 1) (by omega) H (x := y1 - 1000) (by omega) (by omega)) rfl rfl (by omega) (Nat.le_of_ble_eq_true rfl) (fun r1 h hP => ?_)
      obtain ⟨v, rfl, hP2, hfe⟩ := hP
      refine ag_iret dd_Formula_one_21 rfl ?_
      have e1 : ap_ (pr_one (d + 1)) (.inl r) = pr_lf r := pr_one_lf (by omega)
      rw [e1]
      exact ⟨v, rfl, hP2, hfe⟩
theorem C1_all (w : aw_T) : ∀ d, d ≤ 8 → C1_ w d
  | 0, _ => C1_0
  | d + 1, h => C1_s (by omega) (C1_all w d (by omega))
def te_ (s : rs_T) (ft pl : Int) : Prop := match s with
  | .inl r => if pr_h r = 0 then ft = 0 ∧ pl = -1 else ft = 1 ∧ pl = pr_p r
  | .inr e => ft = e.1 ∧ pl = e.2
set_option maxHeartbeats 1000000 in
theorem mc_Formula_takeE {w : aw_T} {h : ah_T} {d : Nat} (hd : 1 ≤ d) {F : Nat} {ts : List tk_T} {E : Int × (Int × (Int × (Int × Int)))} {s : rs_T} (H : FS_ h F ts E s) : am_M w mm_Formula_take d [av_r F, av_i 0] h 0 0 (fun r1 h1 => r1 = none ∧ fe_ h h1 F ∧ ∃ a ft pl, h1[F]? = some (fx_ F ts.length E a ft pl) ∧ te_ s ft pl) := by
  refine am_intro [some (av_r (F)), some (av_i (0))] (by decide +kernel) (Nat.le_of_ble_eq_true rfl) rfl ?_
  have Hb := hs_b H
  have H0 := H
  obtain ⟨ha, a, ft, pl, hc, hss⟩ := H0
  refine ag_aload_n dd_Formula_take_0 rfl ?_
  refine ag_rV dd_Formula_take_1 fi_Formula_86 hc rfl (mc_Formula_token (d := 0) (by omega) H) rfl rfl (by omega) (Nat.le_of_ble_eq_true rfl) ?_
  refine ag_iload_n dd_Formula_take_4 rfl ?_
  refine ag_icmp_ne (tgt := 21) dd_Formula_take_5 (by decide) (by omega) (by omega) (fun c1 => ?_) (fun c1 => ?_)
  · refine ag_aload_n dd_Formula_take_21 rfl ?_
    refine ag_iconst dd_Formula_take_22 ?_
    refine ag_wV dd_Formula_take_23 fi_Formula_117 hc rfl (mc_Formula_stop (d := 0) (by omega) H (k := 1) (by omega)) rfl rfl (by omega) (Nat.le_of_ble_eq_true rfl) (fun r1 h hP => ?_)
    obtain ⟨rfl, H2, hfe⟩ := hP
    refine ag_vret dd_Formula_take_26 rfl ?_
    obtain ⟨ha2, a2, ft2, pl2, hc2, hss2⟩ := H2
    refine ⟨rfl, hfe, (a2 : Int), ft2, pl2, hc2, ?_⟩
    cases s with
    | inr e =>
      have : (0 : Int) ≠ 0 := by assumption
      exact absurd rfl this
    | inl r =>
      have hx2 : pr_h r ≠ 0 := by assumption
      show if pr_h r = 0 then _ else _
      rw [if_neg hx2]
      exact ⟨hss2.1, hss2.2.2.1⟩
  · refine ag_aload_n dd_Formula_take_8 rfl ?_
    refine ag_dup dd_Formula_take_9 rfl ?_
    refine ag_get dd_Formula_take_10 fg_Formula_67 hc rfl ?_
    refine ag_iconst dd_Formula_take_13 ?_
    refine ag_iadd dd_Formula_take_14 ?_
    refine hp_i dd_Formula_take_15 fp_Formula_67 hc (Nat.le_of_ble_eq_true rfl) (fun h huN => ?_)
    have hu1 := huN
    clear huN
    refine ag_goto (tgt := 26) dd_Formula_take_18 (by decide) ?_
    refine ag_vret dd_Formula_take_26 rfl ?_
    refine ⟨rfl, fe_hu hu1, (a : Int) + 1, ft, pl, hu1.2.1, ?_⟩
    cases s with
    | inr e => exact ⟨hss.1, hss.2.2.1⟩
    | inl r =>
      have hx2 : pr_h r = 0 := by assumption
      show if pr_h r = 0 then _ else _
      rw [if_pos hx2]
      exact ⟨hss.1, hss.2.1⟩
def tl_ (E : en_T) (x : pr_T) (v ft pl : Int) : Prop := match x with
  | .inl q => ft = 0 ∧ pl = -1 ∧ vl_ (ef_ E) q.1 v
  | .inr e => ft = e.1 ∧ pl = e.2
set_option maxHeartbeats 1000000 in
theorem mc_Formula_tell {w : aw_T} {h : ah_T} {d : Nat} (hd : 39 ≤ d) {F : Nat} {ts : List tk_T} (ha : fa_ h F ts) {v3 v4 v5 v6 v7 v8 v9 v10 : av_T} (hc : h[F]? = some (ac_o 5 [av_r (F + 1), av_r (F + 2), av_i (ts.length : Int), v3, v4, v5, v6, v7, v8, v9, v10])) {t s m b h5 : Int} (hE : eb_ (t, s, m, b, h5)) : am_M w mm_Formula_tell d [av_r F, av_i t, av_i s, av_i m, av_i b, av_i h5] h 0 0 (fun r1 h1 => ∃ v, r1 = some (av_i v) ∧ iv_b v ∧ fe_ h h1 F ∧ ∃ a ft pl, h1[F]? = some (fx_ F ts.length (t, s, m, b, h5) a ft pl) ∧ tl_ (t, s, m, b, h5) (pr_all ts) v ft pl) := by
  refine am_intro [some (av_r (F)), some (av_i (t)), some (av_i (s)), some (av_i (m)), some (av_i (b)), some (av_i (h5)), none] (by decide +kernel) (Nat.le_of_ble_eq_true rfl) rfl ?_
  refine ag_aload_n dd_Formula_tell_0 rfl ?_
  refine ag_iload_n dd_Formula_tell_1 rfl ?_
  refine hp_i dd_Formula_tell_2 fp_Formula_52 hc (Nat.le_of_ble_eq_true rfl) (fun h huN => ?_)
  have hu1 := huN
  clear huN
  refine ag_aload_n dd_Formula_tell_5 rfl ?_
  refine ag_iload_n dd_Formula_tell_6 rfl ?_
  refine hp_i dd_Formula_tell_7 fp_Formula_55 hu1.2.1 (Nat.le_of_ble_eq_true rfl) (fun h huN => ?_)
  replace hu1 := hu_tr hu1 huN
  clear huN
  refine ag_aload_n dd_Formula_tell_10 rfl ?_
  refine ag_iload_n dd_Formula_tell_11 rfl ?_
  refine hp_i dd_Formula_tell_12 fp_Formula_58 hu1.2.1 (Nat.le_of_ble_eq_true rfl) (fun h huN => ?_)
  replace hu1 := hu_tr hu1 huN
  clear huN
  refine ag_aload_n dd_Formula_tell_15 rfl ?_
  refine ag_iload dd_Formula_tell_16 rfl ?_
  refine hp_i dd_Formula_tell_18 fp_Formula_61 hu1.2.1 (Nat.le_of_ble_eq_true rfl) (fun h huN => ?_)
  replace hu1 := hu_tr hu1 huN
  clear huN
  refine ag_aload_n dd_Formula_tell_21 rfl ?_
  refine ag_iload dd_Formula_tell_22 rfl ?_
  refine hp_i dd_Formula_tell_24 fp_Formula_64 hu1.2.1 (Nat.le_of_ble_eq_true rfl) (fun h huN => ?_)
  replace hu1 := hu_tr hu1 huN
  clear huN
  refine ag_aload_n dd_Formula_tell_27 rfl ?_
  refine ag_iconst dd_Formula_tell_28 ?_
  refine hp_i dd_Formula_tell_29 fp_Formula_67 hu1.2.1 (Nat.le_of_ble_eq_true rfl) (fun h huN => ?_)
  replace hu1 := hu_tr hu1 huN
  clear huN
  refine ag_aload_n dd_Formula_tell_32 rfl ?_
  refine ag_iconst dd_Formula_tell_33 ?_
  refine hp_i dd_Formula_tell_34 fp_Formula_70 hu1.2.1 (Nat.le_of_ble_eq_true rfl) (fun h huN => ?_)
  replace hu1 := hu_tr hu1 huN
  clear huN
  refine ag_aload_n dd_Formula_tell_37 rfl ?_
  refine ag_iconst dd_Formula_tell_38 ?_
  refine hp_i dd_Formula_tell_39 fp_Formula_73 hu1.2.1 (Nat.le_of_ble_eq_true rfl) (fun h huN => ?_)
  replace hu1 := hu_tr hu1 huN
  clear huN
  refine ag_aload_n dd_Formula_tell_42 rfl ?_
  refine ag_iconst dd_Formula_tell_43 ?_
  have H : FS_ h F ts (t, s, m, b, h5) (.inl ts) := ⟨fa_fe ha (fe_hu hu1), 0, 0, -1, hu1.2.1, ⟨rfl, rfl, Nat.zero_le _, rfl⟩⟩
  refine ag_wV dd_Formula_tell_44 fi_Formula_76 hu1.2.1 rfl (C1_sum (C1_all w 8 (Nat.le_refl 8)) h F ts (t, s, m, b, h5) (.inl ts) H hE) rfl rfl (by omega) (Nat.le_of_ble_eq_true rfl) (fun r1 h hP => ?_)
  obtain ⟨v, rfl, hPQ, hfeS⟩ := hP
  replace hPQ : PQ_ h F ts (t, s, m, b, h5) (pr_sm (pr_one 8) ts) v := hPQ
  have HQ := PQ_fs hPQ
  refine ag_istore (L' := [some (av_r (F)), some (av_i (t)), some (av_i (s)), some (av_i (m)), some (av_i (b)), some (av_i (h5)), some (av_i (v))]) dd_Formula_tell_47 rfl rfl (by decide) ?_
  refine ag_aload_n dd_Formula_tell_49 rfl ?_
  refine ag_iconst dd_Formula_tell_50 ?_
  refine ag_wV dd_Formula_tell_51 fi_Formula_79 HQ.2.choose_spec.choose_spec.choose_spec.1 rfl (mc_Formula_takeE (d := 1) (by omega) HQ) rfl rfl (by omega) (Nat.le_of_ble_eq_true rfl) (fun r1 h hP => ?_)
  obtain ⟨rfl, hfeT, a2, ft2, pl2, hc2, hte⟩ := hP
  refine ag_iload dd_Formula_tell_54 rfl ?_
  refine ag_iret dd_Formula_tell_56 rfl ?_
  refine ⟨v, rfl, hPQ.1, fe_tr (fe_hu hu1) (fe_tr hfeS hfeT), a2, ft2, pl2, hc2, ?_⟩
  unfold pr_all
  cases hq : pr_sm (pr_one 8) ts with
  | inr e =>
    rw [hq] at hte
    exact hte
  | inl q =>
    obtain ⟨c, r⟩ := q
    rw [hq] at hte hPQ
    rw [pr_b_l]
    unfold pr_tk
    replace hte : if pr_h r = 0 then ft2 = 0 ∧ pl2 = -1 else ft2 = 1 ∧ pl2 = pr_p r := hte
    by_cases e : pr_h r = 0
    · rw [if_pos e] at hte ⊢
      exact ⟨hte.1, hte.2, hPQ.2.1⟩
    · rw [if_neg e] at hte ⊢
      exact hte
