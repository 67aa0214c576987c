theorem py_h1 {S : ms_T} (h : py_ S 0) (hI : iv_S S) : py_ (sp_h1 S) 0 := by
  unfold sp_h1
  split
  · exact h
  · exact py_it h hI.1.2.2.2.1.1 hI.1.1.1 _
theorem fb_h1 {S : ms_T} (h : fb_ S) : fb_ (sp_h1 S) := by
  unfold sp_h1
  split
  · exact h
  · exact fb_it h _
theorem py_hour {S : ms_T} (h : py_ S 0) (hI : iv_S S) (hT : iv_T S) (hc : S.1 0 ≤ 3999) : py_ (sp_hour S) 0 := by
  have i1 := iv_h1 hI hc
  have i2 := iv_h2 i1
  have i3 := iv_h3 i2
  have i4 := iv_h4 i3
  have i5 := iv_h5 i4
  have k2 := kr_h2 (sp_h1 S)
  have k3 := kr_h3 (sp_h2 (sp_h1 S))
  have k5 := kr_h5 (sp_h4 (sp_h3 (sp_h2 (sp_h1 S))))
  have p2 := py_kp (py_h1 h hI) (k2.1 3 (fun z => z)) (k2.1 0 (fun z => z)) (k2.2 62 (by omega)) (k2.2 63 (by omega))
  have p3 := py_kp p2 (k3.1 3 (by decide)) (k3.1 0 (by decide)) (k3.2 62 (by omega)) (k3.2 63 (by omega))
  have p4 : py_ (sp_h4 (sp_h3 (sp_h2 (sp_h1 S)))) 0 := py_h4 p3 i3.1.1.1 _
  have p5 := py_kp p4 (k5.1 3 (fun z => z)) (k5.1 0 (fun z => z)) (k5.2 62 (by decide)) (k5.2 63 (by decide))
  exact py_fin p5 i5 (hT.kp (kp_hh5 S))
theorem fb_hour {S : ms_T} (h : fb_ S) (hI : iv_S S) (hc : S.1 0 ≤ 3999) : fb_ (sp_hour S) := by
  have i4 := iv_h4 (iv_h3 (iv_h2 (iv_h1 hI hc)))
  have k2 := kr_h2 (sp_h1 S)
  have k3 := kr_h3 (sp_h2 (sp_h1 S))
  have k4 := kr_h4 (sp_h3 (sp_h2 (sp_h1 S)))
  have f2 := fb_kp (fb_h1 h) (k2.1 0 (fun z => z)) (k2.1 2 (fun z => z)) (k2.2 46 (by omega)) (k2.2 49 (by omega))
  have f3 := fb_kp f2 (k3.1 0 (by decide)) (k3.1 2 (by decide)) (k3.2 46 (by omega)) (k3.2 49 (by omega))
  have f4 := fb_kp f3 (k4.1 0 (by decide)) (k4.1 2 (by decide)) (k4.2 46 (by omega)) (k4.2 49 (by omega))
  exact fb_fin f4 i4.1.2.2.1.1
theorem hr_3 {S : ms_T} (hI : iv_S S) (hc : S.1 0 ≤ 3999) : (sp_hour S).1 3 = (sp_h1 S).1 3 ∧ (sp_hour S).1 36 = (sp_h3 (sp_h2 (sp_h1 S))).1 36 ∧ S.1 3 ≤ (sp_h1 S).1 3 ∧ S.1 36 ≤ (sp_h3 (sp_h2 (sp_h1 S))).1 36 := by
  have k2 := kr_h2 (sp_h1 S)
  have k3 := kr_h3 (sp_h2 (sp_h1 S))
  have k4 := kr_h4 (sp_h3 (sp_h2 (sp_h1 S)))
  have k5 := kr_h5 (sp_h4 (sp_h3 (sp_h2 (sp_h1 S))))
  have k6 := kr_h6 (sp_h5 (sp_h4 (sp_h3 (sp_h2 (sp_h1 S)))))
  have i2 := iv_h2 (iv_h1 hI hc)
  refine ⟨?_, ?_, ?_, ?_⟩
  · show (sp_h6 (sp_h5 (sp_h4 (sp_h3 (sp_h2 (sp_h1 S)))))).1 3 = _
    rw [k6.1 3 (by decide), k5.1 3 (fun z => z), k4.1 3 (by decide), k3.1 3 (by decide), k2.1 3 (fun z => z)]
  · show (sp_h6 (sp_h5 (sp_h4 (sp_h3 (sp_h2 (sp_h1 S)))))).1 36 = _
    rw [k6.1 36 (by decide), k5.1 36 (fun z => z), k4.1 36 (by decide)]
  · unfold sp_h1
    split
    · exact Int.le_refl _
    · exact it_cs3 S _
  · have e1 : (sp_h1 S).1 36 = S.1 36 := by
      unfold sp_h1
      split
      · rfl
      · exact (cs_it S _).2.2.2.1
    have e2 : (sp_h2 (sp_h1 S)).1 36 = S.1 36 := (k2.1 36 (fun z => z)).trans e1
    have e3 : (sp_h2 (sp_h1 S)).1 36 ≤ (sp_h3 (sp_h2 (sp_h1 S))).1 36 := by
      unfold sp_h3
      split
      · exact Int.le_refl _
      · exact ml_mono 16 _ _ i2
    omega
theorem hr_mono {S : ms_T} (hI : iv_S S) (hT : iv_T S) (hW : iv_W S) : ∀ n : Nat, S.1 0 + n ≤ 4000 → ∀ k, k ≤ n → (sp_hrN S k).1 3 ≤ (sp_hrN S n).1 3 ∧ (sp_hrN S k).1 36 ≤ (sp_hrN S n).1 36
  | 0, _, k, hk => by rw [show k = 0 by omega]; exact ⟨Int.le_refl _, Int.le_refl _⟩
  | n + 1, hn, k, hk => by
    by_cases e : k = n + 1
    · rw [e]; exact ⟨Int.le_refl _, Int.le_refl _⟩
    · have ih := hr_mono hI hT hW n (by omega) k (by omega)
      obtain ⟨i1, i2, i3, i4⟩ := iv_hrN hI hT hW n (by omega)
      have := hr_3 i1 (by omega)
      rw [sp_hrN]
      omega
theorem hr_code (S : ms_T) : ∀ n : Nat, sp_code (sp_hrN S n) = sp_code S
  | 0 => rfl
  | n + 1 => by
    rw [← hr_code S n, sp_hrN]
    have kk := kp_hh (sp_hrN S n)
    show sp_code (sp_h7 (sp_hh (sp_hrN S n))) = _
    unfold sp_code
    show (List.range (((sp_hh (sp_hrN S n)).1 44).toNat)).map (fun j => ((sp_hh (sp_hrN S n)).2 69 j, (sp_hh (sp_hrN S n)).2 70 j)) = _
    rw [kk.1 44 (by decide) (by decide) (by decide) (by decide), kk.2 69 (by omega), kk.2 70 (by omega)]
set_option maxHeartbeats 1000000 in
theorem ml_X_hours {w : aw_T} {h0 : ah_T} {S : ms_T} {G0 : gh_T} {d : Nat} (hd : 42 ≤ d) (hfm : fm_ h0 S G0) (hI : iv_S S) (hT : iv_T S) (hW : iv_W S) {n : Int} (hn : (1 ≤ n ∧ n ≤ 100) ∧ S.1 0 + n ≤ 4000) {P : ap_T} : ∀ (m k : Nat) (G : gh_T) (h : ah_T), (k : Int) + m = n → co_I h0 h (sp_hrN S k) G → tr_ (sp_hrN S k) G → br_ (sp_hrN S k) G → py_ (sp_hrN S k) 0 → fb_ (sp_hrN S k) → (∀ a b, (a ≠ 2 ∧ a ≠ 4 ∧ a ≠ 5 ∧ a ≠ 7 ∧ a ≠ 8 ∧ ¬ (a = 6 ∧ b = 1)) → G a b = G0 a b) → (∀ (h : ah_T) (G2 : gh_T), co_I h0 h (sp_hrN S n.toNat) G2 → tr_ (sp_hrN S n.toNat) G2 → br_ (sp_hrN S n.toNat) G2 → py_ (sp_hrN S n.toNat) 0 → fb_ (sp_hrN S n.toNat) → (∀ a b, (a ≠ 2 ∧ a ≠ 4 ∧ a ≠ 5 ∧ a ≠ 7 ∧ a ≠ 8 ∧ ¬ (a = 6 ∧ b = 1)) → G2 a b = G a b) → P (some (av_i (S.1 0 + n))) h) → aw_W w mm_X_hours d P 26 [some (av_r 0), some (av_i (n)), some (av_i ((k : Int)))] [] h (((sp_hrN S n.toNat).1 3 - (sp_hrN S k).1 3).toNat + ((sp_hrN S n.toNat).1 36 - (sp_hrN S k).1 36).toNat) (12 * ((sp_hrN S n.toNat).1 3 - (sp_hrN S k).1 3).toNat + 3 * ((sp_hrN S n.toNat).1 36 - (sp_hrN S k).1 36).toNat) := by
  intro m
  induction m with
  | zero =>
    intro k G h hk hC htr hbr hpy hfb hG hP
    obtain ⟨i1, i2, i3, i4⟩ := iv_hrN hI hT hW k (by omega)
    have a0 := hI.1.1
    refine ag_iload_n dd_X_hours_26 rfl ?_
    refine ag_iload_n dd_X_hours_27 rfl ?_
    refine ag_icmp_ge (tgt := 41) dd_X_hours_28 (by decide) (by omega) (by omega) (fun c1 => ?_) (fun c1 => ?_)
    · refine ag_aload_n dd_X_hours_41 rfl ?_
      refine ag_get dd_X_hours_42 fg_X_80 (cr_0 hC) rfl ?_
      refine ag_iret dd_X_hours_45 rfl ?_
      obtain rfl : k = n.toNat := by omega
      rw [i4, show S.1 0 + (n.toNat : Int) = S.1 0 + n by omega]
      exact hP h G hC htr hbr hpy hfb (fun _ _ _ => rfl)
    · exfalso; omega
  | succ m ih =>
    intro k G h hk hC htr hbr hpy hfb hG hP
    obtain ⟨i1, i2, i3, i4⟩ := iv_hrN hI hT hW k (by omega)
    have a0 := hI.1.1
    refine ag_iload_n dd_X_hours_26 rfl ?_
    refine ag_iload_n dd_X_hours_27 rfl ?_
    refine ag_icmp_ge (tgt := 41) dd_X_hours_28 (by decide) (by omega) (by omega) (fun c1 => ?_) (fun c1 => ?_)
    · exfalso; omega
    · refine ag_aload_n dd_X_hours_31 rfl ?_
      have h3 := hr_3 i1 (by omega)
      have hm := hr_mono hI hT hW n.toNat (by omega) (k + 1) (by omega)
      have hsc : sp_hrN S (k + 1) = sp_hour (sp_hrN S k) := rfl
      rw [← hsc] at h3
      refine ag_callV (mc := ((sp_h1 (sp_hrN S k)).1 3 - (sp_hrN S k).1 3).toNat + ((sp_h3 (sp_h2 (sp_h1 (sp_hrN S k)))).1 36 - (sp_hrN S k).1 36).toNat) (ms := 12 * ((sp_h1 (sp_hrN S k)).1 3 - (sp_hrN S k).1 3).toNat + 3 * ((sp_h3 (sp_h2 (sp_h1 (sp_hrN S k)))).1 36 - (sp_hrN S k).1 36).toNat) (kc' := ((sp_hrN S n.toNat).1 3 - (sp_hrN S (k + 1)).1 3).toNat + ((sp_hrN S n.toNat).1 36 - (sp_hrN S (k + 1)).1 36).toNat) (ks' := 12 * ((sp_hrN S n.toNat).1 3 - (sp_hrN S (k + 1)).1 3).toNat + 3 * ((sp_hrN S n.toNat).1 36 - (sp_hrN S (k + 1)).1 36).toNat) dd_X_hours_32 fi_X_142 (cr_0 hC) rfl (mc_X_passHour (d := 41) (by omega) hC (Sb := S) (fm_G hfm (hG 9 0 (by omega))) (hr_code S k) i1 i2 i3 hpy hfb htr hbr (by omega)) rfl rfl (by omega) (Nat.le_of_ble_eq_true rfl) (by omega) (by omega) (fun r1 h hP2 => ?_)
      obtain ⟨rfl, G2, hC1, htr2, hbr2, hg2⟩ := hP2
      rw [← hsc] at hC1 htr2 hbr2
      refine ag_iincN (Lf := fun y => [some (av_r 0), some (av_i (n)), some (av_i (y))]) dd_X_hours_35 rfl (fun _ => rfl) rfl (by decide) (fun y2 ey2 => ?_)
      refine ag_goto (tgt := 26) dd_X_hours_38 (by decide) ?_
      obtain rfl : y2 = ((k + 1 : Nat) : Int) := by omega
      exact ih (k + 1) G2 h (by omega) hC1 htr2 hbr2 (py_hour hpy i1 i2 (by omega)) (fb_hour hfb i1 (by omega)) (fun a b q => (hg2 a b q).trans (hG a b q)) (fun h G3 z1 z2 z3 z4 z5 z6 => hP h G3 z1 z2 z3 z4 z5 (fun a b q => (z6 a b q).trans (hg2 a b q)))
set_option maxHeartbeats 1000000 in
theorem mc_X_hours {w : aw_T} {h0 h : ah_T} {S : ms_T} {G : gh_T} {d : Nat} (hd : 42 ≤ d) (hC : co_I h0 h S G) (hfm : fm_ h0 S G) (hI : iv_S S) (hT : iv_T S) (hW : iv_W S) (hpy : py_ S 0) (hfb : fb_ S) (htr : tr_ S G) (hbr : br_ S G) {n : Int} (hn : -2147483648 ≤ n ∧ n < 2147483648) : am_M w mm_X_hours d [av_r 0, av_i n] h (((sp_hours S n).2.1 3 - S.1 3).toNat + ((sp_hours S n).2.1 36 - S.1 36).toNat) (12 * ((sp_hours S n).2.1 3 - S.1 3).toNat + 3 * ((sp_hours S n).2.1 36 - S.1 36).toNat) (fun r1 h1 => r1 = (sp_hours S n).1 ∧ ∃ G2 : gh_T, co_I h0 h1 (sp_hours S n).2 G2 ∧ tr_ (sp_hours S n).2 G2 ∧ br_ (sp_hours S n).2 G2 ∧ py_ (sp_hours S n).2 0 ∧ fb_ (sp_hours S n).2 ∧ (∀ a b, (a ≠ 2 ∧ a ≠ 4 ∧ a ≠ 5 ∧ a ≠ 7 ∧ a ≠ 8 ∧ ¬ (a = 6 ∧ b = 1)) → G2 a b = G a b)) := by
  refine am_intro [some (av_r 0), some (av_i (n)), none] (by decide +kernel) (Nat.le_of_ble_eq_true rfl) rfl ?_
  have a0 := hI.1.1
  refine ag_iload_n dd_X_hours_0 rfl ?_
  refine ag_iconst dd_X_hours_1 ?_
  refine ag_bipush dd_X_hours_2 (by decide +kernel) ?_
  refine ag_rS dd_X_hours_4 fi_X_76 (mc_X_isWithin (d := 0) (by omega) (by omega) (by omega)) rfl rfl (by omega) (Nat.le_of_ble_eq_true rfl) ?_
  refine ag_if_eqB (tgt := 22) dd_X_hours_7 (by decide) (fun c1 => ?_) (fun c1 => ?_)
  · refine ag_iconst dd_X_hours_22 ?_
    refine ag_iret dd_X_hours_23 rfl ?_
    have e : sp_hours S n = (some (av_i (-1)), S) := if_neg (by omega)
    rw [e]
    exact ⟨rfl, G, hC, htr, hbr, hpy, hfb, fun _ _ _ => rfl⟩
  · refine ag_aload_n dd_X_hours_10 rfl ?_
    refine ag_get dd_X_hours_11 fg_X_80 (cr_0 hC) rfl ?_
    refine ag_iload_n dd_X_hours_14 rfl ?_
    refine ag_iadd dd_X_hours_15 ?_
    refine ag_sipush dd_X_hours_16 (by decide +kernel) ?_
    refine ag_icmp_le (tgt := 24) dd_X_hours_19 (by decide) (by omega) (by omega) (fun c2 => ?_) (fun c2 => ?_)
    · refine ag_iconst dd_X_hours_24 ?_
      refine ag_istore_n (L' := [some (av_r 0), some (av_i (n)), some (av_i (0))]) dd_X_hours_25 rfl rfl (by decide) ?_
      have e : sp_hours S n = (some (av_i (S.1 0 + n)), sp_hrN S n.toNat) := if_pos (by omega)
      rw [e]
      exact ml_X_hours hd hfm hI hT hW (by omega) n.toNat 0 G h (by omega) hC htr hbr hpy hfb (fun _ _ _ => rfl) (fun h G2 z1 z2 z3 z4 z5 z6 => ⟨rfl, G2, z1, z2, z3, z4, z5, z6⟩)
    · refine ag_iconst dd_X_hours_22 ?_
      refine ag_iret dd_X_hours_23 rfl ?_
      have e : sp_hours S n = (some (av_i (-1)), S) := if_neg (by omega)
      rw [e]
      exact ⟨rfl, G, hC, htr, hbr, hpy, hfb, fun _ _ _ => rfl⟩
set_option maxHeartbeats 1000000 in
theorem mc_X_about {w : aw_T} {h0 h : ah_T} {S : ms_T} {G : gh_T} {d : Nat} (hd : 3 ≤ d) (hC : co_I h0 h S G) (hI : iv_S S) (hs : sr_ S G) (htr : tr_ S G) (hbr : br_ S G) {a : Int} (ha : -2147483648 ≤ a ∧ a < 2147483648) : am_M w mm_X_about d [av_r 0, av_i a] h 0 0 (fun r h' => r = some (av_i (sp_about S a)) ∧ h' = h) := by
  refine am_intro [some (av_r 0), some (av_i (a))] (by decide +kernel) (Nat.le_of_ble_eq_true rfl) rfl ?_
  have h2 := hI.1.2.2.1
  have h3 := hI.1.2.2.2.1
  have h39 := hs.2.1
  have h6 : 0 ≤ S.1 6 ∧ S.1 6 ≤ 9 := by have := hI.1.2.2.2.2.2.2.1; omega
  refine ag_iload_n dd_X_about_0 rfl ?_
  rcases (show (a < 0 ∨ 10 < a) ∨ a = 0 ∨ a = 1 ∨ a = 2 ∨ a = 3 ∨ a = 4 ∨ a = 5 ∨ a = 6 ∨ a = 7 ∨ a = 8 ∨ a = 9 ∨ a = 10 by omega) with c1 | c1 | c1 | c1 | c1 | c1 | c1 | c1 | c1 | c1 | c1 | c1
  · refine ag_tabOut (tgt := 127) dd_X_about_1 (by omega) c1 (by decide) ?_
    refine ag_iload_n dd_X_about_127 rfl ?_
    refine ag_bipush dd_X_about_128 (by decide +kernel) ?_
    refine ag_icmp_ge (tgt := 137) dd_X_about_130 (by decide) (by omega) (by omega) (fun c2 => ?_) (fun c2 => ?_)
    · refine ag_aload_n dd_X_about_137 rfl ?_
      refine ag_get dd_X_about_138 fg_X_28 (cr_0 hC) rfl ?_
      refine ag_iload_n dd_X_about_141 rfl ?_
      refine ag_bipush dd_X_about_142 (by decide +kernel) ?_
      refine ag_isub dd_X_about_144 ?_
      refine ag_rV dd_X_about_145 fi_X_252 (cr_1 hC) rfl (mc_Farms_inOrder (d := 1) (by omega) hC (by omega) hs.2.1) rfl rfl (by omega) (Nat.le_of_ble_eq_true rfl) ?_
      refine ag_iret dd_X_about_148 rfl ?_
      refine ⟨congrArg (fun z => some (av_i z)) ?_, rfl⟩
      unfold sp_about
      by_cases q : 20 ≤ a ∧ a < 20 + S.1 39
      · rw [if_pos q, if_pos (by omega)]
      · rw [if_neg q, if_neg (by omega)]
        repeat (first | rw [if_pos (by omega)] | rw [if_neg (by omega)])
    · refine ag_iconst dd_X_about_133 ?_
      refine ag_goto (tgt := 148) dd_X_about_134 (by decide) ?_
      refine ag_iret dd_X_about_148 rfl ?_
      refine ⟨congrArg (fun z => some (av_i z)) ?_, rfl⟩
      unfold sp_about
      repeat (first | rw [if_pos (by omega)] | rw [if_neg (by omega)])
  · refine ag_tabIn (tgt := 60) (off := 59) dd_X_about_1 (by omega) (by omega) (by omega) (by rw [c1]; rfl) (by decide) ?_
    refine ag_aload_n dd_X_about_60 rfl ?_
    refine ag_get dd_X_about_61 fg_X_80 (cr_0 hC) rfl ?_
    refine ag_iret dd_X_about_64 rfl ?_
    have hv0 := c1
    refine ⟨congrArg (fun z => some (av_i z)) ?_, rfl⟩
    unfold sp_about
    rw [if_neg (by omega), hv0]
    rfl
  · refine ag_tabIn (tgt := 65) (off := 64) dd_X_about_1 (by omega) (by omega) (by omega) (by rw [c1]; rfl) (by decide) ?_
    refine ag_aload_n dd_X_about_65 rfl ?_
    refine ag_get dd_X_about_66 fg_X_28 (cr_0 hC) rfl ?_
    refine ag_get dd_X_about_69 fg_X_87 (cr_1 hC) rfl ?_
    refine ag_iret dd_X_about_72 rfl ?_
    have hv0 := c1
    refine ⟨congrArg (fun z => some (av_i z)) ?_, rfl⟩
    unfold sp_about
    rw [if_neg (by omega), hv0]
    rfl
  · refine ag_tabIn (tgt := 73) (off := 72) dd_X_about_1 (by omega) (by omega) (by omega) (by rw [c1]; rfl) (by decide) ?_
    refine ag_aload_n dd_X_about_73 rfl ?_
    refine ag_rV dd_X_about_74 fi_X_90 (cr_0 hC) rfl (mc_X_fieldCount (d := 0) (by omega) hC h2) rfl rfl (by omega) (Nat.le_of_ble_eq_true rfl) ?_
    refine ag_iret dd_X_about_77 rfl ?_
    have hv0 := c1
    refine ⟨congrArg (fun z => some (av_i z)) ?_, rfl⟩
    unfold sp_about
    rw [if_neg (by omega), hv0]
    rfl
  · refine ag_tabIn (tgt := 78) (off := 77) dd_X_about_1 (by omega) (by omega) (by omega) (by rw [c1]; rfl) (by decide) ?_
    refine ag_aload_n dd_X_about_78 rfl ?_
    refine ag_rV dd_X_about_79 fi_X_241 (cr_0 hC) rfl (mc_X_loadCount (d := 0) (by omega) hC h3) rfl rfl (by omega) (Nat.le_of_ble_eq_true rfl) ?_
    refine ag_iret dd_X_about_82 rfl ?_
    have hv0 := c1
    refine ⟨congrArg (fun z => some (av_i z)) ?_, rfl⟩
    unfold sp_about
    rw [if_neg (by omega), hv0]
    rfl
  · refine ag_tabIn (tgt := 83) (off := 82) dd_X_about_1 (by omega) (by omega) (by omega) (by rw [c1]; rfl) (by decide) ?_
    refine ag_aload_n dd_X_about_83 rfl ?_
    refine ag_rV dd_X_about_84 fi_X_128 (cr_0 hC) rfl (mc_X_freeGangs (d := 0) (by omega) hC hI) rfl rfl (by omega) (Nat.le_of_ble_eq_true rfl) ?_
    refine ag_iret dd_X_about_87 rfl ?_
    have hv0 := c1
    refine ⟨congrArg (fun z => some (av_i z)) ?_, rfl⟩
    unfold sp_about
    rw [if_neg (by omega), hv0]
    rfl
  · refine ag_tabIn (tgt := 88) (off := 87) dd_X_about_1 (by omega) (by omega) (by omega) (by rw [c1]; rfl) (by decide) ?_
    refine ag_aload_n dd_X_about_88 rfl ?_
    refine ag_rV dd_X_about_89 fi_X_244 (cr_0 hC) rfl (mc_X_freeTrucks (d := 0) (by omega) hC hI.1 (fun l hl => (htr.2.1 l hl).2)) rfl rfl (by omega) (Nat.le_of_ble_eq_true rfl) ?_
    refine ag_iret dd_X_about_92 rfl ?_
    have hv0 := c1
    refine ⟨congrArg (fun z => some (av_i z)) ?_, rfl⟩
    unfold sp_about
    rw [if_neg (by omega), hv0]
    show S.1 6 - cl_ G (S.1 0) (S.1 3).toNat = sp_frN S (S.1 6).toNat
    exact tr_free htr h6.1
  · refine ag_tabIn (tgt := 93) (off := 92) dd_X_about_1 (by omega) (by omega) (by omega) (by rw [c1]; rfl) (by decide) ?_
    refine ag_aload_n dd_X_about_93 rfl ?_
    refine ag_get dd_X_about_94 fg_X_28 (cr_0 hC) rfl ?_
    refine ag_rV dd_X_about_97 fi_X_115 (cr_1 hC) rfl (mc_Farms_turn (d := 2) (by omega) hC hs.2.1 hs.1) rfl rfl (by omega) (Nat.le_of_ble_eq_true rfl) ?_
    refine ag_iret dd_X_about_100 rfl ?_
    have hv0 := c1
    refine ⟨congrArg (fun z => some (av_i z)) ?_, rfl⟩
    unfold sp_about
    rw [if_neg (by omega), hv0]
    show tn_ S G = sp_turn S
    exact (sr_turn hs).symm
  · refine ag_tabIn (tgt := 101) (off := 100) dd_X_about_1 (by omega) (by omega) (by omega) (by rw [c1]; rfl) (by decide) ?_
    refine ag_aload_n dd_X_about_101 rfl ?_
    refine ag_get dd_X_about_102 fg_X_42 (cr_0 hC) rfl ?_
    refine ag_rV dd_X_about_105 fi_X_247 (cr_5 hC) rfl (mc_Bundles_count (d := 0) (by omega) hC) rfl rfl (by omega) (Nat.le_of_ble_eq_true rfl) ?_
    refine ag_iret dd_X_about_108 rfl ?_
    have hv0 := c1
    refine ⟨congrArg (fun z => some (av_i z)) ?_, rfl⟩
    unfold sp_about
    rw [if_neg (by omega), hv0]
    show ((cn_ G : Nat) : Int) = S.1 36
    exact br_cn hbr
  · refine ag_tabIn (tgt := 109) (off := 108) dd_X_about_1 (by omega) (by omega) (by omega) (by rw [c1]; rfl) (by decide) ?_
    refine ag_aload_n dd_X_about_109 rfl ?_
    refine ag_rV dd_X_about_110 fi_X_249 (cr_0 hC) rfl (mc_X_tonsLost (d := 0) (by omega) hC hI.1) rfl rfl (by omega) (Nat.le_of_ble_eq_true rfl) ?_
    refine ag_iret dd_X_about_113 rfl ?_
    have hv0 := c1
    refine ⟨congrArg (fun z => some (av_i z)) ?_, rfl⟩
    unfold sp_about
    rw [if_neg (by omega), hv0]
    show fb_si (S.2 61) (S.1 3).toNat = S.1 37
    exact hI.2.2.2.2.2.2.1.symm
  · refine ag_tabIn (tgt := 114) (off := 113) dd_X_about_1 (by omega) (by omega) (by omega) (by rw [c1]; rfl) (by decide) ?_
    refine ag_aload_n dd_X_about_114 rfl ?_
    refine ag_get dd_X_about_115 fg_X_22 (cr_0 hC) rfl ?_
    refine ag_iret dd_X_about_118 rfl ?_
    have hv0 := c1
    refine ⟨congrArg (fun z => some (av_i z)) ?_, rfl⟩
    unfold sp_about
    rw [if_neg (by omega), hv0]
    rfl
  · refine ag_tabIn (tgt := 119) (off := 118) dd_X_about_1 (by omega) (by omega) (by omega) (by rw [c1]; rfl) (by decide) ?_
    refine ag_aload_n dd_X_about_119 rfl ?_
    refine ag_get dd_X_about_120 fg_X_56 (cr_0 hC) rfl ?_
    refine ag_get dd_X_about_123 fg_X_145 (cr_30 hC) rfl ?_
    refine ag_iret dd_X_about_126 rfl ?_
    have hv0 := c1
    refine ⟨congrArg (fun z => some (av_i z)) ?_, rfl⟩
    unfold sp_about
    rw [if_neg (by omega), hv0]
    rfl
