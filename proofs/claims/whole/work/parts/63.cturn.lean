theorem cs_66 {w : aw_T} {M : am_T} {d : Nat} {P : ap_T} {pc n : Nat} {L : al_T} {st : List av_T} {h0 h : ah_T} {kc ks : Nat} {S : ms_T} {G : gh_T} {i v : Int} (hd : ad_D M pc .iastore 1 n) (hC : co_I h0 h S G) (hi : 0 ≤ i ∧ i < 10) (k : ∀ (h : ah_T) (S2 : ms_T), S2 = (S.1, ai_up S.2 66 (ai_up (S.2 66) i.toNat v)) → co_I h0 h S2 G → aw_W w M d P n L st h kc ks) : aw_W w M d P pc L (av_i v :: av_i i :: av_r 3 :: st) h kc ks := by
  refine ag_iast hd (cr_3 hC) (by decide) hi (k _ (S.1, ai_up S.2 66 (ai_up (S.2 66) i.toNat v)) rfl ⟨?_, ?_⟩)
  · exact co_up hC.1 (k0 := 0) (i0 := 3) (Or.inl (Nat.le_of_ble_eq_true rfl)) (hu_set (cr_3 hC)) (co_K ⟨(Or.inl (Nat.le_of_ble_eq_true rfl)), rfl, Or.inr rfl⟩ ⟨(Or.inl (Nat.le_of_ble_eq_true rfl)), rfl, Or.inr rfl⟩ ⟨(Or.inl (Nat.le_of_ble_eq_true rfl)), rfl, Or.inr rfl⟩ ⟨(Or.inl (Nat.le_of_ble_eq_true rfl)), rfl, Or.inl ⟨rfl, rfl⟩⟩ ⟨(Or.inl (Nat.le_of_ble_eq_true rfl)), rfl, Or.inr rfl⟩ ⟨(Or.inl (Nat.le_of_ble_eq_true rfl)), rfl, Or.inr rfl⟩ ⟨(Or.inr (Or.inl rfl)), rfl, Or.inr rfl⟩ ⟨(Or.inr (Or.inr rfl)), rfl, Or.inr rfl⟩ (fun i h => ⟨h, rfl, Or.inr rfl⟩) (fun i h => ⟨h, rfl, Or.inr rfl⟩) (fun i h => ⟨h, rfl, Or.inr rfl⟩) (fun i h => ⟨h, rfl, Or.inr rfl⟩))
  · exact cf_hu hC.2 (hu_set (c := ac_a 0 10 (ai_up (S.2 66) i.toNat v)) (cr_3 hC)) (by decide)
theorem cs_66N {w : aw_T} {M : am_T} {d : Nat} {P : ap_T} {pc n : Nat} {L : al_T} {st : List av_T} {h0 h : ah_T} {kc ks : Nat} {S : ms_T} {G : gh_T} {i : Nat} {v : Int} (hd : ad_D M pc .iastore 1 n) (hC : co_I h0 h S G) (hi : i < 10) (k : ∀ (h : ah_T) (S2 : ms_T), S2 = (S.1, ai_up S.2 66 (ai_up (S.2 66) i v)) → co_I h0 h S2 G → aw_W w M d P n L st h kc ks) : aw_W w M d P pc L (av_i v :: av_i (i : Int) :: av_r 3 :: st) h kc ks := cs_66 hd hC (by omega) k
theorem cs_39 {w : aw_T} {M : am_T} {d : Nat} {P : ap_T} {pc n : Nat} {L : al_T} {st : List av_T} {h0 h : ah_T} {kc ks : Nat} {S : ms_T} {G : gh_T} {i v : Int} (hd : ad_D M pc .lastore 1 n) (hC : co_I h0 h S G) (hi : 0 ≤ i ∧ i < 10) (k : ∀ (h : ah_T) (S2 : ms_T), S2 = (S.1, ai_up S.2 39 (ai_up (S.2 39) i.toNat v)) → co_I h0 h S2 G → aw_W w M d P n L st h kc ks) : aw_W w M d P pc L (av_l v :: av_i i :: av_r 2 :: st) h kc ks := by
  refine ag_last hd (cr_2 hC) (by decide) hi (k _ (S.1, ai_up S.2 39 (ai_up (S.2 39) i.toNat v)) rfl ⟨?_, ?_⟩)
  · exact co_up hC.1 (k0 := 0) (i0 := 2) (Or.inl (Nat.le_of_ble_eq_true rfl)) (hu_set (cr_2 hC)) (co_K ⟨(Or.inl (Nat.le_of_ble_eq_true rfl)), rfl, Or.inr rfl⟩ ⟨(Or.inl (Nat.le_of_ble_eq_true rfl)), rfl, Or.inr rfl⟩ ⟨(Or.inl (Nat.le_of_ble_eq_true rfl)), rfl, Or.inl ⟨rfl, rfl⟩⟩ ⟨(Or.inl (Nat.le_of_ble_eq_true rfl)), rfl, Or.inr rfl⟩ ⟨(Or.inl (Nat.le_of_ble_eq_true rfl)), rfl, Or.inr rfl⟩ ⟨(Or.inl (Nat.le_of_ble_eq_true rfl)), rfl, Or.inr rfl⟩ ⟨(Or.inr (Or.inl rfl)), rfl, Or.inr rfl⟩ ⟨(Or.inr (Or.inr rfl)), rfl, Or.inr rfl⟩ (fun i h => ⟨h, rfl, Or.inr rfl⟩) (fun i h => ⟨h, rfl, Or.inr rfl⟩) (fun i h => ⟨h, rfl, Or.inr rfl⟩) (fun i h => ⟨h, rfl, Or.inr rfl⟩))
  · exact cf_hu hC.2 (hu_set (c := ac_l 10 (ai_up (S.2 39) i.toNat v)) (cr_2 hC)) (by decide)
theorem cp_s {w : aw_T} {M : am_T} {d : Nat} {P : ap_T} {pc n : Nat} {L : al_T} {st : List av_T} {h0 h : ah_T} {kc ks : Nat} {S : ms_T} {G : gh_T} {idx : Nat} {v : Int} {g : Nat} (hv : v = (g : Int)) (hd : ad_D M pc (.putfield idx) 3 n) (hf : af_put M.1.cls M.1.name idx 3 4 .int) (hC : co_I h0 h S G) (k : ∀ h : ah_T, co_I h0 h S (gi_ G 6 0 g) → aw_W w M d P n L st h kc ks) : aw_W w M d P pc L (av_i v :: av_r 1 :: st) h kc ks := by
  subst hv
  refine ag_puti hd hf (cr_1 hC) (Nat.le_of_ble_eq_true rfl) (k _ ⟨?_, ?_⟩)
  · exact co_up hC.1 (k0 := 0) (i0 := 1) (Or.inl (Nat.le_of_ble_eq_true rfl)) (hu_set (cr_1 hC)) (co_K ⟨(Or.inl (Nat.le_of_ble_eq_true rfl)), rfl, Or.inr rfl⟩ ⟨(Or.inl (Nat.le_of_ble_eq_true rfl)), rfl, Or.inl ⟨rfl, rfl⟩⟩ ⟨(Or.inl (Nat.le_of_ble_eq_true rfl)), rfl, Or.inr rfl⟩ ⟨(Or.inl (Nat.le_of_ble_eq_true rfl)), rfl, Or.inr rfl⟩ ⟨(Or.inl (Nat.le_of_ble_eq_true rfl)), rfl, Or.inr rfl⟩ ⟨(Or.inl (Nat.le_of_ble_eq_true rfl)), rfl, Or.inr rfl⟩ ⟨(Or.inr (Or.inl rfl)), rfl, Or.inr rfl⟩ ⟨(Or.inr (Or.inr rfl)), rfl, Or.inr rfl⟩ (fun i h => ⟨h, rfl, Or.inr rfl⟩) (fun i h => ⟨h, rfl, Or.inr rfl⟩) (fun i h => ⟨h, rfl, Or.inr rfl⟩) (fun i h => ⟨h, rfl, Or.inr rfl⟩))
  · exact cf_hu hC.2 (hu_set (c := cx_1 S (gi_ G 6 0 g)) (cr_1 hC)) (by decide)
/-- the turns that are settled are the order's first -/
def sr_ (S : ms_T) (G : gh_T) : Prop := (G 6 0 : Int) ≤ S.1 39 ∧ (0 ≤ S.1 39 ∧ S.1 39 ≤ 10) ∧ iv_perm (S.1 39) (S.2 66) ∧ ∀ i : Nat, (i : Int) < S.1 39 → S.2 67 (S.2 66 i).toNat = if i < G 6 0 then 1 else 0
def tn_ (S : ms_T) (G : gh_T) : Int := if (G 6 0 : Int) < S.1 39 then S.2 66 (G 6 0) else -1
theorem sr_tn {S : ms_T} {G : gh_T} (h : sr_ S G) : ∀ r k : Nat, (k : Int) + r = S.1 39 → k ≤ G 6 0 → sp_tn S r k = tn_ S G
  | 0, k, hk, hg => by
    rw [sp_tn]
    unfold tn_
    rw [if_neg (by omega)]
  | r + 1, k, hk, hg => by
    rw [sp_tn, h.2.2.2 k (by omega)]
    by_cases q : k < G 6 0
    · rw [if_pos q, if_neg (by decide)]
      exact sr_tn h r (k + 1) (by omega) (by omega)
    · rw [if_neg q, if_pos rfl]
      unfold tn_
      rw [if_pos (by omega), show G 6 0 = k by omega]
theorem sr_turn {S : ms_T} {G : gh_T} (h : sr_ S G) : sp_turn S = tn_ S G := sr_tn h _ 0 (by have := h.2.1; omega) (Nat.zero_le _)
theorem sr_settle {S : ms_T} {G : gh_T} (h : sr_ S G) (hg : (G 6 0 : Int) < S.1 39) : sr_ (sp_thr S (S.2 66 (G 6 0))) (gi_ G 6 0 (G 6 0 + 1)) := by
  obtain ⟨h1, h2, h3, h4⟩ := h
  refine ⟨?_, h2, h3, fun i hi => ?_⟩
  · rw [gi_s]
    show ((G 6 0 + 1 : Nat) : Int) ≤ S.1 39
    omega
  · have hi2 : (i : Int) < S.1 39 := hi
    rw [gi_s]
    show ai_up (S.2 67) (S.2 66 (G 6 0)).toNat 1 (S.2 66 i).toNat = _
    by_cases q : i = G 6 0
    · rw [q, ai_up_s, if_pos (by omega)]
    · have b1 := h3.1 i hi2
      have b2 := h3.1 (G 6 0) hg
      rw [ai_up_n _ _ (fun e => q (h3.2 i (G 6 0) hi2 hg (by omega))), h4 i hi2]
      by_cases q2 : i < G 6 0
      · rw [if_pos q2, if_pos (by omega)]
      · rw [if_neg q2, if_neg (by omega)]
theorem co_67 {h0 h : ah_T} {S : ms_T} {G : gh_T} (hC : co_I h0 h S G) (f : Int) : co_I h0 h (sp_thr S f) G := ⟨co_cg hC.1 (co_K ⟨(Or.inl (Nat.le_of_ble_eq_true rfl)), rfl, rfl⟩ ⟨(Or.inl (Nat.le_of_ble_eq_true rfl)), rfl, rfl⟩ ⟨(Or.inl (Nat.le_of_ble_eq_true rfl)), rfl, rfl⟩ ⟨(Or.inl (Nat.le_of_ble_eq_true rfl)), rfl, rfl⟩ ⟨(Or.inl (Nat.le_of_ble_eq_true rfl)), rfl, rfl⟩ ⟨(Or.inl (Nat.le_of_ble_eq_true rfl)), rfl, rfl⟩ ⟨(Or.inr (Or.inl rfl)), rfl, rfl⟩ ⟨(Or.inr (Or.inr rfl)), rfl, rfl⟩ (fun i h => ⟨h, rfl, rfl⟩) (fun i h => ⟨h, rfl, rfl⟩) (fun i h => ⟨h, rfl, rfl⟩) (fun i h => ⟨h, rfl, rfl⟩)), hC.2⟩
set_option maxHeartbeats 1000000 in
theorem mc_Farms_inOrder {w : aw_T} {h0 h : ah_T} {S : ms_T} {G : gh_T} {d : Nat} (hd : 1 ≤ d) (hC : co_I h0 h S G) {p : Int} (hp : -2147483648 ≤ p ∧ p < 2147483648) (h39 : 0 ≤ S.1 39 ∧ S.1 39 ≤ 10) : am_M w mm_Farms_inOrder d [av_r 1, av_i p] h 0 0 (fun r h' => r = some (av_i (if 0 ≤ p ∧ p < S.1 39 then S.2 66 p.toNat else -1)) ∧ h' = h) := by
  refine am_intro [some (av_r 1), some (av_i (p))] (by decide +kernel) (Nat.le_of_ble_eq_true rfl) rfl ?_
  refine ag_iload_n dd_Farms_inOrder_0 rfl ?_
  refine ag_iconst dd_Farms_inOrder_1 ?_
  refine ag_aload_n dd_Farms_inOrder_2 rfl ?_
  refine ag_get dd_Farms_inOrder_3 fg_Farms_23 (cr_1 hC) rfl ?_
  refine ag_iconst dd_Farms_inOrder_6 ?_
  refine ag_isub dd_Farms_inOrder_7 ?_
  refine ag_rS dd_Farms_inOrder_8 fi_Farms_30 (mc_X_isWithin (d := 0) (by omega) (by omega) (by omega)) rfl rfl (by omega) (Nat.le_of_ble_eq_true rfl) ?_
  refine ag_if_eqB (tgt := 23) dd_Farms_inOrder_11 (by decide) (fun c1 => ?_) (fun c1 => ?_)
  · refine ag_iconst dd_Farms_inOrder_23 ?_
    refine ag_iret dd_Farms_inOrder_24 rfl ?_
    refine ⟨congrArg (fun z => some (av_i z)) ?_, rfl⟩
    first | rw [if_pos (by omega)] | rw [if_neg (by omega)]
  · refine ag_aload_n dd_Farms_inOrder_14 rfl ?_
    refine ag_get dd_Farms_inOrder_15 fg_Farms_15 (cr_1 hC) rfl ?_
    refine ag_iload_n dd_Farms_inOrder_18 rfl ?_
    refine ag_iald dd_Farms_inOrder_19 (cr_3 hC) (by decide) (by omega) ?_
    refine ag_goto (tgt := 24) dd_Farms_inOrder_20 (by decide) ?_
    refine ag_iret dd_Farms_inOrder_24 rfl ?_
    refine ⟨congrArg (fun z => some (av_i z)) ?_, rfl⟩
    first | rw [if_pos (by omega)] | rw [if_neg (by omega)]
set_option maxHeartbeats 1000000 in
theorem mc_Farms_turn {w : aw_T} {h0 h : ah_T} {S : ms_T} {G : gh_T} {d : Nat} (hd : 2 ≤ d) (hC : co_I h0 h S G) (h39 : 0 ≤ S.1 39 ∧ S.1 39 ≤ 10) (hg : (G 6 0 : Int) ≤ S.1 39) : am_M w mm_Farms_turn d [av_r 1] h 0 0 (fun r h' => r = some (av_i (tn_ S G)) ∧ h' = h) := by
  refine am_intro [some (av_r 1)] (by decide +kernel) (Nat.le_of_ble_eq_true rfl) rfl ?_
  refine ag_aload_n dd_Farms_turn_0 rfl ?_
  refine ag_aload_n dd_Farms_turn_1 rfl ?_
  refine ag_get dd_Farms_turn_2 fg_Farms_26 (cr_1 hC) rfl ?_
  refine ag_rV dd_Farms_turn_5 fi_Farms_34 (cr_1 hC) rfl (mc_Farms_inOrder (d := 1) (by omega) hC (by omega) h39) rfl rfl (by omega) (Nat.le_of_ble_eq_true rfl) ?_
  refine ag_iret dd_Farms_turn_8 rfl ?_
  refine ⟨congrArg (fun z => some (av_i z)) ?_, rfl⟩
  unfold tn_
  by_cases q : (G 6 0 : Int) < S.1 39
  · rw [if_pos q, if_pos (by omega), Int.toNat_natCast]
  · rw [if_neg q, if_neg (by omega)]
set_option maxHeartbeats 1000000 in
theorem mc_Farms_settleTurn {w : aw_T} {h0 h : ah_T} {S : ms_T} {G : gh_T} {d : Nat} (hd : 0 ≤ d) (hC : co_I h0 h S G) (h39 : 0 ≤ S.1 39 ∧ S.1 39 ≤ 10) (hg : (G 6 0 : Int) ≤ S.1 39) : am_M w mm_Farms_settleTurn d [av_r 1] h 0 0 (fun r1 h1 => r1 = none ∧ co_I h0 h1 S (if (G 6 0 : Int) < S.1 39 then gi_ G 6 0 (G 6 0 + 1) else G)) := by
  refine am_intro [some (av_r 1)] (by decide +kernel) (Nat.le_of_ble_eq_true rfl) rfl ?_
  refine ag_aload_n dd_Farms_settleTurn_0 rfl ?_
  refine ag_get dd_Farms_settleTurn_1 fg_Farms_26 (cr_1 hC) rfl ?_
  refine ag_aload_n dd_Farms_settleTurn_4 rfl ?_
  refine ag_get dd_Farms_settleTurn_5 fg_Farms_23 (cr_1 hC) rfl ?_
  refine ag_icmp_ge (tgt := 21) dd_Farms_settleTurn_8 (by decide) (by omega) (by omega) (fun c1 => ?_) (fun c1 => ?_)
  · refine ag_vret dd_Farms_settleTurn_21 rfl ?_
    refine ⟨rfl, ?_⟩
    rw [if_neg (by omega)]
    exact hC
  · refine ag_aload_n dd_Farms_settleTurn_11 rfl ?_
    refine ag_dup dd_Farms_settleTurn_12 rfl ?_
    refine ag_get dd_Farms_settleTurn_13 fg_Farms_26 (cr_1 hC) rfl ?_
    refine ag_iconst dd_Farms_settleTurn_16 ?_
    refine ag_iadd dd_Farms_settleTurn_17 ?_
    refine cp_s (g := G 6 0 + 1) (by omega) dd_Farms_settleTurn_18 fp_Farms_26 hC (fun h hC => ?_)
    refine ag_vret dd_Farms_settleTurn_21 rfl ?_
    refine ⟨rfl, ?_⟩
    rw [if_pos (by omega)]
    exact hC
set_option maxHeartbeats 1000000 in
theorem mc_X_pass {w : aw_T} {h0 h : ah_T} {S : ms_T} {G : gh_T} {d : Nat} (hd : 3 ≤ d) (hC : co_I h0 h S G) (hs : sr_ S G) : am_M w mm_X_pass d [av_r 0] h 0 0 (fun r1 h1 => r1 = (sp_pass S).1 ∧ ∃ G2 : gh_T, co_I h0 h1 (sp_pass S).2 G2 ∧ (∀ a b, ¬ (a = 6 ∧ b = 0) → G2 a b = G a b) ∧ sr_ (sp_pass S).2 G2) := by
  refine am_intro [some (av_r 0)] (by decide +kernel) (Nat.le_of_ble_eq_true rfl) rfl ?_
  refine ag_aload_n dd_X_pass_0 rfl ?_
  refine ag_get dd_X_pass_1 fg_X_28 (cr_0 hC) rfl ?_
  refine ag_wV dd_X_pass_4 fi_X_118 (cr_1 hC) rfl (mc_Farms_settleTurn (d := 0) (by omega) hC hs.2.1 hs.1) rfl rfl (by omega) (Nat.le_of_ble_eq_true rfl) (fun r1 h hP => ?_)
  obtain ⟨rfl, hC⟩ := hP
  have ht := sr_turn hs
  have hs39 := hs.2.1
  by_cases q : (G 6 0 : Int) < S.1 39
  · have hs1 := sr_settle hs q
    have ht2 : sp_turn S = S.2 66 (G 6 0) := by rw [ht]; unfold tn_; rw [if_pos q]
    have hb66 := hs.2.2.1.1 (G 6 0) q
    rw [if_pos q] at hC
    have hC1 := co_67 hC (S.2 66 (G 6 0))
    clear hC
    have hC := hC1
    clear hC1
    have hpe : (sp_pass S).2 = sp_thr S (S.2 66 (G 6 0)) := by
      unfold sp_pass
      rw [if_neg (by omega), ht2]
    generalize hS1 : sp_thr S (S.2 66 (G 6 0)) = S1 at *
    generalize hG1 : gi_ G 6 0 (G 6 0 + 1) = G1 at *
    refine ag_aload_n dd_X_pass_7 rfl ?_
    refine ag_get dd_X_pass_8 fg_X_28 (cr_0 hC) rfl ?_
    refine ag_rV dd_X_pass_11 fi_X_115 (cr_1 hC) rfl (mc_Farms_turn (d := 2) (by omega) hC hs1.2.1 hs1.1) rfl rfl (by omega) (Nat.le_of_ble_eq_true rfl) ?_
    refine ag_iret dd_X_pass_14 rfl ?_
    refine ⟨?_, G1, ?_, ?_, by rw [hpe]; exact hs1⟩
    · unfold sp_pass
      rw [if_neg (by omega), ht2, hS1, sr_turn hs1]
    · rw [hpe]
      exact hC
    · exact fun a b hab => by rw [← hG1]; exact gi_n G hab
  · rw [if_neg q] at hC
    have hs1 := hs
    refine ag_aload_n dd_X_pass_7 rfl ?_
    refine ag_get dd_X_pass_8 fg_X_28 (cr_0 hC) rfl ?_
    refine ag_rV dd_X_pass_11 fi_X_115 (cr_1 hC) rfl (mc_Farms_turn (d := 2) (by omega) hC hs1.2.1 hs1.1) rfl rfl (by omega) (Nat.le_of_ble_eq_true rfl) ?_
    refine ag_iret dd_X_pass_14 rfl ?_
    have ht2 : sp_turn S = -1 := by rw [ht]; unfold tn_; rw [if_neg q]
    refine ⟨?_, G, ?_, fun _ _ _ => rfl, ?_⟩
    · unfold sp_pass
      rw [if_pos (by omega)]
      show some (av_i (tn_ S G)) = some (av_i (-1))
      rw [← ht, ht2]
    · have hpe : (sp_pass S).2 = S := by unfold sp_pass; rw [if_pos (by omega)]
      rw [hpe]
      exact hC
    · have hpe : (sp_pass S).2 = S := by unfold sp_pass; rw [if_pos (by omega)]
      rw [hpe]
      exact hs
set_option maxHeartbeats 1000000 in
theorem mc_Farms_earnedBy {w : aw_T} {h0 h : ah_T} {S : ms_T} {G : gh_T} {d : Nat} (hd : 1 ≤ d) (hC : co_I h0 h S G) {f : Int} (hf : -2147483648 ≤ f ∧ f < 2147483648) (h1 : 0 ≤ S.1 1 ∧ S.1 1 ≤ 10) : am_M w mm_Farms_earnedBy d [av_r 1, av_i f] h 0 0 (fun r h' => r = some (av_l (sp_paid S f)) ∧ h' = h) := by
  refine am_intro [some (av_r 1), some (av_i (f))] (by decide +kernel) (Nat.le_of_ble_eq_true rfl) rfl ?_
  refine ag_iload_n dd_Farms_earnedBy_0 rfl ?_
  refine ag_iconst dd_Farms_earnedBy_1 ?_
  refine ag_aload_n dd_Farms_earnedBy_2 rfl ?_
  refine ag_get dd_Farms_earnedBy_3 fg_Farms_19 (cr_1 hC) rfl ?_
  refine ag_iconst dd_Farms_earnedBy_6 ?_
  refine ag_isub dd_Farms_earnedBy_7 ?_
  refine ag_rS dd_Farms_earnedBy_8 fi_Farms_30 (mc_X_isWithin (d := 0) (by omega) (by omega) (by omega)) rfl rfl (by omega) (Nat.le_of_ble_eq_true rfl) ?_
  refine ag_if_eqB (tgt := 23) dd_Farms_earnedBy_11 (by decide) (fun c1 => ?_) (fun c1 => ?_)
  · refine ag_lconst (a := 0) dd_Farms_earnedBy_23 (by decide +kernel) ?_
    refine ag_lret dd_Farms_earnedBy_24 rfl ?_
    refine ⟨congrArg (fun z => some (av_l z)) ?_, rfl⟩
    unfold sp_paid
    first | rw [if_pos (by omega)] | rw [if_neg (by omega)]
  · refine ag_aload_n dd_Farms_earnedBy_14 rfl ?_
    refine ag_get dd_Farms_earnedBy_15 fg_Farms_11 (cr_1 hC) rfl ?_
    refine ag_iload_n dd_Farms_earnedBy_18 rfl ?_
    refine ag_lald dd_Farms_earnedBy_19 (cr_2 hC) (by decide) (by omega) ?_
    refine ag_goto (tgt := 24) dd_Farms_earnedBy_20 (by decide) ?_
    refine ag_lret dd_Farms_earnedBy_24 rfl ?_
    refine ⟨congrArg (fun z => some (av_l z)) ?_, rfl⟩
    unfold sp_paid
    first | rw [if_pos (by omega)] | rw [if_neg (by omega)]
set_option maxHeartbeats 1000000 in
theorem mc_X_paid {w : aw_T} {h0 h : ah_T} {S : ms_T} {G : gh_T} {d : Nat} (hd : 2 ≤ d) (hC : co_I h0 h S G) {f : Int} (hf : -2147483648 ≤ f ∧ f < 2147483648) (h1 : 0 ≤ S.1 1 ∧ S.1 1 ≤ 10) : am_M w mm_X_paid d [av_r 0, av_i f] h 0 0 (fun r h' => r = some (av_l (sp_paid S f)) ∧ h' = h) := by
  refine am_intro [some (av_r 0), some (av_i (f))] (by decide +kernel) (Nat.le_of_ble_eq_true rfl) rfl ?_
  refine ag_aload_n dd_X_paid_0 rfl ?_
  refine ag_get dd_X_paid_1 fg_X_28 (cr_0 hC) rfl ?_
  refine ag_iload_n dd_X_paid_4 rfl ?_
  refine ag_rV dd_X_paid_5 fi_X_237 (cr_1 hC) rfl (mc_Farms_earnedBy (d := 1) (by omega) hC (by omega) h1) rfl rfl (by omega) (Nat.le_of_ble_eq_true rfl) ?_
  refine ag_lret dd_X_paid_8 rfl ?_
  exact ⟨rfl, rfl⟩
set_option maxHeartbeats 1000000 in
theorem mc_Farms_give {w : aw_T} {h0 h : ah_T} {S : ms_T} {G : gh_T} {d : Nat} (hd : 1 ≤ d) (hC : co_I h0 h S G) {f v : Int} (hf : 0 ≤ f ∧ f < S.1 1) (hv : -2147483648 ≤ v ∧ v < 2147483648) (h1 : 0 ≤ S.1 1 ∧ S.1 1 ≤ 10) : am_M w mm_Farms_give d [av_r 1, av_i f, av_i v] h 0 0 (cq_ h0 G (none, (S.1, ai_up S.2 39 (ai_up (S.2 39) f.toNat (S.2 39 f.toNat + v))))) := by
  refine am_intro [some (av_r 1), some (av_i (f)), some (av_i (v))] (by decide +kernel) (Nat.le_of_ble_eq_true rfl) rfl ?_
  refine ag_iload_n dd_Farms_give_0 rfl ?_
  refine ag_iconst dd_Farms_give_1 ?_
  refine ag_aload_n dd_Farms_give_2 rfl ?_
  refine ag_get dd_Farms_give_3 fg_Farms_19 (cr_1 hC) rfl ?_
  refine ag_iconst dd_Farms_give_6 ?_
  refine ag_isub dd_Farms_give_7 ?_
  refine ag_rS dd_Farms_give_8 fi_Farms_30 (mc_X_isWithin (d := 0) (by omega) (by omega) (by omega)) rfl rfl (by omega) (Nat.le_of_ble_eq_true rfl) ?_
  refine ag_if_eqB (tgt := 25) dd_Farms_give_11 (by decide) (fun c1 => ?_) (fun c1 => ?_)
  · refine ag_vret dd_Farms_give_25 rfl ?_
    exfalso; omega
  · refine ag_aload_n dd_Farms_give_14 rfl ?_
    refine ag_get dd_Farms_give_15 fg_Farms_11 (cr_1 hC) rfl ?_
    refine ag_iload_n dd_Farms_give_18 rfl ?_
    refine ag_dup2 dd_Farms_give_19 rfl rfl ?_
    refine ag_lald dd_Farms_give_20 (cr_2 hC) (by decide) (by omega) ?_
    refine ag_iload_n dd_Farms_give_21 rfl ?_
    refine ag_i2l dd_Farms_give_22 (by omega) ?_
    refine ag_ladd dd_Farms_give_23 ?_
    refine cs_39 dd_Farms_give_24 hC (by omega) (fun h S2 eS2 hC => ?_)
    refine ag_vret dd_Farms_give_25 rfl ?_
    subst_vars
    exact ⟨rfl, hC⟩
set_option maxHeartbeats 1000000 in
theorem mc_X_fault {w : aw_T} {h0 h : ah_T} {S : ms_T} {G : gh_T} {d : Nat} (hd : 0 ≤ d) (hC : co_I h0 h S G) {a : Int} (ha : -2147483648 ≤ a ∧ a < 2147483648) : am_M w mm_X_fault d [av_r 0, av_i a] h 0 0 (fun r h' => r = some (av_i (sp_fault S a)) ∧ h' = h) := by
  refine am_intro [some (av_r 0), some (av_i (a))] (by decide +kernel) (Nat.le_of_ble_eq_true rfl) rfl ?_
  refine ag_iload_n dd_X_fault_0 rfl ?_
  rcases (show (¬ a = 0 ∧ ¬ a = 1) ∨ a = 0 ∨ a = 1 by omega) with c1 | c1 | c1
  · refine ag_lookup (tgt := 38) (off := 37) dd_X_fault_1 (by omega) (by decide +kernel) (by have ⟨q0, q1⟩ := c1; simp only [Op.lookupswitch.offset_cons]; simp [Op.lookupswitch.offset, q0, Ne.symm q0, q1, Ne.symm q1]) (by decide) ?_
    refine ag_iconst dd_X_fault_38 ?_
    refine ag_iret dd_X_fault_39 rfl ?_
    refine ⟨congrArg (fun z => some (av_i z)) ?_, rfl⟩
    unfold sp_fault
    repeat (first | rw [if_pos (by omega)] | rw [if_neg (by omega)])
    try rfl
  · refine ag_lookup (tgt := 28) (off := 27) dd_X_fault_1 (by omega) (by decide +kernel) (by rw [c1]; rfl) (by decide) ?_
    refine ag_aload_n dd_X_fault_28 rfl ?_
    refine ag_get dd_X_fault_29 fg_X_70 (cr_0 hC) rfl ?_
    refine ag_iret dd_X_fault_32 rfl ?_
    refine ⟨congrArg (fun z => some (av_i z)) ?_, rfl⟩
    unfold sp_fault
    repeat (first | rw [if_pos (by omega)] | rw [if_neg (by omega)])
    try rfl
  · refine ag_lookup (tgt := 33) (off := 32) dd_X_fault_1 (by omega) (by decide +kernel) (by rw [c1]; rfl) (by decide) ?_
    refine ag_aload_n dd_X_fault_33 rfl ?_
    refine ag_get dd_X_fault_34 fg_X_73 (cr_0 hC) rfl ?_
    refine ag_iret dd_X_fault_37 rfl ?_
    refine ⟨congrArg (fun z => some (av_i z)) ?_, rfl⟩
    unfold sp_fault
    repeat (first | rw [if_pos (by omega)] | rw [if_neg (by omega)])
    try rfl
