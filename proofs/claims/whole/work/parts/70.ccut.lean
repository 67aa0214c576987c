theorem sp_gn_f (S : ms_T) (f : Nat) : (sp_gn S f).1 = S.1 ∧ ∀ a, a ≠ 46 → a ≠ 47 → a ≠ 48 → (sp_gn S f).2 a = S.2 a := by
  unfold sp_gn
  split
  · exact ⟨rfl, fun a _ h47 _ => ai_up_n S.2 _ h47⟩
  · refine ⟨rfl, fun a h46 h47 h48 => ?_⟩
    show ai_up (ai_up (ai_up S.2 47 _) 46 _) 48 _ a = _
    rw [ai_up_n _ _ h48, ai_up_n _ _ h46, ai_up_n _ _ h47]
theorem sp_nl_al {S : ms_T} {f : Nat} (h : ¬ sp_dn S f < S.2 41 f) : sp_nl S f = sp_al (sp_gn S f) f := by
  have e : sp_gn S f = (S.1, ai_up (ai_up (ai_up S.2 47 (ai_up (S.2 47) f (sp_dn S f))) 46 (ai_up (S.2 46) f 2)) 48 (ai_up (S.2 48) f 0)) := if_neg h
  rw [e]
  rfl
theorem tr_kp {S S' : ms_T} {G G' : gh_T} (h : tr_ S G) (h0 : S'.1 0 = S.1 0) (h3 : S'.1 3 = S.1 3) (h6 : S'.1 6 = S.1 6) (h64 : S'.2 64 = S.2 64) (h59 : S'.2 59 = S.2 59) (hG : ∀ l, G' 5 l = G 5 l) : tr_ S' G' := by
  obtain ⟨a1, a2, a3⟩ := h
  refine ⟨fun t ht => ?_, fun l hl => ?_, fun k hk => ?_⟩
  · rw [h0] at ht
    rw [h64, h6, h3, a1 t ht, cl_ct, cl_ct]
    have : (fun j => ((G' 5 j : Nat) : Int)) = (fun j => ((G 5 j : Nat) : Int)) := funext (fun j => by rw [hG j])
    rw [this]
  · rw [h3] at hl
    rw [h59, hG l]
    exact a2 l hl
  · rw [h6] at hk
    rw [h64]
    exact a3 k hk
theorem tr_al {S : ms_T} {G : gh_T} {f N a0 : Nat} (h : tr_ S G) (hN : S.1 3 = (N : Int)) (h0 : 0 ≤ S.1 0) : tr_ (sp_al S f) (gal_ G N a0) := by
  have hNt : (S.1 3).toNat = N := by omega
  obtain ⟨hs1, hs2⟩ := sp_al_f (S := S) (f := f) hNt
  have e3 : (sp_al S f).1 3 = ((N + 1 : Nat) : Int) := by
    show S.1 3 + 1 = _
    omega
  have e64 : (sp_al S f).2 64 = S.2 64 := rfl
  obtain ⟨a1, a2, a3⟩ := h
  refine ⟨fun t ht => ?_, fun l hl => ?_, fun k hk => ?_⟩
  · rw [hs1 0 (by decide)] at ht
    rw [e64, hs1 6 (by decide), e3, Int.toNat_natCast, a1 t ht, hNt, cl_, gal_5, if_neg (by omega)]
    have : ∀ n, n ≤ N → cl_ (gal_ G N a0) t n = cl_ G t n := by
      intro n
      induction n with
      | zero => intro _; rfl
      | succ n ih =>
        intro hn
        rw [cl_, cl_, ih (by omega), gal_n G (by omega) (by omega)]
    rw [this N (Nat.le_refl _)]
    omega
  · rw [e3] at hl
    by_cases q : l = N
    · rw [q, gal_5]
      exact ⟨fun _ => rfl, by omega⟩
    · rw [gal_n G (by omega) (by omega), hs2 59 l (by omega) (by omega)]
      exact a2 l (by omega)
  · rw [hs1 6 (by decide)] at hk
    rw [e64]
    exact a3 k hk
theorem it2_cs3 : ∀ (m k : Nat) (S : ms_T), S.1 3 ≤ (it2 sp_cs S k m).1 3
  | 0, k, S => Int.le_refl _
  | m + 1, k, S => by
    rw [it2]
    have h1 := it2_cs3 m (k + 1) (sp_cs S k)
    have h2 : S.1 3 ≤ (sp_cs S k).1 3 := by
      unfold sp_cs sp_co
      split
      · split
        · exact Int.le_refl _
        · show S.1 3 ≤ S.1 3 + 1
          omega
      · exact Int.le_refl _
    omega
set_option maxHeartbeats 1000000 in
theorem ml_X_goOnCutting {w : aw_T} {h0 : ah_T} {d : Nat} (hd : 4 ≤ d) {n : Nat} {P : ap_T} : ∀ (m k : Nat) (S : ms_T) (G : gh_T) (h : ah_T), k + m = n → S.1 2 = (n : Int) → iv_S S → S.1 0 ≤ 3999 → tr_ S G → co_I h0 h S G → (∀ (h : ah_T) (G2 : gh_T), co_I h0 h (it2 sp_cs S k m) G2 → tr_ (it2 sp_cs S k m) G2 → (∀ a b, a ≠ 2 → a ≠ 5 → G2 a b = G a b) → P none h) → aw_W w mm_X_goOnCutting d P 5 [some (av_r 0), some (av_q (rf_ G 1 n k))] [] h ((it2 sp_cs S k m).1 3 - S.1 3).toNat (12 * ((it2 sp_cs S k m).1 3 - S.1 3).toNat) := by
  intro m
  induction m with
  | zero =>
    intro k S G h hk h2 hI hc htr hC hX
    rw [rf_e (by omega)]
    refine ag_aload_n dd_X_goOnCutting_5 rfl ?_
    refine ag_ifnull (tgt := 46) dd_X_goOnCutting_6 (by decide) (fun _ => ?_) (fun _ q => by cases q)
    refine ag_vret dd_X_goOnCutting_46 rfl ?_
    exact hX h G hC htr (fun _ _ _ _ => rfl)
  | succ m ih =>
    intro k S G h hk h2 hI hc htr hC hX
    have h0c := hI.1.1
    rw [rf_s (by omega)]
    have hif := (hI.2.1 k (by omega)).1
    have f46 := hif.2.2.2.2.2.2.1
    refine ag_aload_n dd_X_goOnCutting_5 rfl ?_
    refine ag_ifnull (tgt := 46) dd_X_goOnCutting_6 (by decide) (fun q => by cases q) (fun _ _ => ?_)
    refine ag_aload_n dd_X_goOnCutting_9 rfl ?_
    refine ag_get dd_X_goOnCutting_10 fg_X_125 (cr_F hC (by omega)) rfl ?_
    refine ag_iconst dd_X_goOnCutting_13 ?_
    refine ag_icmp_ne (tgt := 38) dd_X_goOnCutting_14 (by decide) (by omega) (by omega) (fun c2 => ?_) (fun c2 => ?_)
    · refine ag_aload_n dd_X_goOnCutting_38 rfl ?_
      refine ag_get dd_X_goOnCutting_39 fg_X_105 (cr_F hC (by omega)) rfl ?_
      refine ag_astore_n (L' := [some (av_r 0), some (av_q (rf_ G 1 (S.1 2).toNat (k + 1)))]) dd_X_goOnCutting_42 rfl rfl (by decide) ?_
      refine ag_goto (tgt := 5) dd_X_goOnCutting_43 (by decide) ?_
      have eS : sp_cs S k = S := if_neg (by omega)
      rw [it2, eS, show (S.1 2).toNat = n by omega]
      exact ih (k + 1) S G h (by omega) h2 hI hc htr hC (fun h G2 hC ht hg => hX h G2 (by rw [it2, eS]; exact hC) (by rw [it2, eS]; exact ht) hg)
    · refine ag_aload_n dd_X_goOnCutting_17 rfl ?_
      refine ag_aload_n dd_X_goOnCutting_18 rfl ?_
      refine ag_get dd_X_goOnCutting_19 fg_X_13 (cr_0 hC) rfl ?_
      refine ag_wV dd_X_goOnCutting_22 fi_X_290 (cr_F hC (by omega)) rfl (mc_Field_goOn (d := 1) (by omega) hC (by omega) hif hI.1.2.2.2.2.2.1) rfl rfl (by omega) (Nat.le_of_ble_eq_true rfl) (fun r1 h hP => ?_)
      obtain ⟨rfl, hC⟩ := hP
      replace hC : co_I h0 h (sp_gn S k) G := hC
      by_cases hlt : sp_dn S k < S.2 41 k
      · have eg : sp_gn S k = sp_co1 S k := if_pos hlt
        rw [eg] at hC
        have w2 : (sp_co1 S k).1 2 = S.1 2 := rfl
        have w46 : (sp_co1 S k).2 46 k = S.2 46 k := rfl
        refine ag_aload_n dd_X_goOnCutting_25 rfl ?_
        refine ag_get dd_X_goOnCutting_26 fg_X_125 (cr_F hC (by omega)) rfl ?_
        refine ag_iconst dd_X_goOnCutting_29 ?_
        refine ag_icmp_ne (tgt := 38) dd_X_goOnCutting_30 (by decide) (by omega) (by omega) (fun c3 => ?_) (fun c3 => ?_)
        · refine ag_aload_n dd_X_goOnCutting_38 rfl ?_
          refine ag_get dd_X_goOnCutting_39 fg_X_105 (cr_F hC (by omega)) rfl ?_
          refine ag_astore_n (L' := [some (av_r 0), some (av_q (rf_ G 1 ((sp_co1 S k).1 2).toNat (k + 1)))]) dd_X_goOnCutting_42 rfl rfl (by decide) ?_
          refine ag_goto (tgt := 5) dd_X_goOnCutting_43 (by decide) ?_
          have eS : sp_cs S k = sp_co1 S k := by
            unfold sp_cs sp_co
            rw [if_pos (by omega), if_pos hlt]
          have hI2 := iv_cs hI (f := k) (by omega) (by omega)
          rw [eS] at hI2
          rw [it2, eS, show ((sp_co1 S k).1 2).toNat = n by show (S.1 2).toNat = n; omega]
          exact ih (k + 1) (sp_co1 S k) G h (by omega) h2 hI2 hc (tr_kp htr rfl rfl rfl rfl rfl (fun _ => rfl)) hC (fun h G2 hC ht hg => hX h G2 (by rw [it2, eS]; exact hC) (by rw [it2, eS]; exact ht) hg)
        · exfalso; omega
      · have hgf := sp_gn_f S k
        have w2 : (sp_gn S k).1 2 = S.1 2 := by rw [hgf.1]
        have w3 : (sp_gn S k).1 3 = S.1 3 := by rw [hgf.1]
        have w0 : (sp_gn S k).1 0 = S.1 0 := by rw [hgf.1]
        have w46 : (sp_gn S k).2 46 k = 2 := by
          have eg : sp_gn S k = (S.1, ai_up (ai_up (ai_up S.2 47 (ai_up (S.2 47) k (sp_dn S k))) 46 (ai_up (S.2 46) k 2)) 48 (ai_up (S.2 48) k 0)) := if_neg hlt
          rw [eg]
          exact ai_up_s (S.2 46) k 2
        refine ag_aload_n dd_X_goOnCutting_25 rfl ?_
        refine ag_get dd_X_goOnCutting_26 fg_X_125 (cr_F hC (by omega)) rfl ?_
        refine ag_iconst dd_X_goOnCutting_29 ?_
        refine ag_icmp_ne (tgt := 38) dd_X_goOnCutting_30 (by decide) (by omega) (by omega) (fun c4 => ?_) (fun c4 => ?_)
        · exfalso; omega
        · refine ag_aload_n dd_X_goOnCutting_33 rfl ?_
          refine ag_aload_n dd_X_goOnCutting_34 rfl ?_
          have hsw : iv_sw (sp_gn S k) k := by
            unfold iv_sw
            rw [hgf.2 43 (by decide) (by decide) (by decide), hgf.2 44 (by decide) (by decide) (by decide), hgf.2 45 (by decide) (by decide) (by decide), hgf.2 49 (by decide) (by decide) (by decide), hgf.2 50 (by decide) (by decide) (by decide)]
            exact hif.sw
          have hz60 : ∀ l : Nat, (sp_gn S k).1 3 ≤ (l : Int) → (sp_gn S k).2 60 l = 0 ∧ (sp_gn S k).2 61 l = 0 := fun l hl => by
            rw [hgf.2 60 (by decide) (by decide) (by decide), hgf.2 61 (by decide) (by decide) (by decide)]
            exact hI.2.2.2.2.1 l (by omega)
          have hroom := iv_room hI (f := k) (by omega) (by omega)
          have h3 := hI.1.2.2.2.1
          obtain ⟨N, hN⟩ : ∃ N : Nat, S.1 3 = (N : Int) := ⟨(S.1 3).toNat, by omega⟩
          have eS : sp_cs S k = sp_al (sp_gn S k) k := by
            unfold sp_cs sp_co
            rw [if_pos (by omega), if_neg hlt]
            exact sp_nl_al hlt
          have hI2 := iv_cs hI (f := k) (by omega) (by omega)
          rw [eS] at hI2
          have htr2 : ∀ a0, tr_ (sp_al (sp_gn S k) k) (gal_ G N a0) := by
            have ht0 : tr_ (sp_gn S k) G := tr_kp htr w0 w3 (by rw [hgf.1]) (hgf.2 64 (by decide) (by decide) (by decide)) (hgf.2 59 (by decide) (by decide) (by decide)) (fun _ => rfl)
            exact fun a0 => tr_al ht0 (by omega) (by omega)
          have hal3 : (sp_al (sp_gn S k) k).1 3 = S.1 3 + 1 := by
            show (sp_gn S k).1 3 + 1 = _
            omega
          have hal2 : (sp_al (sp_gn S k) k).1 2 = S.1 2 := by
            show (sp_gn S k).1 2 = _
            omega
          have hal0 : (sp_al (sp_gn S k) k).1 0 = S.1 0 := by
            show (sp_gn S k).1 0 = _
            omega
          have hmono := it2_cs3 m (k + 1) (sp_al (sp_gn S k) k)
          rw [it2, eS]
          generalize hS3 : sp_al (sp_gn S k) k = S3 at *
          refine ag_callV (mc := 1) (ms := 12) (kc' := ((it2 sp_cs S3 (k + 1) m).1 3 - S3.1 3).toNat) (ks' := 12 * ((it2 sp_cs S3 (k + 1) m).1 3 - S3.1 3).toNat) dd_X_goOnCutting_35 fi_X_293 (cr_0 hC) rfl (mc_X_addLoad (d := 3) (by omega) hC (i := k) (by omega) hsw (by omega) (by omega) hz60) rfl rfl (by omega) (Nat.le_of_ble_eq_true rfl) (by omega) (by omega) (fun r1 h hP => ?_)
          obtain ⟨rfl, a0, hC⟩ := hP
          rw [show ((sp_gn S k).1 3).toNat = N by omega] at hC
          replace htr2 := htr2 a0
          rw [hS3] at hC
          refine ag_aload_n dd_X_goOnCutting_38 rfl ?_
          refine ag_get dd_X_goOnCutting_39 fg_X_105 (cr_F hC (by omega)) rfl ?_
          refine ag_astore_n (L' := [some (av_r 0), some (av_q (rf_ (gal_ G N a0) 1 (S3.1 2).toNat (k + 1)))]) dd_X_goOnCutting_42 rfl rfl (by decide) ?_
          refine ag_goto (tgt := 5) dd_X_goOnCutting_43 (by decide) ?_
          rw [show (S3.1 2).toNat = n by omega]
          exact ih (k + 1) S3 (gal_ G N a0) h (by omega) (by omega) hI2 (by omega) htr2 hC (fun h G2 hC ht hg => hX h G2 (by rw [it2, eS]; exact hC) (by rw [it2, eS]; exact ht) (fun a b q1 q2 => (hg a b q1 q2).trans (gal_n G (by omega) (by omega))))
set_option maxHeartbeats 1000000 in
theorem mc_X_goOnCutting {w : aw_T} {h0 h : ah_T} {S : ms_T} {G : gh_T} {d : Nat} (hd : 4 ≤ d) (hC : co_I h0 h S G) (hI : iv_S S) (hc : S.1 0 ≤ 3999) (htr : tr_ S G) : am_M w mm_X_goOnCutting d [av_r 0] h ((sp_it sp_cs S (S.1 2).toNat).1 3 - S.1 3).toNat (12 * ((sp_it sp_cs S (S.1 2).toNat).1 3 - S.1 3).toNat) (fun r1 h1 => r1 = none ∧ ∃ G2 : gh_T, co_I h0 h1 (sp_it sp_cs S (S.1 2).toNat) G2 ∧ tr_ (sp_it sp_cs S (S.1 2).toNat) G2 ∧ ∀ a b, a ≠ 2 → a ≠ 5 → G2 a b = G a b) := by
  refine am_intro [some (av_r 0), none] (by decide +kernel) (Nat.le_of_ble_eq_true rfl) rfl ?_
  refine ag_aload_n dd_X_goOnCutting_0 rfl ?_
  refine ag_get dd_X_goOnCutting_1 fg_X_102 (cr_0 hC) rfl ?_
  refine ag_astore_n (L' := [some (av_r 0), some (av_q (rf_ G 1 (S.1 2).toNat 0))]) dd_X_goOnCutting_4 rfl rfl (by decide) ?_
  have h2 := hI.1.2.2.1
  obtain ⟨n, hn⟩ : ∃ n : Nat, S.1 2 = (n : Int) := ⟨(S.1 2).toNat, by omega⟩
  have hnt : (S.1 2).toNat = n := by omega
  rw [hnt, ← it2_0]
  exact ml_X_goOnCutting hd n 0 S G h (by omega) hn hI hc htr hC (fun h G2 hC ht hg => ⟨rfl, G2, hC, ht, hg⟩)
