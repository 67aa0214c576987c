/-- the text in use is the model's; the other one is there -/
def fs_ (h : ah_T) (F : Nat) : Prop := ∃ (v2 : av_T) (rest : List av_T) (tk pk : Nat → Int), rest.length = 8 ∧ h[F]? = some (ac_o 5 (av_r (F + 1) :: av_r (F + 2) :: v2 :: rest)) ∧ h[F + 1]? = some (ac_a 0 101 tk) ∧ h[F + 2]? = some (ac_a 0 101 pk)
def fm_ (h : ah_T) (S : ms_T) (G : gh_T) : Prop := (G 9 0 = 32 ∨ G 9 0 = 35) ∧ (∃ ts : List tk_T, sg_ h (G 9 0) ts ∧ ∃ r, pr_all ts = .inl (sp_code S, r)) ∧ fs_ h (67 - G 9 0)
theorem sq_get {h0 h : ah_T} {F : Nat} (hq : sq_ h0 h F) {a b c : av_T} {rest : List av_T} (h1 : h0[F]? = some (ac_o 5 (a :: b :: c :: rest))) : ∃ rest2 : List av_T, rest2.length = rest.length ∧ h[F]? = some (ac_o 5 (a :: b :: c :: rest2)) := by
  obtain ⟨fs, g1, g2, g3⟩ := hq _ h1
  match fs, g2, g3, g1 with
  | [], g2, g3, g1 => cases g3
  | [_], g2, g3, g1 => simp at g3
  | [_, _], g2, g3, g1 => simp at g3
  | x :: y :: z :: r2, g2, g3, g1 =>
    have e : [x, y, z] = [a, b, c] := g2
    injection e with e1 e2
    injection e2 with e2 e3
    injection e3 with e3 e4
    subst e1 e2 e3
    refine ⟨r2, ?_, g1⟩
    simpa using g3
theorem fm_cf {h0 h : ah_T} {S S' : ms_T} {G G' : gh_T} (hf : fm_ h0 S G) (hc : cf_ h0 h) (hS : sp_code S' = sp_code S) (hG : G' 9 0 = G 9 0) : fm_ h S' G' := by
  obtain ⟨h1, ⟨ts, ⟨⟨q1, ⟨tk, q2, q3⟩, ⟨pk, q4, q5⟩, q6⟩, rest, q7, q8⟩, r, q9⟩, v2, rest2, tk2, pk2, p1, p2, p3, p4⟩ := hf
  have hsq : ∀ F, F = 32 ∨ F = 35 → sq_ h0 h F := fun F hF => by
    rcases hF with rfl | rfl
    · exact hc.2.1
    · exact hc.2.2
  have har : ∀ F, F = 32 ∨ F = 35 → h[F + 1]? = h0[F + 1]? ∧ h[F + 2]? = h0[F + 2]? := fun F hF => ⟨hc.1 _ (by omega), hc.1 _ (by omega)⟩
  unfold fm_
  rw [hG, hS]
  have a1 := har _ h1
  have a2 := har (67 - G 9 0) (by omega)
  obtain ⟨r1, w1, w2⟩ := sq_get (hsq _ h1) q8
  obtain ⟨r2, w3, w4⟩ := sq_get (hsq (67 - G 9 0) (by omega)) p2
  exact ⟨h1, ⟨ts, ⟨⟨q1, ⟨tk, a1.1.trans q2, q3⟩, ⟨pk, a1.2.trans q4, q5⟩, q6⟩, r1, w1.trans q7, w2⟩, r, q9⟩, v2, r2, tk2, pk2, w3.trans p1, w4, a2.1.trans p3, a2.2.trans p4⟩
theorem r8 {rest : List av_T} (h : rest.length = 8) : ∃ v3 v4 v5 v6 v7 v8 v9 v10 : av_T, rest = [v3, v4, v5, v6, v7, v8, v9, v10] := by
  match rest, h with
  | [a, b, c, d, e, f, g, i], _ => exact ⟨a, b, c, d, e, f, g, i, rfl⟩
theorem co_fe {h0 h h1 : ah_T} {S : ms_T} {G : gh_T} {F : Nat} (hC : co_I h0 h S G) (hF : F = 32 ∨ F = 35) (he : fe_ h h1 F) {a b c : av_T} {r1 r2 : List av_T} (hr : r2.length = r1.length) (c1 : h[F]? = some (ac_o 5 (a :: b :: c :: r1))) (c2 : h1[F]? = some (ac_o 5 (a :: b :: c :: r2))) : co_I h0 h1 S G := by
  refine ⟨⟨by rw [he.1]; exact hC.1.1, fun k i v => ?_, hC.1.2.2⟩, cf_tr hC.2 ⟨fun x hx => he.2 x (by omega), ?_, ?_⟩⟩
  · have hne : ad_ G k i ≠ F := by
      cases k with
      | zero =>
        have h2 : i ≤ 5 ∨ i = 30 ∨ i = 31 := v
        show i ≠ F
        omega
      | succ k =>
        have := (hC.1.2.1 (k + 1) i v).2 (by omega)
        omega
    rw [he.2 _ hne]
    exact hC.1.2.1 k i v
  · rcases hF with rfl | rfl
    · intro fs hfs
      rw [c1] at hfs
      injection hfs with e
      injection e with e
      injection e with e
      injection e with e
      injection e with e e2
      subst e2
      exact ⟨_, c2, rfl, by simp [hr]⟩
    · exact sq_eq (he.2 32 (by decide))
  · rcases hF with rfl | rfl
    · exact sq_eq (he.2 35 (by decide))
    · intro fs hfs
      rw [c1] at hfs
      injection hfs with e
      injection e with e
      injection e with e
      injection e with e
      injection e with e e2
      subst e2
      exact ⟨_, c2, rfl, by simp [hr]⟩
theorem tell_pre {h : ah_T} {S : ms_T} {G : gh_T} (hfm : fm_ h S G) : ∃ (ts : List tk_T) (r : List tk_T) (v3 v4 v5 v6 v7 v8 v9 v10 : av_T), fa_ h (G 9 0) ts ∧ h[G 9 0]? = some (ac_o 5 [av_r (G 9 0 + 1), av_r (G 9 0 + 2), av_i (ts.length : Int), v3, v4, v5, v6, v7, v8, v9, v10]) ∧ pr_all ts = .inl (sp_code S, r) := by
  obtain ⟨hF, ⟨ts, ⟨ha, rest, hr, hc⟩, r, hpa⟩, hsp⟩ := hfm
  obtain ⟨v3, v4, v5, v6, v7, v8, v9, v10, rfl⟩ := r8 hr
  exact ⟨ts, r, v3, v4, v5, v6, v7, v8, v9, v10, ha, hc, hpa⟩
theorem tell_post {h0 h h1 : ah_T} {S : ms_T} {G : gh_T} (hC : co_I h0 h S G) (hfm : fm_ h S G) {ts r : List tk_T} {v3 v4 v5 v6 v7 v8 v9 v10 : av_T} (ha : fa_ h (G 9 0) ts) (hc : h[G 9 0]? = some (ac_o 5 [av_r (G 9 0 + 1), av_r (G 9 0 + 2), av_i (ts.length : Int), v3, v4, v5, v6, v7, v8, v9, v10])) (hpa : pr_all ts = .inl (sp_code S, r)) {t s m b h5 v a ft pl : Int} (hfe : fe_ h h1 (G 9 0)) (hc2 : h1[G 9 0]? = some (fx_ (G 9 0) ts.length (t, s, m, b, h5) a ft pl)) (htl : tl_ (t, s, m, b, h5) (pr_all ts) v ft pl) : v = sp_work S t s m b h5 ∧ co_I h0 h1 S G ∧ fm_ h1 S G := by
  rw [hpa] at htl
  have hF := hfm.1
  have hv : sp_work S t s m b h5 = v := vl_hd htl.2.2
  refine ⟨hv.symm, co_fe (r1 := [v3, v4, v5, v6, v7, v8, v9, v10]) (r2 := [av_i a, av_i ft, av_i pl, av_i t, av_i s, av_i m, av_i b, av_i h5]) hC hF hfe rfl hc hc2, hF, ⟨ts, ⟨fa_fe ha hfe, _, ?_, hc2⟩, r, hpa⟩, ?_⟩
  · rfl
  · obtain ⟨w2, rest2, tk2, pk2, p1, p2, p3, p4⟩ := hfm.2.2
    exact ⟨w2, rest2, tk2, pk2, p1, (hfe.2 _ (by omega)).trans p2, (hfe.2 _ (by omega)).trans p3, (hfe.2 _ (by omega)).trans p4⟩
set_option maxHeartbeats 1000000 in
theorem mc_X_tells {w : aw_T} {h0 h : ah_T} {S : ms_T} {G : gh_T} {d : Nat} (hd : 40 ≤ d) (hC : co_I h0 h S G) (hfm : fm_ h S G) {t : Int} (ht : -2147483648 ≤ t ∧ t < 2147483648) {s : Int} (hs : -2147483648 ≤ s ∧ s < 2147483648) {m : Int} (hm : -2147483648 ≤ m ∧ m < 2147483648) {b : Int} (hb : -2147483648 ≤ b ∧ b < 2147483648) {h5 : Int} (hh5 : -2147483648 ≤ h5 ∧ h5 < 2147483648) : am_M w mm_X_tells d [av_r 0, av_i t, av_i s, av_i m, av_i b, av_i h5] h 0 0 (fun r1 h1 => r1 = some (av_i (sp_tells S t s m b h5)) ∧ co_I h0 h1 S G ∧ fm_ h1 S G) := by
  refine am_intro [some (av_r 0), some (av_i (t)), some (av_i (s)), some (av_i (m)), some (av_i (b)), some (av_i (h5)), none] (by decide +kernel) (Nat.le_of_ble_eq_true rfl) rfl ?_
  refine ag_iload_n dd_X_tells_0 rfl ?_
  refine ag_rS dd_X_tells_1 fi_X_169 (mc_X_isTold (d := 1) (by omega) (by omega)) rfl rfl (by omega) (Nat.le_of_ble_eq_true rfl) ?_
  refine ag_if_eqB (tgt := 41) dd_X_tells_4 (by decide) (fun c1 => ?_) (fun c1 => ?_)
  · refine ag_iconst dd_X_tells_41 ?_
    refine ag_istore (L' := [some (av_r 0), some (av_i (t)), some (av_i (s)), some (av_i (m)), some (av_i (b)), some (av_i (h5)), some (av_i (0))]) dd_X_tells_42 rfl rfl (by decide) ?_
    refine ag_iload dd_X_tells_44 rfl ?_
    refine ag_if_eq (tgt := 66) dd_X_tells_46 (by decide) (by omega) (fun c2 => ?_) (fun c2 => ?_)
    · refine ag_ldc (a := -2000000000) dd_X_tells_66 fc_X_173 (by decide +kernel) ?_
      refine ag_iret dd_X_tells_68 rfl ?_
      refine ⟨congrArg (fun z => some (av_i z)) ?_, hC, hfm⟩
      unfold sp_tells
      first | (exfalso; omega) | rw [if_pos (by omega)] | rw [if_neg (by omega)]
    · exfalso; omega
  · refine ag_iload_n dd_X_tells_7 rfl ?_
    refine ag_rS dd_X_tells_8 fi_X_169 (mc_X_isTold (d := 1) (by omega) (by omega)) rfl rfl (by omega) (Nat.le_of_ble_eq_true rfl) ?_
    refine ag_if_eqB (tgt := 41) dd_X_tells_11 (by decide) (fun c3 => ?_) (fun c3 => ?_)
    · refine ag_iconst dd_X_tells_41 ?_
      refine ag_istore (L' := [some (av_r 0), some (av_i (t)), some (av_i (s)), some (av_i (m)), some (av_i (b)), some (av_i (h5)), some (av_i (0))]) dd_X_tells_42 rfl rfl (by decide) ?_
      refine ag_iload dd_X_tells_44 rfl ?_
      refine ag_if_eq (tgt := 66) dd_X_tells_46 (by decide) (by omega) (fun c4 => ?_) (fun c4 => ?_)
      · refine ag_ldc (a := -2000000000) dd_X_tells_66 fc_X_173 (by decide +kernel) ?_
        refine ag_iret dd_X_tells_68 rfl ?_
        refine ⟨congrArg (fun z => some (av_i z)) ?_, hC, hfm⟩
        unfold sp_tells
        first | (exfalso; omega) | rw [if_pos (by omega)] | rw [if_neg (by omega)]
      · exfalso; omega
    · refine ag_iload_n dd_X_tells_14 rfl ?_
      refine ag_rS dd_X_tells_15 fi_X_169 (mc_X_isTold (d := 1) (by omega) (by omega)) rfl rfl (by omega) (Nat.le_of_ble_eq_true rfl) ?_
      refine ag_if_eqB (tgt := 41) dd_X_tells_18 (by decide) (fun c5 => ?_) (fun c5 => ?_)
      · refine ag_iconst dd_X_tells_41 ?_
        refine ag_istore (L' := [some (av_r 0), some (av_i (t)), some (av_i (s)), some (av_i (m)), some (av_i (b)), some (av_i (h5)), some (av_i (0))]) dd_X_tells_42 rfl rfl (by decide) ?_
        refine ag_iload dd_X_tells_44 rfl ?_
        refine ag_if_eq (tgt := 66) dd_X_tells_46 (by decide) (by omega) (fun c6 => ?_) (fun c6 => ?_)
        · refine ag_ldc (a := -2000000000) dd_X_tells_66 fc_X_173 (by decide +kernel) ?_
          refine ag_iret dd_X_tells_68 rfl ?_
          refine ⟨congrArg (fun z => some (av_i z)) ?_, hC, hfm⟩
          unfold sp_tells
          first | (exfalso; omega) | rw [if_pos (by omega)] | rw [if_neg (by omega)]
        · exfalso; omega
      · refine ag_iload dd_X_tells_21 rfl ?_
        refine ag_rS dd_X_tells_23 fi_X_169 (mc_X_isTold (d := 1) (by omega) (by omega)) rfl rfl (by omega) (Nat.le_of_ble_eq_true rfl) ?_
        refine ag_if_eqB (tgt := 41) dd_X_tells_26 (by decide) (fun c7 => ?_) (fun c7 => ?_)
        · refine ag_iconst dd_X_tells_41 ?_
          refine ag_istore (L' := [some (av_r 0), some (av_i (t)), some (av_i (s)), some (av_i (m)), some (av_i (b)), some (av_i (h5)), some (av_i (0))]) dd_X_tells_42 rfl rfl (by decide) ?_
          refine ag_iload dd_X_tells_44 rfl ?_
          refine ag_if_eq (tgt := 66) dd_X_tells_46 (by decide) (by omega) (fun c8 => ?_) (fun c8 => ?_)
          · refine ag_ldc (a := -2000000000) dd_X_tells_66 fc_X_173 (by decide +kernel) ?_
            refine ag_iret dd_X_tells_68 rfl ?_
            refine ⟨congrArg (fun z => some (av_i z)) ?_, hC, hfm⟩
            unfold sp_tells
            first | (exfalso; omega) | rw [if_pos (by omega)] | rw [if_neg (by omega)]
          · exfalso; omega
        · refine ag_iload dd_X_tells_29 rfl ?_
          refine ag_rS dd_X_tells_31 fi_X_169 (mc_X_isTold (d := 1) (by omega) (by omega)) rfl rfl (by omega) (Nat.le_of_ble_eq_true rfl) ?_
          refine ag_if_eqB (tgt := 41) dd_X_tells_34 (by decide) (fun c9 => ?_) (fun c9 => ?_)
          · refine ag_iconst dd_X_tells_41 ?_
            refine ag_istore (L' := [some (av_r 0), some (av_i (t)), some (av_i (s)), some (av_i (m)), some (av_i (b)), some (av_i (h5)), some (av_i (0))]) dd_X_tells_42 rfl rfl (by decide) ?_
            refine ag_iload dd_X_tells_44 rfl ?_
            refine ag_if_eq (tgt := 66) dd_X_tells_46 (by decide) (by omega) (fun c10 => ?_) (fun c10 => ?_)
            · refine ag_ldc (a := -2000000000) dd_X_tells_66 fc_X_173 (by decide +kernel) ?_
              refine ag_iret dd_X_tells_68 rfl ?_
              refine ⟨congrArg (fun z => some (av_i z)) ?_, hC, hfm⟩
              unfold sp_tells
              first | (exfalso; omega) | rw [if_pos (by omega)] | rw [if_neg (by omega)]
            · exfalso; omega
          · refine ag_iconst dd_X_tells_37 ?_
            refine ag_goto (tgt := 42) dd_X_tells_38 (by decide) ?_
            refine ag_istore (L' := [some (av_r 0), some (av_i (t)), some (av_i (s)), some (av_i (m)), some (av_i (b)), some (av_i (h5)), some (av_i (1))]) dd_X_tells_42 rfl rfl (by decide) ?_
            refine ag_iload dd_X_tells_44 rfl ?_
            refine ag_if_eq (tgt := 66) dd_X_tells_46 (by decide) (by omega) (fun c11 => ?_) (fun c11 => ?_)
            · exfalso; omega
            · refine ag_aload_n dd_X_tells_49 rfl ?_
              refine ag_get dd_X_tells_50 fg_X_63 (cr_0 hC) rfl ?_
              refine ag_iload_n dd_X_tells_53 rfl ?_
              refine ag_iload_n dd_X_tells_54 rfl ?_
              refine ag_iload_n dd_X_tells_55 rfl ?_
              refine ag_iload dd_X_tells_56 rfl ?_
              refine ag_iload dd_X_tells_58 rfl ?_
              have hE : eb_ (t, s, m, b, h5) := by
                unfold eb_ iv_b
                dsimp only
                omega
              obtain ⟨ts, rr, v3, v4, v5, v6, v7, v8, v9, v10, hfa, hcF, hpa⟩ := tell_pre hfm
              refine ag_wV dd_X_tells_60 fi_X_159 hcF rfl (mc_Formula_tell (d := 39) (by omega) hfa hcF hE) rfl rfl (by omega) (Nat.le_of_ble_eq_true rfl) (fun r1 h hP => ?_)
              obtain ⟨v, rfl, hvb, hfe, a9, ft9, pl9, hc9, htl9⟩ := hP
              obtain ⟨rfl, hC, hfm⟩ := tell_post hC hfm hfa hcF hpa hfe hc9 htl9
              refine ag_goto (tgt := 68) dd_X_tells_63 (by decide) ?_
              refine ag_iret dd_X_tells_68 rfl ?_
              refine ⟨congrArg (fun z => some (av_i z)) ?_, hC, hfm⟩
              unfold sp_tells
              first | (exfalso; omega) | rw [if_pos (by omega)] | rw [if_neg (by omega)]
theorem cpU_47 {w : aw_T} {M : am_T} {d : Nat} {P : ap_T} {pc n : Nat} {L : al_T} {st : List av_T} {h0 h : ah_T} {kc ks : Nat} {S : ms_T} {G : gh_T} {idx : Nat} {v : Int} (hd : ad_D M pc (.putfield idx) 3 n) (hf : af_put M.1.cls M.1.name idx 10 17 .int) (hC : co_I h0 h S G) (k : ∀ (h' : ah_T) (S2 : ms_T), S2 = (ai_up S.1 47 v, S.2) → co_I h0 h' S2 G → (∀ b, b ≠ 0 → h'[b]? = h[b]?) → aw_W w M d P n L st h' kc ks) : aw_W w M d P pc L (av_i v :: av_r 0 :: st) h kc ks := by
  refine ag_puti hd hf (cr_0 hC) (Nat.le_of_ble_eq_true rfl) (k _ (ai_up S.1 47 v, S.2) rfl ⟨?_, ?_⟩ (hu_set (c := cx_0 (ai_up S.1 47 v, S.2) G) (cr_0 hC)).2.2)
  · exact co_up hC.1 (k0 := 0) (i0 := 0) (Or.inl (Nat.le_of_ble_eq_true rfl)) (hu_set (cr_0 hC)) (co_K ⟨(Or.inl (Nat.le_of_ble_eq_true rfl)), rfl, Or.inl ⟨rfl, rfl⟩⟩ ⟨(Or.inl (Nat.le_of_ble_eq_true rfl)), rfl, Or.inr rfl⟩ ⟨(Or.inl (Nat.le_of_ble_eq_true rfl)), rfl, Or.inr rfl⟩ ⟨(Or.inl (Nat.le_of_ble_eq_true rfl)), rfl, Or.inr rfl⟩ ⟨(Or.inl (Nat.le_of_ble_eq_true rfl)), rfl, Or.inr rfl⟩ ⟨(Or.inl (Nat.le_of_ble_eq_true rfl)), rfl, Or.inr rfl⟩ ⟨(Or.inr (Or.inl rfl)), rfl, Or.inr rfl⟩ ⟨(Or.inr (Or.inr rfl)), rfl, Or.inr rfl⟩ (fun i h => ⟨h, rfl, Or.inr rfl⟩) (fun i h => ⟨h, rfl, Or.inr rfl⟩) (fun i h => ⟨h, rfl, Or.inr rfl⟩) (fun i h => ⟨h, rfl, Or.inr rfl⟩))
  · exact cf_hu hC.2 (hu_set (c := cx_0 (ai_up S.1 47 v, S.2) G) (cr_0 hC)) (by decide)
theorem cpU_48 {w : aw_T} {M : am_T} {d : Nat} {P : ap_T} {pc n : Nat} {L : al_T} {st : List av_T} {h0 h : ah_T} {kc ks : Nat} {S : ms_T} {G : gh_T} {idx : Nat} {v : Int} (hd : ad_D M pc (.putfield idx) 3 n) (hf : af_put M.1.cls M.1.name idx 10 18 .int) (hC : co_I h0 h S G) (k : ∀ (h' : ah_T) (S2 : ms_T), S2 = (ai_up S.1 48 v, S.2) → co_I h0 h' S2 G → (∀ b, b ≠ 0 → h'[b]? = h[b]?) → aw_W w M d P n L st h' kc ks) : aw_W w M d P pc L (av_i v :: av_r 0 :: st) h kc ks := by
  refine ag_puti hd hf (cr_0 hC) (Nat.le_of_ble_eq_true rfl) (k _ (ai_up S.1 48 v, S.2) rfl ⟨?_, ?_⟩ (hu_set (c := cx_0 (ai_up S.1 48 v, S.2) G) (cr_0 hC)).2.2)
  · exact co_up hC.1 (k0 := 0) (i0 := 0) (Or.inl (Nat.le_of_ble_eq_true rfl)) (hu_set (cr_0 hC)) (co_K ⟨(Or.inl (Nat.le_of_ble_eq_true rfl)), rfl, Or.inl ⟨rfl, rfl⟩⟩ ⟨(Or.inl (Nat.le_of_ble_eq_true rfl)), rfl, Or.inr rfl⟩ ⟨(Or.inl (Nat.le_of_ble_eq_true rfl)), rfl, Or.inr rfl⟩ ⟨(Or.inl (Nat.le_of_ble_eq_true rfl)), rfl, Or.inr rfl⟩ ⟨(Or.inl (Nat.le_of_ble_eq_true rfl)), rfl, Or.inr rfl⟩ ⟨(Or.inl (Nat.le_of_ble_eq_true rfl)), rfl, Or.inr rfl⟩ ⟨(Or.inr (Or.inl rfl)), rfl, Or.inr rfl⟩ ⟨(Or.inr (Or.inr rfl)), rfl, Or.inr rfl⟩ (fun i h => ⟨h, rfl, Or.inr rfl⟩) (fun i h => ⟨h, rfl, Or.inr rfl⟩) (fun i h => ⟨h, rfl, Or.inr rfl⟩) (fun i h => ⟨h, rfl, Or.inr rfl⟩))
  · exact cf_hu hC.2 (hu_set (c := cx_0 (ai_up S.1 48 v, S.2) G) (cr_0 hC)) (by decide)
theorem cpU_43 {w : aw_T} {M : am_T} {d : Nat} {P : ap_T} {pc n : Nat} {L : al_T} {st : List av_T} {h0 h : ah_T} {kc ks : Nat} {S : ms_T} {G : gh_T} {idx : Nat} {v : Int} (hd : ad_D M pc (.putfield idx) 3 n) (hf : af_put M.1.cls M.1.name idx 8 1 .int) (hC : co_I h0 h S G) (k : ∀ (h' : ah_T) (S2 : ms_T), S2 = (ai_up S.1 43 v, S.2) → co_I h0 h' S2 G → (∀ b, b ≠ 30 → h'[b]? = h[b]?) → aw_W w M d P n L st h' kc ks) : aw_W w M d P pc L (av_i v :: av_r 30 :: st) h kc ks := by
  refine ag_puti hd hf (cr_30 hC) (Nat.le_of_ble_eq_true rfl) (k _ (ai_up S.1 43 v, S.2) rfl ⟨?_, ?_⟩ (hu_set (c := cx_30 (ai_up S.1 43 v, S.2)) (cr_30 hC)).2.2)
  · exact co_up hC.1 (k0 := 0) (i0 := 30) (Or.inr (Or.inl rfl)) (hu_set (cr_30 hC)) (co_K ⟨(Or.inl (Nat.le_of_ble_eq_true rfl)), rfl, Or.inr rfl⟩ ⟨(Or.inl (Nat.le_of_ble_eq_true rfl)), rfl, Or.inr rfl⟩ ⟨(Or.inl (Nat.le_of_ble_eq_true rfl)), rfl, Or.inr rfl⟩ ⟨(Or.inl (Nat.le_of_ble_eq_true rfl)), rfl, Or.inr rfl⟩ ⟨(Or.inl (Nat.le_of_ble_eq_true rfl)), rfl, Or.inr rfl⟩ ⟨(Or.inl (Nat.le_of_ble_eq_true rfl)), rfl, Or.inr rfl⟩ ⟨(Or.inr (Or.inl rfl)), rfl, Or.inl ⟨rfl, rfl⟩⟩ ⟨(Or.inr (Or.inr rfl)), rfl, Or.inr rfl⟩ (fun i h => ⟨h, rfl, Or.inr rfl⟩) (fun i h => ⟨h, rfl, Or.inr rfl⟩) (fun i h => ⟨h, rfl, Or.inr rfl⟩) (fun i h => ⟨h, rfl, Or.inr rfl⟩))
  · exact cf_hu hC.2 (hu_set (c := cx_30 (ai_up S.1 43 v, S.2)) (cr_30 hC)) (by decide)
theorem co_f3 {h0 h h1 : ah_T} {S : ms_T} {G : gh_T} {F : Nat} (hC : co_I h0 h S G) (hF : F = 32 ∨ F = 35) (he : f3_ h h1 F) : co_I h1 h1 S G := by
  refine ⟨⟨by rw [he.1]; exact hC.1.1, fun k i v => ?_, hC.1.2.2⟩, cf_rf h1⟩
  have hne : ad_ G k i ≠ F ∧ ad_ G k i ≠ F + 1 ∧ ad_ G k i ≠ F + 2 := by
    cases k with
    | zero =>
      have h2 : i ≤ 5 ∨ i = 30 ∨ i = 31 := v
      have e : ad_ G 0 i = i := rfl
      rw [e]
      omega
    | succ k =>
      have := (hC.1.2.1 (k + 1) i v).2 (by omega)
      omega
  rw [he.2 _ hne.1 hne.2.1 hne.2.2]
  exact hC.1.2.1 k i v
theorem f3_fe {h h1 : ah_T} {F : Nat} (h2 : fe_ h h1 F) : f3_ h h1 F := ⟨h2.1, fun b q _ _ => h2.2 b q⟩
theorem sg_cf {h0 h : ah_T} {F : Nat} {ts : List tk_T} (hs : sg_ h0 F ts) (hF : F = 32 ∨ F = 35) (hc : cf_ h0 h) : sg_ h F ts := by
  obtain ⟨⟨q1, ⟨tk, q2, q3⟩, ⟨pk, q4, q5⟩, q6⟩, rest, q7, q8⟩ := hs
  have hsq : sq_ h0 h F := by
    rcases hF with rfl | rfl
    · exact hc.2.1
    · exact hc.2.2
  obtain ⟨r1, w1, w2⟩ := sq_get hsq q8
  exact ⟨⟨q1, ⟨tk, (hc.1 _ (by omega)).trans q2, q3⟩, ⟨pk, (hc.1 _ (by omega)).trans q4, q5⟩, q6⟩, r1, w1.trans q7, w2⟩
theorem sg_f3 {h h1 : ah_T} {F F2 : Nat} {ts : List tk_T} (hs : sg_ h F ts) (hF : F = 32 ∨ F = 35) (hF2 : F2 = 67 - F) (hc : f3_ h h1 F2) : sg_ h1 F ts := by
  obtain ⟨⟨q1, ⟨tk, q2, q3⟩, ⟨pk, q4, q5⟩, q6⟩, rest, q7, q8⟩ := hs
  exact ⟨⟨q1, ⟨tk, (hc.2 _ (by omega) (by omega) (by omega)).trans q2, q3⟩, ⟨pk, (hc.2 _ (by omega) (by omega) (by omega)).trans q4, q5⟩, q6⟩, rest, q7, (hc.2 _ (by omega) (by omega) (by omega)).trans q8⟩
theorem sg_fs {h : ah_T} {F : Nat} {ts : List tk_T} (hs : sg_ h F ts) : fs_ h F := by
  obtain ⟨⟨q1, ⟨tk, q2, q3⟩, ⟨pk, q4, q5⟩, q6⟩, rest, q7, q8⟩ := hs
  exact ⟨_, rest, tk, pk, q7, q8, q2, q4⟩
/-- the texts change places -/
theorem co_sw {h0 h h' : ah_T} {S : ms_T} {G : gh_T} {c : ac_T} (hC : co_I h0 h S G) (hF : G 9 0 = 32 ∨ G 9 0 = 35) (hu : hu_ h h' 0 c) (hc : c = ac_o 10 [av_i (S.1 4), av_i (S.1 5), av_i (S.1 6), av_i (S.1 7), av_i (S.1 0), av_i (S.1 38), av_q (rf_ G 1 (S.1 2).toNat 0), av_q (rl_ G 1 (S.1 2).toNat), av_q (rf_ G 2 (S.1 3).toNat 0), av_q (rl_ G 2 (S.1 3).toNat), av_r 1, av_r 4, av_r 5, av_r 6, av_r 30, av_r (67 - G 9 0), av_r (G 9 0), av_i (S.1 47), av_i (S.1 48)]) : co_I h0 h' S (gi_ G 9 0 (67 - G 9 0)) := by
  have hcc : c = ce_ S (gi_ G 9 0 (67 - G 9 0)) 0 0 := by
    rw [hc]
    show _ = cx_0 S (gi_ G 9 0 (67 - G 9 0))
    unfold cx_0
    rw [gi_s, show 67 - (67 - G 9 0) = G 9 0 by omega]
    rfl
  rw [hcc] at hu
  exact ⟨co_up hC.1 (k0 := 0) (i0 := 0) (Or.inl (Nat.zero_le 5)) hu (co_K ⟨Or.inl (by decide), rfl, Or.inl ⟨rfl, rfl⟩⟩ ⟨Or.inl (by decide), rfl, Or.inr rfl⟩ ⟨Or.inl (by decide), rfl, Or.inr rfl⟩ ⟨Or.inl (by decide), rfl, Or.inr rfl⟩ ⟨Or.inl (by decide), rfl, Or.inr rfl⟩ ⟨Or.inl (by decide), rfl, Or.inr rfl⟩ ⟨Or.inr (Or.inl rfl), rfl, Or.inr rfl⟩ ⟨Or.inr (Or.inr rfl), rfl, Or.inr rfl⟩ (fun j hj => ⟨hj, rfl, Or.inr rfl⟩) (fun j hj => ⟨hj, rfl, Or.inr rfl⟩) (fun j hj => ⟨hj, rfl, Or.inr rfl⟩) (fun j hj => ⟨hj, rfl, Or.inr rfl⟩)), cf_hu hC.2 hu (by decide)⟩
/-- what a text of the class leaves: its answer, the fault and the texts -/
def xt_ (h : ah_T) (S : ms_T) (G : gh_T) (ts : List tk_T) : ap_T := fun r1 h1 => ∃ (ft pl : Int) (G2 : gh_T), co_R h1 (ai_up (ai_up (ai_up S.1 43 0) 47 ft) 48 pl, S.2) G2 ∧ (∀ a, (6 ≤ a ∧ a < 30) ∨ (38 ≤ a ∧ a < 77) → h1[a]? = h[a]?) ∧ (∀ a b, ¬ (a = 9 ∧ b = 0) → G2 a b = G a b) ∧ (G2 9 0 = 32 ∨ G2 9 0 = 35) ∧ fs_ h1 (67 - G2 9 0) ∧
  ((∃ c r, pr_all ts = .inl (c, r) ∧ r1 = some (av_i 1) ∧ ft = 0 ∧ pl = -1 ∧ sg_ h1 (G2 9 0) ts) ∨ (∃ e, pr_all ts = .inr e ∧ r1 = some (av_i 0) ∧ ft = e.1 ∧ pl = e.2 ∧ ∃ ts0, sg_ h1 (G2 9 0) ts0 ∧ ∃ r, pr_all ts0 = .inl (sp_code S, r)))
theorem lf_e {ts : List tk_T} {e : Int × Int} (h : pr_lf ts = .inr e) : 1 ≤ e.1 ∧ e.1 ≤ 3 := by
  unfold pr_lf at h
  repeat' split at h
  all_goals first | (cases h; done) | (cases h; exact ⟨by show (1 : Int) ≤ _; omega, by show (_ : Int) ≤ 3; omega⟩)
def eR_ (f : List tk_T → pr_T) : Prop := ∀ ts e, f ts = .inr e → 1 ≤ e.1 ∧ e.1 ≤ 3
theorem pr_b_inr {x : pr_T} {f : List (Int × Int) → List tk_T → pr_T} {e : Int × Int} (h : pr_b x f = .inr e) : x = .inr e ∨ ∃ c r, x = .inl (c, r) ∧ f c r = .inr e := by
  cases x with
  | inr e2 => left; exact h
  | inl q => right; exact ⟨q.1, q.2, rfl, h⟩
theorem tk_e {x : Int} {c : List (Int × Int)} {ts : List tk_T} {e : Int × Int} (h : pr_tk x c ts = .inr e) : 1 ≤ e.1 ∧ e.1 ≤ 3 := by
  unfold pr_tk at h
  split at h
  · cases h
  · cases h
    exact ⟨by show (1 : Int) ≤ 1; omega, by show (1 : Int) ≤ 3; omega⟩
theorem eR_pl {one : List tk_T → pr_T} (H : eR_ one) : ∀ (k : Nat) (c : List (Int × Int)) (ts : List tk_T) (e : Int × Int), pr_pl one k c ts = .inr e → 1 ≤ e.1 ∧ e.1 ≤ 3
  | 0, c, ts, e, h => by rw [pr_pl] at h; cases h
  | k + 1, c, ts, e, h => by
    rw [pr_pl] at h
    split at h
    · rcases pr_b_inr h with q | ⟨c2, r, q1, q2⟩
      · exact H _ _ q
      · exact eR_pl H k _ _ _ q2
    · cases h
theorem eR_pr {one : List tk_T → pr_T} (H : eR_ one) : eR_ (pr_pr one) := by
  intro ts e h
  rcases pr_b_inr h with q | ⟨c2, r, q1, q2⟩
  · exact H _ _ q
  · exact eR_pl H _ _ _ _ q2
theorem eR_sl {one : List tk_T → pr_T} (H : eR_ one) : ∀ (k : Nat) (c : List (Int × Int)) (ts : List tk_T) (e : Int × Int), pr_sl one k c ts = .inr e → 1 ≤ e.1 ∧ e.1 ≤ 3
  | 0, c, ts, e, h => by rw [pr_sl] at h; cases h
  | k + 1, c, ts, e, h => by
    rw [pr_sl] at h
    split at h
    · rcases pr_b_inr h with q | ⟨c2, r, q1, q2⟩
      · exact eR_pr H _ _ q
      · exact eR_sl H k _ _ _ q2
    · cases h
theorem eR_sm {one : List tk_T → pr_T} (H : eR_ one) : eR_ (pr_sm one) := by
  intro ts e h
  rcases pr_b_inr h with q | ⟨c2, r, q1, q2⟩
  · exact eR_pr H _ _ q
  · exact eR_sl H _ _ _ _ q2
theorem eR_one : ∀ d, eR_ (pr_one d)
  | 0 => by
    intro ts e h
    rw [pr_one] at h
    split at h
    · cases h; exact ⟨by show (1 : Int) ≤ 3; omega, by show (3 : Int) ≤ 3; omega⟩
    · split at h
      · split at h
        · cases h; exact ⟨by show (1 : Int) ≤ 3; omega, by show (3 : Int) ≤ 3; omega⟩
        · cases h; exact ⟨by show (1 : Int) ≤ 1; omega, by show (1 : Int) ≤ 3; omega⟩
      · exact lf_e h
  | d + 1 => by
    intro ts e h
    rw [pr_one] at h
    split at h
    · rcases pr_b_inr h with q | ⟨c2, r, q1, q2⟩
      · exact eR_one d _ _ q
      · cases q2
    · split at h
      · rcases pr_b_inr h with q | ⟨c2, r, q1, q2⟩
        · exact eR_sm (eR_one d) _ _ q
        · exact tk_e q2
      · split at h
        · split at h
          · unfold pr_mm at h
            rcases pr_b_inr h with q | ⟨c2, r, q1, q2⟩
            · exact eR_sm (eR_one d) _ _ q
            · rcases pr_b_inr q2 with q | ⟨c3, r3, q3, q4⟩
              · exact tk_e q
              · rcases pr_b_inr q4 with q | ⟨c4, r4, q5, q6⟩
                · exact eR_sm (eR_one d) _ _ q
                · exact tk_e q6
          · cases h; exact ⟨by show (1 : Int) ≤ 1; omega, by show (1 : Int) ≤ 3; omega⟩
        · exact lf_e h
theorem pr_all_e {ts : List tk_T} {e : Int × Int} (h : pr_all ts = .inr e) : 1 ≤ e.1 ∧ e.1 ≤ 3 := by
  rcases pr_b_inr h with q | ⟨c2, r, q1, q2⟩
  · exact eR_sm (eR_one 8) _ _ q
  · exact tk_e q2
set_option maxHeartbeats 1000000 in
theorem mc_X_text {w : aw_T} {h0 h : ah_T} {S : ms_T} {G : gh_T} {d : Nat} (hd : 40 ≤ d) (hC : co_I h0 h S G) (hfm : fm_ h S G) (htp : iv_tp S) {n : Nat} (hn : S.1 43 = (n : Int)) : am_M w mm_X_text d [av_r 0] h 0 0 (xt_ h S G (lx_ (S.2 68) n 100 0)) := by
  refine am_intro [some (av_r 0), none] (by decide +kernel) (Nat.le_of_ble_eq_true rfl) rfl ?_
  have hn100 := htp.1
  refine ag_aload_n dd_X_text_0 rfl ?_
  refine ag_get dd_X_text_1 fg_X_67 (cr_0 hC) rfl ?_
  refine ag_aload_n dd_X_text_4 rfl ?_
  refine ag_get dd_X_text_5 fg_X_56 (cr_0 hC) rfl ?_
  refine ag_get dd_X_text_8 fg_X_151 (cr_30 hC) rfl ?_
  refine ag_aload_n dd_X_text_11 rfl ?_
  refine ag_get dd_X_text_12 fg_X_56 (cr_0 hC) rfl ?_
  refine ag_get dd_X_text_15 fg_X_145 (cr_30 hC) rfl ?_
  rw [hn]
  obtain ⟨hF, ⟨ts0, hsg0, r0, hpa0⟩, v2, rest, tk, pk, hr, hcS, hT1, hP1⟩ := hfm
  refine ag_wV dd_X_text_18 fi_X_155 hcS rfl (mc_Formula_split (d := 2) (by omega) (A := 31) (by omega) (T := S.2 68) (fun i => rfl) htp.2 (cr_31 hC) (n := n) (by omega) hr hcS hT1 hP1) rfl rfl (by omega) (Nat.le_of_ble_eq_true rfl) (fun r1 h hP => ?_)
  obtain ⟨rfl, hsgN, hf3⟩ := hP
  have hC1 := co_f3 hC (F := 67 - G 9 0) (by omega) hf3
  have hsgO := sg_f3 hsg0 hF rfl hf3
  clear hC hT1 hP1 hcS
  have hC := hC1
  clear hC1
  generalize hts : lx_ (S.2 68) n 100 0 = ts at *
  refine ag_aload_n dd_X_text_21 rfl ?_
  refine ag_get dd_X_text_22 fg_X_67 (cr_0 hC) rfl ?_
  refine ag_iconst dd_X_text_25 ?_
  refine ag_iconst dd_X_text_26 ?_
  refine ag_iconst dd_X_text_27 ?_
  refine ag_iconst dd_X_text_28 ?_
  refine ag_iconst dd_X_text_29 ?_
  obtain ⟨hfa, rest, hr, hcF⟩ := hsgN
  obtain ⟨v3, v4, v5, v6, v7, v8, v9, v10, rfl⟩ := r8 hr
  refine ag_wV dd_X_text_30 fi_X_159 hcF rfl (mc_Formula_tell (d := 39) (by omega) hfa hcF (t := 0) (s := 0) (m := 0) (b := 0) (h5 := 0) ⟨z_b, z_b, z_b, z_b, z_b⟩) rfl rfl (by omega) (Nat.le_of_ble_eq_true rfl) (fun r1 h hP => ?_)
  obtain ⟨v, rfl, hvb, hfe, a9, ft9, pl9, hc9, htl9⟩ := hP
  have hC1 := co_f3 hC (F := 67 - G 9 0) (by omega) (f3_fe hfe)
  clear hC
  have hC := hC1
  clear hC1
  have hsgN : sg_ h (67 - G 9 0) ts := ⟨fa_fe hfa hfe, [av_i a9, av_i ft9, av_i pl9, av_i 0, av_i 0, av_i 0, av_i 0, av_i 0], rfl, hc9⟩
  replace hsgO := sg_f3 hsgO hF rfl (f3_fe hfe)
  have hf4 := f3_tr hf3 (f3_fe hfe)
  have hbase : ∃ h9 : ah_T, h9 = h := ⟨h, rfl⟩
  obtain ⟨h9, hh9⟩ := hbase
  rw [← hh9] at hsgN hsgO hf4
  have hcB := hc9
  have hftr : 0 ≤ ft9 ∧ ft9 ≤ 3 := by
    cases hq : pr_all ts with
    | inl q => rw [hq] at htl9; have := htl9.1; omega
    | inr e =>
      rw [hq] at htl9
      have := pr_all_e hq
      have := htl9.1
      omega
  refine ag_pop dd_X_text_33 rfl ?_
  refine ag_aload_n dd_X_text_34 rfl ?_
  refine ag_get dd_X_text_35 fg_X_56 (cr_0 hC) rfl ?_
  refine ag_iconst dd_X_text_38 ?_
  refine cpU_43 dd_X_text_39 fp_X_145 hC (fun h S1 eS1 hC hob => ?_)
  replace hcB := (hob (67 - G 9 0) (by omega)).trans hcB
  clear hob
  refine ag_aload_n dd_X_text_42 rfl ?_
  refine ag_aload_n dd_X_text_43 rfl ?_
  refine ag_get dd_X_text_44 fg_X_67 (cr_0 hC) rfl ?_
  refine ag_get dd_X_text_47 fg_X_163 hcB rfl ?_
  refine cpU_47 dd_X_text_50 fp_X_70 hC (fun h S2 eS2 hC hob => ?_)
  replace hcB := (hob (67 - G 9 0) (by omega)).trans hcB
  clear hob
  refine ag_aload_n dd_X_text_53 rfl ?_
  refine ag_aload_n dd_X_text_54 rfl ?_
  refine ag_get dd_X_text_55 fg_X_67 (cr_0 hC) rfl ?_
  refine ag_get dd_X_text_58 fg_X_166 hcB rfl ?_
  refine cpU_48 dd_X_text_61 fp_X_73 hC (fun h S3 eS3 hC hob => ?_)
  replace hcB := (hob (67 - G 9 0) (by omega)).trans hcB
  clear hob
  have eS : S3 = (ai_up (ai_up (ai_up S.1 43 0) 47 ft9) 48 pl9, S.2) := by subst_vars; rfl
  have q47 : S3.1 47 = ft9 := by rw [eS]; rfl
  refine ag_aload_n dd_X_text_64 rfl ?_
  refine ag_get dd_X_text_65 fg_X_70 (cr_0 hC) rfl ?_
  refine ag_if_eq (tgt := 73) dd_X_text_68 (by decide) (by omega) (fun c4 => ?_) (fun c4 => ?_)
  · refine ag_aload_n dd_X_text_73 rfl ?_
    refine ag_get dd_X_text_74 fg_X_63 (cr_0 hC) rfl ?_
    refine ag_astore_n (L' := [some (av_r 0), some (av_r ((G 9 0)))]) dd_X_text_77 rfl rfl (by decide) ?_
    refine ag_aload_n dd_X_text_78 rfl ?_
    refine ag_aload_n dd_X_text_79 rfl ?_
    refine ag_get dd_X_text_80 fg_X_67 (cr_0 hC) rfl ?_
    refine hp_o dd_X_text_83 fp_X_63 (cr_0 hC) (Nat.le_of_ble_eq_true rfl) (fun h huN => ?_)
    have hu1 := huN
    clear huN
    refine ag_aload_n dd_X_text_86 rfl ?_
    refine ag_aload_n dd_X_text_87 rfl ?_
    refine hp_o dd_X_text_88 fp_X_67 hu1.2.1 (Nat.le_of_ble_eq_true rfl) (fun h huN => ?_)
    replace hu1 := hu_tr hu1 huN
    clear huN
    refine ag_iconst dd_X_text_91 ?_
    refine ag_zret dd_X_text_92 rfl (by first | exact Or.inl rfl | exact Or.inr rfl | omega) ?_
    have hC2 := co_sw hC hF hu1 rfl
    rw [eS] at hC2
    have hcf := hC2.2
    rw [← hh9] at hcf
    refine ⟨ft9, pl9, gi_ G 9 0 (67 - G 9 0), hC2.1, fun x hx => ?_, fun a b q => gi_n G q, ?_, ?_, Or.inl ?_⟩
    · rw [hcf.1 x (by omega), hf4.2 x (by omega) (by omega) (by omega)]
    · rw [gi_s]; omega
    · rw [gi_s, show 67 - (67 - G 9 0) = G 9 0 by omega]
      exact sg_fs (sg_cf hsgO hF hcf)
    · cases hq : pr_all ts with
      | inr e =>
        rw [hq] at htl9
        have := pr_all_e hq
        have := htl9.1
        exfalso; omega
      | inl q =>
        rw [hq] at htl9
        rw [gi_s]
        exact ⟨q.1, q.2, rfl, rfl, htl9.1, htl9.2.1, sg_cf hsgN (by omega) hcf⟩
  · refine ag_iconst dd_X_text_71 ?_
    refine ag_zret dd_X_text_72 rfl (by first | exact Or.inl rfl | exact Or.inr rfl | omega) ?_
    rw [eS] at hC
    have hcf := hC.2
    rw [← hh9] at hcf
    refine ⟨ft9, pl9, G, hC.1, fun x hx => ?_, fun _ _ _ => rfl, hF, sg_fs (sg_cf hsgN (by omega) hcf), Or.inr ?_⟩
    · rw [hcf.1 x (by omega), hf4.2 x (by omega) (by omega) (by omega)]
    · cases hq : pr_all ts with
      | inl q =>
        rw [hq] at htl9
        have := htl9.1
        exfalso; omega
      | inr e =>
        rw [hq] at htl9
        exact ⟨e, rfl, rfl, htl9.1, htl9.2, ts0, sg_cf hsgO hF hcf, r0, hpa0⟩
