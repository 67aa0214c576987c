theorem sp_by_b (v k : Int) : 0 ≤ sp_by v k ∧ sp_by v k ≤ 255 := by
  unfold sp_by
  generalize Int32.ofInt (Int32.ofInt v >>> (Int32.ofInt k &&& 31)).toInt = x
  have e1 : (x &&& Int32.ofInt 255).toBitVec = x.toBitVec &&& (Int32.ofInt 255).toBitVec := Int32.toBitVec_and x _
  have hle : (x &&& Int32.ofInt 255).toBitVec.toNat ≤ 255 := by
    rw [e1, BitVec.toNat_and]
    exact Nat.le_trans Nat.and_le_right (by decide +kernel)
  have ht : (x &&& Int32.ofInt 255).toInt = ((x &&& Int32.ofInt 255).toBitVec.toNat : Int) := by
    show (x &&& Int32.ofInt 255).toBitVec.toInt = _
    exact BitVec.toInt_eq_toNat_of_lt (by omega)
  omega
theorem kr_tp (S : ms_T) (v k : Int) : kr_ (fun j => j = 43) (fun a => a = 68) S (sp_tp S v k) := ⟨fun j hj => ai_up_n _ _ hj, fun a ha => ai_up_n _ _ ha⟩
theorem kr_four (S : ms_T) (v : Int) : kr_ (fun j => j = 43) (fun a => a = 68) S (sp_four S v) := kr_tr (kr_tr (kr_tr (kr_tp S v 24) (kr_tp _ v 16)) (kr_tp _ v 8)) (kr_tp _ v 0)
theorem by_tp {S : ms_T} (h : ∀ i, 0 ≤ S.2 68 i ∧ S.2 68 i ≤ 255) (v k : Int) : ∀ i, 0 ≤ (sp_tp S v k).2 68 i ∧ (sp_tp S v k).2 68 i ≤ 255 := fun i => by
  have e : (sp_tp S v k).2 68 = ai_up (S.2 68) (S.1 43).toNat (sp_by v k) := rfl
  rw [e]
  by_cases c : i = (S.1 43).toNat
  · rw [c, ai_up_s]
    exact sp_by_b v k
  · rw [ai_up_n _ _ c]
    exact h i
theorem by_four {S : ms_T} (h : ∀ i, 0 ≤ S.2 68 i ∧ S.2 68 i ≤ 255) (v : Int) : ∀ i, 0 ≤ (sp_four S v).2 68 i ∧ (sp_four S v).2 68 i ≤ 255 := by_tp (by_tp (by_tp (by_tp h v 24) v 16) v 8) v 0
theorem LP_feed {S : ms_T} {G : gh_T} (h : LP_ S G) (a b c e f : Int) : LP_ (sp_feed S a b c e f).2 G := by
  unfold sp_feed
  by_cases q : 100 < S.1 43 + 20
  · rw [if_pos q]
    exact h
  · rw [if_neg q]
    have k := kr_tr (kr_tr (kr_tr (kr_tr (kr_four S a) (kr_four _ b)) (kr_four _ c)) (kr_four _ e)) (kr_four _ f)
    have h43 := h.1.2.2.2.2.1.1
    refine LP_kr h k (fun j hj z => by omega) (fun a ha z => by omega) (fun _ _ _ _ => rfl) (iv_T_kr h.1.2.1 k (by decide) (by decide) (by decide)) ⟨?_, by_four (by_four (by_four (by_four (by_four h.1.2.2.2.2.1.2 a) b) c) e) f⟩
    show 0 ≤ (sp_four (sp_four (sp_four (sp_four (sp_four S a) b) c) e) f).1 43 ∧ (sp_four (sp_four (sp_four (sp_four (sp_four S a) b) c) e) f).1 43 ≤ 100
    rw [sp_four43, sp_four43, sp_four43, sp_four43, sp_four43]
    omega
theorem LP_end {S : ms_T} {G : gh_T} (h : LP_ S G) (n : Int) : LP_ (sp_end S n).2 G := by
  unfold sp_end
  by_cases q : 0 ≤ n ∧ n ≤ S.1 43
  · rw [if_pos q]
    have k := kr_up1 S 43 n
    have h43 := h.1.2.2.2.2.1.1
    refine LP_kr h k (fun j hj z => by omega) (fun a ha z => z) (fun _ _ _ _ => rfl) (iv_T_kr h.1.2.1 k (by decide) (fun z => z) (fun z => z)) ⟨?_, h.1.2.2.2.2.1.2⟩
    show 0 ≤ n ∧ n ≤ 100
    omega
  · rw [if_neg q]
    exact h
/-- another number of settled turns -/
theorem LP_6 {S : ms_T} {G G2 : gh_T} (h : LP_ S G) (hG : ∀ a b, ¬ (a = 6 ∧ b = 0) → G2 a b = G a b) (hs : sr_ S G2) : LP_ S G2 := by
  obtain ⟨h1, h7, h8, h9, h10, h11, h12, h13⟩ := h
  have k := kr_rf (fun _ => False) (fun _ => False) S
  exact ⟨h1, hs, tr_kr h8 k (fun z => z) (fun z => z) (fun z => z) (fun z => z) (fun z => z) (fun j => hG 5 j (by omega)), br_kp h9 rfl rfl (hG 6 1 (by omega)) (fun j => hG 7 j (by omega)) (fun j => hG 8 j (by omega)), h10, h11, h12, h13⟩
theorem LP_67 {S S' : ms_T} {G G2 : gh_T} (h : LP_ S G) (k : kr_ (fun j => j = 39) (fun a => a = 66 ∨ a = 67) S S') (ho : iv_ord S') (h39 : S'.1 39 ≤ S.1 1) (hG : ∀ a b, ¬ (a = 6 ∧ b = 0) → G2 a b = G a b) (hs : sr_ S' G2) : LP_ S' G2 := by
  obtain ⟨⟨h1, h2, h3, h4, h5, h6⟩, h7, h8, h9, h10, h11, h12, h13⟩ := h
  refine ⟨⟨iv_S_kr h1 k (fun j hj => by omega) (fun a ha => by omega), iv_T_kr h2 k (by decide) (by decide) (by decide), iv_W_kr h3 k (by decide) (fun a ha => by omega), ho, iv_tp_kr h5 k (by decide) (by decide), ?_⟩, hs, tr_kr h8 k (by decide) (by decide) (by decide) (by decide) (by decide) (fun j => hG 5 j (by omega)), br_kp h9 (k.1 36 (by decide)) (k.2 65 (by decide)) (hG 6 1 (by omega)) (fun j => hG 7 j (by omega)) (fun j => hG 8 j (by omega)), py_kp h10 (k.1 3 (by decide)) (k.1 0 (by decide)) (k.2 62 (by decide)) (k.2 63 (by decide)), fb_kp h11 (k.1 0 (by decide)) (k.1 2 (by decide)) (k.2 46 (by decide)) (k.2 49 (by decide)), z5_kr h12 k (by decide) (by decide), ?_⟩
  · rw [k.1 1 (by decide)]
    exact h39
  · rw [k.1 0 (by decide), k.1 3 (by decide)]
    exact h13
theorem LP_round {S : ms_T} {G G2 : gh_T} (h : LP_ S G) (s : Int) (hG : ∀ a b, ¬ (a = 6 ∧ b = 0) → G2 a b = G a b) (hs : sr_ (sp_round S s).2 G2) : LP_ (sp_round S s).2 G2 := by
  unfold sp_round at hs ⊢
  by_cases q : S.1 1 = 0
  · rw [if_pos q] at hs ⊢
    exact LP_6 h hG hs
  · rw [if_neg q] at hs ⊢
    have h1 := h.1.1.1.2.1
    have hp := sp_rnd_perm (S := S) (by omega) s
    have k : kr_ (fun j => j = 39) (fun a => a = 66 ∨ a = 67) S (sp_rnd S s) := ⟨fun j hj => ai_up_n _ _ hj, fun a ha => by
      show ai_up (ai_up S.2 66 _) 67 _ a = _
      rw [ai_up_n _ _ (by omega), ai_up_n _ _ (by omega)]⟩
    have e39 : (sp_rnd S s).1 39 = S.1 1 := rfl
    have e67 : (sp_rnd S s).2 67 = sp_zr (S.2 67) (S.1 1).toNat := rfl
    refine LP_67 h k ⟨by rw [e39]; omega, fun i hi => ?_, fun i => ?_⟩ (by rw [e39]; exact Int.le_refl _) hG hs
    · rw [e39] at hi
      have := hp.1 i hi
      show 0 ≤ (sp_rnd S s).2 66 i ∧ (sp_rnd S s).2 66 i < 10
      omega
    · rw [e67]
      exact sp_zr_b _ h.1.2.2.2.1.2.2 _ i
theorem kr_thr (S : ms_T) (f : Int) : kr_ (fun j => j = 39) (fun a => a = 66 ∨ a = 67) S (sp_thr S f) := ⟨fun _ _ => rfl, fun a ha => ai_up_n _ _ (by omega)⟩
theorem LP_pass {S : ms_T} {G G2 : gh_T} (h : LP_ S G) (hG : ∀ a b, ¬ (a = 6 ∧ b = 0) → G2 a b = G a b) (hs : sr_ (sp_pass S).2 G2) : LP_ (sp_pass S).2 G2 := by
  unfold sp_pass at hs ⊢
  by_cases q : sp_turn S < 0
  · rw [if_pos q] at hs ⊢
    exact LP_6 h hG hs
  · rw [if_neg q] at hs ⊢
    exact LP_67 h (kr_thr S _) (iv_ord_thr h.1.2.2.2.1 _) h.1.2.2.2.2.2 hG hs
/-- a standing field is cut -/
theorem LP_ct {S : ms_T} {G : gh_T} (h : LP_ S G) {f : Nat} {g : Int} (hf : (f : Int) < S.1 2) (h46 : S.2 46 f = 0) (hg : 1 ≤ g ∧ g ≤ 9) : LP_ (sp_ct S f g) G := by
  obtain ⟨⟨h1, h2, h3, h4, h5, h6⟩, h7, h8, h9, h10, h11, h12, h13⟩ := h
  have k : kr_ (fun _ => False) (fun a => a = 46 ∨ a = 48) S (sp_ct S f g) := ⟨fun _ _ => rfl, fun a ha => by
    show ai_up (ai_up S.2 46 _) 48 _ a = _
    rw [ai_up_n _ _ (by omega), ai_up_n _ _ (by omega)]⟩
  have r46 : (sp_ct S f g).2 46 = ai_up (S.2 46) f 1 := rfl
  have r48 : (sp_ct S f g).2 48 = ai_up (S.2 48) f g := rfl
  generalize sp_ct S f g = S' at *
  have k1 := fun j => k.1 j (fun z => z)
  have k2 := fun x hx => k.2 x hx
  obtain ⟨ha, hF, hZ, hL, hb⟩ := h1
  refine ⟨⟨⟨?_, fun i hi => ?_, fun i hi => ?_, fun l hl => ?_, ?_⟩, iv_T_kr h2 k (by decide) (by decide) (by decide), iv_W_kr h3 k (by decide) (fun a ha => by omega), iv_ord_kr h4 k (by decide) (by decide) (by decide), iv_tp_kr h5 k (by decide) (by decide), ?_⟩, sr_kr h7 k (by decide) (by decide) (by decide) rfl, tr_kr h8 k (by decide) (by decide) (by decide) (by decide) (by decide) (fun _ => rfl), br_kp h9 (k1 36) (k2 65 (by decide)) rfl (fun _ => rfl) (fun _ => rfl), py_kp h10 (k1 3) (k1 0) (k2 62 (by decide)) (k2 63 (by decide)), fun i hi q46 q49 => ?_, z5_kr h12 k (by decide) (by decide), ?_⟩
  · unfold iv_a at *
    rw [k1 0, k1 1, k1 2, k1 3, k1 4, k1 5, k1 6, k1 7, k1 21]
    exact ha
  · rw [k1 2] at hi
    have hi2 := hF i hi
    unfold iv_f iv_g at *
    rw [r46, r48, k2 40 (by decide), k2 41 (by decide), k2 42 (by decide), k2 43 (by decide), k2 44 (by decide), k2 45 (by decide), k2 47 (by decide), k2 49 (by decide), k2 50 (by decide), k2 51 (by decide), k2 55 (by decide), k1 1, k1 3]
    by_cases c1 : i = f
    · rw [c1] at hi2 ⊢
      rw [ai_up_s, ai_up_s]
      obtain ⟨⟨f1, f2, f3, f4, f5, f6, f7, f8, f9, f10⟩, g1, g2, g3, g4, g5⟩ := hi2
      exact ⟨⟨f1, f2, f3, f4, f5, f6, by omega, f8, by omega, f10⟩, g1, fun _ => hg.1, fun z => absurd rfl z, fun z => by omega, fun _ => g5 (by omega)⟩
    · rw [ai_up_n _ _ c1, ai_up_n _ _ c1]
      exact hi2
  · rw [k1 2] at hi
    rw [r46, r48, k2 47 (by decide), ai_up_n _ _ (by omega), ai_up_n _ _ (by omega)]
    exact hZ i hi
  · rw [k1 3] at hl
    have hl2 := hL l hl
    have hne : (S.2 55 l).toNat ≠ f := fun e => by
      have := hl2.2.1
      rw [e] at this
      omega
    unfold iv_l sp_left at *
    rw [r46, k1 2, k2 41 (by decide), k2 51 (by decide), k2 55 (by decide), k2 56 (by decide), k2 57 (by decide), k2 58 (by decide), k2 59 (by decide), k2 60 (by decide), k2 61 (by decide), k2 62 (by decide), k2 63 (by decide), ai_up_n _ _ hne]
    exact hl2
  · rw [k1 3, k1 36, k1 37, k2 60 (by decide), k2 61 (by decide), k2 64 (by decide)]
    exact hb
  · rw [k1 39, k1 1]
    exact h6
  · rw [k1 2] at hi
    rw [r46] at q46
    rw [k2 49 (by decide)] at q49 ⊢
    rw [k1 0]
    by_cases c1 : i = f
    · rw [c1, ai_up_s] at q46
      omega
    · rw [ai_up_n _ _ c1] at q46
      exact h11 i hi q46 q49
  · rw [k1 0, k1 3]
    exact h13
theorem LP_cut {S : ms_T} {G G2 : gh_T} (h : LP_ S G) (f g : Int) (hG : ∀ a b, ¬ (a = 6 ∧ b = 0) → G2 a b = G a b) (hs : sr_ (sp_cut S f g).2 G2) : LP_ (sp_cut S f g).2 G2 := by
  unfold sp_cut at hs ⊢
  by_cases q : (0 ≤ f ∧ f < S.1 2) ∧ S.2 46 f.toNat = 0 ∧ (1 ≤ g ∧ g ≤ 9) ∧ g ≤ sp_fg S ∧ (sp_turn S = S.2 40 f.toNat ∨ 0 ≤ S.2 49 f.toNat)
  · rw [if_pos q] at hs ⊢
    by_cases c : sp_turn S = S.2 40 f.toNat
    · rw [if_pos c] at hs ⊢
      exact LP_ct (LP_67 h (kr_thr S _) (iv_ord_thr h.1.2.2.2.1 _) h.1.2.2.2.2.2 hG hs) (by show (f.toNat : Int) < S.1 2; omega) q.2.1 q.2.2.1
    · rw [if_neg c] at hs ⊢
      exact LP_ct (LP_6 h hG hs) (by omega) q.2.1 q.2.2.1
  · rw [if_neg q] at hs ⊢
    exact LP_6 h hG hs
theorem LP_fire {S : ms_T} {G : gh_T} (h : LP_ S G) (f0 : Int) : LP_ (sp_fire S f0).2 G := by
  unfold sp_fire
  by_cases q : (0 ≤ f0 ∧ f0 < S.1 2) ∧ S.2 46 f0.toNat = 0 ∧ S.2 49 f0.toNat < 0
  · rw [if_pos q]
    obtain ⟨f, rfl⟩ : ∃ f : Nat, f0 = (f : Int) := ⟨f0.toNat, by omega⟩
    rw [Int.toNat_natCast] at q ⊢
    obtain ⟨⟨h1, h2, h3, h4, h5, h6⟩, h7, h8, h9, h10, h11, h12, h13⟩ := h
    obtain ⟨ha, hF, hZ, hL, hb⟩ := h1
    have h0c := ha.1
    have hsw := sp_swt_c (t := S.1 0) (hF f q.1.2).1.sw (by omega)
    generalize hv : (if sp_swt S f (S.1 0) - 2 < 0 then 0 else sp_swt S f (S.1 0) - 2) = v
    have hvb : 0 ≤ v ∧ v ≤ 30 := by split at hv <;> omega
    have r49 : (ai_up (ai_up S.2 50 (ai_up (S.2 50) f v)) 49 (ai_up (S.2 49) f (S.1 0))) 49 = ai_up (S.2 49) f (S.1 0) := rfl
    have r50 : (ai_up (ai_up S.2 50 (ai_up (S.2 50) f v)) 49 (ai_up (S.2 49) f (S.1 0))) 50 = ai_up (S.2 50) f v := rfl
    have k : kr_ (fun _ => False) (fun a => a = 49 ∨ a = 50) S (S.1, ai_up (ai_up S.2 50 (ai_up (S.2 50) f v)) 49 (ai_up (S.2 49) f (S.1 0))) := ⟨fun _ _ => rfl, fun a ha => by
      show ai_up (ai_up S.2 50 _) 49 _ a = _
      rw [ai_up_n _ _ (by omega), ai_up_n _ _ (by omega)]⟩
    have r49 : ((S.1, ai_up (ai_up S.2 50 (ai_up (S.2 50) f v)) 49 (ai_up (S.2 49) f (S.1 0))) : ms_T).2 49 = ai_up (S.2 49) f (S.1 0) := rfl
    have r50 : ((S.1, ai_up (ai_up S.2 50 (ai_up (S.2 50) f v)) 49 (ai_up (S.2 49) f (S.1 0))) : ms_T).2 50 = ai_up (S.2 50) f v := rfl
    generalize ((S.1, ai_up (ai_up S.2 50 (ai_up (S.2 50) f v)) 49 (ai_up (S.2 49) f (S.1 0))) : ms_T) = S' at *
    have k1 := fun j => k.1 j (fun z => z)
    have k2 := fun x hx => k.2 x hx
    show LP_ S' G
    refine ⟨⟨⟨?_, fun i hi => ?_, fun i hi => ?_, fun l hl => ?_, ?_⟩, iv_T_kr h2 k (by decide) (by decide) (by decide), iv_W_kr h3 k (by decide) (fun a ha => by omega), iv_ord_kr h4 k (by decide) (by decide) (by decide), iv_tp_kr h5 k (by decide) (by decide), ?_⟩, sr_kr h7 k (by decide) (by decide) (by decide) rfl, tr_kr h8 k (by decide) (by decide) (by decide) (by decide) (by decide) (fun _ => rfl), br_kp h9 (k1 36) (k2 65 (by decide)) rfl (fun _ => rfl) (fun _ => rfl), py_kp h10 (k1 3) (k1 0) (k2 62 (by decide)) (k2 63 (by decide)), fun i hi q46 q49 => ?_, fun i hi => ?_, ?_⟩
    · unfold iv_a at *
      rw [k1 0, k1 1, k1 2, k1 3, k1 4, k1 5, k1 6, k1 7, k1 21]
      exact ha
    · rw [k1 2] at hi
      have hi2 := hF i hi
      unfold iv_f iv_g at *
      rw [r49, r50, k2 40 (by decide), k2 41 (by decide), k2 42 (by decide), k2 43 (by decide), k2 44 (by decide), k2 45 (by decide), k2 46 (by decide), k2 47 (by decide), k2 48 (by decide), k2 51 (by decide), k2 55 (by decide), k1 1, k1 3]
      by_cases c1 : i = f
      · rw [c1] at hi2 ⊢
        rw [ai_up_s, ai_up_s]
        obtain ⟨⟨f1, f2, f3, f4, f5, f6, f7, f8, f9, f10, f11, f12⟩, g1⟩ := hi2
        exact ⟨⟨f1, f2, f3, f4, f5, f6, f7, f8, f9, by omega, hvb, f12⟩, g1⟩
      · rw [ai_up_n _ _ c1, ai_up_n _ _ c1]
        exact hi2
    · rw [k1 2] at hi
      rw [k2 46 (by decide), k2 47 (by decide), k2 48 (by decide)]
      exact hZ i hi
    · rw [k1 3] at hl
      have hl2 := hL l hl
      unfold iv_l sp_left at *
      rw [k1 2, k2 41 (by decide), k2 46 (by decide), k2 51 (by decide), k2 55 (by decide), k2 56 (by decide), k2 57 (by decide), k2 58 (by decide), k2 59 (by decide), k2 60 (by decide), k2 61 (by decide), k2 62 (by decide), k2 63 (by decide)]
      exact hl2
    · rw [k1 3, k1 36, k1 37, k2 60 (by decide), k2 61 (by decide), k2 64 (by decide)]
      exact hb
    · rw [k1 39, k1 1]
      exact h6
    · rw [k1 2] at hi
      rw [k2 46 (by decide)] at q46
      rw [r49] at q49 ⊢
      rw [k1 0]
      by_cases c1 : i = f
      · rw [c1, ai_up_s]
        omega
      · rw [ai_up_n _ _ c1] at q49 ⊢
        exact h11 i hi q46 q49
    · rw [k1 2] at hi
      rw [r50, ai_up_n _ _ (by omega)]
      exact h12 i hi
    · rw [k1 0, k1 3]
      exact h13
  · rw [if_neg q]
    exact h
theorem kr_hour (S : ms_T) : kr_ (fun j => j = 0 ∨ j = 3 ∨ j = 36 ∨ j = 37 ∨ j = 38) (fun a => a = 39 ∨ (46 ≤ a ∧ a ≤ 48) ∨ a = 51 ∨ (55 ≤ a ∧ a ≤ 65)) S (sp_hour S) := by
  have k := kp_hh S
  refine ⟨fun j hj => ?_, fun a ha => k.2 a ha⟩
  show ai_up (sp_hh S).1 0 _ j = _
  rw [ai_up_n _ _ (by omega)]
  exact k.1 j (by omega) (by omega) (by omega) (by omega)
theorem kr_hrN (S : ms_T) : ∀ n, kr_ (fun j => j = 0 ∨ j = 3 ∨ j = 36 ∨ j = 37 ∨ j = 38) (fun a => a = 39 ∨ (46 ≤ a ∧ a ≤ 48) ∨ a = 51 ∨ (55 ≤ a ∧ a ≤ 65)) S (sp_hrN S n)
  | 0 => kr_rf _ _ S
  | n + 1 => kr_tr (kr_hrN S n) (kr_hour _)
theorem kr_hours (S : ms_T) (n : Int) : kr_ (fun j => j = 0 ∨ j = 3 ∨ j = 36 ∨ j = 37 ∨ j = 38) (fun a => a = 39 ∨ (46 ≤ a ∧ a ≤ 48) ∨ a = 51 ∨ (55 ≤ a ∧ a ≤ 65)) S (sp_hours S n).2 := by
  unfold sp_hours
  split
  · exact kr_hrN S _
  · exact kr_rf _ _ S
theorem LP_hours {S : ms_T} {G G2 : gh_T} (h : LP_ S G) (n : Int) (g1 : tr_ (sp_hours S n).2 G2) (g2 : br_ (sp_hours S n).2 G2) (g3 : py_ (sp_hours S n).2 0) (g4 : fb_ (sp_hours S n).2) (hG : G2 6 0 = G 6 0) : LP_ (sp_hours S n).2 G2 := by
  have k := kr_hours S n
  obtain ⟨⟨h1, h2, h3, h4, h5, h6⟩, h7, h8, h9, h10, h11, h12, h13⟩ := h
  have hI : iv_S (sp_hours S n).2 ∧ ((sp_hours S n).2.1 0 = 0 → (sp_hours S n).2.1 3 = 0) := by
    have h0c := h1.1.1
    unfold sp_hours
    by_cases q : (1 ≤ n ∧ n ≤ 100) ∧ S.1 0 + n ≤ 4000
    · rw [if_pos q]
      obtain ⟨i1, i2, i3, i4⟩ := iv_hrN h1 h2 h3 n.toNat (by omega)
      exact ⟨i1, fun z => by
        have z2 : (sp_hrN S n.toNat).1 0 = 0 := z
        omega⟩
    · rw [if_neg q]
      exact ⟨h1, h13⟩
  exact ⟨⟨hI.1, iv_T_kr h2 k (by decide) (by decide) (by decide), iv_W_kr h3 k (by decide) (fun a ha => by omega), iv_ord_kr h4 k (by decide) (by decide) (by decide), iv_tp_kr h5 k (by decide) (by decide), by rw [k.1 39 (by decide), k.1 1 (by decide)]; exact h6⟩, sr_kr h7 k (by decide) (by decide) (by decide) hG, g1, g2, g3, g4, z5_kr h12 k (by decide) (by decide), hI.2⟩
theorem kr_scr {S S2 : ms_T} (h : sp_scr S S2) : kr_ (fun j => j = 63) (fun a => 73 ≤ a) S S2 := ⟨fun j hj => h.1 j hj, fun a ha => h.2 a (by omega)⟩
theorem LP_scr {S S2 : ms_T} {G : gh_T} (h : LP_ S G) (hs : sp_scr S S2) : LP_ S2 G := LP_kr h (kr_scr hs) (fun j hj z => by omega) (fun a ha z => by omega) (fun _ _ _ _ => rfl) (iv_T_kr h.1.2.1 (kr_scr hs) (by decide) (by decide) (by decide)) (iv_tp_kr h.1.2.2.2.2.1 (kr_scr hs) (by decide) (by decide))
theorem kr_tx {S S3 : ms_T} (h : tx_ S S3) : kr_ (fun k => (49 ≤ k ∧ k ≤ 55) ∨ k = 57 ∨ k = 43 ∨ k = 44 ∨ k = 47 ∨ k = 48) (fun a => a = 69 ∨ a = 70 ∨ a = 71) S S3 := ⟨fun j hj => h.1 j (by omega) (by omega) (by omega) (by omega) (by omega) (by omega), fun a ha => h.2 a (by omega) (by omega) (by omega)⟩
theorem LP_text {S S3 : ms_T} {G G2 : gh_T} (h : LP_ S G) (hx : tx_ S S3) (h43 : S3.1 43 = 0) (hT : iv_T S3) (hG : ∀ a b, ¬ (a = 9 ∧ b = 0) → G2 a b = G a b) : LP_ S3 G2 := by
  have k := kr_tx hx
  refine LP_kr h k (fun j hj z => by omega) (fun a ha z => by omega) (fun a b h1 h2 => hG a b (by omega)) hT ⟨by omega, ?_⟩
  rw [k.2 68 (by decide)]
  exact h.1.2.2.2.2.1.2
