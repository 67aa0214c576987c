theorem iv_S_kr {J A : Nat → Prop} {S S' : ms_T} (h : iv_S S) (k : kr_ J A S S') (hJ : ∀ j, j ≤ 7 ∨ j = 21 ∨ j = 36 ∨ j = 37 → ¬ J j) (hA : ∀ a, (40 ≤ a ∧ a ≤ 51) ∨ (55 ≤ a ∧ a ≤ 64) → ¬ A a) : iv_S S' := by
  have k1 := fun j hj => k.1 j (hJ j hj)
  have k2 := fun a ha => k.2 a (hA a ha)
  unfold iv_S iv_a iv_f iv_g iv_l sp_left at *
  rw [k1 0 (by omega), k1 1 (by omega), k1 2 (by omega), k1 3 (by omega), k1 4 (by omega), k1 5 (by omega), k1 6 (by omega), k1 7 (by omega), k1 21 (by omega), k1 36 (by omega), k1 37 (by omega), k2 40 (by omega), k2 41 (by omega), k2 42 (by omega), k2 43 (by omega), k2 44 (by omega), k2 45 (by omega), k2 46 (by omega), k2 47 (by omega), k2 48 (by omega), k2 49 (by omega), k2 50 (by omega), k2 51 (by omega), k2 55 (by omega), k2 56 (by omega), k2 57 (by omega), k2 58 (by omega), k2 59 (by omega), k2 60 (by omega), k2 61 (by omega), k2 62 (by omega), k2 63 (by omega), k2 64 (by omega)]
  exact h
theorem iv_W_kr {J A : Nat → Prop} {S S' : ms_T} (h : iv_W S) (k : kr_ J A S S') (hJ : ¬ J 21) (hA : ∀ a, (52 ≤ a ∧ a ≤ 54) → ¬ A a) : iv_W S' := by
  unfold iv_W at *
  rw [k.1 21 hJ, k.2 52 (hA 52 (by omega)), k.2 53 (hA 53 (by omega)), k.2 54 (hA 54 (by omega))]
  exact h
theorem iv_T_kr {J A : Nat → Prop} {S S' : ms_T} (h : iv_T S) (k : kr_ J A S S') (hJ : ¬ J 44) (h69 : ¬ A 69) (h70 : ¬ A 70) : iv_T S' := by
  unfold iv_T at *
  rw [k.1 44 hJ, code_kr k hJ h69 h70]
  exact h
theorem iv_ord_kr {J A : Nat → Prop} {S S' : ms_T} (h : iv_ord S) (k : kr_ J A S S') (hJ : ¬ J 39) (h66 : ¬ A 66) (h67 : ¬ A 67) : iv_ord S' := by
  unfold iv_ord at *
  rw [k.1 39 hJ, k.2 66 h66, k.2 67 h67]
  exact h
theorem iv_tp_kr {J A : Nat → Prop} {S S' : ms_T} (h : iv_tp S) (k : kr_ J A S S') (hJ : ¬ J 43) (h68 : ¬ A 68) : iv_tp S' := by
  unfold iv_tp at *
  rw [k.1 43 hJ, k.2 68 h68]
  exact h
theorem sr_kr {J A : Nat → Prop} {S S' : ms_T} {G G' : gh_T} (h : sr_ S G) (k : kr_ J A S S') (hJ : ¬ J 39) (h66 : ¬ A 66) (h67 : ¬ A 67) (hG : G' 6 0 = G 6 0) : sr_ S' G' := by
  unfold sr_ at *
  rw [k.1 39 hJ, k.2 66 h66, k.2 67 h67, hG]
  exact h
theorem cl_cg {G G' : gh_T} (hG : ∀ j, G' 5 j = G 5 j) (t : Int) : ∀ n, cl_ G' t n = cl_ G t n
  | 0 => rfl
  | n + 1 => by rw [cl_, cl_, cl_cg hG t n, hG n]
theorem tr_kr {J A : Nat → Prop} {S S' : ms_T} {G G' : gh_T} (h : tr_ S G) (k : kr_ J A S S') (h0 : ¬ J 0) (h3 : ¬ J 3) (h6 : ¬ J 6) (h59 : ¬ A 59) (h64 : ¬ A 64) (hG : ∀ j, G' 5 j = G 5 j) : tr_ S' G' := by
  obtain ⟨t1, t2, t3⟩ := h
  refine ⟨fun t ht => ?_, fun l hl => ?_, fun q hq => ?_⟩
  · rw [k.1 0 h0] at ht
    rw [k.1 3 h3, k.1 6 h6, k.2 64 h64, cl_cg hG]
    exact t1 t ht
  · rw [k.1 3 h3] at hl
    rw [k.2 59 h59, hG]
    exact t2 l hl
  · rw [k.1 6 h6] at hq
    rw [k.2 64 h64]
    exact t3 q hq
theorem z5_kr {J A : Nat → Prop} {S S' : ms_T} (h : z5_ S) (k : kr_ J A S S') (hJ : ¬ J 2) (h50 : ¬ A 50) : z5_ S' := by
  unfold z5_ at *
  rw [k.1 2 hJ, k.2 50 h50]
  exact h
/-- what holds of the common picture between two calls -/
def LP_ (S : ms_T) (G : gh_T) : Prop := (iv_S S ∧ iv_T S ∧ iv_W S ∧ iv_ord S ∧ iv_tp S ∧ S.1 39 ≤ S.1 1) ∧ sr_ S G ∧ tr_ S G ∧ br_ S G ∧ py_ S 0 ∧ fb_ S ∧ z5_ S ∧ (S.1 0 = 0 → S.1 3 = 0)
/-- calls that write only what no later answer of the picture rests on, and perhaps the tape -/
theorem LP_kr {J A : Nat → Prop} {S S' : ms_T} {G G' : gh_T} (h : LP_ S G) (k : kr_ J A S S') (hJ : ∀ j, j ≤ 7 ∨ j = 21 ∨ (36 ≤ j ∧ j ≤ 39) → ¬ J j) (hA : ∀ a, 39 ≤ a ∧ a ≤ 67 → ¬ A a) (hG : ∀ a b, 5 ≤ a → a ≤ 8 → G' a b = G a b) (hT : iv_T S') (htp : iv_tp S') : LP_ S' G' := by
  obtain ⟨⟨h1, h2, h3, h4, h5, h6⟩, h7, h8, h9, h10, h11, h12, h13⟩ := h
  refine ⟨⟨iv_S_kr h1 k (fun j hj => hJ j (by omega)) (fun a ha => hA a (by omega)), hT, iv_W_kr h3 k (hJ 21 (by omega)) (fun a ha => hA a (by omega)), iv_ord_kr h4 k (hJ 39 (by omega)) (hA 66 (by omega)) (hA 67 (by omega)), htp, ?_⟩, sr_kr h7 k (hJ 39 (by omega)) (hA 66 (by omega)) (hA 67 (by omega)) (hG 6 0 (by omega) (by omega)), tr_kr h8 k (hJ 0 (by omega)) (hJ 3 (by omega)) (hJ 6 (by omega)) (hA 59 (by omega)) (hA 64 (by omega)) (fun j => hG 5 j (by omega) (by omega)), br_kp h9 (k.1 36 (hJ 36 (by omega))) (k.2 65 (hA 65 (by omega))) (hG 6 1 (by omega) (by omega)) (fun j => hG 7 j (by omega) (by omega)) (fun j => hG 8 j (by omega) (by omega)), py_kp h10 (k.1 3 (hJ 3 (by omega))) (k.1 0 (hJ 0 (by omega))) (k.2 62 (hA 62 (by omega))) (k.2 63 (hA 63 (by omega))), fb_kp h11 (k.1 0 (hJ 0 (by omega))) (k.1 2 (hJ 2 (by omega))) (k.2 46 (hA 46 (by omega))) (k.2 49 (hA 49 (by omega))), z5_kr h12 k (hJ 2 (by omega)) (hA 50 (by omega)), ?_⟩
  · rw [k.1 39 (hJ 39 (by omega)), k.1 1 (hJ 1 (by omega))]
    exact h6
  · rw [k.1 0 (hJ 0 (by omega)), k.1 3 (hJ 3 (by omega))]
    exact h13
theorem kr_up1 (S : ms_T) (j : Nat) (v : Int) : kr_ (fun x => x = j) (fun _ => False) S (ai_up S.1 j v, S.2) := ⟨fun x hx => ai_up_n S.1 v hx, fun _ _ => rfl⟩
theorem kr_up2 (S : ms_T) (a : Nat) (g : Nat → Int) : kr_ (fun _ => False) (fun x => x = a) S (S.1, ai_up S.2 a g) := ⟨fun _ _ => rfl, fun x hx => ai_up_n S.2 g hx⟩
theorem kr_mo {J A J2 A2 : Nat → Prop} {S S' : ms_T} (k : kr_ J A S S') (hJ : ∀ j, J j → J2 j) (hA : ∀ a, A a → A2 a) : kr_ J2 A2 S S' := ⟨fun j hj => k.1 j (fun z => hj (hJ j z)), fun a ha => k.2 a (fun z => ha (hA a z))⟩
-- rules
theorem ct_z {A : Nat → Int} {t : Int} : ∀ {n : Nat}, ct_ A t n = 0 ↔ ∀ j, j < n → A j ≤ t
  | 0 => ⟨fun _ j hj => by omega, fun _ => rfl⟩
  | n + 1 => by
    have ih := ct_z (A := A) (t := t) (n := n)
    have hb := ct_b A t n
    rw [ct_]
    constructor
    · intro h j hj
      have h1 : ct_ A t n = 0 := by split at h <;> omega
      by_cases e : j = n
      · rw [e]
        split at h <;> omega
      · exact ih.mp h1 j (by omega)
    · intro h
      rw [ih.mpr (fun j hj => h j (by omega)), if_neg (by have := h n (by omega); omega)]
      rfl
theorem LP_rules {S : ms_T} {G : gh_T} (h : LP_ S G) (a b c e : Int) : LP_ (sp_rules S a b c e).2 G := by
  unfold sp_rules
  by_cases q : (1 ≤ a ∧ a ≤ 9) ∧ (1 ≤ b ∧ b ≤ 20) ∧ (1 ≤ c ∧ c ≤ 9) ∧ (1 ≤ e ∧ e ≤ 100) ∧ ¬ 0 < S.1 0
  · rw [if_pos q]
    obtain ⟨⟨h1, h2, h3, h4, h5, h6⟩, h7, h8, h9, h10, h11, h12, h13⟩ := h
    have k : kr_ (fun j => 4 ≤ j ∧ j ≤ 7) (fun _ => False) S (ai_up (ai_up (ai_up (ai_up S.1 4 a) 5 b) 6 c) 7 e, S.2) := ⟨fun j hj => by
      show ai_up (ai_up (ai_up (ai_up S.1 4 a) 5 b) 6 c) 7 e j = _
      rw [ai_up_n _ _ (by omega), ai_up_n _ _ (by omega), ai_up_n _ _ (by omega), ai_up_n _ _ (by omega)], fun _ _ => rfl⟩
    obtain ⟨ha, hb⟩ := h1
    have h00 : S.1 0 = 0 := by have := ha.1; omega
    have hz : ∀ k : Nat, S.2 64 k ≤ 0 := fun k => by
      by_cases z : (k : Int) < S.1 6
      · have t := h8.1 0 (by omega)
        rw [h13 h00] at t
        exact ct_z.mp t k (by omega)
      · exact h8.2.2 k (by omega)
    refine ⟨⟨⟨⟨ha.1, ha.2.1, ha.2.2.1, ha.2.2.2.1, q.1, q.2.1, q.2.2.1, q.2.2.2.1, ha.2.2.2.2.2.2.2.2⟩, hb⟩, iv_T_kr h2 k (by omega) (fun z => z) (fun z => z), iv_W_kr h3 k (by omega) (fun _ _ z => z), iv_ord_kr h4 k (by omega) (fun z => z) (fun z => z), iv_tp_kr h5 k (by omega) (fun z => z), h6⟩, sr_kr h7 k (by omega) (fun z => z) (fun z => z) rfl, ⟨fun t ht => ?_, h8.2.1, fun q _ => hz q⟩, h9, h10, h11, h12, h13⟩
    show ct_ (S.2 64) t c.toNat = cl_ G t (S.1 3).toNat
    have ht2 : S.1 0 ≤ t := ht
    rw [h13 h00, ct_z.mpr (fun j _ => by have := hz j; omega)]
    rfl
  · rw [if_neg q]
    exact h
theorem LP_farm {S : ms_T} {G : gh_T} (h : LP_ S G) : LP_ (sp_farm S).2 G := by
  unfold sp_farm
  by_cases q : S.1 1 = 10
  · rw [if_pos q]
    exact h
  · rw [if_neg q]
    obtain ⟨⟨h1, h2, h3, h4, h5, h6⟩, h7, h8, h9, h10, h11, h12, h13⟩ := h
    have k := kr_up1 S 1 (S.1 1 + 1)
    obtain ⟨ha, hF, hb⟩ := h1
    have ha1 := ha.2.1
    refine ⟨⟨⟨⟨ha.1, ?_, ha.2.2⟩, fun f hf => ⟨⟨?_, (hF f hf).1.2⟩, (hF f hf).2⟩, hb⟩, iv_T_kr h2 k (by decide) (fun z => z) (fun z => z), iv_W_kr h3 k (by decide) (fun _ _ z => z), iv_ord_kr h4 k (by decide) (fun z => z) (fun z => z), iv_tp_kr h5 k (by decide) (fun z => z), ?_⟩, sr_kr h7 k (by decide) (fun z => z) (fun z => z) rfl, h8, h9, h10, h11, h12, h13⟩
    · show 0 ≤ S.1 1 + 1 ∧ S.1 1 + 1 ≤ 10
      omega
    · have := (hF f hf).1.1
      show 0 ≤ S.2 40 f ∧ S.2 40 f < S.1 1 + 1
      omega
    · show S.1 39 ≤ S.1 1 + 1
      omega
theorem LP_weather {S : ms_T} {G G2 : gh_T} (h : LP_ S G) {z : Int} (hz : z = 0 ∨ z = 1) (a b : Int) (hG : ∀ a b, 5 ≤ a → G2 a b = G a b) : LP_ (sp_weather S z a b).2 G2 := by
  have hG2 : LP_ S G2 := LP_kr h (kr_rf (fun _ => False) (fun _ => False) S) (fun _ _ z => z) (fun _ _ z => z) (fun a b h1 _ => hG a b h1) h.1.2.1 h.1.2.2.2.2.1
  unfold sp_weather
  by_cases q : (S.1 0 ≤ a ∧ a ≤ 4000) ∧ (a < b ∧ b ≤ 4000) ∧ S.1 21 < 20
  · rw [if_pos q]
    obtain ⟨⟨h1, h2, h3, h4, h5, h6⟩, h7, h8, h9, h10, h11, h12, h13⟩ := hG2
    have k : kr_ (fun j => j = 21) (fun a => 52 ≤ a ∧ a ≤ 54) S (ai_up S.1 21 (S.1 21 + 1), ai_up (ai_up (ai_up S.2 52 (ai_up (S.2 52) (S.1 21).toNat z)) 53 (ai_up (S.2 53) (S.1 21).toNat a)) 54 (ai_up (S.2 54) (S.1 21).toNat b)) := ⟨fun j hj => ai_up_n _ _ hj, fun x hx => by
      show ai_up (ai_up (ai_up S.2 52 _) 53 _) 54 _ x = _
      rw [ai_up_n _ _ (by omega), ai_up_n _ _ (by omega), ai_up_n _ _ (by omega)]⟩
    obtain ⟨ha, hb⟩ := h1
    have h21 := ha.2.2.2.2.2.2.2.2
    have h0 := ha.1
    refine ⟨⟨⟨⟨ha.1, ha.2.1, ha.2.2.1, ha.2.2.2.1, ha.2.2.2.2.1, ha.2.2.2.2.2.1, ha.2.2.2.2.2.2.1, ha.2.2.2.2.2.2.2.1, ?_⟩, hb⟩, iv_T_kr h2 k (by decide) (by decide) (by decide), fun i hi => ?_, iv_ord_kr h4 k (by decide) (by decide) (by decide), iv_tp_kr h5 k (by decide) (by decide), h6⟩, sr_kr h7 k (by decide) (by decide) (by decide) rfl, h8, h9, h10, h11, h12, h13⟩
    · show 0 ≤ S.1 21 + 1 ∧ S.1 21 + 1 ≤ 20
      omega
    · have hi2 : (i : Int) < S.1 21 + 1 := hi
      show (0 ≤ ai_up (S.2 52) (S.1 21).toNat z i ∧ ai_up (S.2 52) (S.1 21).toNat z i ≤ 1) ∧ (0 ≤ ai_up (S.2 53) (S.1 21).toNat a i ∧ ai_up (S.2 53) (S.1 21).toNat a i ≤ 4000) ∧ (0 ≤ ai_up (S.2 54) (S.1 21).toNat b i ∧ ai_up (S.2 54) (S.1 21).toNat b i ≤ 4000)
      by_cases e : i = (S.1 21).toNat
      · rw [e, ai_up_s, ai_up_s, ai_up_s]
        omega
      · rw [ai_up_n _ _ e, ai_up_n _ _ e, ai_up_n _ _ e]
        exact h3 i (by omega)
  · rw [if_neg q]
    exact hG2
theorem LP_field {S : ms_T} {G G2 : gh_T} (h : LP_ S G) (a b c e f g : Int) (hG : ∀ a b, 5 ≤ a → G2 a b = G a b) : LP_ (sp_field S a b c e f g).2 G2 := by
  have hG2 : LP_ S G2 := LP_kr h (kr_rf (fun _ => False) (fun _ => False) S) (fun _ _ z => z) (fun _ _ z => z) (fun a b h1 _ => hG a b h1) h.1.2.1 h.1.2.2.2.2.1
  unfold sp_field
  by_cases q : (0 ≤ a ∧ a < S.1 1) ∧ (1 ≤ b ∧ b ≤ 200) ∧ (0 ≤ c ∧ c ≤ 60) ∧ (1 ≤ e ∧ e ≤ 30) ∧ (0 ≤ f ∧ f ≤ 4000) ∧ (1 ≤ g ∧ g ≤ 100) ∧ S.1 2 < 16
  · rw [if_pos q]
    obtain ⟨⟨h1, h2, h3, h4, h5, h6⟩, h7, h8, h9, h10, h11, h12, h13⟩ := hG2
    obtain ⟨ha, hF, hZ, hL, hb⟩ := h1
    have h2b := ha.2.2.1
    have h3b := ha.2.2.2.1
    obtain ⟨n, hn⟩ : ∃ n : Nat, S.1 2 = (n : Int) := ⟨(S.1 2).toNat, by omega⟩
    have hn2 : (S.1 2).toNat = n := by omega
    rw [hn2]
    obtain ⟨z46, z47, z48⟩ := hZ n (by omega)
    have z50 := h12 n (by omega)
    generalize hS' : ((ai_up S.1 2 (S.1 2 + 1), ai_up (ai_up (ai_up (ai_up (ai_up (ai_up (ai_up (ai_up S.2 40 (ai_up (S.2 40) n a)) 41 (ai_up (S.2 41) n b)) 42 (ai_up (S.2 42) n c)) 43 (ai_up (S.2 43) n e)) 44 (ai_up (S.2 44) n f)) 45 (ai_up (S.2 45) n g)) 49 (ai_up (S.2 49) n (-1))) 51 (ai_up (S.2 51) n (-1))) : ms_T) = S'
    have k : kr_ (fun j => j = 2) (fun a => (40 ≤ a ∧ a ≤ 45) ∨ a = 49 ∨ a = 51) S S' := ⟨fun j hj => by rw [← hS']; exact ai_up_n _ _ hj, fun x hx => by
      rw [← hS']
      show ai_up (ai_up (ai_up (ai_up (ai_up (ai_up (ai_up (ai_up S.2 40 _) 41 _) 42 _) 43 _) 44 _) 45 _) 49 _) 51 _ x = _
      rw [ai_up_n _ _ (by omega), ai_up_n _ _ (by omega), ai_up_n _ _ (by omega), ai_up_n _ _ (by omega), ai_up_n _ _ (by omega), ai_up_n _ _ (by omega), ai_up_n _ _ (by omega), ai_up_n _ _ (by omega)]⟩
    have e2 : S'.1 2 = S.1 2 + 1 := by rw [← hS']; rfl
    have r40 : S'.2 40 = ai_up (S.2 40) n a := by rw [← hS']; rfl
    have r41 : S'.2 41 = ai_up (S.2 41) n b := by rw [← hS']; rfl
    have r42 : S'.2 42 = ai_up (S.2 42) n c := by rw [← hS']; rfl
    have r43 : S'.2 43 = ai_up (S.2 43) n e := by rw [← hS']; rfl
    have r44 : S'.2 44 = ai_up (S.2 44) n f := by rw [← hS']; rfl
    have r45 : S'.2 45 = ai_up (S.2 45) n g := by rw [← hS']; rfl
    have r49 : S'.2 49 = ai_up (S.2 49) n (-1) := by rw [← hS']; rfl
    have r51 : S'.2 51 = ai_up (S.2 51) n (-1) := by rw [← hS']; rfl
    show LP_ S' G2
    have k1 := fun j (hj : j ≠ 2) => k.1 j hj
    have k2 := fun x hx => k.2 x hx
    refine ⟨⟨⟨?_, fun i hi => ?_, fun i hi => ?_, fun l hl => ?_, ?_⟩, iv_T_kr h2 k (by decide) (by decide) (by decide), iv_W_kr h3 k (by decide) (fun a ha => by omega), iv_ord_kr h4 k (by decide) (by decide) (by decide), iv_tp_kr h5 k (by decide) (by decide), ?_⟩, sr_kr h7 k (by decide) (by decide) (by decide) rfl, tr_kr h8 k (by decide) (by decide) (by decide) (by decide) (by decide) (fun _ => rfl), br_kp h9 (k.1 36 (by decide)) (k.2 65 (by decide)) rfl (fun _ => rfl) (fun _ => rfl), py_kp h10 (k.1 3 (by decide)) (k.1 0 (by decide)) (k.2 62 (by decide)) (k.2 63 (by decide)), fun i hi q46 q49 => ?_, fun i hi => ?_, ?_⟩
    · unfold iv_a at *
      rw [e2, k1 0 (by decide), k1 1 (by decide), k1 3 (by decide), k1 4 (by decide), k1 5 (by decide), k1 6 (by decide), k1 7 (by decide), k1 21 (by decide)]
      refine ⟨ha.1, ha.2.1, by omega, ha.2.2.2⟩
    · rw [e2] at hi
      unfold iv_f iv_g
      rw [r40, r41, r42, r43, r44, r45, r49, r51, k2 46 (by decide), k2 47 (by decide), k2 48 (by decide), k2 50 (by decide), k2 55 (by decide), k1 1 (by decide), k1 3 (by decide)]
      by_cases c1 : i = n
      · subst c1
        rw [ai_up_s, ai_up_s, ai_up_s, ai_up_s, ai_up_s, ai_up_s, ai_up_s, ai_up_s, z46, z47, z48, z50]
        refine ⟨⟨by omega, by omega, by omega, by omega, by omega, by omega, by omega, by omega, by omega, by omega, by omega, by omega⟩, by omega, fun z => by omega, fun _ => rfl, fun z => by omega, fun _ => rfl⟩
      · rw [ai_up_n _ _ c1, ai_up_n _ _ c1, ai_up_n _ _ c1, ai_up_n _ _ c1, ai_up_n _ _ c1, ai_up_n _ _ c1, ai_up_n _ _ c1, ai_up_n _ _ c1]
        exact hF i (by omega)
    · rw [e2] at hi
      rw [k2 46 (by decide), k2 47 (by decide), k2 48 (by decide)]
      exact hZ i (by omega)
    · rw [k1 3 (by decide)] at hl
      have hl2 := hL l hl
      have h55 := hl2.1
      unfold iv_l sp_left at *
      rw [r41, r51, e2, k2 46 (by decide), k2 55 (by decide), k2 56 (by decide), k2 57 (by decide), k2 58 (by decide), k2 59 (by decide), k2 60 (by decide), k2 61 (by decide), k2 62 (by decide), k2 63 (by decide), ai_up_n _ _ (by omega), ai_up_n _ _ (by omega)]
      exact ⟨by omega, hl2.2⟩
    · rw [k1 3 (by decide), k1 36 (by decide), k1 37 (by decide), k2 60 (by decide), k2 61 (by decide), k2 64 (by decide)]
      exact hb
    · rw [k1 39 (by decide), k1 1 (by decide)]
      exact h6
    · rw [e2] at hi
      rw [k2 46 (by decide)] at q46
      rw [r49] at q49 ⊢
      rw [k1 0 (by decide)]
      by_cases c1 : i = n
      · rw [c1, ai_up_s] at q49
        omega
      · rw [ai_up_n _ _ c1] at q49 ⊢
        exact h11 i (by omega) q46 q49
    · rw [e2] at hi
      rw [k2 50 (by decide)]
      exact h12 i (by omega)
    · rw [k1 0 (by decide), k1 3 (by decide)]
      exact h13
  · rw [if_neg q]
    exact hG2
