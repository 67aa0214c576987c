/-- what sweetAt reads -/
def sp_left (S : ms_T) (l : Nat) : Int := S.2 41 (S.2 55 l).toNat - S.2 60 l - S.2 61 l
def iv_g (S : ms_T) (f : Nat) : Prop := S.2 47 f ≤ S.2 41 f ∧ (S.2 46 f = 1 → 1 ≤ S.2 48 f) ∧ (S.2 46 f ≠ 1 → S.2 48 f = 0) ∧ (S.2 46 f = 2 → (0 ≤ S.2 51 f ∧ S.2 51 f < S.1 3) ∧ S.2 55 (S.2 51 f).toNat = f) ∧ (S.2 46 f ≠ 2 → S.2 51 f = -1)
def iv_l (S : ms_T) (l : Nat) : Prop := (0 ≤ S.2 55 l ∧ S.2 55 l < S.1 2) ∧ S.2 46 (S.2 55 l).toNat = 2 ∧ S.2 51 (S.2 55 l).toNat = l ∧ (0 ≤ S.2 56 l ∧ S.2 56 l ≤ 4001) ∧ (0 ≤ S.2 57 l ∧ S.2 57 l ≤ 30) ∧ (0 ≤ S.2 58 l ∧ S.2 58 l ≤ 4100) ∧ (-1 ≤ S.2 59 l ∧ S.2 59 l ≤ 4100) ∧ (0 ≤ S.2 60 l ∧ 0 ≤ S.2 61 l ∧ 0 ≤ sp_left S l) ∧ (-1 ≤ S.2 62 l ∧ S.2 62 l ≤ 4000) ∧ (0 ≤ S.2 62 l → sp_left S l = 0) ∧ (-2000000000 ≤ S.2 63 l ∧ S.2 63 l ≤ 1000000000)
def iv_a (S : ms_T) : Prop := (0 ≤ S.1 0 ∧ S.1 0 ≤ 4000) ∧ (0 ≤ S.1 1 ∧ S.1 1 ≤ 10) ∧ (0 ≤ S.1 2 ∧ S.1 2 ≤ 16) ∧ (0 ≤ S.1 3 ∧ S.1 3 ≤ 16) ∧ (1 ≤ S.1 4 ∧ S.1 4 ≤ 9) ∧ (1 ≤ S.1 5 ∧ S.1 5 ≤ 20) ∧ (1 ≤ S.1 6 ∧ S.1 6 ≤ 9) ∧ (1 ≤ S.1 7 ∧ S.1 7 ≤ 100) ∧ (0 ≤ S.1 21 ∧ S.1 21 ≤ 20)
def iv_S (S : ms_T) : Prop := iv_a S ∧ (∀ f : Nat, (f : Int) < S.1 2 → iv_f S f ∧ iv_g S f) ∧ (∀ f : Nat, S.1 2 ≤ (f : Int) → S.2 46 f = 0 ∧ S.2 47 f = 0 ∧ S.2 48 f = 0) ∧ (∀ l : Nat, (l : Int) < S.1 3 → iv_l S l) ∧ (∀ l : Nat, S.1 3 ≤ (l : Int) → S.2 60 l = 0 ∧ S.2 61 l = 0) ∧ S.1 36 = fb_si (S.2 60) (S.1 3).toNat ∧ S.1 37 = fb_si (S.2 61) (S.1 3).toNat ∧ ∀ k : Nat, 0 ≤ S.2 64 k ∧ S.2 64 k ≤ 4100
/-- a load's field tells the load: no two loads of one field; a field that isn't cut has none -/
theorem iv_room {S : ms_T} (h : iv_S S) {f : Nat} (hf : (f : Int) < S.1 2) (h1 : S.2 46 f ≠ 2) : S.1 3 < S.1 2 := by
  obtain ⟨ha, hF, -, hL, -⟩ := h
  obtain ⟨-, -, h2, h3, -⟩ := ha
  have key := fb_holes (S.1 2).toNat ((S.1 3).toNat + 1) (fun i => if i < (S.1 3).toNat then (S.2 55 i).toNat else f) (fun i hi => by
    by_cases q : i < (S.1 3).toNat
    · simp only [if_pos q]
      have := (hL i (by omega)).1
      omega
    · simp only [if_neg q]; omega) (fun i j hij hj => by
    have qi : i < (S.1 3).toNat := by omega
    simp only [if_pos qi]
    by_cases q : j < (S.1 3).toNat
    · simp only [if_pos q]
      intro e
      have e1 := (hL i (by omega)).2.2.1
      have e2 := (hL j (by omega)).2.2.1
      rw [e] at e1
      omega
    · simp only [if_neg q]
      intro e
      have e1 := (hL i (by omega)).2.1
      rw [e] at e1
      exact h1 e1)
  omega
-- ===== cutting on =====
def sp_dn (S : ms_T) (f : Nat) : Int := if S.2 41 f < S.2 47 f + S.1 5 * S.2 48 f then S.2 41 f else S.2 47 f + S.1 5 * S.2 48 f
def sp_co1 (S : ms_T) (f : Nat) : ms_T := (S.1, ai_up S.2 47 (ai_up (S.2 47) f (sp_dn S f)))
def sp_nl (S : ms_T) (f : Nat) : ms_T := (ai_up S.1 3 (S.1 3 + 1), ai_up (ai_up (ai_up (ai_up (ai_up (ai_up (ai_up (ai_up (ai_up (ai_up (ai_up S.2 47 (ai_up (S.2 47) f (sp_dn S f))) 46 (ai_up (S.2 46) f 2)) 48 (ai_up (S.2 48) f 0)) 51 (ai_up (S.2 51) f (S.1 3))) 55 (ai_up (S.2 55) (S.1 3).toNat f)) 56 (ai_up (S.2 56) (S.1 3).toNat (S.1 0 + 1))) 57 (ai_up (S.2 57) (S.1 3).toNat (sp_swt S f (S.1 0 + 1)))) 58 (ai_up (S.2 58) (S.1 3).toNat (S.1 0 + 1 + (if 0 ≤ S.2 49 f then 12 else 24)))) 59 (ai_up (S.2 59) (S.1 3).toNat (-1))) 62 (ai_up (S.2 62) (S.1 3).toNat (-1))) 63 (ai_up (S.2 63) (S.1 3).toNat (-2000000000)))
def sp_co (S : ms_T) (f : Nat) : ms_T := if sp_dn S f < S.2 41 f then sp_co1 S f else sp_nl S f
theorem sp_dn_b {S : ms_T} {f : Nat} (hf : iv_f S f) (hr : 1 ≤ S.1 5 ∧ S.1 5 ≤ 20) : 0 ≤ sp_dn S f ∧ sp_dn S f ≤ S.2 41 f ∧ S.2 47 f + S.1 5 * S.2 48 f ≤ 400 ∧ 0 ≤ S.1 5 * S.2 48 f ∧ S.1 5 * S.2 48 f ≤ 180 := by
  obtain ⟨-, h41, -, -, -, -, -, h47, h48, -⟩ := hf
  have h1 : 0 ≤ S.1 5 * S.2 48 f := Int.mul_nonneg (by omega) (by omega)
  have h2 : S.1 5 * S.2 48 f ≤ 20 * 9 := Int.mul_le_mul (by omega) (by omega) (by omega) (by omega)
  unfold sp_dn
  split <;> omega
theorem iv_co1 {S : ms_T} (h : iv_S S) {f : Nat} (hf : (f : Int) < S.1 2) : iv_S (sp_co1 S f) := by
  obtain ⟨ha, hF, hN, hL, hN2, hA, hB, hT⟩ := h
  have hb := sp_dn_b (hF f hf).1 ha.2.2.2.2.2.1
  refine ⟨ha, fun g hg => ?_, fun g hg => ?_, hL, hN2, hA, hB, hT⟩
  · obtain ⟨⟨b40, b41, b42, b43, b44, b45, b46, b47, b48, b49, b50, b51⟩, g1, g2, g3, g4, g5⟩ := hF g hg
    by_cases e : g = f
    · subst e
      have v47 : (sp_co1 S g).2 47 g = sp_dn S g := ai_up_s _ _ _
      refine ⟨⟨b40, b41, b42, b43, b44, b45, b46, ?_, b48, b49, b50, b51⟩, ?_, g2, g3, g4, g5⟩
      · rw [v47]; omega
      · rw [v47]; exact hb.2.1
    · have v47 : (sp_co1 S f).2 47 g = S.2 47 g := ai_up_n _ _ e
      refine ⟨⟨b40, b41, b42, b43, b44, b45, b46, ?_, b48, b49, b50, b51⟩, ?_, g2, g3, g4, g5⟩
      · rw [v47]; exact b47
      · rw [v47]; exact g1
  · have hne : g ≠ f := by
      intro e
      subst e
      exact absurd hf (Int.not_lt.mpr hg)
    have v47 : (sp_co1 S f).2 47 g = S.2 47 g := ai_up_n _ _ hne
    obtain ⟨n1, n2, n3⟩ := hN g hg
    exact ⟨n1, by rw [v47]; exact n2, n3⟩
theorem fb_si_same {f g : Nat → Int} {n : Nat} (h : ∀ k, k < n → f k = g k) : fb_si f n = fb_si g n := fb_si_cong h
theorem iv_nl {S : ms_T} (h : iv_S S) {f : Nat} (hf : (f : Int) < S.1 2) (h1 : S.2 46 f = 1) (hd : ¬ sp_dn S f < S.2 41 f) (hc : S.1 0 ≤ 3999) : iv_S (sp_nl S f) := by
  have hr := iv_room h hf (by omega)
  obtain ⟨ha, hF, hN, hL, hN2, hA, hB, hT⟩ := h
  have hb := sp_dn_b (hF f hf).1 ha.2.2.2.2.2.1
  have hsw := sp_swt_b (t := S.1 0 + 1) (hF f hf).1
  obtain ⟨a0, a1, a2, a3, a4, a5, a6, a7, a8⟩ := ha
  have hne : ∀ l : Nat, (l : Int) < S.1 3 → (S.2 55 l).toNat ≠ f := fun l hl e => by
    have := (hL l hl).2.1
    rw [e] at this
    omega
  have hl1 : ∀ l : Nat, (l : Int) < S.1 3 → l ≠ (S.1 3).toNat := fun l hl e => by omega
  refine ⟨⟨a0, a1, a2, ?_, a4, a5, a6, a7, a8⟩, fun g hg => ?_, fun g hg => ?_, fun l hl => ?_, fun l hl => ?_, ?_, ?_, hT⟩
  · show 0 ≤ S.1 3 + 1 ∧ S.1 3 + 1 ≤ 16
    omega
  · obtain ⟨⟨b40, b41, b42, b43, b44, b45, b46, b47, b48, b49, b50, b51⟩, g1, g2, g3, g4, g5⟩ := hF g hg
    by_cases e : g = f
    · subst e
      have v46 : (sp_nl S g).2 46 g = 2 := ai_up_s _ _ _
      have v47 : (sp_nl S g).2 47 g = sp_dn S g := ai_up_s _ _ _
      have v48 : (sp_nl S g).2 48 g = 0 := ai_up_s _ _ _
      have v51 : (sp_nl S g).2 51 g = S.1 3 := ai_up_s _ _ _
      have v55 : (sp_nl S g).2 55 (S.1 3).toNat = g := ai_up_s _ _ _
      refine ⟨⟨b40, b41, b42, b43, b44, b45, ?_, ?_, ?_, b49, b50, ?_⟩, ?_, ?_, ?_, ?_, ?_⟩
      · rw [v46]; omega
      · rw [v47]; omega
      · rw [v48]; omega
      · rw [v51]; omega
      · rw [v47]; exact hb.2.1
      · rw [v46]; omega
      · intro _; exact v48
      · intro _
        rw [v51]
        refine ⟨⟨a3.1, ?_⟩, v55⟩
        show S.1 3 < S.1 3 + 1
        omega
      · rw [v46]; intro q; exact absurd rfl q
    · have v46 : (sp_nl S f).2 46 g = S.2 46 g := ai_up_n _ _ e
      have v47 : (sp_nl S f).2 47 g = S.2 47 g := ai_up_n _ _ e
      have v48 : (sp_nl S f).2 48 g = S.2 48 g := ai_up_n _ _ e
      have v51 : (sp_nl S f).2 51 g = S.2 51 g := ai_up_n _ _ e
      refine ⟨⟨b40, b41, b42, b43, b44, b45, ?_, ?_, ?_, b49, b50, ?_⟩, ?_, ?_, ?_, ?_, ?_⟩
      · rw [v46]; exact b46
      · rw [v47]; exact b47
      · rw [v48]; exact b48
      · rw [v51]; exact b51
      · rw [v47]; exact g1
      · rw [v46, v48]; exact g2
      · rw [v46, v48]; exact g3
      · rw [v46, v51]
        intro q
        obtain ⟨q1, q2⟩ := g4 q
        have v55 : (sp_nl S f).2 55 (S.2 51 g).toNat = S.2 55 (S.2 51 g).toNat := ai_up_n _ _ (by omega)
        refine ⟨⟨q1.1, ?_⟩, by rw [v55]; exact q2⟩
        show S.2 51 g < S.1 3 + 1
        omega
      · rw [v46, v51]; exact g5
  · have hg2 : S.1 2 ≤ (g : Int) := hg
    have e : g ≠ f := by intro e; subst e; omega
    have v46 : (sp_nl S f).2 46 g = S.2 46 g := ai_up_n _ _ e
    have v47 : (sp_nl S f).2 47 g = S.2 47 g := ai_up_n _ _ e
    have v48 : (sp_nl S f).2 48 g = S.2 48 g := ai_up_n _ _ e
    rw [v46, v47, v48]
    exact hN g hg2
  · have hl2 : (l : Int) < S.1 3 + 1 := hl
    by_cases e : l = (S.1 3).toNat
    · have v55 : (sp_nl S f).2 55 l = f := by rw [e]; exact ai_up_s _ _ _
      have v56 : (sp_nl S f).2 56 l = S.1 0 + 1 := by rw [e]; exact ai_up_s _ _ _
      have v57 : (sp_nl S f).2 57 l = sp_swt S f (S.1 0 + 1) := by rw [e]; exact ai_up_s _ _ _
      have v58 : (sp_nl S f).2 58 l = S.1 0 + 1 + (if 0 ≤ S.2 49 f then 12 else 24) := by rw [e]; exact ai_up_s _ _ _
      have v59 : (sp_nl S f).2 59 l = -1 := by rw [e]; exact ai_up_s _ _ _
      have v62 : (sp_nl S f).2 62 l = -1 := by rw [e]; exact ai_up_s _ _ _
      have v63 : (sp_nl S f).2 63 l = -2000000000 := by rw [e]; exact ai_up_s _ _ _
      have v46 : (sp_nl S f).2 46 f = 2 := ai_up_s _ _ _
      have v51 : (sp_nl S f).2 51 f = S.1 3 := ai_up_s _ _ _
      obtain ⟨n1, n2⟩ := hN2 l (by omega)
      have v60 : (sp_nl S f).2 60 l = 0 := n1
      have v61 : (sp_nl S f).2 61 l = 0 := n2
      have vl : sp_left (sp_nl S f) l = S.2 41 f := by
        unfold sp_left
        rw [v55, v60, v61]
        show S.2 41 ((f : Int).toNat) - 0 - 0 = _
        rw [Int.toNat_natCast]; omega
      have b41 := (hF f hf).1.2.1
      unfold iv_l
      rw [vl, v55, v56, v57, v58, v59, v60, v61, v62, v63, Int.toNat_natCast, v46, v51]
      have f2 : (sp_nl S f).1 2 = S.1 2 := rfl
      rw [f2]
      refine ⟨by omega, rfl, by omega, by omega, hsw, by split <;> omega, by omega, by omega, by omega, by omega, by omega⟩
    · have v : ∀ a, a = 55 ∨ a = 56 ∨ a = 57 ∨ a = 58 ∨ a = 59 ∨ a = 60 ∨ a = 61 ∨ a = 62 ∨ a = 63 → (sp_nl S f).2 a l = S.2 a l := by
        intro a ha
        rcases ha with rfl | rfl | rfl | rfl | rfl | rfl | rfl | rfl | rfl <;> first | exact ai_up_n _ _ e | rfl
      have hl3 : (l : Int) < S.1 3 := by omega
      have old := hL l hl3
      have v46 : (sp_nl S f).2 46 (S.2 55 l).toNat = S.2 46 (S.2 55 l).toNat := ai_up_n _ _ (hne l hl3)
      have v51 : (sp_nl S f).2 51 (S.2 55 l).toNat = S.2 51 (S.2 55 l).toNat := ai_up_n _ _ (hne l hl3)
      have vl : sp_left (sp_nl S f) l = sp_left S l := by
        unfold sp_left
        rw [v 55 (by simp), v 60 (by simp), v 61 (by simp)]
        rfl
      unfold iv_l
      rw [vl, v 55 (by simp), v 56 (by simp), v 57 (by simp), v 58 (by simp), v 59 (by simp), v 60 (by simp), v 61 (by simp), v 62 (by simp), v 63 (by simp), v46, v51]
      exact old
  · have hl2 : S.1 3 + 1 ≤ (l : Int) := hl
    exact hN2 l (by omega)
  · show S.1 36 = fb_si (S.2 60) (S.1 3 + 1).toNat
    rw [show (S.1 3 + 1).toNat = (S.1 3).toNat + 1 by omega, fb_si_succ, (hN2 (S.1 3).toNat (by omega)).1, ← hA]
    omega
  · show S.1 37 = fb_si (S.2 61) (S.1 3 + 1).toNat
    rw [show (S.1 3 + 1).toNat = (S.1 3).toNat + 1 by omega, fb_si_succ, (hN2 (S.1 3).toNat (by omega)).2, ← hB]
    omega
theorem iv_co {S : ms_T} (h : iv_S S) {f : Nat} (hf : (f : Int) < S.1 2) (h1 : S.2 46 f = 1) (hc : S.1 0 ≤ 3999) : iv_S (sp_co S f) := by
  unfold sp_co
  split
  · exact iv_co1 h hf
  · rename_i q
    exact iv_nl h hf h1 q hc
