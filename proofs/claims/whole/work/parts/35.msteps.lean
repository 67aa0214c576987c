theorem sp_left_b {S : ms_T} (h : iv_S S) {l : Nat} (hl : (l : Int) < S.1 3) : 0 ≤ sp_left S l ∧ sp_left S l ≤ 200 ∧ (0 ≤ S.2 60 l ∧ S.2 60 l ≤ 200) ∧ (0 ≤ S.2 61 l ∧ S.2 61 l ≤ 200) ∧ (1 ≤ S.2 41 (S.2 55 l).toNat ∧ S.2 41 (S.2 55 l).toNat ≤ 200) ∧ S.2 55 l < S.1 2 ∧ 0 ≤ S.2 55 l := by
  obtain ⟨ha, hF, hN, hL, -⟩ := h
  obtain ⟨q1, -, -, -, -, -, -, q8, -⟩ := hL l hl
  have := (hF (S.2 55 l).toNat (by omega)).1.2.1
  unfold sp_left at q8 ⊢
  omega
-- sending
def sp_ftN (S : ms_T) : Nat → Nat → Nat
  | 0, k => k
  | r + 1, k => if S.2 64 k ≤ S.1 0 then k else sp_ftN S r (k + 1)
def sp_ft (S : ms_T) : Nat := sp_ftN S (S.1 6).toNat 0
theorem sp_ftN_b (S : ms_T) : ∀ (r k : Nat), k ≤ sp_ftN S r k ∧ sp_ftN S r k ≤ k + r
  | 0, k => ⟨Nat.le_refl _, Nat.le_refl _⟩
  | r + 1, k => by
    have := sp_ftN_b S r (k + 1)
    rw [sp_ftN]
    split <;> omega
def sp_go (S : ms_T) (l : Nat) : ms_T := (S.1, ai_up (ai_up S.2 59 (ai_up (S.2 59) l (S.1 0 + 1 + sp_trip (S.2 42 (S.2 55 l).toNat)))) 64 (ai_up (S.2 64) (sp_ft S) (S.1 0 + 1 + sp_trip (S.2 42 (S.2 55 l).toNat) + sp_trip (S.2 42 (S.2 55 l).toNat))))
def sp_send (S : ms_T) (l : Nat) : ms_T := if 0 ≤ S.2 59 l ∨ 0 ≤ S.2 62 l ∨ (sp_ft S : Int) = S.1 6 then S else sp_go S l
theorem iv_km {S : ms_T} (h : iv_S S) {l : Nat} (hl : (l : Int) < S.1 3) : 0 ≤ S.2 42 (S.2 55 l).toNat ∧ S.2 42 (S.2 55 l).toNat ≤ 60 := by
  have := (sp_left_b h hl).2.2.2.2.2
  exact (h.2.1 (S.2 55 l).toNat (by omega)).1.2.2.1
theorem iv_send {S : ms_T} (h : iv_S S) {l : Nat} (hl : (l : Int) < S.1 3) : iv_S (sp_send S l) := by
  have hkm := iv_km h hl
  have ht := sp_trip_b hkm
  unfold sp_send
  split
  · exact h
  · obtain ⟨ha, hF, hN, hL, hN2, hA, hB, hT⟩ := h
    have a0 := ha.1
    refine ⟨ha, hF, hN, fun j hj => ?_, hN2, hA, hB, fun k => ?_⟩
    · have old := hL j hj
      by_cases e : j = l
      · subst e
        have v59 : (sp_go S j).2 59 j = S.1 0 + 1 + sp_trip (S.2 42 (S.2 55 j).toNat) := ai_up_s _ _ _
        obtain ⟨q1, q2, q3, q4, q5, q6, q7, q8⟩ := old
        refine ⟨q1, q2, q3, q4, q5, q6, ?_, q8⟩
        rw [v59]; omega
      · have v59 : (sp_go S l).2 59 j = S.2 59 j := ai_up_n _ _ e
        obtain ⟨q1, q2, q3, q4, q5, q6, q7, q8⟩ := old
        refine ⟨q1, q2, q3, q4, q5, q6, ?_, q8⟩
        rw [v59]; exact q7
    · by_cases e : k = sp_ft S
      · have v64 : (sp_go S l).2 64 k = S.1 0 + 1 + sp_trip (S.2 42 (S.2 55 l).toNat) + sp_trip (S.2 42 (S.2 55 l).toNat) := by rw [e]; exact ai_up_s _ _ _
        rw [v64]; omega
      · have v64 : (sp_go S l).2 64 k = S.2 64 k := ai_up_n _ _ e
        rw [v64]; exact hT k
-- milling
def sp_fdN (S : ms_T) : Nat → Int
  | 0 => -1
  | n + 1 => if S.2 62 n < 0 ∧ (0 ≤ S.2 59 n ∧ S.2 59 n ≤ S.1 0) ∧ 0 < sp_left S n ∧ (sp_fdN S n < 0 ∨ S.2 58 n < S.2 58 (sp_fdN S n).toNat) then (n : Int) else sp_fdN S n
def sp_fd (S : ms_T) : Int := sp_fdN S (S.1 3).toNat
theorem sp_fdN_b (S : ms_T) : ∀ n : Nat, -1 ≤ sp_fdN S n ∧ sp_fdN S n < n
  | 0 => by rw [sp_fdN]; omega
  | n + 1 => by
    have := sp_fdN_b S n
    rw [sp_fdN]
    split <;> omega
theorem sp_fdN_w (S : ms_T) : ∀ n : Nat, 0 ≤ sp_fdN S n → S.2 62 (sp_fdN S n).toNat < 0 ∧ (0 ≤ S.2 59 (sp_fdN S n).toNat ∧ S.2 59 (sp_fdN S n).toNat ≤ S.1 0) ∧ 0 < sp_left S (sp_fdN S n).toNat
  | 0, h => by rw [sp_fdN] at h; omega
  | n + 1, h => by
    rw [sp_fdN] at h ⊢
    split
    · rename_i q
      rw [Int.toNat_natCast]
      exact ⟨q.1, q.2.1, q.2.2.1⟩
    · rename_i q
      rw [if_neg q] at h
      exact sp_fdN_w S n h
/-- the n tons from the a-th on are of v -/
def sp_bd (g : Nat → Int) (a : Nat) (v : Int) : Nat → (Nat → Int)
  | 0 => g
  | n + 1 => ai_up (sp_bd g a v n) (a + n) v
theorem sp_bd_at (g : Nat → Int) (a : Nat) (v : Int) : ∀ (n j : Nat), sp_bd g a v n j = if a ≤ j ∧ j < a + n then v else g j
  | 0, j => by rw [sp_bd, if_neg (by omega)]
  | n + 1, j => by
    rw [sp_bd]
    by_cases e : j = a + n
    · rw [e, ai_up_s, if_pos (by omega)]
    · rw [ai_up_n _ _ e, sp_bd_at g a v n j]
      by_cases q : a ≤ j ∧ j < a + n
      · rw [if_pos q, if_pos (by omega)]
      · rw [if_neg q, if_neg (by omega)]
def sp_ml1 (S : ms_T) (l : Nat) (n : Int) : ms_T := (ai_up S.1 36 (S.1 36 + n), ai_up (ai_up S.2 65 (sp_bd (S.2 65) (S.1 36).toNat (S.2 55 l) n.toNat)) 60 (ai_up (S.2 60) l (S.2 60 l + n)))
def sp_mn (S : ms_T) (room : Int) : Int := if sp_left S (sp_fd S).toNat < room then sp_left S (sp_fd S).toNat else room
def sp_mlN : Nat → ms_T → Int → ms_T
  | 0, S, _ => S
  | r + 1, S, room => if sp_fd S < 0 ∨ room ≤ 0 then S else sp_mlN r (sp_ml1 S (sp_fd S).toNat (sp_mn S room)) (room - sp_mn S room)
def sp_mill (S : ms_T) : ms_T := sp_mlN 16 S (S.1 7)
theorem iv_sum {S : ms_T} (h : iv_S S) : 0 ≤ S.1 36 ∧ S.1 36 ≤ 200 * S.1 3 ∧ 0 ≤ S.1 37 ∧ S.1 37 ≤ 200 * S.1 3 ∧ S.1 36 + S.1 37 ≤ 200 * S.1 3 := by
  have key : ∀ n : Nat, (n : Int) ≤ S.1 3 → 0 ≤ fb_si (S.2 60) n ∧ 0 ≤ fb_si (S.2 61) n ∧ fb_si (S.2 60) n + fb_si (S.2 61) n ≤ 200 * (n : Int) := by
    intro n
    induction n with
    | zero => intro _; simp [fb_si]
    | succ n ih =>
      intro hn
      have i1 := ih (by omega)
      have b := sp_left_b h (l := n) (by omega)
      unfold sp_left at b
      rw [fb_si_succ, fb_si_succ]
      omega
  have h3 := h.1.2.2.2.1
  have := key (S.1 3).toNat (by omega)
  obtain ⟨-, -, -, -, -, hA, hB, -⟩ := h
  omega
theorem iv_ml1 {S : ms_T} (h : iv_S S) {l : Nat} (hl : (l : Int) < S.1 3) (ho : S.2 62 l < 0) {n : Int} (hn : 0 ≤ n ∧ n ≤ sp_left S l) : iv_S (sp_ml1 S l n) := by
  have hlb := sp_left_b h hl
  obtain ⟨ha, hF, hN, hL, hN2, hA, hB, hT⟩ := h
  have f36 : (sp_ml1 S l n).1 36 = S.1 36 + n := rfl
  refine ⟨ha, hF, hN, fun j hj => ?_, fun j hj => ?_, ?_, hB, hT⟩
  · have old := hL j hj
    by_cases e : j = l
    · subst e
      have v60 : (sp_ml1 S j n).2 60 j = S.2 60 j + n := ai_up_s _ _ _
      have vl : sp_left (sp_ml1 S j n) j = sp_left S j - n := by
        unfold sp_left
        rw [v60]
        show S.2 41 (S.2 55 j).toNat - (S.2 60 j + n) - S.2 61 j = _
        omega
      obtain ⟨q1, q2, q3, q4, q5, q6, q7, q8, q9, q10, q11⟩ := old
      refine ⟨q1, q2, q3, q4, q5, q6, q7, ?_, q9, ?_, q11⟩
      · rw [v60, vl]
        refine ⟨by omega, q8.2.1, by omega⟩
      · intro q
        exact absurd q (by show ¬ 0 ≤ S.2 62 j; omega)
    · have v60 : (sp_ml1 S l n).2 60 j = S.2 60 j := ai_up_n _ _ e
      have vl : sp_left (sp_ml1 S l n) j = sp_left S j := by
        unfold sp_left
        rw [v60]
        rfl
      obtain ⟨q1, q2, q3, q4, q5, q6, q7, q8, q9, q10, q11⟩ := old
      refine ⟨q1, q2, q3, q4, q5, q6, q7, ?_, q9, ?_, q11⟩
      · rw [v60, vl]; exact q8
      · rw [vl]; exact q10
  · have hj2 : S.1 3 ≤ (j : Int) := hj
    have e : j ≠ l := by intro e; subst e; omega
    have v60 : (sp_ml1 S l n).2 60 j = S.2 60 j := ai_up_n _ _ e
    rw [v60]
    exact hN2 j hj2
  · rw [f36]
    show S.1 36 + n = fb_si (ai_up (S.2 60) l (S.2 60 l + n)) (S.1 3).toNat
    have e1 : ai_up (S.2 60) l (S.2 60 l + n) = (fun k => if k = l then S.2 60 l + n else S.2 60 k) := rfl
    rw [e1, fb_si_upd (S.2 60) (S.2 60 l + n) (by omega : l < (S.1 3).toNat), hA]
    omega
-- the loads' ends
def sp_los (S : ms_T) (l : Nat) : ms_T := if S.2 58 l ≤ S.1 0 + 1 then (ai_up S.1 37 (S.1 37 + sp_left S l), ai_up S.2 61 (ai_up (S.2 61) l (S.2 61 l + sp_left S l))) else S
def sp_ov (S : ms_T) (l : Nat) : ms_T := if sp_left S l = 0 then (S.1, ai_up S.2 62 (ai_up (S.2 62) l (S.1 0))) else S
def sp_el (S : ms_T) (l : Nat) : ms_T := if 0 ≤ S.2 62 l then S else sp_ov (sp_los S l) l
theorem iv_los {S : ms_T} (h : iv_S S) {l : Nat} (hl : (l : Int) < S.1 3) (ho : S.2 62 l < 0) : iv_S (sp_los S l) := by
  have hlb := sp_left_b h hl
  unfold sp_los
  split
  · obtain ⟨ha, hF, hN, hL, hN2, hA, hB, hT⟩ := h
    generalize hS : ((ai_up S.1 37 (S.1 37 + sp_left S l), ai_up S.2 61 (ai_up (S.2 61) l (S.2 61 l + sp_left S l))) : ms_T) = S'
    have ea : ∀ a, a ≠ 61 → S'.2 a = S.2 a := fun a q => by rw [← hS]; exact ai_up_n _ _ q
    have e61 : S'.2 61 = ai_up (S.2 61) l (S.2 61 l + sp_left S l) := by rw [← hS]; rfl
    have ef : ∀ k, k ≠ 37 → S'.1 k = S.1 k := fun k q => by rw [← hS]; exact ai_up_n _ _ q
    have e37 : S'.1 37 = S.1 37 + sp_left S l := by rw [← hS]; rfl
    subst hS
    refine ⟨ha, hF, hN, fun j hj => ?_, fun j hj => ?_, hA, ?_, hT⟩
    · have old := hL j hj
      by_cases e : j = l
      · subst e
        have v61 := congrFun e61 j
        rw [ai_up_s] at v61
        have vl : sp_left ((ai_up S.1 37 (S.1 37 + sp_left S j), ai_up S.2 61 (ai_up (S.2 61) j (S.2 61 j + sp_left S j))) : ms_T) j = 0 := by
          unfold sp_left at v61 ⊢
          rw [v61]
          show S.2 41 (S.2 55 j).toNat - S.2 60 j - (S.2 61 j + (S.2 41 (S.2 55 j).toNat - S.2 60 j - S.2 61 j)) = 0
          omega
        obtain ⟨q1, q2, q3, q4, q5, q6, q7, q8, q9, q10, q11⟩ := old
        refine ⟨q1, q2, q3, q4, q5, q6, q7, ?_, q9, ?_, q11⟩
        · rw [vl, v61]
          exact ⟨q8.1, by omega, by omega⟩
        · intro _; exact vl
      · have v61 := congrFun e61 j
        rw [ai_up_n _ _ e] at v61
        have vl : sp_left ((ai_up S.1 37 (S.1 37 + sp_left S l), ai_up S.2 61 (ai_up (S.2 61) l (S.2 61 l + sp_left S l))) : ms_T) j = sp_left S j := by
          show S.2 41 (S.2 55 j).toNat - S.2 60 j - (ai_up (S.2 61) l (S.2 61 l + sp_left S l)) j = _
          rw [ai_up_n _ _ e]
          rfl
        obtain ⟨q1, q2, q3, q4, q5, q6, q7, q8, q9, q10, q11⟩ := old
        refine ⟨q1, q2, q3, q4, q5, q6, q7, ?_, q9, ?_, q11⟩
        · rw [vl, v61]; exact q8
        · rw [vl]; exact q10
    · have hj2 : S.1 3 ≤ (j : Int) := hj
      have e : j ≠ l := by intro e; subst e; omega
      have v61 := congrFun e61 j
      rw [ai_up_n _ _ e] at v61
      rw [v61]
      exact hN2 j hj2
    · rw [e37]
      show S.1 37 + sp_left S l = fb_si (ai_up (S.2 61) l (S.2 61 l + sp_left S l)) (S.1 3).toNat
      have e1 : ai_up (S.2 61) l (S.2 61 l + sp_left S l) = (fun k => if k = l then S.2 61 l + sp_left S l else S.2 61 k) := rfl
      rw [e1, fb_si_upd (S.2 61) (S.2 61 l + sp_left S l) (by omega : l < (S.1 3).toNat), hB]
      omega
  · exact h
theorem iv_ov {S : ms_T} (h : iv_S S) {l : Nat} : iv_S (sp_ov S l) := by
  unfold sp_ov
  split
  · rename_i h0
    obtain ⟨ha, hF, hN, hL, hN2, hA, hB, hT⟩ := h
    have a0 := ha.1
    refine ⟨ha, hF, hN, fun j hj => ?_, hN2, hA, hB, hT⟩
    obtain ⟨q1, q2, q3, q4, q5, q6, q7, q8, q9, q10, q11⟩ := hL j hj
    by_cases e : j = l
    · subst e
      have v62 : ((S.1, ai_up S.2 62 (ai_up (S.2 62) j (S.1 0))) : ms_T).2 62 j = S.1 0 := ai_up_s _ _ _
      refine ⟨q1, q2, q3, q4, q5, q6, q7, q8, ?_, fun _ => h0, q11⟩
      rw [v62]; omega
    · have v62 : ((S.1, ai_up S.2 62 (ai_up (S.2 62) l (S.1 0))) : ms_T).2 62 j = S.2 62 j := ai_up_n _ _ e
      refine ⟨q1, q2, q3, q4, q5, q6, q7, q8, ?_, ?_, q11⟩
      · rw [v62]; exact q9
      · rw [v62]; exact q10
  · exact h
theorem iv_el {S : ms_T} (h : iv_S S) {l : Nat} (hl : (l : Int) < S.1 3) : iv_S (sp_el S l) := by
  unfold sp_el
  split
  · exact h
  · exact iv_ov (iv_los h hl (by omega))
-- fires
def sp_fr (S : ms_T) (f : Nat) : ms_T := if S.2 46 f = 0 ∧ 0 ≤ S.2 49 f ∧ S.1 0 = S.2 49 f + 11 then (S.1, ai_up S.2 46 (ai_up (S.2 46) f 3)) else S
theorem iv_fr {S : ms_T} (h : iv_S S) {f : Nat} (hf : (f : Int) < S.1 2) : iv_S (sp_fr S f) := by
  unfold sp_fr
  split
  · rename_i q
    obtain ⟨ha, hF, hN, hL, hN2, hA, hB, hT⟩ := h
    refine ⟨ha, fun g hg => ?_, fun g hg => ?_, fun l hl => ?_, hN2, hA, hB, hT⟩
    · obtain ⟨⟨b40, b41, b42, b43, b44, b45, b46, b47, b48, b49, b50, b51⟩, g1, g2, g3, g4, g5⟩ := hF g hg
      by_cases e : g = f
      · subst e
        have v46 : ((S.1, ai_up S.2 46 (ai_up (S.2 46) g 3)) : ms_T).2 46 g = 3 := ai_up_s _ _ _
        refine ⟨⟨b40, b41, b42, b43, b44, b45, ?_, b47, b48, b49, b50, b51⟩, g1, ?_, ?_, ?_, ?_⟩
        · rw [v46]; omega
        · rw [v46]; omega
        · intro _; exact g3 (by omega)
        · rw [v46]; omega
        · intro _; exact g5 (by omega)
      · have v46 : ((S.1, ai_up S.2 46 (ai_up (S.2 46) f 3)) : ms_T).2 46 g = S.2 46 g := ai_up_n _ _ e
        refine ⟨⟨b40, b41, b42, b43, b44, b45, ?_, b47, b48, b49, b50, b51⟩, g1, ?_, ?_, ?_, ?_⟩
        · rw [v46]; exact b46
        · rw [v46]; exact g2
        · rw [v46]; exact g3
        · rw [v46]; exact g4
        · rw [v46]; exact g5
    · have hg2 : S.1 2 ≤ (g : Int) := hg
      have e : g ≠ f := by intro e; subst e; omega
      have v46 : ((S.1, ai_up S.2 46 (ai_up (S.2 46) f 3)) : ms_T).2 46 g = S.2 46 g := ai_up_n _ _ e
      rw [v46]
      exact hN g hg2
    · obtain ⟨q1, q2, q3⟩ := hL l hl
      have e : (S.2 55 l).toNat ≠ f := by intro e; rw [e] at q2; omega
      have v46 : ((S.1, ai_up S.2 46 (ai_up (S.2 46) f 3)) : ms_T).2 46 (S.2 55 l).toNat = S.2 46 (S.2 55 l).toNat := ai_up_n _ _ e
      exact ⟨q1, v46.trans q2, q3⟩
  · exact h
