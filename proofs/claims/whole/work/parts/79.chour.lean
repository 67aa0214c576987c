/-- what two states have in common -/
def kr_ (J A : Nat → Prop) (S S' : ms_T) : Prop := (∀ j, ¬ J j → S'.1 j = S.1 j) ∧ ∀ a, ¬ A a → S'.2 a = S.2 a
theorem kr_rf (J A : Nat → Prop) (S : ms_T) : kr_ J A S S := ⟨fun _ _ => rfl, fun _ _ => rfl⟩
theorem kr_tr {J A : Nat → Prop} {S S1 S2 : ms_T} (h : kr_ J A S S1) (g : kr_ J A S1 S2) : kr_ J A S S2 := ⟨fun j q => (g.1 j q).trans (h.1 j q), fun a q => (g.2 a q).trans (h.2 a q)⟩
theorem kr_it {J A : Nat → Prop} {f : ms_T → Nat → ms_T} (H : ∀ S k, kr_ J A S (f S k)) (S : ms_T) : ∀ n, kr_ J A S (sp_it f S n)
  | 0 => kr_rf J A S
  | n + 1 => kr_tr (kr_it H S n) (H _ n)
theorem kr_send (S : ms_T) (k : Nat) : kr_ (fun _ => False) (fun a => a = 59 ∨ a = 64) S (sp_send S k) := by
  unfold sp_send
  split
  · exact kr_rf _ _ S
  · refine ⟨fun _ _ => rfl, fun a h => ?_⟩
    show ai_up (ai_up S.2 59 _) 64 _ a = _
    rw [ai_up_n _ _ (by omega), ai_up_n _ _ (by omega)]
theorem kr_fr (S : ms_T) (k : Nat) : kr_ (fun _ => False) (fun a => a = 46) S (sp_fr S k) := by
  unfold sp_fr
  split
  · exact ⟨fun _ _ => rfl, fun a h => ai_up_n S.2 _ h⟩
  · exact kr_rf _ _ S
theorem kr_el (S : ms_T) (k : Nat) : kr_ (fun j => j = 37) (fun a => a = 61 ∨ a = 62) S (sp_el S k) := by
  unfold sp_el
  split
  · exact kr_rf _ _ S
  · have hl := sp_los_f S k
    have h1 : kr_ (fun j => j = 37) (fun a => a = 61 ∨ a = 62) S (sp_los S k) := ⟨fun j q => hl.1 j q, fun a q => hl.2.1 a (by omega)⟩
    refine kr_tr h1 ?_
    unfold sp_ov
    split
    · exact ⟨fun _ _ => rfl, fun a q => ai_up_n _ _ (by omega)⟩
    · exact kr_rf _ _ _
theorem kr_pp (S : ms_T) (k : Nat) : kr_ (fun _ => False) (fun a => a = 63 ∨ a = 39) S (sp_pp S k) := ⟨fun _ _ => by rw [sp_pp_f], fun a q => sp_pp_a S k (by omega) (by omega)⟩
theorem kr_mlN : ∀ (r : Nat) (S : ms_T) (room : Int), kr_ (fun j => j = 36) (fun a => a = 65 ∨ a = 60) S (sp_mlN r S room)
  | 0, S, _ => kr_rf _ _ S
  | r + 1, S, room => by
    rw [sp_mlN]
    split
    · exact kr_rf _ _ S
    · refine kr_tr ⟨fun j q => ai_up_n S.1 _ q, fun a q => ?_⟩ (kr_mlN r _ _)
      show ai_up (ai_up S.2 65 _) 60 _ a = _
      rw [ai_up_n _ _ (by omega), ai_up_n _ _ (by omega)]
theorem kr_h3 (S : ms_T) : kr_ (fun j => j = 36) (fun a => a = 65 ∨ a = 60) S (sp_h3 S) := by
  unfold sp_h3
  split
  · exact kr_rf _ _ S
  · exact kr_mlN 16 S _
theorem kr_h2 (S : ms_T) : kr_ (fun _ => False) (fun a => a = 59 ∨ a = 64) S (sp_h2 S) := kr_it kr_send S _
theorem kr_h4 (S : ms_T) : kr_ (fun j => j = 37) (fun a => a = 61 ∨ a = 62) S (sp_h4 S) := kr_it kr_el S _
theorem kr_h5 (S : ms_T) : kr_ (fun _ => False) (fun a => a = 46) S (sp_h5 S) := kr_it kr_fr S _
theorem kr_h6 (S : ms_T) : kr_ (fun j => j = 38) (fun a => a = 63 ∨ a = 39) S (sp_h6 S) := by
  unfold sp_h6
  split
  · have h1 : kr_ (fun j => j = 38) (fun a => a = 63 ∨ a = 39) S ((ai_up S.1 38 (sp_mean S), S.2) : ms_T) := ⟨fun j q => ai_up_n S.1 _ q, fun _ _ => rfl⟩
    have h2 := kr_it kr_pp (ai_up S.1 38 (sp_mean S), S.2) (S.1 3).toNat
    exact kr_tr h1 ⟨fun j q => h2.1 j (fun z => z), fun a q => h2.2 a q⟩
  · exact kr_rf _ _ S
-- cutting
theorem cs_k (S : ms_T) (k : Nat) : (sp_cs S k).1 0 = S.1 0 ∧ (sp_cs S k).1 2 = S.1 2 ∧ (sp_cs S k).1 6 = S.1 6 ∧ (sp_cs S k).1 36 = S.1 36 ∧ (sp_cs S k).2 65 = S.2 65 ∧ (sp_cs S k).2 49 = S.2 49 ∧ (sp_cs S k).2 50 = S.2 50 := by
  unfold sp_cs sp_co
  split
  · split
    · exact ⟨rfl, rfl, rfl, rfl, rfl, rfl, rfl⟩
    · exact ⟨rfl, rfl, rfl, rfl, rfl, rfl, rfl⟩
  · exact ⟨rfl, rfl, rfl, rfl, rfl, rfl, rfl⟩
theorem cs_it (S : ms_T) : ∀ n, (sp_it sp_cs S n).1 0 = S.1 0 ∧ (sp_it sp_cs S n).1 2 = S.1 2 ∧ (sp_it sp_cs S n).1 6 = S.1 6 ∧ (sp_it sp_cs S n).1 36 = S.1 36 ∧ (sp_it sp_cs S n).2 65 = S.2 65 ∧ (sp_it sp_cs S n).2 49 = S.2 49 ∧ (sp_it sp_cs S n).2 50 = S.2 50
  | 0 => ⟨rfl, rfl, rfl, rfl, rfl, rfl, rfl⟩
  | n + 1 => by
    have h := cs_it S n
    have g := cs_k (sp_it sp_cs S n) n
    exact ⟨g.1.trans h.1, g.2.1.trans h.2.1, g.2.2.1.trans h.2.2.1, g.2.2.2.1.trans h.2.2.2.1, g.2.2.2.2.1.trans h.2.2.2.2.1, g.2.2.2.2.2.1.trans h.2.2.2.2.2.1, g.2.2.2.2.2.2.trans h.2.2.2.2.2.2⟩
theorem fb_cs {S : ms_T} (h : fb_ S) (k : Nat) : fb_ (sp_cs S k) := by
  unfold sp_cs sp_co
  split
  · rename_i q1
    split
    · exact h
    · intro f hf h46 h49
      have h46b : ai_up (S.2 46) k 2 f = 0 := h46
      by_cases e : f = k
      · rw [e, ai_up_s] at h46b
        omega
      · rw [ai_up_n _ _ e] at h46b
        exact h f hf h46b h49
  · exact h
theorem fb_it {S : ms_T} (h : fb_ S) : ∀ n, fb_ (sp_it sp_cs S n)
  | 0 => h
  | n + 1 => fb_cs (fb_it h n) n
theorem py_cs {S : ms_T} (h : py_ S 0) (h3 : 0 ≤ S.1 3) (h0 : 0 ≤ S.1 0) (k : Nat) : py_ (sp_cs S k) 0 := by
  unfold sp_cs sp_co
  split
  · split
    · exact h
    · intro l _ hl
      have hl2 : (l : Int) < S.1 3 + 1 := hl
      by_cases e : l = (S.1 3).toNat
      · have e62 : (sp_nl S k).2 62 l = -1 := by
          show ai_up (S.2 62) (S.1 3).toNat (-1) l = -1
          rw [e, ai_up_s]
        have e63 : (sp_nl S k).2 63 l = -2000000000 := by
          show ai_up (S.2 63) (S.1 3).toNat (-2000000000) l = -2000000000
          rw [e, ai_up_s]
        rw [e62, e63]
        refine ⟨fun q => by omega, fun _ => rfl, ?_⟩
        show (-1 : Int) ≤ S.1 0
        omega
      · have e62 : (sp_nl S k).2 62 l = S.2 62 l := by
          show ai_up (S.2 62) (S.1 3).toNat (-1) l = _
          rw [ai_up_n _ _ e]
        have e63 : (sp_nl S k).2 63 l = S.2 63 l := by
          show ai_up (S.2 63) (S.1 3).toNat (-2000000000) l = _
          rw [ai_up_n _ _ e]
        rw [e62, e63]
        exact h l (Nat.zero_le l) (by omega)
  · exact h
theorem it_cs3 (S : ms_T) (n : Nat) : S.1 3 ≤ (sp_it sp_cs S n).1 3 := by
  have := it2_cs3 n 0 S
  rwa [it2_0] at this
theorem py_it {S : ms_T} (h : py_ S 0) (h3 : 0 ≤ S.1 3) (h0 : 0 ≤ S.1 0) : ∀ n, py_ (sp_it sp_cs S n) 0
  | 0 => h
  | n + 1 => py_cs (py_it h h3 h0 n) (by have := it_cs3 S n; omega) (by have := (cs_it S n).1; omega) n
theorem py_kp {S S' : ms_T} (h : py_ S 0) (h3 : S'.1 3 = S.1 3) (h0 : S'.1 0 = S.1 0) (h62 : S'.2 62 = S.2 62) (h63 : S'.2 63 = S.2 63) : py_ S' 0 := by
  intro l _ hl
  rw [h3] at hl
  rw [h62, h63, h0]
  exact h l (Nat.zero_le l) hl
theorem py_el {S : ms_T} (h : py_ S 0) (h0 : 0 ≤ S.1 0) (k : Nat) : py_ (sp_el S k) 0 := by
  have hk := kr_el S k
  have e3 := hk.1 3 (by decide)
  have e0 := hk.1 0 (by decide)
  have e63 := hk.2 63 (by omega)
  intro l _ hl
  rw [e3] at hl
  rw [e63, e0]
  have old := h l (Nat.zero_le l) hl
  by_cases q : 0 ≤ S.2 62 k
  · have : sp_el S k = S := if_pos q
    rw [this]
    exact old
  · have e : sp_el S k = sp_ov (sp_los S k) k := if_neg q
    have hlf := sp_los_f S k
    have e62 : (sp_el S k).2 62 l = S.2 62 l ∨ (l = k ∧ (sp_el S k).2 62 l = S.1 0) := by
      rw [e]
      unfold sp_ov
      split
      · by_cases el : l = k
        · right
          refine ⟨el, ?_⟩
          show ai_up ((sp_los S k).2 62) k ((sp_los S k).1 0) l = _
          rw [el, ai_up_s]
          exact hlf.1 0 (by decide)
        · left
          show ai_up ((sp_los S k).2 62) k ((sp_los S k).1 0) l = _
          rw [ai_up_n _ _ el, hlf.2.1 62 (by decide)]
      · left
        rw [hlf.2.1 62 (by decide)]
    rcases e62 with e62 | ⟨rfl, e62⟩
    · rw [e62]
      exact old
    · rw [e62]
      have h63 := old.2.1 (by omega)
      exact ⟨fun _ => ⟨fun _ => rfl, fun _ => h63⟩, fun q => by omega, Int.le_refl _⟩
theorem py_h4 {S : ms_T} (h : py_ S 0) (h0 : 0 ≤ S.1 0) : ∀ n, py_ (sp_it sp_el S n) 0
  | 0 => h
  | n + 1 => py_el (py_h4 h h0 n) (by have := (kr_it kr_el S n).1 0 (by decide); omega) n
theorem fb_kp {S S' : ms_T} (h : fb_ S) (h0 : S'.1 0 = S.1 0) (h2 : S'.1 2 = S.1 2) (h46 : S'.2 46 = S.2 46) (h49 : S'.2 49 = S.2 49) : fb_ S' := by
  intro f hf
  rw [h2] at hf
  rw [h46, h49, h0]
  exact h f hf
theorem br_kp {S S' : ms_T} {G G' : gh_T} (h : br_ S G) (h36 : S'.1 36 = S.1 36) (h65 : S'.2 65 = S.2 65) (h61 : G' 6 1 = G 6 1) (h7 : ∀ j, G' 7 j = G 7 j) (h8 : ∀ j, G' 8 j = G 8 j) : br_ S' G' := by
  obtain ⟨b1, b2, b3, b4, b5⟩ := h
  refine ⟨fun j hj => ?_, fun q => ?_, fun q => ?_, fun i j hj hi hp => ?_, fun j hj => ?_⟩
  · rw [h61] at hj
    rw [h8, h8]
    exact b1 j hj
  · rw [h61] at q
    rw [h36]
    exact b2 q
  · rw [h61] at q ⊢
    rw [h8, h8, h36]
    exact b3 q
  · rw [h61] at hj
    rw [h8] at hi
    rw [h65, h7]
    exact b4 i j hj hi (fun j2 hj2 => by have := hp j2 hj2; rwa [h8] at this)
  · rw [h61] at hj
    rw [h7]
    exact b5 j hj
theorem fb_frN {S : ms_T} (h : fb_ S) : ∀ n, fb_ (sp_it sp_fr S n)
  | 0 => h
  | n + 1 => fb_fr (fb_frN h n) n
/-- after the hour's fires, what still burns has an hour more -/
theorem fb_end {S : ms_T} (h : fb_ S) : ∀ n : Nat, ∀ f : Nat, f < n → (f : Int) < S.1 2 → (sp_it sp_fr S n).2 46 f = 0 → 0 ≤ S.2 49 f → S.1 0 ≤ S.2 49 f + 10
  | 0, f, hf, _, _, _ => by omega
  | n + 1, f, hf, h2, h46, h49 => by
    have hk := kr_it kr_fr S n
    have e0 := hk.1 0 (fun z => z)
    have e49 := hk.2 49 (by decide)
    have h46b : (sp_fr (sp_it sp_fr S n) n).2 46 f = 0 := h46
    have fbn := fb_frN h n
    obtain ⟨T, hTe⟩ : ∃ T, T = sp_it sp_fr S n := ⟨_, rfl⟩
    rw [← hTe] at h46b e0 e49 fbn hk
    have e2 := hk.1 2 (fun z => z)
    by_cases e : f = n
    · unfold sp_fr at h46b
      rw [e] at h46b
      split at h46b
      · have : ai_up (T.2 46) n 3 n = 0 := h46b
        rw [ai_up_s] at this
        omega
      · rename_i q
        rw [e0, e49] at q
        rw [← e] at q h46b
        have := fbn f (by rw [e2]; exact h2) h46b (by rw [e49]; exact h49)
        rw [e0, e49] at this
        omega
    · refine fb_end h n f (by omega) h2 ?_ h49
      rw [← hTe]
      unfold sp_fr at h46b
      split at h46b
      · have : ai_up (T.2 46) n 3 f = 0 := h46b
        rw [ai_up_n _ _ e] at this
        exact this
      · exact h46b
