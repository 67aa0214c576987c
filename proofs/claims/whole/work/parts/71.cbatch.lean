/-- the batches: their ends rise, the last is all that was crushed, and they tell the tons' fields -/
def br_ (S : ms_T) (G : gh_T) : Prop := (∀ j, j + 1 < G 6 1 → G 8 j < G 8 (j + 1)) ∧ (G 6 1 = 0 → S.1 36 = 0) ∧ (G 6 1 ≠ 0 → (G 8 (G 6 1 - 1) : Int) = S.1 36 ∧ 0 < G 8 0) ∧ (∀ i j : Nat, j < G 6 1 → i < G 8 j → (∀ j2, j2 < j → G 8 j2 ≤ i) → S.2 65 i = (G 7 j : Int)) ∧ (∀ j, j < G 6 1 → G 7 j < 16)
def cn_ (G : gh_T) : Nat := if G 6 1 = 0 then 0 else G 8 (G 6 1 - 1)
theorem br_cn {S : ms_T} {G : gh_T} (h : br_ S G) : (cn_ G : Int) = S.1 36 := by
  unfold cn_
  split
  · rename_i q
    have := h.2.1 q
    omega
  · rename_i q
    exact (h.2.2.1 q).1
theorem br_le {S : ms_T} {G : gh_T} (h : br_ S G) : ∀ a b, a ≤ b → b < G 6 1 → G 8 a ≤ G 8 b := by
  intro a b
  induction b with
  | zero => intro h1 h2; rw [show a = 0 by omega]; exact Nat.le_refl _
  | succ b ih =>
    intro h1 h2
    by_cases e : a = b + 1
    · rw [e]; exact Nat.le_refl _
    · have := ih (by omega) (by omega)
      have := h.1 b h2
      omega
def gb1 (G : gh_T) (e : Nat) : gh_T := gi_ G 8 (G 6 1 - 1) e
def gb2 (G : gh_T) (a0 f e : Nat) : gh_T := gi_ (gi_ (gi_ (gi_ G 4 (G 6 1) a0) 7 (G 6 1) f) 8 (G 6 1) e) 6 1 (G 6 1 + 1)
theorem gb2_n (G : gh_T) {a0 f e a b : Nat} (h4 : ¬ (a = 4 ∧ b = G 6 1)) (h7 : ¬ (a = 7 ∧ b = G 6 1)) (h8 : ¬ (a = 8 ∧ b = G 6 1)) (h6 : ¬ (a = 6 ∧ b = 1)) : gb2 G a0 f e a b = G a b := by
  unfold gb2
  rw [gi_n _ h6, gi_n _ h8, gi_n _ h7, gi_n _ h4]
theorem gb2_6 (G : gh_T) (a0 f e : Nat) : gb2 G a0 f e 6 1 = G 6 1 + 1 := gi_s _ _ _ _
theorem gb2_8 (G : gh_T) (a0 f e : Nat) : gb2 G a0 f e 8 (G 6 1) = e := by
  unfold gb2
  rw [gi_n _ (by omega), gi_s]
theorem gb2_7 (G : gh_T) (a0 f e : Nat) : gb2 G a0 f e 7 (G 6 1) = f := by
  unfold gb2
  rw [gi_n _ (by omega), gi_n _ (by omega), gi_s]
theorem gb2_4 (G : gh_T) (a0 f e : Nat) : gb2 G a0 f e 4 (G 6 1) = a0 := by
  unfold gb2
  rw [gi_n _ (by omega), gi_n _ (by omega), gi_n _ (by omega), gi_s]
theorem br_same {S : ms_T} {G : gh_T} (h : br_ S G) {l : Nat} {n : Int} (hn : 1 ≤ n) (h0 : G 6 1 ≠ 0) (hf : (G 7 (G 6 1 - 1) : Int) = S.2 55 l) : br_ (sp_ml1 S l n) (gb1 G (S.1 36 + n).toNat) := by
  obtain ⟨b1, b2, b3, b4, b5⟩ := h
  have b36 := (b3 h0).1
  have hG : ∀ a b, ¬ (a = 8 ∧ b = G 6 1 - 1) → gb1 G (S.1 36 + n).toNat a b = G a b := fun a b q => gi_n G q
  have e61 := hG 6 1 (by omega)
  have e8 : gb1 G (S.1 36 + n).toNat 8 (G 6 1 - 1) = (S.1 36 + n).toNat := gi_s _ _ _ _
  have e65 : (sp_ml1 S l n).2 65 = sp_bd (S.2 65) (S.1 36).toNat (S.2 55 l) n.toNat := rfl
  have e36 : (sp_ml1 S l n).1 36 = S.1 36 + n := rfl
  refine ⟨fun j hj => ?_, fun q => ?_, fun _ => ⟨?_, ?_⟩, fun i j hj hi hp => ?_, fun j hj => ?_⟩
  · rw [e61] at hj
    have := b1 j hj
    rw [hG 8 j (by omega)]
    by_cases q : j + 1 = G 6 1 - 1
    · rw [q, e8]
      rw [q] at this
      omega
    · rw [hG 8 (j + 1) (by omega)]
      exact this
  · rw [e61] at q
    exact absurd q h0
  · rw [e61, e8, e36]
    omega
  · by_cases q : G 6 1 - 1 = 0
    · rw [← q, e8]
      omega
    · rw [hG 8 0 (by omega)]
      exact (b3 h0).2
  · rw [e61] at hj
    rw [hG 7 j (by omega), e65, sp_bd_at]
    by_cases q : j = G 6 1 - 1
    · rw [q, e8] at hi
      by_cases q2 : (S.1 36).toNat ≤ i
      · rw [if_pos (by omega), q]
        exact hf.symm
      · rw [if_neg (by omega)]
        refine b4 i j hj (by rw [q]; omega) (fun j2 hj2 => ?_)
        have := hp j2 hj2
        rw [hG 8 j2 (by omega)] at this
        exact this
    · rw [hG 8 j (by omega)] at hi
      have hle := br_le ⟨b1, b2, b3, b4, b5⟩ j (G 6 1 - 1) (by omega) (by omega)
      rw [if_neg (by omega)]
      refine b4 i j hj hi (fun j2 hj2 => ?_)
      have := hp j2 hj2
      rw [hG 8 j2 (by omega)] at this
      exact this
  · rw [e61] at hj
    rw [hG 7 j (by omega)]
    exact b5 j hj
theorem br_new {S : ms_T} {G : gh_T} (h : br_ S G) {l a0 f : Nat} {n : Int} (hn : 1 ≤ n) (h36 : 0 ≤ S.1 36) (hf : (f : Int) = S.2 55 l) (hf16 : f < 16) : br_ (sp_ml1 S l n) (gb2 G a0 f (S.1 36 + n).toNat) := by
  obtain ⟨b1, b2, b3, b4, b5⟩ := h
  generalize hG2 : gb2 G a0 f (S.1 36 + n).toNat = G2
  have hG : ∀ a b, ¬ (a = 4 ∧ b = G 6 1) → ¬ (a = 7 ∧ b = G 6 1) → ¬ (a = 8 ∧ b = G 6 1) → ¬ (a = 6 ∧ b = 1) → G2 a b = G a b := fun a b q1 q2 q3 q4 => by rw [← hG2]; exact gb2_n G q1 q2 q3 q4
  have e61 : G2 6 1 = G 6 1 + 1 := by rw [← hG2]; exact gb2_6 _ _ _ _
  have e8 : G2 8 (G 6 1) = (S.1 36 + n).toNat := by rw [← hG2]; exact gb2_8 _ _ _ _
  have e7 : G2 7 (G 6 1) = f := by rw [← hG2]; exact gb2_7 _ _ _ _
  have e65 : (sp_ml1 S l n).2 65 = sp_bd (S.2 65) (S.1 36).toNat (S.2 55 l) n.toNat := rfl
  have e36 : (sp_ml1 S l n).1 36 = S.1 36 + n := rfl
  refine ⟨fun j hj => ?_, fun q => ?_, fun _ => ⟨?_, ?_⟩, fun i j hj hi hp => ?_, fun j hj => ?_⟩
  · rw [e61] at hj
    rw [hG 8 j (by omega) (by omega) (by omega) (by omega)]
    by_cases q : j + 1 = G 6 1
    · rw [q, e8]
      have := (b3 (by omega)).1
      rw [show G 6 1 - 1 = j by omega] at this
      omega
    · rw [hG 8 (j + 1) (by omega) (by omega) (by omega) (by omega)]
      exact b1 j (by omega)
  · rw [e61] at q
    omega
  · rw [e61, Nat.add_sub_cancel, e8, e36]
    omega
  · by_cases q : G 6 1 = 0
    · have : G2 8 0 = (S.1 36 + n).toNat := by
        rw [q] at e8
        exact e8
      rw [this]
      omega
    · rw [hG 8 0 (by omega) (by omega) (by omega) (by omega)]
      exact (b3 q).2
  · rw [e61] at hj
    rw [e65, sp_bd_at]
    by_cases q : j = G 6 1
    · rw [q, e8] at hi
      have hge : (S.1 36).toNat ≤ i := by
        by_cases q0 : G 6 1 = 0
        · have := b2 q0
          omega
        · have h1 := hp (G 6 1 - 1) (by omega)
          rw [hG 8 (G 6 1 - 1) (by omega) (by omega) (by omega) (by omega)] at h1
          have := (b3 q0).1
          omega
      rw [if_pos (by omega), q, e7]
      exact hf.symm
    · rw [hG 8 j (by omega) (by omega) (by omega) (by omega)] at hi
      rw [hG 7 j (by omega) (by omega) (by omega) (by omega)]
      have hle := br_le ⟨b1, b2, b3, b4, b5⟩ j (G 6 1 - 1) (by omega) (by omega)
      have := (b3 (by omega)).1
      rw [if_neg (by omega)]
      refine b4 i j (by omega) hi (fun j2 hj2 => ?_)
      have := hp j2 hj2
      rw [hG 8 j2 (by omega) (by omega) (by omega) (by omega)] at this
      exact this
  · rw [e61] at hj
    by_cases q : j = G 6 1
    · rw [q, e7]
      exact hf16
    · rw [hG 7 j (by omega) (by omega) (by omega) (by omega)]
      exact b5 j (by omega)
/-- the last batch ends later -/
theorem co_b1 {h0 h h' : ah_T} {S : ms_T} {G : gh_T} {e : Nat} {c : ac_T} (hC : co_I h0 h S G) (h61 : G 6 1 ≠ 0) (hu : hu_ h h' (G 4 (G 6 1 - 1)) c) (hc : c = ac_o 0 [av_i ((G 7 (G 6 1 - 1) : Nat) : Int), av_i (e : Int), av_q none]) : co_I h0 h' S (gb1 G e) := by
  have hv : vl_ok S G 4 (G 6 1 - 1) := show G 6 1 - 1 < G 6 1 by omega
  have hG : ∀ a b, ¬ (a = 8 ∧ b = G 6 1 - 1) → gb1 G e a b = G a b := fun a b q => gi_n G q
  have e61 := hG 6 1 (by omega)
  have hcc : c = ce_ S (gb1 G e) 4 (G 6 1 - 1) := by
    rw [hc]
    show _ = cx_B (gb1 G e) (G 6 1 - 1)
    unfold cx_B
    have q8 : gb1 G e 8 (G 6 1 - 1) = e := gi_s _ _ _ _
    rw [hG 7 _ (by omega), q8, e61, rf_e (by omega)]
  rw [hcc] at hu
  have hu2 : hu_ h h' (ad_ G 4 (G 6 1 - 1)) (ce_ S (gb1 G e) 4 (G 6 1 - 1)) := hu
  refine ⟨co_up hC.1 hv hu2 (co_K ⟨Or.inl (by decide), rfl, Or.inr rfl⟩ ⟨Or.inl (by decide), rfl, Or.inr rfl⟩ ⟨Or.inl (by decide), rfl, Or.inr rfl⟩ ⟨Or.inl (by decide), rfl, Or.inr rfl⟩ ⟨Or.inl (by decide), rfl, Or.inr rfl⟩ ⟨Or.inl (by decide), rfl, Or.inr rfl⟩ ⟨Or.inr (Or.inl rfl), rfl, Or.inr rfl⟩ ⟨Or.inr (Or.inr rfl), rfl, Or.inr rfl⟩ (fun j hj => ⟨hj, rfl, Or.inr rfl⟩) (fun j hj => ⟨hj, rfl, Or.inr rfl⟩) (fun j hj => ⟨hj, rfl, Or.inr rfl⟩) (fun j hj => ⟨?_, rfl, ?_⟩)), cf_hu hC.2 hu (Or.inr (Or.inr (Or.inr ((hC.1.2.1 4 _ hv).2 (by decide)))))⟩
  · show j < G 6 1
    have : j < gb1 G e 6 1 := hj
    omega
  · by_cases q : j = G 6 1 - 1
    · exact Or.inl ⟨rfl, q⟩
    · right
      show cx_B (gb1 G e) j = cx_B G j
      unfold cx_B
      rw [hG 7 j (by omega), hG 8 j (by omega), e61]
      rfl
/-- one batch more -/
theorem co_b2 {h0 h h2 h3 h4 : ah_T} {S : ms_T} {G : gh_T} {a0 f e : Nat} {cn c5 : ac_T} (hC : co_I h0 h S G) (hn : hn_ h h2 a0 cn) (hcn : cn = ac_o 0 [av_i (f : Int), av_i (e : Int), av_n])
    (h3a : ∀ x, (G 6 1 ≠ 0 → x ≠ G 4 (G 6 1 - 1)) → h3[x]? = h2[x]?) (h3l : h3.length = h2.length)
    (h3b : G 6 1 ≠ 0 → h3[G 4 (G 6 1 - 1)]? = some (ac_o 0 [av_i ((G 7 (G 6 1 - 1) : Nat) : Int), av_i ((G 8 (G 6 1 - 1) : Nat) : Int), av_r a0]))
    (hu : hu_ h3 h4 5 c5) (hc5 : c5 = ac_o 1 [av_q (some (if G 6 1 = 0 then a0 else G 4 0)), av_r a0]) : co_I h0 h4 S (gb2 G a0 f e) := by
  subst hcn hc5
  have ha0 := hn.1
  have hlen := hC.1.1
  generalize hG2 : gb2 G a0 f e = G2
  have hG : ∀ a b, ¬ (a = 4 ∧ b = G 6 1) → ¬ (a = 7 ∧ b = G 6 1) → ¬ (a = 8 ∧ b = G 6 1) → ¬ (a = 6 ∧ b = 1) → G2 a b = G a b := fun a b q1 q2 q3 q4 => by rw [← hG2]; exact gb2_n G q1 q2 q3 q4
  have e61 : G2 6 1 = G 6 1 + 1 := by rw [← hG2]; exact gb2_6 _ _ _ _
  have e8 : G2 8 (G 6 1) = e := by rw [← hG2]; exact gb2_8 _ _ _ _
  have e7 : G2 7 (G 6 1) = f := by rw [← hG2]; exact gb2_7 _ _ _ _
  have e4 : G2 4 (G 6 1) = a0 := by rw [← hG2]; exact gb2_4 _ _ _ _
  have prv : G 6 1 ≠ 0 → vl_ok S G 4 (G 6 1 - 1) := fun q => show G 6 1 - 1 < G 6 1 by omega
  have old : ∀ k i, vl_ok S G k i → ¬ (k = 0 ∧ i = 5) → ¬ (k = 4 ∧ i = G 6 1 - 1) → h4[ad_ G k i]? = some (ce_ S G k i) := fun k i v q1 q2 => by
    have c1 : ad_ G k i ≠ 5 := fun e => by
      have v0 : vl_ok S G 0 5 := Or.inl (Nat.le_refl 5)
      exact q1 (hC.1.2.2 k i 0 5 v v0 e)
    have c2 : G 6 1 ≠ 0 → ad_ G k i ≠ G 4 (G 6 1 - 1) := fun e1 e => q2 (hC.1.2.2 k i 4 (G 6 1 - 1) v (prv e1) e)
    rw [hu.2.2 _ c1, h3a _ c2, hn.2.2.2 _ (co_lt hC v)]
    exact (hC.1.2.1 k i v).1
  have rfG : ∀ k n j, k < 4 → rf_ G2 k n j = rf_ G k n j := fun k n j q1 => by
    unfold rf_
    split
    · rw [hG k j (by omega) (by omega) (by omega) (by omega)]
    · rfl
  have rlG : ∀ k n, k < 4 → rl_ G2 k n = rl_ G k n := fun k n q1 => by
    unfold rl_
    split
    · rfl
    · rw [hG k _ (by omega) (by omega) (by omega) (by omega)]
  have v5 : ∀ i, i ≤ 5 → vl_ok S G 0 i := fun i hi => Or.inl hi
  refine ⟨co_gen (k0 := 4) (i0 := G 6 1) hC.1 (by rw [hu.1, h3l, hn.2.1]; omega) (by decide) (co_K (Or.inl ⟨v5 0 (by decide), rfl, ?_⟩) (Or.inl ⟨v5 1 (by decide), rfl, ?_⟩) (Or.inl ⟨v5 2 (by decide), rfl, old 0 2 (v5 2 (by decide)) (by omega) (by omega)⟩) (Or.inl ⟨v5 3 (by decide), rfl, old 0 3 (v5 3 (by decide)) (by omega) (by omega)⟩) (Or.inl ⟨v5 4 (by decide), rfl, ?_⟩) (Or.inl ⟨v5 5 (by decide), rfl, ?_⟩) (Or.inl ⟨Or.inr (Or.inl rfl), rfl, old 0 30 (Or.inr (Or.inl rfl)) (by omega) (by omega)⟩) (Or.inl ⟨Or.inr (Or.inr rfl), rfl, old 0 31 (Or.inr (Or.inr rfl)) (by omega) (by omega)⟩) (fun i hi => Or.inl ⟨hi, hG 1 i (by omega) (by omega) (by omega) (by omega), ?_⟩) (fun i hi => Or.inl ⟨hi, hG 2 i (by omega) (by omega) (by omega) (by omega), ?_⟩) (fun i hi => Or.inl ⟨hi, hG 3 i (by omega) (by omega) (by omega) (by omega), ?_⟩) (fun i hi => ?_)), ?_⟩
  · rw [old 0 0 (v5 0 (by decide)) (by omega) (by omega)]
    show some (cx_0 S G) = some (cx_0 S G2)
    unfold cx_0
    rw [rfG 1 _ _ (by decide), rfG 2 _ _ (by decide), rlG 1 _ (by decide), rlG 2 _ (by decide), hG 9 0 (by omega) (by omega) (by omega) (by omega)]
  · rw [old 0 1 (v5 1 (by decide)) (by omega) (by omega)]
    show some (cx_1 S G) = some (cx_1 S G2)
    unfold cx_1
    rw [hG 6 0 (by omega) (by omega) (by omega) (by omega)]
  · rw [old 0 4 (v5 4 (by decide)) (by omega) (by omega)]
    show some (cx_4 S G) = some (cx_4 S G2)
    unfold cx_4
    rw [rlG 3 _ (by decide)]
  · show h4[5]? = some (cx_5 G2)
    rw [hu.2.1]
    unfold cx_5
    rw [e61, rf_s (by omega), rl_s (by omega), Nat.add_sub_cancel, e4]
    by_cases q : G 6 1 = 0
    · rw [if_pos q]
      rw [q] at e4
      rw [e4]
    · rw [if_neg q, hG 4 0 (by omega) (by omega) (by omega) (by omega)]
  · rw [old 1 i hi (by omega) (by omega)]
    show some (cx_F S G i) = some (cx_F S G2 i)
    unfold cx_F
    rw [rfG 1 _ _ (by decide)]
  · rw [old 2 i hi (by omega) (by omega)]
    show some (cx_L S G i) = some (cx_L S G2 i)
    unfold cx_L
    rw [rfG 2 _ _ (by decide), hG 5 i (by omega) (by omega) (by omega) (by omega), hG 1 _ (by omega) (by omega) (by omega) (by omega)]
  · rw [old 3 i hi (by omega) (by omega)]
    show some (cx_S S G i) = some (cx_S S G2 i)
    unfold cx_S
    rw [rlG 3 _ (by decide)]
  · rw [e61] at hi
    by_cases q : i = G 6 1
    · right
      have c2 : G 6 1 ≠ 0 → a0 ≠ G 4 (G 6 1 - 1) := fun e1 e => by
        have := co_lt hC (prv e1)
        have e9 : ad_ G 4 (G 6 1 - 1) = G 4 (G 6 1 - 1) := rfl
        omega
      refine ⟨⟨rfl, q⟩, ?_, ?_⟩
      · rw [q]
        show G2 4 (G 6 1) = _
        rw [e4, ha0]
      · rw [q, ← ha0, hu.2.2 _ (by omega), h3a _ c2, hn.2.2.1]
        show _ = some (cx_B G2 (G 6 1))
        unfold cx_B
        rw [e7, e8, e61, rf_e (by omega)]
    · left
      have hi2 : i < G 6 1 := by omega
      refine ⟨hi2, hG 4 i (by omega) (by omega) (by omega) (by omega), ?_⟩
      by_cases q3 : i = G 6 1 - 1
      · have c1 : ad_ G 4 i ≠ 5 := fun e => by
          have v0 : vl_ok S G 0 5 := Or.inl (Nat.le_refl 5)
          have := hC.1.2.2 4 i 0 5 hi2 v0 e
          omega
        rw [hu.2.2 _ c1]
        show h3[G 4 i]? = some (cx_B G2 i)
        rw [q3, h3b (by omega)]
        unfold cx_B
        rw [hG 7 _ (by omega) (by omega) (by omega) (by omega), hG 8 _ (by omega) (by omega) (by omega) (by omega), e61, show G 6 1 - 1 + 1 = G 6 1 by omega, rf_s (by omega), e4]
      · rw [old 4 i hi2 (by omega) (by omega)]
        show some (cx_B G i) = some (cx_B G2 i)
        unfold cx_B
        rw [hG 7 _ (by omega) (by omega) (by omega) (by omega), hG 8 _ (by omega) (by omega) (by omega) (by omega), e61, rf_s (by omega), rf_s (by omega), hG 4 _ (by omega) (by omega) (by omega) (by omega)]
  · refine cf_of hC.2 (fun x hx => ?_)
    have c2 : G 6 1 ≠ 0 → x ≠ G 4 (G 6 1 - 1) := fun e1 e => by
      have h77 := (hC.1.2.1 4 (G 6 1 - 1) (prv e1)).2 (by decide)
      have e9 : ad_ G 4 (G 6 1 - 1) = G 4 (G 6 1 - 1) := rfl
      omega
    rw [hu.2.2 x (by omega), h3a x c2, hn.2.2.2 x (by omega)]
