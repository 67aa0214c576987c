def bq_ (p : Nat) : Nat → Bool := fun i => decide (p / 2 ^ i % 2 = 1)
theorem bq_t {p i : Nat} : bq_ p i = true ↔ p / 2 ^ i % 2 = 1 := decide_eq_true_iff
theorem bq_f {p i : Nat} (h : ¬ p / 2 ^ i % 2 = 1) : bq_ p i = false := decide_eq_false h
theorem pw_ws (b : Nat → Int) (p : Nat) : ∀ n, sp_pw b p n = ws_ b (bq_ p) n
  | 0 => rfl
  | n + 1 => by
    rw [sp_pw, ws_s, pw_ws b p n]
    by_cases c : p / 2 ^ n % 2 = 1
    · rw [if_pos c, if_pos (bq_t.mpr c)]
    · rw [if_neg c, if_neg (by rw [bq_f c]; decide)]
theorem pc_ws (p : Nat) : ∀ n, sp_pc p n = ws_ (fun _ => 1) (bq_ p) n
  | 0 => rfl
  | n + 1 => by
    rw [sp_pc, ws_s, pc_ws p n]
    by_cases c : p / 2 ^ n % 2 = 1
    · rw [if_pos c, if_pos (bq_t.mpr c)]
    · rw [if_neg c, if_neg (by rw [bq_f c]; decide)]
theorem ws_ad {f g k : Nat → Int} {Q R T : Nat → Bool} : ∀ {n : Nat}, (∀ i, i < n → (if Q i = true then f i else 0) = (if R i = true then g i else 0) + (if T i = true then k i else 0)) → ws_ f Q n = ws_ g R n + ws_ k T n
  | 0, _ => rfl
  | n + 1, h => by
    rw [ws_s, ws_s, ws_s, ws_ad (f := f) (g := g) (k := k) (fun i hi => h i (by omega)), h n (by omega)]
    omega
theorem ws_ex {f : Nat → Int} {Q : Nat → Bool} {n : Nat} : ∀ {M : Nat}, n ≤ M → (∀ i, n ≤ i → i < M → Q i = true → f i = 0) → ws_ f Q M = ws_ f Q n
  | 0, h, _ => by rw [show n = 0 by omega]
  | M + 1, h, hq => by
    by_cases e : n = M + 1
    · rw [e]
    · rw [ws_s, ws_ex (n := n) (M := M) (by omega) (fun i h1 h2 => hq i h1 (by omega))]
      split
      · rw [hq M (by omega) (by omega) (by assumption)]
        omega
      · omega
theorem pw_or {b : Nat → Int} {p n : Nat} (h : ¬ p / 2 ^ n % 2 = 1) {M : Nat} (hn : n < M) : sp_pw b (p ||| 2 ^ n) M = sp_pw b p M + b n := by
  rw [pw_ws, pw_ws]
  refine ws_ins (bq_f h) hn (fun i _ => ?_)
  by_cases c : p / 2 ^ i % 2 = 1
  · rw [bq_t.mpr c, bq_t.mpr ((bt_or _ _ _).mpr (Or.inl c)), Bool.true_or]
  · rw [bq_f c, Bool.false_or]
    by_cases e : n = i
    · rw [decide_eq_true e, bq_t.mpr ((bt_or _ _ _).mpr (Or.inr e.symm))]
    · rw [decide_eq_false e, bq_f (fun z => by rcases (bt_or _ _ _).mp z with z | z; exact c z; exact e z.symm)]
theorem pc_or {p n : Nat} (h : ¬ p / 2 ^ n % 2 = 1) {M : Nat} (hn : n < M) : sp_pc (p ||| 2 ^ n) M = sp_pc p M + 1 := by
  have e : ∀ q, sp_pc q M = sp_pw (fun _ => 1) q M := fun q => by rw [pc_ws, pw_ws]
  rw [e, e, pw_or h hn]
/-- the dearest are worth at least what any of as many are worth -/
theorem tp_le {K : ms_T} {m : Nat} (hv : kv_ K) : ∀ (c k : Nat) (Q : Nat → Bool), (∀ i, Q i = true → pm_ (K.2 11) c i = true ∧ i < m) → ws_ (fun _ => 1) Q 16 ≤ (k : Int) → (∀ j l, j ≤ l → l < c → K.2 8 (ix_ (K.2 11 j)) ≤ K.2 8 (ix_ (K.2 11 l))) → ws_ (K.2 8) Q 16 ≤ tp_ K m c k
  | 0, k, Q, hQ, _, _ => by
    rw [tp_, ws_z (fun i _ h => absurd (hQ i h).1 (by rw [pm_]; decide))]
    exact Int.le_refl _
  | c + 1, k, Q, hQ, hk, hs => by
    have h16 : ∀ i, Q i = true → i < 16 := fun i hi => by
      obtain ⟨j, -, hj⟩ := (pm_t _ _ _).mp (hQ i hi).1
      rw [← hj]
      exact ix_lt _
    have hpm : ∀ i, Q i = true → i ≠ ix_ (K.2 11 c) → pm_ (K.2 11) c i = true := fun i hi hne => by
      have := (hQ i hi).1
      rw [pm_, Bool.or_eq_true] at this
      rcases this with z | z
      · exact z
      · exact absurd (of_decide_eq_true z).symm hne
    by_cases hx : ix_ (K.2 11 c) < m
    · cases k with
      | zero =>
        rw [tp_, ws_z (fun i hi h => by
          have := ws_one (f := fun _ => 1) h hi (fun _ _ _ => by omega)
          omega)]
        exact Int.le_refl _
      | succ k =>
        rw [tp_, if_pos hx]
        have hw := (hv.2.2.2 (ix_ (K.2 11 c)) (ix_lt _)).2.1
        have htb := tp_b hv m c k
        by_cases ne : ∃ y, Q y = true ∧ (Q (ix_ (K.2 11 c)) = true → y = ix_ (K.2 11 c))
        · obtain ⟨y, y1, y2⟩ := ne
          have hq' : ∀ i, Q i = ((Q i && !decide (y = i)) || decide (y = i)) := fun i => by
            by_cases e : y = i
            · rw [← e, y1, decide_eq_true rfl]; rfl
            · rw [decide_eq_false e]; simp
          have hy' : (Q y && !decide (y = y)) = false := by rw [decide_eq_true rfl]; simp
          have i1 := ws_ins (F := K.2 8) (Q := fun i => Q i && !decide (y = i)) (R := Q) hy' (h16 y y1) (fun i _ => hq' i)
          have i2 := ws_ins (F := fun _ => 1) (Q := fun i => Q i && !decide (y = i)) (R := Q) hy' (h16 y y1) (fun i _ => hq' i)
          have ih := tp_le hv c k (fun i => Q i && !decide (y = i)) (m := m) (fun i hi => by
            have hi2 : Q i = true ∧ ¬ y = i := by simpa using hi
            refine ⟨hpm i hi2.1 (fun e => ?_), (hQ i hi2.1).2⟩
            rw [e] at hi2
            exact hi2.2 (y2 hi2.1)) (by omega) (fun j l h1 h2 => hs j l h1 (by omega))
          have hle : K.2 8 y ≤ K.2 8 (ix_ (K.2 11 c)) := by
            obtain ⟨j, j1, j2⟩ := (pm_t _ _ _).mp (hQ y y1).1
            rw [← j2]
            exact hs j c (by omega) (by omega)
          omega
        · rw [ws_z (fun i _ h => by
            exfalso
            by_cases z : Q (ix_ (K.2 11 c)) = true
            · exact ne ⟨_, z, fun _ => rfl⟩
            · exact ne ⟨i, h, fun w => absurd w z⟩)]
          omega
    · rw [tp_n hx k]
      exact tp_le hv c k Q (fun i hi => ⟨hpm i hi (fun e => hx (by rw [← e]; exact (hQ i hi).2)), (hQ i hi).2⟩) hk (fun j l h1 h2 => hs j l h1 (by omega))
theorem tp_z (K : ms_T) : ∀ c k, tp_ K 0 c k = 0
  | 0, _ => rfl
  | c + 1, k => by rw [tp_n (by omega) k, tp_z K c k]
/-- sets that go on from p, decided from n on, with k more below n -/
def ex_ (cm n k p q : Nat) : Prop := sb_s q cm ∧ (∀ i, n ≤ i → (q / 2 ^ i % 2 = 1 ↔ p / 2 ^ i % 2 = 1)) ∧ sp_pc q n ≤ (k : Int)
theorem ex_bd {K : ms_T} {a e u b : Nat → Int} {N cm : Nat} (hr : kcd_ K a e u b N cm) (hv : kv_ K) {n k p q : Nat} (hn : n ≤ 16) (hp : ∀ i, i < n → ¬ p / 2 ^ i % 2 = 1) (h : ex_ cm n k p q) : sp_pw b q 16 ≤ sp_pw b p 16 + tp_ K n (K.1 7).toNat k := by
  obtain ⟨h1, h2, h3⟩ := h
  have hd : ∀ i, cm / 2 ^ i % 2 = 1 → K.2 8 i = b i := fun i hi => (hr.2.1 i hi).2.2.1
  have hlo : ∀ i, (bq_ q i && decide (i < n)) = true ↔ q / 2 ^ i % 2 = 1 ∧ i < n := fun i => by
    rw [Bool.and_eq_true, bq_t, decide_eq_true_iff]
  have e1 : ws_ b (bq_ q) 16 = ws_ b (bq_ p) 16 + ws_ (K.2 8) (fun i => bq_ q i && decide (i < n)) 16 := ws_ad (fun i hi => by
    by_cases c : i < n
    · rw [if_neg (show ¬ bq_ p i = true from fun z => hp i c (bq_t.mp z))]
      by_cases z : q / 2 ^ i % 2 = 1
      · rw [if_pos (bq_t.mpr z), if_pos ((hlo i).mpr ⟨z, c⟩), hd i (h1 i z)]
        omega
      · rw [if_neg (fun y => z (bq_t.mp y)), if_neg (fun y => z ((hlo i).mp y).1)]
        omega
    · rw [if_neg (show ¬ (bq_ q i && decide (i < n)) = true from fun y => c ((hlo i).mp y).2)]
      have := h2 i (by omega)
      by_cases z : q / 2 ^ i % 2 = 1
      · rw [if_pos (bq_t.mpr z), if_pos (bq_t.mpr (this.mp z))]
        omega
      · rw [if_neg (fun y => z (bq_t.mp y)), if_neg (fun y => z (this.mpr (bq_t.mp y)))]
        omega)
  have e2 : ws_ (fun _ => 1) (fun i => bq_ q i && decide (i < n)) 16 = sp_pc q n := by
    rw [pc_ws, ws_ex hn (fun i h1 h2 h3 => absurd ((hlo i).mp h3).2 (by omega))]
    exact ws_cg (fun i hi => by rw [decide_eq_true hi, Bool.and_true])
  have h11 := hr.2.2.2
  have e3 := tp_le (m := n) hv (K.1 7).toNat k (fun i => bq_ q i && decide (i < n)) (fun i hi => ⟨(pm_t _ _ _).mpr (h11.2.2 i (h1 i ((hlo i).mp hi).1)), ((hlo i).mp hi).2⟩) (by omega) (fun j l hj hl => by
    by_cases c : j = l
    · rw [c]; exact Int.le_refl _
    · have a1 := h11.1 j (by omega)
      have a2 := h11.1 l hl
      have a3 := h11.2.1 j l (by omega) hl
      have b1 := ix_lt (K.2 11 j)
      have b2 := ix_lt (K.2 11 l)
      rw [hd _ a1.1, hd _ a2.1]
      have a1 := a1.2
      have a2 := a2.2
      generalize ix_ (K.2 11 j) = x at *
      generalize ix_ (K.2 11 l) = y at *
      omega)
  rw [pw_ws, pw_ws, e1]
  omega
def sR_ (a e u b : Nat → Int) (N : Nat) (c : Int) (cm n k p : Nat) (b0 b1 : Int × Nat) : Prop := (∀ q, ex_ cm n k p q → Fe_ a e u N c q → sp_pw b q 16 ≤ b1.1) ∧ (b1 = b0 ∨ (b0.1 < b1.1 ∧ ex_ cm n k p b1.2 ∧ Fe_ a e u N c b1.2 ∧ sp_pw b b1.2 16 = b1.1 ∧ ∀ q, ex_ cm n k p q → Fe_ a e u N c q → sp_pw b q 16 = b1.1 → b1.2 ≤ q))
theorem sR_le {a e u b : Nat → Int} {N : Nat} {c : Int} {cm n k p : Nat} {b0 b1 : Int × Nat} (h : sR_ a e u b N c cm n k p b0 b1) : b0.1 ≤ b1.1 := by
  rcases h.2 with z | z
  · rw [z]; exact Int.le_refl _
  · have := z.1
    omega
theorem ex_s0 {cm n k p q : Nat} (hp : ∀ i, i < n + 1 → ¬ p / 2 ^ i % 2 = 1) (hq : ¬ q / 2 ^ n % 2 = 1) : ex_ cm (n + 1) k p q ↔ ex_ cm n k p q := by
  unfold ex_
  rw [sp_pc, if_neg hq, Int.add_zero]
  constructor
  · rintro ⟨h1, h2, h3⟩
    refine ⟨h1, fun i hi => ?_, h3⟩
    by_cases c : i = n
    · subst c
      exact ⟨fun z => absurd z hq, fun z => absurd z (hp i (by omega))⟩
    · exact h2 i (by omega)
  · rintro ⟨h1, h2, h3⟩
    exact ⟨h1, fun i hi => h2 i (by omega), h3⟩
theorem ex_s1 {cm n k p q : Nat} (hp : ∀ i, i < n + 1 → ¬ p / 2 ^ i % 2 = 1) (hk : 0 < k) : (ex_ cm (n + 1) k p q ∧ q / 2 ^ n % 2 = 1) ↔ ex_ cm n (k - 1) (p ||| 2 ^ n) q := by
  unfold ex_
  constructor
  · rintro ⟨⟨h1, h2, h3⟩, hq⟩
    rw [sp_pc, if_pos hq] at h3
    refine ⟨h1, fun i hi => ?_, by omega⟩
    rw [bt_or]
    by_cases c : i = n
    · rw [c]
      exact ⟨fun _ => Or.inr rfl, fun _ => hq⟩
    · rw [h2 i (by omega)]
      exact ⟨Or.inl, fun z => by rcases z with z | z; exact z; exact absurd z c⟩
  · rintro ⟨h1, h2, h3⟩
    have hq : q / 2 ^ n % 2 = 1 := (h2 n (Nat.le_refl n)).mpr ((bt_or _ _ _).mpr (Or.inr rfl))
    rw [sp_pc, if_pos hq]
    refine ⟨⟨h1, fun i hi => ?_, by omega⟩, hq⟩
    rw [h2 i (by omega), bt_or]
    exact ⟨fun z => by rcases z with z | z; exact z; exact absurd z (by omega), Or.inl⟩
theorem ex_lt {cm n k p q r k2 : Nat} (h1 : ex_ cm (n + 1) k p q) (h2 : ex_ cm (n + 1) k2 p r) (hq : ¬ q / 2 ^ n % 2 = 1) (hr : r / 2 ^ n % 2 = 1) : q < r := bt_lt n hq hr (fun j hj => by rw [h1.2.1 j (by omega), h2.2.1 j (by omega)])
theorem se_ok {K : ms_T} {a e u b : Nat → Int} {N cm : Nat} (hr : kcd_ K a e u b N cm) (hv : kv_ K) (hu : ∀ i, i < N → 0 ≤ u i) (hM : ∀ m k, m ≤ 16 → k ≤ 9 → K.2 (13 + m) k = tp_ K m (K.1 7).toNat k) : ∀ (n k p : Nat) (v : Int) (b0 : Int × Nat), n ≤ 16 → k ≤ 9 → sb_s p cm → (∀ i, i < n → ¬ p / 2 ^ i % 2 = 1) → Fe_ a e u N (K.1 8) p → v = sp_pw b p 16 → sR_ a e u b N (K.1 8) cm n k p b0 (se_ K n k v p b0)
  | 0, k, p, v, b0, hn, hk, hp, hlo, hF, hvv => by
    have h0 := hM 0 k (by omega) hk
    rw [tp_z] at h0
    have h0' : K.2 13 k = 0 := h0
    have same : ∀ q, ex_ cm 0 k p q → q = p := fun q hq => Nat.eq_of_testBit_eq (fun i => by
      have := hq.2.1 i (by omega)
      rw [← bt_t, ← bt_t] at this
      cases c1 : q.testBit i
      · cases c2 : p.testBit i
        · rfl
        · exact absurd (this.mpr c2) (by rw [c1]; decide)
      · rw [this.mp c1])
    rw [se_, h0']
    by_cases c : v + 0 ≤ b0.1
    · rw [if_pos c]
      exact ⟨fun q hq _ => by rw [same q hq]; omega, Or.inl rfl⟩
    · rw [if_neg c]
      refine ⟨fun q hq _ => ?_, Or.inr ⟨?_, ⟨hp, fun i _ => Iff.rfl, by rw [sp_pc]; omega⟩, hF, hvv.symm, fun q hq _ _ => ?_⟩⟩
      · rw [same q hq]
        show _ ≤ v
        omega
      · show b0.1 < v
        omega
      · rw [same q hq]
        exact Nat.le_refl _
  | n + 1, k, p, v, b0, hn, hk, hp, hlo, hF, hvv => by
    have hc : 0 ≤ K.1 8 := by have := hv.2.1; omega
    rw [se_]
    by_cases c : v + K.2 (13 + (n + 1)) k ≤ b0.1
    · rw [if_pos c]
      rw [hM (n + 1) k hn hk] at c
      exact ⟨fun q hq _ => by
        have := ex_bd hr hv hn hlo hq
        omega, Or.inl rfl⟩
    · rw [if_neg c]
      have R1 := se_ok hr hv hu hM n k p v b0 (by omega) hk hp (fun i hi => hlo i (by omega)) hF hvv
      generalize se_ K n k v p b0 = b1 at R1 ⊢
      have h6 : (K.1 6).toNat = cm := by rw [hr.1]; omega
      rw [h6]
      by_cases c2 : 0 < k ∧ cm / 2 ^ n % 2 = 1 ∧ ft_ K (p ||| 2 ^ n) n = true
      · rw [if_pos c2]
        have hp2 : sb_s (p ||| 2 ^ n) cm := fun j hj => by
          rcases (bt_or _ _ _).mp hj with z | z
          · exact hp j z
          · rw [z]; exact c2.2.1
        have hF2 := (ft_iff hr hc hp c2.2.1 hF).mp c2.2.2
        have R2 := se_ok hr hv hu hM n (k - 1) (p ||| 2 ^ n) (v + K.2 8 n) b1 (by omega) (by omega) hp2 (fun i hi z => by
          rcases (bt_or _ _ _).mp z with z | z
          · exact hlo i (by omega) z
          · omega) hF2 (by rw [pw_or (hlo n (by omega)) (by omega), ← hvv, (hr.2.1 n c2.2.1).2.2.1])
        generalize se_ K n (k - 1) (v + K.2 8 n) (p ||| 2 ^ n) b1 = b2 at R2 ⊢
        have l1 := sR_le R1
        have l2 := sR_le R2
        refine ⟨fun q hq hf => ?_, ?_⟩
        · by_cases z : q / 2 ^ n % 2 = 1
          · exact R2.1 q ((ex_s1 hlo c2.1).mp ⟨hq, z⟩) hf
          · have := R1.1 q ((ex_s0 hlo z).mp hq) hf
            omega
        · rcases R2.2 with y | ⟨y1, y2, y3, y4, y5⟩
          · rw [y]
            rcases R1.2 with z | ⟨z1, z2, z3, z4, z5⟩
            · exact Or.inl z
            · have hnb : ¬ b1.2 / 2 ^ n % 2 = 1 := fun w => hlo n (by omega) ((z2.2.1 n (Nat.le_refl n)).mp w)
              refine Or.inr ⟨z1, (ex_s0 hlo hnb).mpr z2, z3, z4, fun q hq hf he => ?_⟩
              by_cases w : q / 2 ^ n % 2 = 1
              · exact Nat.le_of_lt (ex_lt ((ex_s0 hlo hnb).mpr z2) hq hnb w)
              · exact z5 q ((ex_s0 hlo w).mp hq) hf he
          · refine Or.inr ⟨by omega, ((ex_s1 hlo c2.1).mpr y2).1, y3, y4, fun q hq hf he => ?_⟩
            by_cases w : q / 2 ^ n % 2 = 1
            · exact y5 q ((ex_s1 hlo c2.1).mp ⟨hq, w⟩) hf he
            · have := R1.1 q ((ex_s0 hlo w).mp hq) hf
              omega
      · rw [if_neg c2]
        have none : ∀ q, ex_ cm (n + 1) k p q → Fe_ a e u N (K.1 8) q → ¬ q / 2 ^ n % 2 = 1 := fun q hq hf w => by
          have hpc := hq.2.2
          rw [sp_pc, if_pos w] at hpc
          have hpc2 := sp_pc_b q n
          have hcm := hq.1 n w
          refine c2 ⟨by omega, hcm, (ft_iff hr hc hp hcm hF).mpr (Fe_sub hu hf (fun i hi => ?_))⟩
          rcases (bt_or _ _ _).mp hi with z | z
          · by_cases y : i < n + 1
            · exact absurd z (hlo i y)
            · exact (hq.2.1 i (by omega)).mpr z
          · rw [z]; exact w
        refine ⟨fun q hq hf => R1.1 q ((ex_s0 hlo (none q hq hf)).mp hq) hf, ?_⟩
        rcases R1.2 with z | ⟨z1, z2, z3, z4, z5⟩
        · exact Or.inl z
        · have hnb : ¬ b1.2 / 2 ^ n % 2 = 1 := fun w => hlo n (by omega) ((z2.2.1 n (Nat.le_refl n)).mp w)
          exact Or.inr ⟨z1, (ex_s0 hlo hnb).mpr z2, z3, z4, fun q hq hf he => z5 q ((ex_s0 hlo (none q hq hf)).mp hq) hf he⟩
theorem gw_ok {K : ms_T} {a e u b : Nat → Int} {N cm : Nat} (hr : kcd_ K a e u b N cm) (hv : kv_ K) : ∀ (c k p : Nat) (v : Int), c ≤ (K.1 7).toNat → sb_s p cm → (∀ j, j < c → ¬ p / 2 ^ (ix_ (K.2 11 j)) % 2 = 1) → Fe_ a e u N (K.1 8) p → v = sp_pw b p 16 → ∃ q, sb_s q cm ∧ Fe_ a e u N (K.1 8) q ∧ sp_pc q 16 ≤ sp_pc p 16 + (k : Int) ∧ gw_ K c k p v = sp_pw b q 16
  | 0, k, p, v, hc, hp, hlo, hF, hvv => by
    rw [gw_]
    exact ⟨p, hp, hF, by omega, hvv⟩
  | c + 1, k, p, v, hc, hp, hlo, hF, hvv => by
    have h8 : 0 ≤ K.1 8 := by have := hv.2.1; omega
    rw [gw_]
    by_cases c1 : k = 0
    · rw [if_pos c1]
      exact ⟨p, hp, hF, by omega, hvv⟩
    · rw [if_neg c1]
      have hcm := (hr.2.2.2.1 c (by omega)).1
      have hnb := hlo c (by omega)
      by_cases c2 : ft_ K (p ||| 2 ^ (ix_ (K.2 11 c))) (ix_ (K.2 11 c)) = true
      · rw [if_pos c2]
        obtain ⟨q, q1, q2, q3, q4⟩ := gw_ok hr hv c (k - 1) (p ||| 2 ^ (ix_ (K.2 11 c))) (v + K.2 8 (ix_ (K.2 11 c))) (by omega) (fun j hj => by
          rcases (bt_or _ _ _).mp hj with z | z
          · exact hp j z
          · rw [z]; exact hcm) (fun j hj z => by
          rcases (bt_or _ _ _).mp z with z | z
          · exact hlo j (by omega) z
          · have := ro_in hr.2.2.2 (k := c) (by omega)
            rw [(pm_t _ _ _).mpr ⟨j, hj, z⟩] at this
            exact absurd this (by decide)) ((ft_iff hr h8 hp hcm hF).mp c2) (by rw [pw_or hnb (ix_lt _), ← hvv, (hr.2.1 _ hcm).2.2.1])
        rw [pc_or hnb (ix_lt _)] at q3
        exact ⟨q, q1, q2, by omega, q4⟩
      · rw [if_neg c2]
        exact gw_ok hr hv c k p v (by omega) hp (fun j hj => hlo j (by omega)) hF hvv
theorem pw_0 (b : Nat → Int) (n : Nat) : sp_pw b 0 n = 0 := by
  rw [pw_ws, ws_z (fun i _ h => absurd (bq_t.mp h) (bt_0 i))]
theorem pc_0 (n : Nat) : sp_pc 0 n = 0 := by
  rw [pc_ws, ws_z (fun i _ h => absurd (bq_t.mp h) (bt_0 i))]
/-- what the chooser decides -/
theorem dec_ok {K : ms_T} {a e u b : Nat → Int} {N cm g : Nat} (hg : g ≤ 9) (hr : kcd_ K a e u b N cm) (hv : kv_ K) (hu : ∀ i, i < N → 0 ≤ u i) (hN : N ≤ 16) (hM : ∀ m k, m ≤ 16 → k ≤ 9 → K.2 (13 + m) k = tp_ K m (K.1 7).toNat k) {R : Int × Nat} (hR : R = se_ K 16 g 0 0 (gw_ K (K.1 7).toNat g 0 0 - 1, 0)) : sb_s R.2 cm ∧ sp_pc R.2 16 ≤ (g : Int) ∧ Fe_ a e u N (K.1 8) R.2 ∧ sp_pw b R.2 16 = R.1 ∧ ∀ q, sb_s q cm → sp_pc q 16 ≤ (g : Int) → Fe_ a e u N (K.1 8) q → sp_pw b q 16 ≤ R.1 ∧ (sp_pw b q 16 = R.1 → R.2 ≤ q) := by
  have hc : 0 ≤ K.1 8 := by have := hv.2.1; omega
  obtain ⟨q0, q1, q2, q3, q4⟩ := gw_ok hr hv (K.1 7).toNat g 0 0 (Nat.le_refl _) (fun i hi => absurd hi (bt_0 i)) (fun j _ => bt_0 _) (Fe_0 hc) (pw_0 b 16).symm
  rw [pc_0, Int.zero_add] at q3
  have hs := se_ok hr hv hu hM 16 g 0 0 (gw_ K (K.1 7).toNat g 0 0 - 1, 0) (Nat.le_refl _) hg (fun i hi => absurd hi (bt_0 i)) (fun j _ => bt_0 _) (Fe_0 hc) (pw_0 b 16).symm
  rw [← hR] at hs
  have hex : ∀ q, sb_s q cm → sp_pc q 16 ≤ (g : Int) → ex_ cm 16 g 0 q := fun q h1 h2 => ⟨h1, fun i hi => ⟨fun z => by
    have := (hr.2.1 i (h1 i z)).1
    omega, fun z => absurd z (bt_0 i)⟩, h2⟩
  have hm := hs.1 q0 (hex q0 q1 q3) q2
  rcases hs.2 with z | ⟨z1, z2, z3, z4, z5⟩
  · rw [z] at hm
    have hm2 : sp_pw b q0 16 ≤ gw_ K (K.1 7).toNat g 0 0 - 1 := hm
    omega
  · exact ⟨z2.1, z2.2.2, z3, z4, fun q h1 h2 h3 => ⟨hs.1 q (hex q h1 h2) h3, z5 q (hex q h1 h2) h3⟩⟩
/-- what the model finds -/
theorem bst_ok (S : ms_T) (P : Nat) (g : Int) : ∀ m, ((sp_bst S P g m).1 = 0 ∨ ((sp_bst S P g m).1 &&& P = (sp_bst S P g m).1 ∧ sp_pc (sp_bst S P g m).1 (S.1 2).toNat ≤ g ∧ sp_can (sp_wa S) (sp_wd S) (S.2 41) (S.1 2).toNat (S.1 7) (sp_bst S P g m).1 = true)) ∧ sp_pw (sp_wb S) (sp_bst S P g m).1 (S.1 2).toNat = (sp_bst S P g m).2 ∧ (sp_bst S P g m).1 ≤ m ∧ ∀ q, q ≤ m → q &&& P = q → sp_pc q (S.1 2).toNat ≤ g → sp_can (sp_wa S) (sp_wd S) (S.2 41) (S.1 2).toNat (S.1 7) q = true → sp_pw (sp_wb S) q (S.1 2).toNat ≤ (sp_bst S P g m).2 ∧ (sp_pw (sp_wb S) q (S.1 2).toNat = (sp_bst S P g m).2 → (sp_bst S P g m).1 ≤ q)
  | 0 => by
    rw [sp_bst]
    refine ⟨Or.inl rfl, pw_0 _ _, Nat.le_refl _, fun q hq _ _ _ => ?_⟩
    obtain rfl : q = 0 := by omega
    exact ⟨by rw [pw_0]; exact Int.le_refl _, fun _ => Nat.le_refl _⟩
  | m + 1 => by
    obtain ⟨h1, h2, h3, h4⟩ := bst_ok S P g m
    rw [sp_bst]
    by_cases c : (m + 1) &&& P = m + 1 ∧ sp_pc (m + 1) (S.1 2).toNat ≤ g ∧ (sp_bst S P g m).2 < sp_pw (sp_wb S) (m + 1) (S.1 2).toNat ∧ sp_can (sp_wa S) (sp_wd S) (S.2 41) (S.1 2).toNat (S.1 7) (m + 1) = true
    · rw [if_pos c]
      refine ⟨Or.inr ⟨c.1, c.2.1, c.2.2.2⟩, rfl, Nat.le_refl _, fun q hq q1 q2 q3 => ?_⟩
      by_cases e : q = m + 1
      · rw [e]
        exact ⟨Int.le_refl _, fun _ => Nat.le_refl _⟩
      · have := (h4 q (by omega) q1 q2 q3).1
        have c3 := c.2.2.1
        refine ⟨?_, fun z => ?_⟩
        · show _ ≤ sp_pw (sp_wb S) (m + 1) (S.1 2).toNat
          omega
        · have z2 : sp_pw (sp_wb S) q (S.1 2).toNat = sp_pw (sp_wb S) (m + 1) (S.1 2).toNat := z
          omega
    · rw [if_neg c]
      refine ⟨h1, h2, by omega, fun q hq q1 q2 q3 => ?_⟩
      by_cases e : q = m + 1
      · subst e
        refine ⟨?_, fun _ => by omega⟩
        by_cases z : (sp_bst S P g m).2 < sp_pw (sp_wb S) (m + 1) (S.1 2).toNat
        · exact absurd ⟨q1, q2, z, q3⟩ c
        · omega
      · exact h4 q (by omega) q1 q2 q3
theorem best_eq {S K : ms_T} {P cm g : Nat} (hg : g ≤ 9) (hN : (S.1 2).toNat ≤ 16) (h8 : K.1 8 = S.1 7) (hr : kcd_ K (sp_wa S) (sp_wd S) (S.2 41) (sp_wb S) (S.1 2).toNat cm) (hv : kv_ K) (hu : ∀ i, i < (S.1 2).toNat → 0 ≤ S.2 41 i ∧ sp_wa S i < sp_wd S i)
    (hcm : ∀ i, cm / 2 ^ i % 2 = 1 ↔ i < (S.1 2).toNat ∧ P / 2 ^ i % 2 = 1 ∧ sp_wb S i ≠ 0 ∧ S.2 41 i ≤ S.1 7 * (sp_wd S i - sp_wa S i)) (hM : ∀ m k, m ≤ 16 → k ≤ 9 → K.2 (13 + m) k = tp_ K m (K.1 7).toNat k) : (sp_bst S P (g : Int) P).2 = (se_ K 16 g 0 0 (gw_ K (K.1 7).toNat g 0 0 - 1, 0)).1 ∧ (sp_bst S P (g : Int) P).1 = (se_ K 16 g 0 0 (gw_ K (K.1 7).toNat g 0 0 - 1, 0)).2 := by
  obtain ⟨R, hR⟩ : ∃ R, R = se_ K 16 g 0 0 (gw_ K (K.1 7).toNat g 0 0 - 1, 0) := ⟨_, rfl⟩
  obtain ⟨d1, d2, d3, d4, d5⟩ := dec_ok hg hr hv (fun i hi => (hu i hi).1) hN hM hR
  obtain ⟨b1, b2, b3, b4⟩ := bst_ok S P (g : Int) P
  rw [← hR]
  have hc : 0 ≤ S.1 7 := by have := hv.2.1; omega
  have hci : ∀ q, sp_can (sp_wa S) (sp_wd S) (S.2 41) (S.1 2).toNat (S.1 7) q = true ↔ Fe_ (sp_wa S) (sp_wd S) (S.2 41) (S.1 2).toNat (K.1 8) q := fun q => by
    rw [h8]
    exact can_iff hN hc (fun i hi => (hu i hi).1) (fun i hi => (hu i hi).2)
  -- a part of the candidates
  have hpw : ∀ q, sb_s q cm → sp_pw (sp_wb S) q 16 = sp_pw (sp_wb S) q (S.1 2).toNat := fun q hq => by
    rw [pw_ws, pw_ws]
    exact ws_ex hN (fun i h1 _ h3 => by
      have := (hcm i).mp (hq i (bq_t.mp h3))
      omega)
  have hpc : ∀ q, sb_s q cm → sp_pc q 16 = sp_pc q (S.1 2).toNat := fun q hq => by
    rw [pc_ws, pc_ws]
    exact ws_ex hN (fun i h1 _ h3 => by
      have := (hcm i).mp (hq i (bq_t.mp h3))
      omega)
  have hsub : sb_s R.2 P := fun i hi => ((hcm i).mp (d1 i hi)).2.1
  have hRP := (bt_sub R.2 P).mpr hsub
  have hRle : R.2 ≤ P := by rw [← hRP]; exact Nat.and_le_right
  have k1 := b4 R.2 hRle hRP (by rw [← hpc _ d1]; exact d2) ((hci _).mpr d3)
  rw [← hpw _ d1, d4] at k1
  -- the model's best, without what adds nothing
  have hB : sb_s (sp_bst S P (g : Int) P).1 P ∧ Fe_ (sp_wa S) (sp_wd S) (S.2 41) (S.1 2).toNat (K.1 8) (sp_bst S P (g : Int) P).1 ∧ sp_pc (sp_bst S P (g : Int) P).1 (S.1 2).toNat ≤ (g : Int) := by
    rcases b1 with z | z
    · rw [z]
      refine ⟨fun i hi => absurd hi (bt_0 i), Fe_0 (by omega), ?_⟩
      rw [pc_0]; omega
    · exact ⟨(bt_sub _ _).mp z.1, (hci _).mp z.2.2, z.2.1⟩
  generalize (sp_bst S P (g : Int) P).1 = B at *
  generalize (sp_bst S P (g : Int) P).2 = V at *
  have hs1 : sb_s (B &&& cm) cm := fun i hi => ((bt_and _ _ _).mp hi).2
  have hs2 : sb_s (B &&& cm) B := fun i hi => ((bt_and _ _ _).mp hi).1
  have hF2 := Fe_sub (fun i hi => (hu i hi).1) hB.2.1 hs2
  have hz : ∀ i, i < (S.1 2).toNat → B / 2 ^ i % 2 = 1 → ¬ cm / 2 ^ i % 2 = 1 → sp_wb S i = 0 := fun i hi h1 h2 => by
    by_cases w : sp_wb S i = 0
    · exact w
    · exfalso
      refine h2 ((hcm i).mpr ⟨hi, hB.1 i h1, w, ?_⟩)
      have g1 := hB.2.1 (sp_wa S i) (sp_wd S i) (by have := (hu i hi).2; omega)
      rw [h8] at g1
      have g2 := ws_one (f := mk_ (S.2 41) B) (Q := qw_ (sp_wa S) (sp_wd S) (sp_wa S i) (sp_wd S i)) (l := i) (qw_t.mpr ⟨Int.le_refl _, Int.le_refl _⟩) hi (fun j hj _ => by
        have := (hu j hj).1
        unfold mk_
        split <;> omega)
      have g3 : mk_ (S.2 41) B i = S.2 41 i := if_pos h1
      omega
  have hpe : sp_pw (sp_wb S) (B &&& cm) (S.1 2).toNat = sp_pw (sp_wb S) B (S.1 2).toNat := by
    rw [pw_ws, pw_ws]
    refine ws_cg (fun i hi => ?_)
    by_cases c1 : B / 2 ^ i % 2 = 1
    · by_cases c2 : cm / 2 ^ i % 2 = 1
      · rw [if_pos (bq_t.mpr ((bt_and _ _ _).mpr ⟨c1, c2⟩)), if_pos (bq_t.mpr c1)]
      · rw [if_neg (fun z => c2 ((bt_and _ _ _).mp (bq_t.mp z)).2), if_pos (bq_t.mpr c1), hz i hi c1 c2]
    · rw [if_neg (fun z => c1 ((bt_and _ _ _).mp (bq_t.mp z)).1), if_neg (fun z => c1 (bq_t.mp z))]
  have hpl : sp_pc (B &&& cm) (S.1 2).toNat ≤ sp_pc B (S.1 2).toNat := by
    rw [pc_ws, pc_ws]
    refine ws_mo (fun i hi => ?_)
    by_cases c1 : (B &&& cm) / 2 ^ i % 2 = 1
    · rw [if_pos (bq_t.mpr c1), if_pos (bq_t.mpr ((bt_and _ _ _).mp c1).1)]
      exact Int.le_refl _
    · rw [if_neg (fun z => c1 (bq_t.mp z))]
      split <;> omega
  have k2 := d5 (B &&& cm) hs1 (by rw [hpc _ hs1]; omega) hF2
  rw [hpw _ hs1, hpe, b2] at k2
  have hle : B &&& cm ≤ B := Nat.and_le_left
  have e1 : V = R.1 := by omega
  refine ⟨e1, ?_⟩
  have m1 := k1.2 e1.symm
  have m2 := k2.2 e1
  omega
