theorem bt_t (p i : Nat) : p.testBit i = true ↔ p / 2 ^ i % 2 = 1 := by
  rw [Nat.testBit_eq_decide_div_mod_eq]
  exact decide_eq_true_iff
theorem bt_or (p n i : Nat) : (p ||| 2 ^ n) / 2 ^ i % 2 = 1 ↔ p / 2 ^ i % 2 = 1 ∨ i = n := by
  rw [← bt_t, ← bt_t, Nat.testBit_or, Bool.or_eq_true, Nat.testBit_two_pow]
  constructor
  · rintro (h | h)
    · exact Or.inl h
    · exact Or.inr (by simpa using h : n = i).symm
  · rintro (h | h)
    · exact Or.inl h
    · exact Or.inr (by simpa using h.symm)
theorem bt_and (p q i : Nat) : (p &&& q) / 2 ^ i % 2 = 1 ↔ p / 2 ^ i % 2 = 1 ∧ q / 2 ^ i % 2 = 1 := by
  rw [← bt_t, ← bt_t, ← bt_t, Nat.testBit_and, Bool.and_eq_true]
theorem bt_0 (i : Nat) : ¬ 0 / 2 ^ i % 2 = 1 := by
  rw [Nat.zero_div]
  decide
theorem bt_lt {p q : Nat} (i : Nat) (h1 : ¬ p / 2 ^ i % 2 = 1) (h2 : q / 2 ^ i % 2 = 1) (h3 : ∀ j, i < j → (p / 2 ^ j % 2 = 1 ↔ q / 2 ^ j % 2 = 1)) : p < q := by
  have hh : p / 2 ^ (i + 1) = q / 2 ^ (i + 1) := by
    refine Nat.eq_of_testBit_eq (fun j => ?_)
    have e1 : ∀ x : Nat, (x / 2 ^ (i + 1)).testBit j = true ↔ x / 2 ^ (i + 1 + j) % 2 = 1 := fun x => by
      rw [bt_t, Nat.div_div_eq_div_mul, ← Nat.pow_add]
    have := h3 (i + 1 + j) (by omega)
    rw [← e1, ← e1] at this
    cases c1 : (p / 2 ^ (i + 1)).testBit j
    · cases c2 : (q / 2 ^ (i + 1)).testBit j
      · rfl
      · exact absurd (this.mpr c2) (by rw [c1]; decide)
    · rw [this.mp c1]
  have e2 : ∀ x : Nat, x / 2 ^ (i + 1) = x / 2 ^ i / 2 := fun x => by rw [Nat.pow_succ, Nat.div_div_eq_div_mul]
  rw [e2, e2] at hh
  by_cases c : p < q
  · exact c
  · have := Nat.div_le_div_right (c := 2 ^ i) (show q ≤ p by omega)
    omega
theorem bt_sub (p q : Nat) : p &&& q = p ↔ ∀ i, p / 2 ^ i % 2 = 1 → q / 2 ^ i % 2 = 1 := by
  constructor
  · intro h i hi
    rw [← h] at hi
    exact ((bt_and p q i).mp hi).2
  · intro h
    refine Nat.eq_of_testBit_eq (fun i => ?_)
    rw [Nat.testBit_and]
    cases e : p.testBit i
    · rfl
    · rw [(bt_t q i).mpr (h i ((bt_t p i).mp e))]
      rfl
theorem ws_ins {F : Nat → Int} {Q R : Nat → Bool} {x : Nat} (hx : Q x = false) : ∀ {n : Nat}, x < n → (∀ i, i < n → R i = (Q i || decide (x = i))) → ws_ F R n = ws_ F Q n + F x
  | 0, h, _ => by omega
  | n + 1, h, hR => by
    rw [ws_s, ws_s]
    by_cases e : x = n
    · subst e
      have e1 : ws_ F R x = ws_ F Q x := ws_cg (fun i hi => by
        have := hR i (by omega)
        rw [decide_eq_false (by omega : ¬ x = i), Bool.or_false] at this
        rw [this])
      have e2 : R x = true := by rw [hR x (by omega), decide_eq_true rfl, Bool.or_true]
      rw [e1, if_pos e2, if_neg (by rw [hx]; decide)]
      omega
    · have := ws_ins hx (F := F) (R := R) (n := n) (by omega) (fun i hi => hR i (by omega))
      have e2 : R n = Q n := by rw [hR n (by omega), decide_eq_false e, Bool.or_false]
      rw [this, e2]
      omega
theorem ws_mo {f g : Nat → Int} {Q R : Nat → Bool} : ∀ {n : Nat}, (∀ i, i < n → (if Q i = true then f i else 0) ≤ (if R i = true then g i else 0)) → ws_ f Q n ≤ ws_ g R n
  | 0, _ => Int.le_refl _
  | n + 1, h => by
    rw [ws_s, ws_s]
    have := ws_mo (f := f) (g := g) (Q := Q) (R := R) (n := n) (fun i hi => h i (by omega))
    have := h n (by omega)
    omega
/-- a rising row of keys with numbers: those of the set cm -/
def ro_ (f : Nat → Int) (n cm : Nat) (key : Nat → Int) : Prop := (∀ j, j < n → cm / 2 ^ (ix_ (f j)) % 2 = 1 ∧ f j = key (ix_ (f j)) * 16 + ((ix_ (f j) : Nat) : Int)) ∧ (∀ j k, j < k → k < n → f j < f k) ∧ ∀ i, cm / 2 ^ i % 2 = 1 → ∃ j, j < n ∧ ix_ (f j) = i
theorem ix_lt (x : Int) : ix_ x < 16 := by unfold ix_; omega
theorem ix_key {x : Int} {i : Nat} (hx : 0 ≤ x) (hi : i < 16) : ix_ (x * 16 + (i : Int)) = i := by unfold ix_; omega
theorem ro_ins {f f2 : Nat → Int} {n cm q i : Nat} {key : Nat → Int} (h : ro_ f n cm key) (hs : is_ f f2 n q (key i * 16 + (i : Int))) (hn : ¬ cm / 2 ^ i % 2 = 1) (hi : i < 16) (hk : 0 ≤ key i) : ro_ f2 (n + 1) (cm ||| 2 ^ i) key := by
  obtain ⟨h1, h2, h3⟩ := h
  obtain ⟨s1, s2, s3, s4⟩ := hs
  have hix := ix_key hk hi
  generalize hx : key i * 16 + (i : Int) = x at s2 s3 s4 hix
  have hne : ∀ j, j < n → f j ≠ x := fun j hj e => by
    have := (h1 j hj).1
    rw [e, hix] at this
    exact hn this
  have hlo : ∀ j, j < q → f j < x := fun j hj => by
    have a1 := hne j (by omega)
    rcases s3 with s3 | s3
    · omega
    · by_cases e : j = q - 1
      · rw [e] at a1 ⊢; omega
      · have := h2 j (q - 1) (by omega) (by omega)
        omega
  refine ⟨fun j hj => ?_, fun j k hjk hk2 => ?_, fun i2 hb => ?_⟩
  · rw [s2 j (by omega)]
    split
    · have := h1 j (by omega)
      exact ⟨(bt_or _ _ _).mpr (Or.inl this.1), this.2⟩
    · split
      · rw [hix]
        exact ⟨(bt_or _ _ _).mpr (Or.inr rfl), hx.symm⟩
      · have := h1 (j - 1) (by omega)
        exact ⟨(bt_or _ _ _).mpr (Or.inl this.1), this.2⟩
  · rw [s2 j (by omega), s2 k (by omega)]
    by_cases c1 : k < q
    · rw [if_pos c1, if_pos (by omega)]
      exact h2 j k hjk (by omega)
    · rw [if_neg c1]
      by_cases c2 : k = q
      · rw [if_pos c2, if_pos (by omega)]
        exact hlo j (by omega)
      · rw [if_neg c2]
        by_cases c3 : j < q
        · rw [if_pos c3]
          exact h2 j (k - 1) (by omega) (by omega)
        · rw [if_neg c3]
          by_cases c4 : j = q
          · rw [if_pos c4]
            exact s4 (k - 1) (by omega) (by omega)
          · rw [if_neg c4]
            exact h2 (j - 1) (k - 1) (by omega) (by omega)
  · rcases (bt_or _ _ _).mp hb with hb | hb
    · obtain ⟨j, j1, j2⟩ := h3 i2 hb
      by_cases c : j < q
      · exact ⟨j, by omega, by rw [s2 j (by omega), if_pos c]; exact j2⟩
      · refine ⟨j + 1, by omega, ?_⟩
        rw [s2 (j + 1) (by omega), if_neg (by omega), if_neg (by omega), Nat.add_sub_cancel]
        exact j2
    · refine ⟨q, by omega, ?_⟩
      rw [s2 q s1, if_neg (by omega), if_pos rfl, hix, hb]
/-- whether the i-th is among the first m of the row -/
def pm_ (f : Nat → Int) : Nat → Nat → Bool
  | 0, _ => false
  | m + 1, i => pm_ f m i || decide (ix_ (f m) = i)
theorem pm_t (f : Nat → Int) : ∀ m i, pm_ f m i = true ↔ ∃ j, j < m ∧ ix_ (f j) = i
  | 0, i => by
    constructor
    · intro h; exact absurd h (by rw [pm_]; decide)
    · rintro ⟨j, hj, _⟩; omega
  | m + 1, i => by
    rw [pm_, Bool.or_eq_true, pm_t f m i, decide_eq_true_iff]
    constructor
    · rintro (⟨j, j1, j2⟩ | h)
      · exact ⟨j, by omega, j2⟩
      · exact ⟨m, by omega, h⟩
    · rintro ⟨j, j1, j2⟩
      by_cases e : j = m
      · rw [e] at j2; exact Or.inr j2
      · exact Or.inl ⟨j, by omega, j2⟩
theorem ro_in {f : Nat → Int} {n cm : Nat} {key : Nat → Int} (h : ro_ f n cm key) {k : Nat} (hk : k < n) : pm_ f k (ix_ (f k)) = false := by
  cases e : pm_ f k (ix_ (f k))
  · rfl
  · exfalso
    obtain ⟨j, j1, j2⟩ := (pm_t f k _).mp e
    have a1 := (h.1 j (by omega)).2
    have a2 := (h.1 k hk).2
    have a3 := h.2.1 j k j1 hk
    rw [j2] at a1
    omega
/-- the sum that fitsFrom builds -/
def fF_ (K : ms_T) (t : Int) (p : Nat) : Nat → Int := fun i => if p / 2 ^ i % 2 = 1 ∧ t ≤ K.2 9 i then K.2 7 i else 0
theorem ff_iff {K : ms_T} {t : Int} {p N : Nat} : ∀ (m j : Nat), (∀ k, k < j + m → pm_ (K.2 10) k (ix_ (K.2 10 k)) = false ∧ ix_ (K.2 10 k) < N) →
    (ff_ K t p m j (ws_ (fF_ K t p) (pm_ (K.2 10) j) N) = true ↔ ∀ k, j ≤ k → k < j + m → p / 2 ^ (ix_ (K.2 10 k)) % 2 = 1 ∧ t ≤ K.2 9 (ix_ (K.2 10 k)) → ws_ (fF_ K t p) (pm_ (K.2 10) (k + 1)) N ≤ K.1 8 * (K.2 10 k / 16 - t))
  | 0, j, _ => by
    rw [ff_]
    exact ⟨fun _ k h1 h2 => by omega, fun _ => rfl⟩
  | m + 1, j, hh => by
    have hj := hh j (by omega)
    have ins : ws_ (fF_ K t p) (pm_ (K.2 10) (j + 1)) N = ws_ (fF_ K t p) (pm_ (K.2 10) j) N + fF_ K t p (ix_ (K.2 10 j)) := ws_ins hj.1 hj.2 (fun i _ => rfl)
    have ih := ff_iff (K := K) (t := t) (p := p) (N := N) m (j + 1) (fun k hk => hh k (by omega))
    rw [ff_]
    by_cases c : p / 2 ^ (ix_ (K.2 10 j)) % 2 = 1 ∧ t ≤ K.2 9 (ix_ (K.2 10 j))
    · have eF : fF_ K t p (ix_ (K.2 10 j)) = K.2 7 (ix_ (K.2 10 j)) := if_pos c
      rw [if_pos c, ← eF, ← ins]
      by_cases c2 : K.1 8 * (K.2 10 j / 16 - t) < ws_ (fF_ K t p) (pm_ (K.2 10) (j + 1)) N
      · rw [if_pos c2]
        constructor
        · intro h; exact absurd h (by decide)
        · intro h
          have := h j (Nat.le_refl j) (by omega) c
          omega
      · rw [if_neg c2, ih]
        constructor
        · intro h k h1 h2 h3
          by_cases e : k = j
          · rw [e]; omega
          · exact h k (by omega) (by omega) h3
        · intro h k h1 h2 h3
          exact h k (by omega) (by omega) h3
    · have eF : fF_ K t p (ix_ (K.2 10 j)) = 0 := if_neg c
      rw [eF, Int.add_zero] at ins
      rw [if_neg c, ← ins, ih]
      constructor
      · intro h k h1 h2 h3
        by_cases e : k = j
        · rw [e] at h3; exact absurd h3 c
        · exact h k (by omega) (by omega) h3
      · intro h k h1 h2 h3
        exact h k (by omega) (by omega) h3
/-- the chooser holds the candidates cm -/
def kcd_ (K : ms_T) (a e u b : Nat → Int) (N cm : Nat) : Prop := K.1 6 = (cm : Int) ∧ (∀ i, cm / 2 ^ i % 2 = 1 → i < N ∧ K.2 7 i = u i ∧ K.2 8 i = b i ∧ K.2 9 i = a i ∧ a i < e i ∧ 0 ≤ u i ∧ 0 ≤ b i) ∧ ro_ (K.2 10) (K.1 7).toNat cm e ∧ ro_ (K.2 11) (K.1 7).toNat cm b
def W_ (a e u : Nat → Int) (N : Nat) (c : Int) (p : Nat) (s : Int) : Prop := ∀ d, s ≤ d → ws_ (mk_ u p) (qw_ a e s d) N ≤ c * (d - s)
def sb_s (p q : Nat) : Prop := ∀ i, p / 2 ^ i % 2 = 1 → q / 2 ^ i % 2 = 1
theorem ff_W {K : ms_T} {a e u b : Nat → Int} {N cm : Nat} (hr : kcd_ K a e u b N cm) (hc : 0 ≤ K.1 8) {p : Nat} (hp : sb_s p cm) (t : Int) : ff_ K t p (K.1 7).toNat 0 0 = true ↔ W_ a e u N (K.1 8) p t := by
  obtain ⟨-, hv, h10, -⟩ := hr
  have hpr : ∀ k, k < 0 + (K.1 7).toNat → pm_ (K.2 10) k (ix_ (K.2 10 k)) = false ∧ ix_ (K.2 10 k) < N := fun k hk => ⟨ro_in h10 (by omega), (hv _ (h10.1 k (by omega)).1).1⟩
  have e0 : ws_ (fF_ K t p) (pm_ (K.2 10) 0) N = 0 := ws_z (fun i _ h => absurd h (by rw [pm_]; decide))
  have key := ff_iff (K := K) (t := t) (p := p) (N := N) (K.1 7).toNat 0 hpr
  rw [e0] at key
  rw [key]
  have hdv : ∀ k, k < (K.1 7).toNat → K.2 10 k / 16 = e (ix_ (K.2 10 k)) := fun k hk => by
    have a1 := (h10.1 k hk).2
    have a2 := ix_lt (K.2 10 k)
    generalize ix_ (K.2 10 k) = i at a1 a2
    omega
  have hle : ∀ j k, j ≤ k → k < (K.1 7).toNat → e (ix_ (K.2 10 j)) ≤ e (ix_ (K.2 10 k)) := fun j k hjk hk => by
    rw [← hdv j (by omega), ← hdv k hk]
    by_cases q : j = k
    · rw [q]; exact Int.le_refl _
    · have := h10.2.1 j k (by omega) hk
      omega
  have hFn : ∀ i, 0 ≤ fF_ K t p i := fun i => by
    unfold fF_
    split
    · rename_i c
      have := hv i (hp i c.1)
      omega
    · exact Int.le_refl _
  have hmn : ∀ i, 0 ≤ mk_ u p i := fun i => by
    unfold mk_
    split
    · rename_i c
      exact (hv i (hp i c)).2.2.2.2.2.1
    · exact Int.le_refl _
  constructor
  · intro h d hd
    have step : ∀ m, m ≤ (K.1 7).toNat → ws_ (fun i => if e i ≤ d then fF_ K t p i else 0) (pm_ (K.2 10) m) N ≤ K.1 8 * (d - t) := by
      intro m
      induction m with
      | zero =>
        intro _
        rw [ws_z (fun i _ h => absurd h (by rw [pm_]; decide))]
        exact Int.mul_nonneg hc (by omega)
      | succ m ih =>
        intro hm
        have ihm := ih (by omega)
        by_cases c : (p / 2 ^ (ix_ (K.2 10 m)) % 2 = 1 ∧ t ≤ K.2 9 (ix_ (K.2 10 m))) ∧ e (ix_ (K.2 10 m)) ≤ d
        · have g1 := h m (by omega) (by omega) c.1
          rw [hdv m (by omega)] at g1
          have g2 : K.1 8 * (e (ix_ (K.2 10 m)) - t) ≤ K.1 8 * (d - t) := Int.mul_le_mul_of_nonneg_left (by omega) hc
          have g3 : ws_ (fun i => if e i ≤ d then fF_ K t p i else 0) (pm_ (K.2 10) (m + 1)) N ≤ ws_ (fF_ K t p) (pm_ (K.2 10) (m + 1)) N := ws_le (fun i _ _ => by
            have := hFn i
            split <;> omega)
          omega
        · have g3 : ws_ (fun i => if e i ≤ d then fF_ K t p i else 0) (pm_ (K.2 10) (m + 1)) N = ws_ (fun i => if e i ≤ d then fF_ K t p i else 0) (pm_ (K.2 10) m) N := ws_cg (fun i _ => by
            rw [pm_]
            by_cases z : ix_ (K.2 10 m) = i
            · have zz : (if e i ≤ d then fF_ K t p i else 0) = 0 := by
                rw [← z]
                split
                · unfold fF_
                  rw [if_neg (fun y => c ⟨y, by assumption⟩)]
                · rfl
              rw [zz]
              split <;> split <;> rfl
            · rw [decide_eq_false z, Bool.or_false])
          rw [g3]
          exact ihm
    have fin := step _ (Nat.le_refl _)
    have g : ws_ (mk_ u p) (qw_ a e t d) N ≤ ws_ (fun i => if e i ≤ d then fF_ K t p i else 0) (pm_ (K.2 10) (K.1 7).toNat) N := ws_mo (fun i hi => by
      by_cases z : p / 2 ^ i % 2 = 1
      · have v := hv i (hp i z)
        rw [if_pos ((pm_t _ _ _).mpr (h10.2.2 i (hp i z)))]
        by_cases y : qw_ a e t d i = true
        · have y2 := qw_t.mp y
          rw [if_pos y, if_pos y2.2]
          unfold mk_ fF_
          rw [if_pos z, if_pos ⟨z, by omega⟩]
          omega
        · rw [if_neg y]
          have := hFn i
          split <;> omega
      · have z2 : mk_ u p i = 0 := if_neg z
        rw [z2]
        have := hFn i
        split <;> split <;> (try split) <;> omega)
    omega
  · intro h k _ hk hc2
    have v := hv _ (hp _ hc2.1)
    rw [hdv k (by omega)]
    have g1 := h (e (ix_ (K.2 10 k))) (by omega)
    have g : ws_ (fF_ K t p) (pm_ (K.2 10) (k + 1)) N ≤ ws_ (mk_ u p) (qw_ a e t (e (ix_ (K.2 10 k)))) N := ws_mo (fun i hi => by
      have hm := hmn i
      by_cases z : p / 2 ^ i % 2 = 1 ∧ t ≤ K.2 9 i
      · by_cases y : pm_ (K.2 10) (k + 1) i = true
        · obtain ⟨j, j1, j2⟩ := (pm_t _ _ _).mp y
          have l := hle j k (by omega) (by omega)
          rw [j2] at l
          have v2 := hv i (hp i z.1)
          rw [if_pos y, if_pos (qw_t.mpr ⟨by omega, l⟩)]
          unfold mk_ fF_
          rw [if_pos z, if_pos z.1]
          omega
        · rw [if_neg y]
          split <;> omega
      · have z2 : fF_ K t p i = 0 := if_neg z
        rw [z2]
        split <;> split <;> omega)
    omega
theorem fi_iff {K : ms_T} {p : Nat} {t : Int} : ∀ (m j : Nat), fi_w K p t m j = true ↔ ∀ k, j ≤ k → k < j + m → p / 2 ^ (ix_ (K.2 10 k)) % 2 = 1 → K.2 9 (ix_ (K.2 10 k)) ≤ t → ff_ K (K.2 9 (ix_ (K.2 10 k))) p (K.1 7).toNat 0 0 = true
  | 0, j => by
    rw [fi_w]
    exact ⟨fun _ k h1 h2 => by omega, fun _ => rfl⟩
  | m + 1, j => by
    have ih := fi_iff (K := K) (p := p) (t := t) m (j + 1)
    rw [fi_w]
    by_cases c : p / 2 ^ (ix_ (K.2 10 j)) % 2 = 1 ∧ K.2 9 (ix_ (K.2 10 j)) ≤ t ∧ ff_ K (K.2 9 (ix_ (K.2 10 j))) p (K.1 7).toNat 0 0 = false
    · rw [if_pos c]
      constructor
      · intro h; exact absurd h (by decide)
      · intro h
        have := h j (Nat.le_refl j) (by omega) c.1 c.2.1
        rw [c.2.2] at this
        exact absurd this (by decide)
    · rw [if_neg c, ih]
      constructor
      · intro h k h1 h2 h3 h4
        by_cases e : k = j
        · subst e
          cases hf : ff_ K (K.2 9 (ix_ (K.2 10 k))) p (K.1 7).toNat 0 0
          · exact absurd ⟨h3, h4, hf⟩ c
          · rfl
        · exact h k (by omega) (by omega) h3 h4
      · intro h k h1 h2 h3 h4
        exact h k (by omega) (by omega) h3 h4
theorem arg_min (Q : Nat → Prop) (f : Nat → Int) : ∀ n, (∃ i, i < n ∧ Q i) → ∃ k, k < n ∧ Q k ∧ ∀ j, j < n → Q j → f k ≤ f j
  | 0, ⟨i, hi, _⟩ => by omega
  | n + 1, ⟨i, hi, hq⟩ => by
    by_cases c : ∃ i, i < n ∧ Q i
    · obtain ⟨k, k1, k2, k3⟩ := arg_min Q f n c
      by_cases d : Q n ∧ f n < f k
      · refine ⟨n, by omega, d.1, fun j hj hq => ?_⟩
        by_cases e : j = n
        · rw [e]; exact Int.le_refl _
        · have := k3 j (by omega) hq
          omega
      · refine ⟨k, by omega, k2, fun j hj hq => ?_⟩
        by_cases e : j = n
        · subst e
          by_cases y : f j < f k
          · exact absurd ⟨hq, y⟩ d
          · omega
        · exact k3 j (by omega) hq
    · have e : i = n := by
        by_cases e : i = n
        · exact e
        · exact absurd ⟨i, by omega, hq⟩ c
      subst e
      refine ⟨i, by omega, hq, fun j hj hq2 => ?_⟩
      by_cases e : j = i
      · rw [e]; exact Int.le_refl _
      · exact absurd ⟨j, by omega, hq2⟩ c
/-- a set all of whose windows are kept -/
def Fe_ (a e u : Nat → Int) (N : Nat) (c : Int) (p : Nat) : Prop := WC_ a e (mk_ u p) N c
theorem Fe_sub {a e u : Nat → Int} {N : Nat} {c : Int} {p q : Nat} (hu : ∀ i, i < N → 0 ≤ u i) (h : Fe_ a e u N c q) (hs : sb_s p q) : Fe_ a e u N c p := fun s d hd => by
  have g := h s d hd
  have g2 : ws_ (mk_ u p) (qw_ a e s d) N ≤ ws_ (mk_ u q) (qw_ a e s d) N := ws_le (fun i hi _ => by
    have := hu i hi
    unfold mk_
    by_cases z : p / 2 ^ i % 2 = 1
    · rw [if_pos z, if_pos (hs i z)]
      exact Int.le_refl _
    · rw [if_neg z]
      split <;> omega)
  omega
theorem Fe_0 {a e u : Nat → Int} {N : Nat} {c : Int} (hc : 0 ≤ c) : Fe_ a e u N c 0 := fun s d hd => by
  rw [ws_z (f := mk_ u 0) (fun i hi _ => if_neg (bt_0 i))]
  exact Int.mul_nonneg hc (by omega)
theorem ft_iff {K : ms_T} {a e u b : Nat → Int} {N cm : Nat} (hr : kcd_ K a e u b N cm) (hc : 0 ≤ K.1 8) {p i : Nat} (hp : sb_s p cm) (hi : cm / 2 ^ i % 2 = 1) (hF : Fe_ a e u N (K.1 8) p) : ft_ K (p ||| 2 ^ i) i = true ↔ Fe_ a e u N (K.1 8) (p ||| 2 ^ i) := by
  have hp2 : sb_s (p ||| 2 ^ i) cm := fun j hj => by
    rcases (bt_or _ _ _).mp hj with z | z
    · exact hp j z
    · rw [z]; exact hi
  have hv := hr.2.1
  have h10 := hr.2.2.1
  unfold ft_
  rw [fi_iff]
  constructor
  · intro h s d hd
    by_cases c : s ≤ a i
    · obtain ⟨k, k1, k2, k3⟩ := arg_min (fun j => (p ||| 2 ^ i) / 2 ^ j % 2 = 1 ∧ s ≤ a j) a N ⟨i, (hv i hi).1, (bt_or _ _ _).mpr (Or.inr rfl), c⟩
      have hki := k3 i (hv i hi).1 ⟨(bt_or _ _ _).mpr (Or.inr rfl), c⟩
      obtain ⟨j, j1, j2⟩ := h10.2.2 k (hp2 k k2.1)
      have vk := hv k (hp2 k k2.1)
      have vi := hv i hi
      have hw := h j (by omega) (by omega) (by rw [j2]; exact k2.1) (by rw [j2]; omega)
      rw [j2, ff_W hr hc hp2, vk.2.2.2.1] at hw
      have same : ws_ (mk_ u (p ||| 2 ^ i)) (qw_ a e s d) N = ws_ (mk_ u (p ||| 2 ^ i)) (qw_ a e (a k) d) N := ws_cg (fun l hl => by
        by_cases z : (p ||| 2 ^ i) / 2 ^ l % 2 = 1
        · by_cases y : s ≤ a l ∧ e l ≤ d
          · have := k3 l hl ⟨z, y.1⟩
            rw [if_pos (qw_t.mpr y), if_pos (qw_t.mpr ⟨this, y.2⟩)]
          · have y2 : ¬ (a k ≤ a l ∧ e l ≤ d) := fun w => y ⟨by omega, w.2⟩
            rw [if_neg (fun w => y (qw_t.mp w)), if_neg (fun w => y2 (qw_t.mp w))]
        · have : mk_ u (p ||| 2 ^ i) l = 0 := if_neg z
          rw [this]
          split <;> split <;> rfl)
      rw [same]
      by_cases y : a k ≤ d
      · have g1 := hw d y
        have g2 : K.1 8 * (d - a k) ≤ K.1 8 * (d - s) := Int.mul_le_mul_of_nonneg_left (by omega) hc
        omega
      · rw [ws_z (fun l hl w => by
          by_cases z : (p ||| 2 ^ i) / 2 ^ l % 2 = 1
          · have vl := hv l (hp2 l z)
            have := qw_t.mp w
            omega
          · exact if_neg z)]
        exact Int.mul_nonneg hc (by omega)
    · have same : ws_ (mk_ u (p ||| 2 ^ i)) (qw_ a e s d) N = ws_ (mk_ u p) (qw_ a e s d) N := ws_cg (fun l hl => by
        by_cases z : l = i
        · rw [if_neg (fun w => c (by rw [← z]; exact (qw_t.mp w).1)), if_neg (fun w => c (by rw [← z]; exact (qw_t.mp w).1))]
        · have : mk_ u (p ||| 2 ^ i) l = mk_ u p l := by
            unfold mk_
            by_cases y : p / 2 ^ l % 2 = 1
            · rw [if_pos y, if_pos ((bt_or _ _ _).mpr (Or.inl y))]
            · rw [if_neg y, if_neg (fun w => by rcases (bt_or _ _ _).mp w with w | w; exact y w; exact z w)]
          rw [this])
      rw [same]
      exact hF s d hd
  · intro h k _ hk hb _
    rw [ff_W hr hc hp2]
    exact fun d hd => h _ d hd
