-- ===== code that runs, and what it is worth =====
def gd_ (c : List (Int × Int)) : Prop := ∀ (rest : List (Int × Int)) (n : Nat), iv_hv rest (n + 1) → iv_hv (c ++ rest) n
def vl_ (E : Int → Int) (c : List (Int × Int)) (v : Int) : Prop := iv_b v ∧ ∀ (rest : List (Int × Int)) (st : List Int), sp_ex E (c ++ rest) st = sp_ex E rest (v :: st)
theorem gd_num {v : Int} (h : 0 ≤ v ∧ v ≤ 9999) : gd_ [(0, v)] := by
  intro rest n hr
  show iv_hv ((0, v) :: rest) n
  rw [iv_hv, if_pos rfl]
  exact ⟨h, hr⟩
theorem gd_let {v : Int} (h : 0 ≤ v ∧ v ≤ 4) : gd_ [(1, v)] := by
  intro rest n hr
  show iv_hv ((1, v) :: rest) n
  rw [iv_hv, if_neg (by show ¬ (1 : Int) = 0; omega), if_pos rfl]
  exact ⟨h, hr⟩
theorem gd_neg {c : List (Int × Int)} (h : gd_ c) : gd_ (c ++ [(2, 0)]) := by
  intro rest n hr
  rw [List.append_assoc]
  refine h _ n ?_
  show iv_hv ((2, 0) :: rest) (n + 1)
  rw [iv_hv, if_neg (by show ¬ (2 : Int) = 0; omega), if_neg (by show ¬ (2 : Int) = 1; omega), if_pos rfl]
  exact ⟨by omega, hr⟩
theorem gd_op {c c2 : List (Int × Int)} {q : Int} (h : gd_ c) (h2 : gd_ c2) (hq : 3 ≤ q ∧ q ≤ 8) : gd_ (c ++ c2 ++ [(q, 0)]) := by
  intro rest n hr
  rw [List.append_assoc, List.append_assoc]
  refine h _ n (h2 _ (n + 1) ?_)
  show iv_hv ((q, 0) :: rest) (n + 1 + 1)
  rw [iv_hv, if_neg (by show ¬ q = 0; omega), if_neg (by show ¬ q = 1; omega), if_neg (by show ¬ q = 2; omega)]
  exact ⟨hq, by omega, hr⟩
theorem gd_hv {c : List (Int × Int)} (h : gd_ c) : iv_hv c 0 := by
  have := h [] 0 rfl
  rwa [List.append_nil] at this
theorem vl_num (E : Int → Int) {v : Int} (h : 0 ≤ v ∧ v ≤ 9999) : vl_ E [(0, v)] v := ⟨by unfold iv_b; omega, fun rest st => by
  show sp_ex E ((0, v) :: rest) st = _
  rw [sp_ex, sp_ex1_0]⟩
theorem vl_let {E : Int → Int} {v : Int} (h : iv_b (E v)) : vl_ E [(1, v)] (E v) := ⟨h, fun rest st => by
  show sp_ex E ((1, v) :: rest) st = _
  rw [sp_ex, sp_ex1_1]⟩
theorem vl_neg {E : Int → Int} {c : List (Int × Int)} {v : Int} (h : vl_ E c v) : vl_ E (c ++ [(2, 0)]) (-v) := ⟨by have := h.1; unfold iv_b at this ⊢; omega, fun rest st => by
  rw [List.append_assoc, h.2]
  show sp_ex E ((2, 0) :: rest) (v :: st) = _
  rw [sp_ex, sp_ex1_2]⟩
theorem vl_op {E : Int → Int} {c c2 : List (Int × Int)} {a b q : Int} (h : vl_ E c a) (h2 : vl_ E c2 b) (hq : 3 ≤ q) : vl_ E (c ++ c2 ++ [(q, 0)]) (sp_act q a b) := ⟨sp_act_b h.1 h2.1 q, fun rest st => by
  rw [List.append_assoc, List.append_assoc, h.2, h2.2]
  show sp_ex E ((q, 0) :: rest) (b :: a :: st) = _
  rw [sp_ex, sp_ex1_b E hq]⟩
theorem vl_hd {E : Int → Int} {c : List (Int × Int)} {v : Int} (h : vl_ E c v) : (sp_ex E c []).headD 0 = v := by
  have := h.2 [] []
  rw [List.append_nil] at this
  rw [this]
  rfl
/-- all code that a reading gives runs -/
def gR_ (f : List tk_T → pr_T) : Prop := ∀ ts c r, f ts = .inl (c, r) → gd_ c
theorem pr_b_inl {x : pr_T} {f : List (Int × Int) → List tk_T → pr_T} {c : List (Int × Int)} {r : List tk_T} (h : pr_b x f = .inl (c, r)) : ∃ c1 r1, x = .inl (c1, r1) ∧ f c1 r1 = .inl (c, r) := by
  cases x with
  | inr e => cases h
  | inl q => exact ⟨q.1, q.2, rfl, h⟩
theorem gR_pl {one : List tk_T → pr_T} (H : gR_ one) : ∀ (k : Nat) (c : List (Int × Int)) (ts : List tk_T), gd_ c → ∀ c2 r, pr_pl one k c ts = .inl (c2, r) → gd_ c2
  | 0, c, ts, hc, c2, r, h => by
    rw [pr_pl] at h
    cases h
    exact hc
  | k + 1, c, ts, hc, c2, r, h => by
    rw [pr_pl] at h
    by_cases hh : pr_h ts = 42 ∨ pr_h ts = 47
    · rw [if_pos hh] at h
      obtain ⟨c1, r1, h1, h2⟩ := pr_b_inl h
      exact gR_pl H k _ r1 (gd_op hc (H _ _ _ h1) (by split <;> omega)) c2 r h2
    · rw [if_neg hh] at h
      cases h
      exact hc
theorem gR_pr {one : List tk_T → pr_T} (H : gR_ one) : gR_ (pr_pr one) := by
  intro ts c r h
  obtain ⟨c1, r1, h1, h2⟩ := pr_b_inl h
  exact gR_pl H 100 c1 r1 (H _ _ _ h1) c r h2
theorem gR_sl {one : List tk_T → pr_T} (H : gR_ one) : ∀ (k : Nat) (c : List (Int × Int)) (ts : List tk_T), gd_ c → ∀ c2 r, pr_sl one k c ts = .inl (c2, r) → gd_ c2
  | 0, c, ts, hc, c2, r, h => by
    rw [pr_sl] at h
    cases h
    exact hc
  | k + 1, c, ts, hc, c2, r, h => by
    rw [pr_sl] at h
    by_cases hh : pr_h ts = 43 ∨ pr_h ts = 45
    · rw [if_pos hh] at h
      obtain ⟨c1, r1, h1, h2⟩ := pr_b_inl h
      exact gR_sl H k _ r1 (gd_op hc (gR_pr H _ _ _ h1) (by split <;> omega)) c2 r h2
    · rw [if_neg hh] at h
      cases h
      exact hc
theorem gR_sm {one : List tk_T → pr_T} (H : gR_ one) : gR_ (pr_sm one) := by
  intro ts c r h
  obtain ⟨c1, r1, h1, h2⟩ := pr_b_inl h
  exact gR_sl H 100 c1 r1 (gR_pr H _ _ _ h1) c r h2
theorem pr_tk_inl {x : Int} {c c2 : List (Int × Int)} {ts r : List tk_T} (h : pr_tk x c ts = .inl (c2, r)) : c2 = c ∧ r = ts.tail ∧ pr_h ts = x := by
  unfold pr_tk at h
  by_cases e : pr_h ts = x
  · rw [if_pos e] at h
    cases h
    exact ⟨rfl, rfl, e⟩
  · rw [if_neg e] at h
    cases h
theorem pr_ix_b (c : Int) : -1 ≤ pr_ix c ∧ pr_ix c ≤ 4 := by
  unfold pr_ix
  repeat' split
  all_goals omega
theorem gR_lf : gR_ pr_lf := by
  intro ts c r h
  unfold pr_lf at h
  by_cases a : 1000 ≤ pr_h ts
  · rw [if_pos a] at h
    by_cases b : 9999 < pr_h ts - 1000
    · rw [if_pos b] at h
      cases h
    · rw [if_neg b] at h
      cases h
      exact gd_num (by omega)
  · rw [if_neg a] at h
    by_cases b : 0 ≤ pr_ix (pr_h ts)
    · rw [if_pos b] at h
      cases h
      exact gd_let ⟨b, (pr_ix_b _).2⟩
    · rw [if_neg b] at h
      cases h
theorem gR_one : ∀ d, gR_ (pr_one d)
  | 0 => by
    intro ts c r h
    rw [pr_one] at h
    by_cases a1 : pr_h ts = 45 ∨ pr_h ts = 40
    · rw [if_pos a1] at h
      cases h
    rw [if_neg a1] at h
    by_cases a2 : pr_h ts = 2 ∨ pr_h ts = 3
    · rw [if_pos a2] at h
      by_cases a3 : pr_h ts.tail = 40
      · rw [if_pos a3] at h
        cases h
      · rw [if_neg a3] at h
        cases h
    rw [if_neg a2] at h
    exact gR_lf _ _ _ h
  | d + 1 => by
    intro ts c r h
    rw [pr_one] at h
    by_cases a1 : pr_h ts = 45
    · rw [if_pos a1] at h
      obtain ⟨c1, r1, h1, h2⟩ := pr_b_inl h
      cases h2
      exact gd_neg (gR_one d _ _ _ h1)
    rw [if_neg a1] at h
    by_cases a0 : pr_h ts = 40
    · rw [if_pos a0] at h
      obtain ⟨c1, r1, h1, h2⟩ := pr_b_inl h
      obtain ⟨rfl, -, -⟩ := pr_tk_inl h2
      exact gR_sm (gR_one d) _ _ _ h1
    rw [if_neg a0] at h
    by_cases a2 : pr_h ts = 2 ∨ pr_h ts = 3
    · rw [if_pos a2] at h
      by_cases a3 : pr_h ts.tail = 40
      · rw [if_pos a3] at h
        obtain ⟨c1, r1, h1, h2⟩ := pr_b_inl h
        obtain ⟨c2, r2, h3, h4⟩ := pr_b_inl h2
        obtain ⟨rfl, -, -⟩ := pr_tk_inl h3
        obtain ⟨c3, r3, h5, h6⟩ := pr_b_inl h4
        obtain ⟨rfl, -, -⟩ := pr_tk_inl h6
        exact gd_op (gR_sm (gR_one d) _ _ _ h1) (gR_sm (gR_one d) _ _ _ h5) (by split <;> omega)
      · rw [if_neg a3] at h
        cases h
    rw [if_neg a2] at h
    exact gR_lf _ _ _ h
theorem pr_all_hv {ts : List tk_T} {c : List (Int × Int)} {r : List tk_T} (h : pr_all ts = .inl (c, r)) : iv_hv c 0 := by
  obtain ⟨c1, r1, h1, h2⟩ := pr_b_inl h
  obtain ⟨rfl, -, -⟩ := pr_tk_inl h2
  exact gd_hv (gR_sm (gR_one 8) _ _ _ h1)
-- ===== the tokens of a tape =====
/-- the kind of a byte: 97 a letter, 48 a digit, a sign or the blank itself, 1 all others -/
def lk_ (c : Int) : Int := if (97 ≤ c ∧ c ≤ 122) ∨ (65 ≤ c ∧ c ≤ 90) then 97 else if 48 ≤ c ∧ c ≤ 57 then 48 else if c = 43 ∨ c = 45 ∨ c = 42 ∨ c = 47 ∨ c = 40 ∨ c = 41 ∨ c = 44 ∨ c = 32 then c else 1
theorem lk_97 {c : Int} : lk_ c = 97 ↔ (97 ≤ c ∧ c ≤ 122) ∨ (65 ≤ c ∧ c ≤ 90) := by
  unfold lk_
  constructor
  · intro h
    by_cases a : (97 ≤ c ∧ c ≤ 122) ∨ (65 ≤ c ∧ c ≤ 90)
    · exact a
    · rw [if_neg a] at h
      split at h
      · omega
      · split at h <;> omega
  · intro h
    rw [if_pos h]
theorem lk_48 {c : Int} : lk_ c = 48 ↔ (48 ≤ c ∧ c ≤ 57) := by
  unfold lk_
  constructor
  · intro h
    by_cases a : (97 ≤ c ∧ c ≤ 122) ∨ (65 ≤ c ∧ c ≤ 90)
    · rw [if_pos a] at h
      omega
    · rw [if_neg a] at h
      split at h
      · assumption
      · split at h <;> omega
  · intro h
    rw [if_neg (by omega), if_pos h]
theorem lk_32 {c : Int} : lk_ c = 32 ↔ c = 32 := by
  unfold lk_
  constructor
  · intro h
    split at h
    · omega
    · split at h
      · omega
      · split at h <;> omega
  · intro h
    rw [if_neg (by omega), if_neg (by omega), if_pos (by omega), h]
/-- the first place from r on, at most m further, whose byte isn't of kind k -/
def lr_ (T : Nat → Int) (k : Int) : Nat → Nat → Nat
  | 0, r => r
  | m + 1, r => if lk_ (T r) = k then lr_ T k m (r + 1) else r
theorem lr_b (T : Nat → Int) (k : Int) : ∀ m r, r ≤ lr_ T k m r ∧ lr_ T k m r ≤ r + m
  | 0, r => ⟨Nat.le_refl _, Nat.le_refl _⟩
  | m + 1, r => by
    rw [lr_]
    split
    · have := lr_b T k m (r + 1)
      omega
    · omega
theorem lr_in (T : Nat → Int) (k : Int) : ∀ m r i, r ≤ i → i < lr_ T k m r → lk_ (T i) = k
  | 0, r, i, h1, h2 => by rw [lr_] at h2; omega
  | m + 1, r, i, h1, h2 => by
    rw [lr_] at h2
    split at h2
    · rename_i q
      by_cases e : i = r
      · rw [e]; exact q
      · exact lr_in T k m (r + 1) i (by omega) h2
    · omega
/-- a number's digits from i on, k of them -/
def ln_ (T : Nat → Int) : Nat → Nat → Int → Int
  | 0, _, a => a
  | k + 1, i, a => ln_ T k (i + 1) (min (a * 10 + T i - 48) 10000)
/-- the token of a word from r to ahead of e -/
def lw_ (T : Nat → Int) (r e : Nat) : Int := if e = r + 1 then (if 0 ≤ pr_ix (T r) then T r else 1) else if e = r + 3 ∧ T r = 109 then (if T (r + 1) = 105 ∧ T (r + 2) = 110 then 2 else if T (r + 1) = 97 ∧ T (r + 2) = 120 then 3 else 1) else 1
def lx_ (T : Nat → Int) (n : Nat) : Nat → Nat → List tk_T
  | 0, _ => [(0, (n : Int))]
  | f + 1, r => if n ≤ r then [(0, (n : Int))] else if lk_ (T r) = 32 then lx_ T n f (r + 1) else
      if lk_ (T r) = 97 then (lw_ T r (lr_ T 97 (n - r) r), (r : Int)) :: lx_ T n f (lr_ T 97 (n - r) r) else
      if lk_ (T r) = 48 then (1000 + ln_ T (lr_ T 48 (n - r) r - r) r 0, (r : Int)) :: lx_ T n f (lr_ T 48 (n - r) r) else (lk_ (T r), (r : Int)) :: lx_ T n f (r + 1)
theorem lx_len (T : Nat → Int) (n : Nat) : ∀ f r, (lx_ T n f r).length ≤ f + 1
  | 0, r => by rw [lx_]; simp
  | f + 1, r => by
    rw [lx_]
    split
    · simp
    · split
      · have := lx_len T n f (r + 1)
        omega
      · split
        · have := lx_len T n f (lr_ T 97 (n - r) r)
          rw [List.length_cons]
          omega
        · split
          · have := lx_len T n f (lr_ T 48 (n - r) r)
            rw [List.length_cons]
            omega
          · have := lx_len T n f (r + 1)
            rw [List.length_cons]
            omega
theorem lx_end {T : Nat → Int} {n f r : Nat} (h : n ≤ r) : lx_ T n f r = [(0, (n : Int))] := by
  cases f with
  | zero => rfl
  | succ f => rw [lx_, if_pos h]
/-- the class's code of a token, and the model's token and what it tells -/
def tc_ (c tok told : Int) : Prop := (c = 0 ∧ tok = 0) ∨ (1000 ≤ c ∧ tok = 1 ∧ (0 ≤ told ∧ told < 2000000) ∧ c - 1000 = min told 10000) ∨ (0 ≤ pr_ix c ∧ tok = 2 ∧ told = pr_ix c) ∨ (c = 2 ∧ tok = 3) ∨ (c = 3 ∧ tok = 4) ∨ (c = 1 ∧ tok = 5) ∨ (tok = c ∧ (c = 43 ∨ c = 45 ∨ c = 42 ∨ c = 47 ∨ c = 40 ∨ c = 41 ∨ c = 44))
