-- ===== tokens (as the class codes them) and their places =====
abbrev tk_T : Type := Int × Int
/-- the code and the tokens that are left, or the fault and its place -/
abbrev pr_T : Type := (List (Int × Int) × List tk_T) ⊕ (Int × Int)
def pr_h (ts : List tk_T) : Int := match ts with
  | [] => 0
  | q :: _ => q.1
def pr_p (ts : List tk_T) : Int := match ts with
  | [] => -1
  | q :: _ => q.2
def pr_b (x : pr_T) (f : List (Int × Int) → List tk_T → pr_T) : pr_T := match x with
  | .inl q => f q.1 q.2
  | .inr e => .inr e
theorem pr_b_l (c : List (Int × Int)) (r : List tk_T) (f : List (Int × Int) → List tk_T → pr_T) : pr_b (.inl (c, r)) f = f c r := rfl
theorem pr_b_r (e : Int × Int) (f : List (Int × Int) → List tk_T → pr_T) : pr_b (.inr e) f = .inr e := rfl
def pr_ix (c : Int) : Int := if c = 116 then 0 else if c = 115 then 1 else if c = 109 then 2 else if c = 98 then 3 else if c = 104 then 4 else -1
/-- a number or a letter -/
def pr_lf (ts : List tk_T) : pr_T := if 1000 ≤ pr_h ts then (if 9999 < pr_h ts - 1000 then .inr (2, pr_p ts) else .inl ([(0, pr_h ts - 1000)], ts.tail)) else
  if 0 ≤ pr_ix (pr_h ts) then .inl ([(1, pr_ix (pr_h ts))], ts.tail) else .inr (1, pr_p ts)
def pr_tk (x : Int) (c : List (Int × Int)) (ts : List tk_T) : pr_T := if pr_h ts = x then .inl (c, ts.tail) else .inr (1, pr_p ts)
def pr_pl (one : List tk_T → pr_T) : Nat → List (Int × Int) → List tk_T → pr_T
  | 0, c, ts => .inl (c, ts)
  | k + 1, c, ts => if pr_h ts = 42 ∨ pr_h ts = 47 then pr_b (one ts.tail) (fun c2 r => pr_pl one k (c ++ c2 ++ [(if pr_h ts = 42 then 5 else 6, 0)]) r) else .inl (c, ts)
def pr_pr (one : List tk_T → pr_T) (ts : List tk_T) : pr_T := pr_b (one ts) (fun c r => pr_pl one 100 c r)
def pr_sl (one : List tk_T → pr_T) : Nat → List (Int × Int) → List tk_T → pr_T
  | 0, c, ts => .inl (c, ts)
  | k + 1, c, ts => if pr_h ts = 43 ∨ pr_h ts = 45 then pr_b (pr_pr one ts.tail) (fun c2 r => pr_sl one k (c ++ c2 ++ [(if pr_h ts = 43 then 3 else 4, 0)]) r) else .inl (c, ts)
def pr_sm (one : List tk_T → pr_T) (ts : List tk_T) : pr_T := pr_b (pr_pr one ts) (fun c r => pr_sl one 100 c r)
/-- behind the bracket of min and max -/
def pr_mm (one : List tk_T → pr_T) (o : Int) (ts : List tk_T) : pr_T :=
  pr_b (pr_sm one ts) (fun c r => pr_b (pr_tk 44 c r) (fun c r => pr_b (pr_sm one r) (fun c2 r2 => pr_tk 41 (c ++ c2 ++ [(o, 0)]) r2)))
def pr_one : Nat → List tk_T → pr_T
  | 0, ts => if pr_h ts = 45 ∨ pr_h ts = 40 then .inr (3, pr_p ts) else
      if pr_h ts = 2 ∨ pr_h ts = 3 then (if pr_h ts.tail = 40 then .inr (3, pr_p ts.tail) else .inr (1, pr_p ts.tail)) else pr_lf ts
  | d + 1, ts => if pr_h ts = 45 then pr_b (pr_one d ts.tail) (fun c r => .inl (c ++ [(2, 0)], r)) else
      if pr_h ts = 40 then pr_b (pr_sm (pr_one d) ts.tail) (fun c r => pr_tk 41 c r) else
      if pr_h ts = 2 ∨ pr_h ts = 3 then (if pr_h ts.tail = 40 then pr_mm (pr_one d) (if pr_h ts = 2 then 7 else 8) ts.tail.tail else .inr (1, pr_p ts.tail)) else pr_lf ts
def pr_all (ts : List tk_T) : pr_T := pr_b (pr_sm (pr_one 8) ts) (fun c r => pr_tk 0 c r)
-- ===== the machine with a pile =====
abbrev mc_T : Type := List tk_T × (List Int × (List (Int × Int) × (Int × Bool)))
def mw_ : List Int → List (Int × Int) → Int → List Int × (List (Int × Int) × Int)
  | [], u, o => ([], u, o)
  | q :: p, u, o => if q = 2 then mw_ p (u ++ [(2, 0)]) (o - 1) else (q :: p, u, o)
def mt_ (l : Int) : List Int → List (Int × Int) → List Int × List (Int × Int)
  | [], u => ([], u)
  | q :: p, u => if q < 20 ∧ l ≤ q then mt_ l p (u ++ [(q, 0)]) else (q :: p, u)
def mw_c (ts : List tk_T) (p : List Int) (u : List (Int × Int)) (o : Int) : mc_T := (ts, (mw_ p u o).1, (mw_ p u o).2.1, (mw_ p u o).2.2, true)
/-- an operand is to begin -/
def mb_g (ts : List tk_T) (p : List Int) (u : List (Int × Int)) (o : Int) : mc_T ⊕ (Int × Int) :=
  if 1000 ≤ pr_h ts then (if 9999 < pr_h ts - 1000 then .inr (2, pr_p ts) else .inl (mw_c ts.tail p (u ++ [(0, pr_h ts - 1000)]) o)) else
  if 0 ≤ pr_ix (pr_h ts) then .inl (mw_c ts.tail p (u ++ [(1, pr_ix (pr_h ts))]) o) else
  if pr_h ts = 2 ∨ pr_h ts = 3 then (if pr_h ts.tail = 40 then (if o = 8 then .inr (3, pr_p ts.tail) else .inl (ts.tail.tail, (if pr_h ts = 2 then 21 else 22) :: p, u, o + 1, false)) else .inr (1, pr_p ts.tail)) else
  if pr_h ts = 40 ∨ pr_h ts = 45 then (if o = 8 then .inr (3, pr_p ts) else .inl (ts.tail, (if pr_h ts = 40 then 20 else 2) :: p, u, o + 1, false)) else .inr (1, pr_p ts)
/-- an operand has ended -/
def mb_h (ts : List tk_T) (p : List Int) (u : List (Int × Int)) (o : Int) : mc_T ⊕ (Int × Int) :=
  if pr_h ts = 43 ∨ pr_h ts = 45 then .inl (ts.tail, (if pr_h ts = 43 then 3 else 4) :: (mt_ 3 p u).1, (mt_ 3 p u).2, o, false) else
  if pr_h ts = 42 ∨ pr_h ts = 47 then .inl (ts.tail, (if pr_h ts = 42 then 5 else 6) :: (mt_ 5 p u).1, (mt_ 5 p u).2, o, false) else
  if pr_h ts = 44 then (match (mt_ 3 p u).1 with
    | [] => .inr (1, pr_p ts)
    | q :: r => if q = 21 ∨ q = 22 then .inl (ts.tail, (q + 2) :: r, (mt_ 3 p u).2, o, false) else .inr (1, pr_p ts)) else
  if pr_h ts = 41 then (match (mt_ 3 p u).1 with
    | [] => .inr (1, pr_p ts)
    | q :: r => if q = 21 ∨ q = 22 then .inr (1, pr_p ts) else .inl (mw_c ts.tail r (if 20 < q then (mt_ 3 p u).2 ++ [(if q = 23 then 7 else 8, 0)] else (mt_ 3 p u).2) (o - 1))) else .inr (1, pr_p ts)
def mb_1 (q : mc_T) : mc_T ⊕ (Int × Int) := if q.2.2.2.2 = true then mb_h q.1 q.2.1 q.2.2.1 q.2.2.2.1 else mb_g q.1 q.2.1 q.2.2.1 q.2.2.2.1
def mb_e (q : mc_T) : List (Int × Int) ⊕ (Int × Int) := if q.2.2.2.2 = true then (if (mt_ 3 q.2.1 q.2.2.1).1 = [] then .inl (mt_ 3 q.2.1 q.2.2.1).2 else .inr (1, pr_p q.1)) else .inr (1, pr_p q.1)
def mb_r : Nat → mc_T → List (Int × Int) ⊕ (Int × Int)
  | 0, _ => .inr (1, -1)
  | k + 1, q => if pr_h q.1 = 0 then mb_e q else match mb_1 q with
    | .inl q2 => mb_r k q2
    | .inr e => .inr e
theorem mb_r_l {k : Nat} {q q2 : mc_T} (h : pr_h q.1 ≠ 0) (h1 : mb_1 q = .inl q2) : mb_r (k + 1) q = mb_r k q2 := by rw [mb_r, if_neg h, h1]
theorem mb_r_r {k : Nat} {q : mc_T} {e : Int × Int} (h : pr_h q.1 ≠ 0) (h1 : mb_1 q = .inr e) : mb_r (k + 1) q = .inr e := by rw [mb_r, if_neg h, h1]
theorem mb_1h {ts : List tk_T} {p : List Int} {u : List (Int × Int)} {o : Int} : mb_1 (ts, p, u, o, true) = mb_h ts p u o := rfl
theorem mb_1g {ts : List tk_T} {p : List Int} {u : List (Int × Int)} {o : Int} : mb_1 (ts, p, u, o, false) = mb_g ts p u o := rfl
theorem pr_h_len {ts : List tk_T} (h : pr_h ts ≠ 0) : ts.tail.length + 1 = ts.length := by
  cases ts with
  | nil => exact absurd rfl h
  | cons q r => rfl
-- the top of a pile
def nt_ (l : Int) (p : List Int) : Prop := match p with
  | [] => True
  | q :: _ => 20 ≤ q ∨ (l = 5 ∧ (q = 3 ∨ q = 4))
theorem mw_nt {l : Int} {p : List Int} (h : nt_ l p) (u : List (Int × Int)) (o : Int) : mw_ p u o = (p, u, o) := by
  cases p with
  | nil => rfl
  | cons q r => rw [mw_, if_neg]; rcases h with h | ⟨-, h | h⟩ <;> omega
theorem mt_nt {l : Int} {p : List Int} (h : nt_ l p) (hl : l = 3 ∨ l = 5) (u : List (Int × Int)) : mt_ l p u = (p, u) := by
  cases p with
  | nil => rfl
  | cons q r => rw [mt_, if_neg]; rcases h with h | ⟨h1, h | h⟩ <;> omega
theorem mt_35 : ∀ (p : List Int) (u : List (Int × Int)), mt_ 3 p u = mt_ 3 (mt_ 5 p u).1 (mt_ 5 p u).2
  | [], u => rfl
  | q :: p, u => by
    by_cases h : q < 20 ∧ 5 ≤ q
    · have e5 : mt_ 5 (q :: p) u = mt_ 5 p (u ++ [(q, 0)]) := by rw [mt_, if_pos h]
      have e3 : mt_ 3 (q :: p) u = mt_ 3 p (u ++ [(q, 0)]) := by rw [mt_, if_pos ⟨h.1, by omega⟩]
      rw [e5, e3]
      exact mt_35 p _
    · have e5 : mt_ 5 (q :: p) u = (q :: p, u) := by rw [mt_, if_neg h]
      rw [e5]
/-- what reading an operand must do, with o opened levels -/
def On_ (one : List tk_T → pr_T) (o : Int) : Prop := ∀ (ts : List tk_T) (p : List Int) (u : List (Int × Int)) (k : Nat), ts.length + 1 ≤ k → ts.length ≤ 101 →
  (∀ e, one ts = .inr e → mb_r k (ts, p, u, o, false) = .inr e) ∧
  (∀ c r, one ts = .inl (c, r) → r.length < ts.length ∧ ∃ k2, r.length + 1 ≤ k2 ∧ mb_r k (ts, p, u, o, false) = mb_r k2 (mw_c r p (u ++ c) o))
theorem On_pl {one : List tk_T → pr_T} {o : Int} (H : On_ one o) : ∀ (f : Nat) (ts : List tk_T) (c : List (Int × Int)) (p : List Int) (m : List (Int × Int)) (P : List Int) (U : List (Int × Int)) (k : Nat), ts.length ≤ f → ts.length ≤ 101 → ts.length + 1 ≤ k → nt_ 5 P → mt_ 5 p m = (P, U ++ c) →
    (∀ e, pr_pl one f c ts = .inr e → mb_r k (ts, p, m, o, true) = .inr e) ∧
    (∀ c2 r, pr_pl one f c ts = .inl (c2, r) → r.length ≤ ts.length ∧ (pr_h r ≠ 42 ∧ pr_h r ≠ 47) ∧ ∃ k2 p2 m2, r.length + 1 ≤ k2 ∧ mt_ 5 p2 m2 = (P, U ++ c2) ∧ mb_r k (ts, p, m, o, true) = mb_r k2 (r, p2, m2, o, true))
  | 0, ts, c, p, m, P, U, k, hf, h1, hk, hP, hm => by
    have : ts = [] := List.length_eq_zero_iff.mp (by omega)
    subst this
    refine ⟨fun e h => (by cases h), fun c2 r h => ?_⟩
    rw [pr_pl] at h
    cases h
    exact ⟨Nat.le_refl _, ⟨by simp [pr_h], by simp [pr_h]⟩, k, p, m, hk, hm, rfl⟩
  | f + 1, ts, c, p, m, P, U, k, hf, h1, hk, hP, hm => by
    by_cases hh : pr_h ts = 42 ∨ pr_h ts = 47
    · have hl := pr_h_len (ts := ts) (by omega)
      obtain ⟨k, rfl⟩ : ∃ k', k = k' + 1 := ⟨k - 1, by omega⟩
      generalize hq : (if pr_h ts = 42 then (5 : Int) else 6) = q
      have hq2 : 5 ≤ q ∧ q < 20 := by rw [← hq]; split <;> omega
      have s1 : mb_r (k + 1) (ts, p, m, o, true) = mb_r k (ts.tail, q :: P, U ++ c, o, false) := by
        refine mb_r_l (by show pr_h ts ≠ 0; omega) ?_
        rw [mb_1h, mb_h, if_neg (by omega), if_pos hh, hm, hq]
      obtain ⟨a1, a2⟩ := H ts.tail (q :: P) (U ++ c) k (by omega) (by omega)
      rw [pr_pl, if_pos hh, hq, s1]
      cases ho : one ts.tail with
      | inr e =>
        rw [pr_b_r]
        refine ⟨fun e2 h => ?_, fun c2 r h => (by cases h)⟩
        cases h
        exact a1 e ho
      | inl x =>
        obtain ⟨c1, r1⟩ := x
        obtain ⟨b1, k2, b2, b3⟩ := a2 c1 r1 ho
        rw [pr_b_l, b3]
        have e1 : mw_c r1 (q :: P) (U ++ c ++ c1) o = (r1, q :: P, U ++ c ++ c1, o, true) := by
          have : mw_ (q :: P) (U ++ c ++ c1) o = (q :: P, U ++ c ++ c1, o) := by rw [mw_, if_neg (by omega)]
          unfold mw_c
          rw [this]
        rw [e1]
        have e2 : mt_ 5 (q :: P) (U ++ c ++ c1) = (P, U ++ (c ++ c1 ++ [(q, 0)])) := by
          rw [mt_, if_pos ⟨hq2.2, hq2.1⟩, mt_nt hP (Or.inr rfl)]
          simp [List.append_assoc]
        obtain ⟨z1, z2⟩ := On_pl H f r1 (c ++ c1 ++ [(q, 0)]) (q :: P) (U ++ c ++ c1) P U k2 (by omega) (by omega) b2 hP e2
        refine ⟨z1, fun c2 r h => ?_⟩
        obtain ⟨y1, y2, y3⟩ := z2 c2 r h
        exact ⟨by omega, y2, y3⟩
    · rw [pr_pl, if_neg hh]
      refine ⟨fun e h => (by cases h), fun c2 r h => ?_⟩
      cases h
      exact ⟨Nat.le_refl _, ⟨by omega, by omega⟩, k, p, m, hk, hm, rfl⟩
/-- a product, from the pile P on -/
theorem On_pr {one : List tk_T → pr_T} {o : Int} (H : On_ one o) (ts : List tk_T) (P : List Int) (U : List (Int × Int)) (k : Nat) (h1 : ts.length ≤ 101) (hk : ts.length + 1 ≤ k) (hP : nt_ 5 P) :
    (∀ e, pr_pr one ts = .inr e → mb_r k (ts, P, U, o, false) = .inr e) ∧
    (∀ c2 r, pr_pr one ts = .inl (c2, r) → r.length < ts.length ∧ (pr_h r ≠ 42 ∧ pr_h r ≠ 47) ∧ ∃ k2 p2 m2, r.length + 1 ≤ k2 ∧ mt_ 5 p2 m2 = (P, U ++ c2) ∧ mb_r k (ts, P, U, o, false) = mb_r k2 (r, p2, m2, o, true)) := by
  obtain ⟨a1, a2⟩ := H ts P U k hk h1
  unfold pr_pr
  cases ho : one ts with
  | inr e =>
    rw [pr_b_r]
    refine ⟨fun e2 h => ?_, fun c2 r h => (by cases h)⟩
    cases h
    exact a1 e ho
  | inl x =>
    obtain ⟨c1, r1⟩ := x
    obtain ⟨b1, k2, b2, b3⟩ := a2 c1 r1 ho
    rw [pr_b_l, b3]
    have e1 : mw_c r1 P (U ++ c1) o = (r1, P, U ++ c1, o, true) := by
      unfold mw_c
      rw [mw_nt hP]
    rw [e1]
    obtain ⟨z1, z2⟩ := On_pl H 100 r1 c1 P (U ++ c1) P U k2 (by omega) (by omega) b2 hP (mt_nt hP (Or.inr rfl) _)
    refine ⟨z1, fun c2 r h => ?_⟩
    obtain ⟨y1, y2, y3⟩ := z2 c2 r h
    exact ⟨by omega, y2, y3⟩
theorem On_sl {one : List tk_T → pr_T} {o : Int} (H : On_ one o) : ∀ (f : Nat) (ts : List tk_T) (c : List (Int × Int)) (p : List Int) (m : List (Int × Int)) (P : List Int) (U : List (Int × Int)) (k : Nat), ts.length ≤ f → ts.length ≤ 101 → ts.length + 1 ≤ k → nt_ 3 P → (pr_h ts ≠ 42 ∧ pr_h ts ≠ 47) → mt_ 3 p m = (P, U ++ c) →
    (∀ e, pr_sl one f c ts = .inr e → mb_r k (ts, p, m, o, true) = .inr e) ∧
    (∀ c2 r, pr_sl one f c ts = .inl (c2, r) → r.length ≤ ts.length ∧ (pr_h r ≠ 42 ∧ pr_h r ≠ 47) ∧ (pr_h r ≠ 43 ∧ pr_h r ≠ 45) ∧ ∃ k2 p2 m2, r.length + 1 ≤ k2 ∧ mt_ 3 p2 m2 = (P, U ++ c2) ∧ mb_r k (ts, p, m, o, true) = mb_r k2 (r, p2, m2, o, true))
  | 0, ts, c, p, m, P, U, k, hf, h1, hk, hP, hh2, hm => by
    have : ts = [] := List.length_eq_zero_iff.mp (by omega)
    subst this
    refine ⟨fun e h => (by cases h), fun c2 r h => ?_⟩
    rw [pr_sl] at h
    cases h
    exact ⟨Nat.le_refl _, ⟨by simp [pr_h], by simp [pr_h]⟩, ⟨by simp [pr_h], by simp [pr_h]⟩, k, p, m, hk, hm, rfl⟩
  | f + 1, ts, c, p, m, P, U, k, hf, h1, hk, hP, hh2, hm => by
    by_cases hh : pr_h ts = 43 ∨ pr_h ts = 45
    · have hl := pr_h_len (ts := ts) (by omega)
      obtain ⟨k, rfl⟩ : ∃ k', k = k' + 1 := ⟨k - 1, by omega⟩
      generalize hq : (if pr_h ts = 43 then (3 : Int) else 4) = q
      have hq2 : q = 3 ∨ q = 4 := by rw [← hq]; split <;> omega
      have s1 : mb_r (k + 1) (ts, p, m, o, true) = mb_r k (ts.tail, q :: P, U ++ c, o, false) := by
        refine mb_r_l (by show pr_h ts ≠ 0; omega) ?_
        rw [mb_1h, mb_h, if_pos hh, hm, hq]
      obtain ⟨a1, a2⟩ := On_pr H ts.tail (q :: P) (U ++ c) k (by omega) (by omega) (Or.inr ⟨rfl, hq2⟩)
      rw [pr_sl, if_pos hh, hq, s1]
      cases ho : pr_pr one ts.tail with
      | inr e =>
        rw [pr_b_r]
        refine ⟨fun e2 h => ?_, fun c2 r h => (by cases h)⟩
        cases h
        exact a1 e ho
      | inl x =>
        obtain ⟨c1, r1⟩ := x
        obtain ⟨b1, b0, k2, p2, m2, b2, b4, b3⟩ := a2 c1 r1 ho
        rw [pr_b_l, b3]
        have e2 : mt_ 3 p2 m2 = (P, U ++ (c ++ c1 ++ [(q, 0)])) := by
          rw [mt_35, b4]
          show mt_ 3 (q :: P) (U ++ c ++ c1) = _
          rw [mt_, if_pos (by omega), mt_nt hP (Or.inl rfl)]
          simp [List.append_assoc]
        obtain ⟨z1, z2⟩ := On_sl H f r1 (c ++ c1 ++ [(q, 0)]) p2 m2 P U k2 (by omega) (by omega) b2 hP b0 e2
        refine ⟨z1, fun c2 r h => ?_⟩
        obtain ⟨y1, y2, y3⟩ := z2 c2 r h
        exact ⟨by omega, y2, y3⟩
    · rw [pr_sl, if_neg hh]
      refine ⟨fun e h => (by cases h), fun c2 r h => ?_⟩
      cases h
      exact ⟨Nat.le_refl _, hh2, ⟨by omega, by omega⟩, k, p, m, hk, hm, rfl⟩
theorem nt_35 {P : List Int} (h : nt_ 3 P) : nt_ 5 P := by
  cases P with
  | nil => trivial
  | cons q r => rcases h with h | ⟨h, -⟩
                · exact Or.inl h
                · omega
theorem On_sm {one : List tk_T → pr_T} {o : Int} (H : On_ one o) (ts : List tk_T) (P : List Int) (U : List (Int × Int)) (k : Nat) (h1 : ts.length ≤ 101) (hk : ts.length + 1 ≤ k) (hP : nt_ 3 P) :
    (∀ e, pr_sm one ts = .inr e → mb_r k (ts, P, U, o, false) = .inr e) ∧
    (∀ c2 r, pr_sm one ts = .inl (c2, r) → r.length < ts.length ∧ (pr_h r ≠ 42 ∧ pr_h r ≠ 47) ∧ (pr_h r ≠ 43 ∧ pr_h r ≠ 45) ∧ ∃ k2 p2 m2, r.length + 1 ≤ k2 ∧ mt_ 3 p2 m2 = (P, U ++ c2) ∧ mb_r k (ts, P, U, o, false) = mb_r k2 (r, p2, m2, o, true)) := by
  obtain ⟨a1, a2⟩ := On_pr H ts P U k h1 hk (nt_35 hP)
  unfold pr_sm
  cases ho : pr_pr one ts with
  | inr e =>
    rw [pr_b_r]
    refine ⟨fun e2 h => ?_, fun c2 r h => (by cases h)⟩
    cases h
    exact a1 e ho
  | inl x =>
    obtain ⟨c1, r1⟩ := x
    obtain ⟨b1, b0, k2, p2, m2, b2, b4, b3⟩ := a2 c1 r1 ho
    rw [pr_b_l, b3]
    have e2 : mt_ 3 p2 m2 = (P, U ++ c1) := by
      rw [mt_35, b4]
      exact mt_nt hP (Or.inl rfl) _
    obtain ⟨z1, z2⟩ := On_sl H 100 r1 c1 p2 m2 P U k2 (by omega) (by omega) b2 hP b0 e2
    refine ⟨z1, fun c2 r h => ?_⟩
    obtain ⟨y1, y2, y3⟩ := z2 c2 r h
    exact ⟨by omega, y2, y3⟩
/-- the same, as a relation of a reading with the machine: from (ts, p, u, o, false) on, u is what is written and p the pile -/
def Or_ (x : pr_T) (ts : List tk_T) (p : List Int) (u : List (Int × Int)) (o : Int) (k : Nat) : Prop :=
  (∀ e, x = .inr e → mb_r k (ts, p, u, o, false) = .inr e) ∧
  (∀ c r, x = .inl (c, r) → r.length < ts.length ∧ ∃ k2, r.length + 1 ≤ k2 ∧ mb_r k (ts, p, u, o, false) = mb_r k2 (mw_c r p (u ++ c) o))
theorem Or_err {ts : List tk_T} {p : List Int} {u : List (Int × Int)} {o : Int} {k : Nat} {e : Int × Int} (h : mb_r k (ts, p, u, o, false) = .inr e) : Or_ (.inr e) ts p u o k :=
  ⟨fun e2 h2 => (by cases h2; exact h), fun c r h2 => (by cases h2)⟩
theorem Or_ok {ts : List tk_T} {p : List Int} {u : List (Int × Int)} {o : Int} {k k2 : Nat} {c : List (Int × Int)} {r : List tk_T} (hl : r.length < ts.length) (hk : r.length + 1 ≤ k2) (h : mb_r k (ts, p, u, o, false) = mb_r k2 (mw_c r p (u ++ c) o)) : Or_ (.inl (c, r)) ts p u o k :=
  ⟨fun e h2 => (by cases h2), fun c2 r2 h2 => (by cases h2; exact ⟨hl, k2, hk, h⟩)⟩
theorem pr_ix_h {c : Int} (h : 0 ≤ pr_ix c) : c = 116 ∨ c = 115 ∨ c = 109 ∨ c = 98 ∨ c = 104 := by
  unfold pr_ix at h
  by_cases a1 : c = 116
  · omega
  by_cases a2 : c = 115
  · omega
  by_cases a3 : c = 109
  · omega
  by_cases a4 : c = 98
  · omega
  by_cases a5 : c = 104
  · omega
  rw [if_neg a1, if_neg a2, if_neg a3, if_neg a4, if_neg a5] at h
  omega
theorem Or_lf {ts : List tk_T} {p : List Int} {u : List (Int × Int)} {o : Int} {k : Nat} (hk : ts.length + 1 ≤ k) (h : pr_h ts ≠ 2 ∧ pr_h ts ≠ 3 ∧ pr_h ts ≠ 40 ∧ pr_h ts ≠ 45) : Or_ (pr_lf ts) ts p u o k := by
  obtain ⟨k, rfl⟩ : ∃ k', k = k' + 1 := ⟨k - 1, by omega⟩
  unfold pr_lf
  by_cases h1 : 1000 ≤ pr_h ts
  · have hl := pr_h_len (ts := ts) (by omega)
    rw [if_pos h1]
    by_cases h2 : 9999 < pr_h ts - 1000
    · rw [if_pos h2]
      refine Or_err (mb_r_r (by show pr_h ts ≠ 0; omega) ?_)
      rw [mb_1g, mb_g, if_pos h1, if_pos h2]
    · rw [if_neg h2]
      refine Or_ok (k2 := k) (by omega) (by omega) (mb_r_l (by show pr_h ts ≠ 0; omega) ?_)
      rw [mb_1g, mb_g, if_pos h1, if_neg h2]
  · rw [if_neg h1]
    by_cases h2 : 0 ≤ pr_ix (pr_h ts)
    · have h3 := pr_ix_h h2
      have hl := pr_h_len (ts := ts) (by omega)
      rw [if_pos h2]
      refine Or_ok (k2 := k) (by omega) (by omega) (mb_r_l (by show pr_h ts ≠ 0; omega) ?_)
      rw [mb_1g, mb_g, if_neg h1, if_pos h2]
    · rw [if_neg h2]
      refine Or_err ?_
      by_cases h3 : pr_h ts = 0
      · rw [mb_r, if_pos h3, mb_e]
        rfl
      · refine mb_r_r h3 ?_
        rw [mb_1g, mb_g, if_neg h1, if_neg h2, if_neg (by omega), if_neg (by omega)]
theorem Or_le {x : pr_T} {ts t2 : List tk_T} {p p2 : List Int} {u u2 : List (Int × Int)} {o o2 : Int} {k k2 : Nat} (h : Or_ x t2 p2 u2 o2 k2) (hl : t2.length ≤ ts.length) (e : mb_r k (ts, p, u, o, false) = mb_r k2 (t2, p2, u2, o2, false)) (f : List (Int × Int) → List (Int × Int)) (hm : ∀ r c, mw_c r p2 (u2 ++ c) o2 = mw_c r p (u ++ f c) o) : Or_ (pr_b x (fun c r => .inl (f c, r))) ts p u o k := by
  cases x with
  | inr e2 => exact Or_err (by rw [e]; exact h.1 e2 rfl)
  | inl q =>
    obtain ⟨c, r⟩ := q
    obtain ⟨a1, a2, a3, a4⟩ := h.2 c r rfl
    rw [pr_b_l]
    exact Or_ok (by omega) a3 (by rw [e, a4, hm])
/-- behind a sum, in a bracket: the closing sign, or a fault -/
theorem Or_close {r : List tk_T} {p2 : List Int} {m2 : List (Int × Int)} {q : Int} {p : List Int} {U c : List (Int × Int)} {o : Int} {k : Nat} {ts : List tk_T} {v : List (Int × Int)} {u2 : List (Int × Int)} {k0 : Nat} {o2 : Int}
    (hk : r.length + 1 ≤ k) (hm : mt_ 3 p2 m2 = (q :: p, U)) (hq : q = 20 ∨ q = 23 ∨ q = 24) (h1 : pr_h r ≠ 42 ∧ pr_h r ≠ 47) (h2 : pr_h r ≠ 43 ∧ pr_h r ≠ 45) (hl : r.length < ts.length) (ho : o2 = o + 1)
    (he : mb_r k0 (ts, p, v, o, false) = mb_r k (r, p2, m2, o2, true)) (hu : u2 = if 20 < q then U ++ [(if q = 23 then 7 else 8, 0)] else U) (hc : u2 = v ++ c) : Or_ (pr_tk 41 c r) ts p v o k0 := by
  subst ho
  obtain ⟨k, rfl⟩ : ∃ k', k = k' + 1 := ⟨k - 1, by omega⟩
  unfold pr_tk
  by_cases h : pr_h r = 41
  · have hl2 := pr_h_len (ts := r) (by omega)
    rw [if_pos h]
    refine Or_ok (k2 := k) (by omega) (by omega) ?_
    rw [he]
    refine mb_r_l (by show pr_h r ≠ 0; omega) ?_
    rw [mb_1h, mb_h, if_neg (by omega), if_neg (by omega), if_neg (by omega), if_pos h, hm]
    show (if q = 21 ∨ q = 22 then _ else _) = _
    rw [if_neg (by omega), ← hu, hc, Int.add_sub_cancel]
  · rw [if_neg h]
    refine Or_err ?_
    rw [he]
    by_cases h3 : pr_h r = 0
    · rw [mb_r, if_pos h3, mb_e]
      show (if true = true then (if (mt_ 3 p2 m2).1 = [] then _ else _) else _) = _
      rw [hm, if_pos rfl, if_neg (by simp)]
    · refine mb_r_r h3 ?_
      rw [mb_1h, mb_h, if_neg (by omega), if_neg (by omega)]
      by_cases h4 : pr_h r = 44
      · rw [if_pos h4, hm]
        show (if q = 21 ∨ q = 22 then _ else _) = _
        rw [if_neg (by omega)]
      · rw [if_neg h4, if_neg h]
theorem On_one : ∀ d : Nat, d ≤ 8 → On_ (pr_one d) (8 - (d : Int))
  | 0, _ => by
    intro ts p u k hk h1
    show Or_ (pr_one 0 ts) ts p u _ k
    rw [pr_one]
    by_cases a1 : pr_h ts = 45 ∨ pr_h ts = 40
    · rw [if_pos a1]
      obtain ⟨k, rfl⟩ : ∃ k', k = k' + 1 := ⟨k - 1, by omega⟩
      have hx : ¬ 0 ≤ pr_ix (pr_h ts) := fun h => by have := pr_ix_h h; omega
      refine Or_err (mb_r_r (by show pr_h ts ≠ 0; omega) ?_)
      rw [mb_1g, mb_g, if_neg (by omega), if_neg hx, if_neg (by omega), if_pos (by omega), if_pos (by omega)]
    · rw [if_neg a1]
      by_cases a2 : pr_h ts = 2 ∨ pr_h ts = 3
      · rw [if_pos a2]
        obtain ⟨k, rfl⟩ : ∃ k', k = k' + 1 := ⟨k - 1, by omega⟩
        have hx : ¬ 0 ≤ pr_ix (pr_h ts) := fun h => by have := pr_ix_h h; omega
        by_cases a3 : pr_h ts.tail = 40
        · rw [if_pos a3]
          refine Or_err (mb_r_r (by show pr_h ts ≠ 0; omega) ?_)
          rw [mb_1g, mb_g, if_neg (by omega), if_neg hx, if_pos a2, if_pos a3, if_pos (by omega)]
        · rw [if_neg a3]
          refine Or_err (mb_r_r (by show pr_h ts ≠ 0; omega) ?_)
          rw [mb_1g, mb_g, if_neg (by omega), if_neg hx, if_pos a2, if_neg a3]
      · rw [if_neg a2]
        exact Or_lf hk (by omega)
  | d + 1, hd => by
    have H := On_one d (by omega)
    intro ts p u k hk h1
    show Or_ (pr_one (d + 1) ts) ts p u _ k
    have eo : (8 - ((d + 1 : Nat) : Int)) + 1 = 8 - (d : Int) := by omega
    generalize ho : (8 - ((d + 1 : Nat) : Int)) = o at eo ⊢
    have ho8 : o ≠ 8 := by omega
    rw [pr_one]
    by_cases a1 : pr_h ts = 45
    · rw [if_pos a1]
      obtain ⟨k, rfl⟩ : ∃ k', k = k' + 1 := ⟨k - 1, by omega⟩
      have hl := pr_h_len (ts := ts) (by omega)
      have hx : ¬ 0 ≤ pr_ix (pr_h ts) := fun h => by have := pr_ix_h h; omega
      have H1 : Or_ (pr_one d ts.tail) ts.tail (2 :: p) u (8 - (d : Int)) k := H ts.tail (2 :: p) u k (by omega) (by omega)
      refine Or_le H1 (by omega) (f := fun c => c ++ [(2, 0)]) (mb_r_l (by show pr_h ts ≠ 0; omega) ?_) ?_
      · rw [mb_1g, mb_g, if_neg (by omega), if_neg hx, if_neg (by omega), if_pos (by omega), if_neg ho8, if_neg (by omega), eo]
      · intro r c
        unfold mw_c
        rw [mw_, if_pos rfl, ← eo, Int.add_sub_cancel, List.append_assoc]
    rw [if_neg a1]
    by_cases a2 : pr_h ts = 40
    · rw [if_pos a2]
      obtain ⟨k, rfl⟩ : ∃ k', k = k' + 1 := ⟨k - 1, by omega⟩
      have hl := pr_h_len (ts := ts) (by omega)
      have hx : ¬ 0 ≤ pr_ix (pr_h ts) := fun h => by have := pr_ix_h h; omega
      have s1 : mb_r (k + 1) (ts, p, u, o, false) = mb_r k (ts.tail, 20 :: p, u, 8 - (d : Int), false) := by
        refine mb_r_l (by show pr_h ts ≠ 0; omega) ?_
        rw [mb_1g, mb_g, if_neg (by omega), if_neg hx, if_neg (by omega), if_pos (by omega), if_neg ho8, if_pos a2, eo]
      obtain ⟨z1, z2⟩ := On_sm H ts.tail (20 :: p) u k (by omega) (by omega) (Or.inl (Int.le_refl _))
      cases hs : pr_sm (pr_one d) ts.tail with
      | inr e =>
        rw [pr_b_r]
        exact Or_err (by rw [s1]; exact z1 e hs)
      | inl q =>
        obtain ⟨c, r⟩ := q
        obtain ⟨y1, y2, y3, k2, p2, m2, y4, y5, y6⟩ := z2 c r hs
        rw [pr_b_l]
        exact Or_close (q := 20) (U := u ++ c) (u2 := u ++ c) y4 y5 (Or.inl rfl) y2 y3 (by omega) eo.symm (by rw [s1, y6]) (by rw [if_neg (by omega)]) rfl
    rw [if_neg a2]
    by_cases a3 : pr_h ts = 2 ∨ pr_h ts = 3
    · rw [if_pos a3]
      obtain ⟨k, rfl⟩ : ∃ k', k = k' + 1 := ⟨k - 1, by omega⟩
      have hl := pr_h_len (ts := ts) (by omega)
      have hx : ¬ 0 ≤ pr_ix (pr_h ts) := fun h => by have := pr_ix_h h; omega
      by_cases a4 : pr_h ts.tail = 40
      · rw [if_pos a4]
        have hl2 := pr_h_len (ts := ts.tail) (by omega)
        generalize hq : (if pr_h ts = 2 then (21 : Int) else 22) = q
        have hq2 : (q = 21 ∧ pr_h ts = 2) ∨ (q = 22 ∧ pr_h ts ≠ 2) := by rw [← hq]; split <;> omega
        have s1 : mb_r (k + 1) (ts, p, u, o, false) = mb_r k (ts.tail.tail, q :: p, u, 8 - (d : Int), false) := by
          refine mb_r_l (by show pr_h ts ≠ 0; omega) ?_
          rw [mb_1g, mb_g, if_neg (by omega), if_neg hx, if_pos a3, if_pos a4, if_neg ho8, hq, eo]
        generalize hoo : (if pr_h ts = 2 then (7 : Int) else 8) = oo
        have hoo2 : oo = if q + 2 = 23 then 7 else 8 := by
          rw [← hoo]
          rcases hq2 with ⟨b1, b2⟩ | ⟨b1, b2⟩
          · rw [if_pos b2, if_pos (by omega)]
          · rw [if_neg b2, if_neg (by omega)]
        obtain ⟨z1, z2⟩ := On_sm H ts.tail.tail (q :: p) u k (by omega) (by omega) (Or.inl (by omega))
        unfold pr_mm
        cases hs : pr_sm (pr_one d) ts.tail.tail with
        | inr e =>
          rw [pr_b_r]
          exact Or_err (by rw [s1]; exact z1 e hs)
        | inl x =>
          obtain ⟨c, r⟩ := x
          obtain ⟨y1, y2, y3, k2, p2, m2, y4, y5, y6⟩ := z2 c r hs
          rw [pr_b_l]
          obtain ⟨k2, rfl⟩ : ∃ k', k2 = k' + 1 := ⟨k2 - 1, by omega⟩
          by_cases a5 : pr_h r = 44
          · rw [show pr_tk 44 c r = .inl (c, r.tail) by rw [pr_tk, if_pos a5], pr_b_l]
            have hl3 := pr_h_len (ts := r) (by omega)
            have s2 : mb_r (k2 + 1) (r, p2, m2, 8 - (d : Int), true) = mb_r k2 (r.tail, (q + 2) :: p, u ++ c, 8 - (d : Int), false) := by
              refine mb_r_l (by show pr_h r ≠ 0; omega) ?_
              rw [mb_1h, mb_h, if_neg (by omega), if_neg (by omega), if_pos a5, y5]
              show (if q = 21 ∨ q = 22 then _ else _) = _
              rw [if_pos (by omega)]
            obtain ⟨w1, w2⟩ := On_sm H r.tail ((q + 2) :: p) (u ++ c) k2 (by omega) (by omega) (Or.inl (by omega))
            cases hs2 : pr_sm (pr_one d) r.tail with
            | inr e =>
              rw [pr_b_r]
              exact Or_err (by rw [s1, y6, s2]; exact w1 e hs2)
            | inl x2 =>
              obtain ⟨c2, r2⟩ := x2
              obtain ⟨v1, v2, v3, k3, p3, m3, v4, v5, v6⟩ := w2 c2 r2 hs2
              rw [pr_b_l]
              exact Or_close (q := q + 2) (U := u ++ c ++ c2) (u2 := u ++ (c ++ c2 ++ [(oo, 0)])) v4 v5 (by omega) v2 v3 (by omega) eo.symm (by rw [s1, y6, s2, v6]) (by rw [if_pos (by omega), hoo2]; simp [List.append_assoc]) rfl
          · rw [show pr_tk 44 c r = .inr (1, pr_p r) by rw [pr_tk, if_neg a5], pr_b_r]
            refine Or_err ?_
            rw [s1, y6]
            by_cases a6 : pr_h r = 0
            · rw [mb_r, if_pos a6, mb_e]
              show (if true = true then (if (mt_ 3 p2 m2).1 = [] then _ else _) else _) = _
              rw [y5, if_pos rfl, if_neg (by simp)]
            · refine mb_r_r a6 ?_
              rw [mb_1h, mb_h, if_neg (by omega), if_neg (by omega), if_neg a5]
              by_cases a7 : pr_h r = 41
              · rw [if_pos a7, y5]
                show (if q = 21 ∨ q = 22 then _ else _) = _
                rw [if_pos (by omega)]
              · rw [if_neg a7]
      · rw [if_neg a4]
        refine Or_err (mb_r_r (by show pr_h ts ≠ 0; omega) ?_)
        rw [mb_1g, mb_g, if_neg (by omega), if_neg hx, if_pos a3, if_neg a4]
    rw [if_neg a3]
    exact Or_lf hk (by omega)
/-- the machine reads a text as the descent does -/
theorem mb_all (ts : List tk_T) (k : Nat) (h1 : ts.length ≤ 101) (hk : ts.length + 1 ≤ k) :
    (∀ e, pr_all ts = .inr e → mb_r k (ts, [], [], 0, false) = .inr e) ∧ (∀ c r, pr_all ts = .inl (c, r) → mb_r k (ts, [], [], 0, false) = .inl c) := by
  obtain ⟨z1, z2⟩ := On_sm (On_one 8 (Nat.le_refl _)) ts [] [] k h1 hk trivial
  have e0 : (8 - ((8 : Nat) : Int)) = 0 := by decide
  rw [e0] at z1 z2
  unfold pr_all
  cases hs : pr_sm (pr_one 8) ts with
  | inr e =>
    rw [pr_b_r]
    exact ⟨fun e2 h => (by cases h; exact z1 e hs), fun c r h => (by cases h)⟩
  | inl q =>
    obtain ⟨c, r⟩ := q
    obtain ⟨y1, y2, y3, k2, p2, m2, y4, y5, y6⟩ := z2 c r hs
    obtain ⟨k2, rfl⟩ : ∃ k', k2 = k' + 1 := ⟨k2 - 1, by omega⟩
    rw [pr_b_l, y6]
    unfold pr_tk
    by_cases a6 : pr_h r = 0
    · rw [if_pos a6]
      refine ⟨fun e h => (by cases h), fun c2 r2 h => ?_⟩
      cases h
      rw [mb_r, if_pos a6, mb_e]
      show (if true = true then (if (mt_ 3 p2 m2).1 = [] then _ else _) else _) = _
      rw [y5, if_pos rfl, if_pos rfl]
      rfl
    · rw [if_neg a6]
      refine ⟨fun e h => ?_, fun c2 r2 h => (by cases h)⟩
      cases h
      refine mb_r_r a6 ?_
      rw [mb_1h, mb_h, if_neg (by omega), if_neg (by omega)]
      by_cases a5 : pr_h r = 44
      · rw [if_pos a5, y5]
      · rw [if_neg a5]
        by_cases a7 : pr_h r = 41
        · rw [if_pos a7, y5]
        · rw [if_neg a7]
