-- G: 1, 2, 3, 4: where fields, loads, spans and batches lie; 5: until when a load's truck is away; 6 0: turns settled; 6 1: batches; 7, 8: field and end of a batch; 9 0: where the text in use lies
abbrev gh_T : Type := Nat → Nat → Nat
/-- the j-th of a chain of n -/
def rf_ (G : gh_T) (k n j : Nat) : Option Nat := if j < n then some (G k j) else none
/-- the last of a chain of n -/
def rl_ (G : gh_T) (k n : Nat) : Option Nat := if n = 0 then none else some (G k (n - 1))
theorem rf_s {G : gh_T} {k n j : Nat} (h : j < n) : rf_ G k n j = some (G k j) := if_pos h
theorem rf_e {G : gh_T} {k n j : Nat} (h : n ≤ j) : rf_ G k n j = none := if_neg (by omega)
theorem rl_s {G : gh_T} {k n : Nat} (h : n ≠ 0) : rl_ G k n = some (G k (n - 1)) := if_neg h
theorem rl_e {G : gh_T} {k n : Nat} (h : n = 0) : rl_ G k n = none := if_pos h
def sb_ (c : Int) : Int := if 128 ≤ c then c - 256 else c
def cx_0 (S : ms_T) (G : gh_T) : ac_T := ac_o 10 [av_i (S.1 4), av_i (S.1 5), av_i (S.1 6), av_i (S.1 7), av_i (S.1 0), av_i (S.1 38), av_q (rf_ G 1 (S.1 2).toNat 0), av_q (rl_ G 1 (S.1 2).toNat), av_q (rf_ G 2 (S.1 3).toNat 0), av_q (rl_ G 2 (S.1 3).toNat), av_r 1, av_r 4, av_r 5, av_r 6, av_r 30, av_r (G 9 0), av_r (67 - G 9 0), av_i (S.1 47), av_i (S.1 48)]
def cx_1 (S : ms_T) (G : gh_T) : ac_T := ac_o 3 [av_r 2, av_r 3, av_i (S.1 1), av_i (S.1 39), av_i ((G 6 0 : Nat) : Int)]
def cx_4 (S : ms_T) (G : gh_T) : ac_T := ac_o 9 [av_q (rl_ G 3 (S.1 21).toNat), av_i (S.1 21)]
def cx_5 (G : gh_T) : ac_T := ac_o 1 [av_q (rf_ G 4 (G 6 1) 0), av_q (rl_ G 4 (G 6 1))]
def cx_30 (S : ms_T) : ac_T := ac_o 8 [av_r 31, av_i (S.1 43)]
def cx_F (S : ms_T) (G : gh_T) (i : Nat) : ac_T := ac_o 4 [av_i (i : Int), av_i (S.2 40 i), av_i (S.2 41 i), av_i (S.2 42 i), av_i (S.2 43 i), av_i (S.2 44 i), av_i (S.2 45 i), av_i (S.2 46 i), av_i (S.2 47 i), av_i (S.2 48 i), av_i (if 0 ≤ S.2 49 i then 1 else 0), av_i (max 0 (S.2 49 i)), av_i (S.2 50 i), av_i (S.2 51 i), av_q (rf_ G 1 (S.1 2).toNat (i + 1))]
def cx_L (S : ms_T) (G : gh_T) (l : Nat) : ac_T := ac_o 6 [av_i (l : Int), av_r (G 1 (S.2 55 l).toNat), av_i (S.2 56 l), av_i (S.2 57 l), av_i (S.2 58 l), av_i (S.2 59 l), av_i ((G 5 l : Nat) : Int), av_i (S.2 60 l), av_i (S.2 61 l), av_i (if S.2 62 l < 0 then -1 else S.2 62 l + 1), av_i (S.2 63 l), av_q (rf_ G 2 (S.1 3).toNat (l + 1))]
def cx_S (S : ms_T) (G : gh_T) (k : Nat) : ac_T := ac_o 7 [av_i (S.2 52 k), av_i (S.2 53 k), av_i (S.2 54 k), av_q (rl_ G 3 k)]
def cx_B (G : gh_T) (j : Nat) : ac_T := ac_o 0 [av_i ((G 7 j : Nat) : Int), av_i ((G 8 j : Nat) : Int), av_q (rf_ G 4 (G 6 1) (j + 1))]
def ce_ (S : ms_T) (G : gh_T) (k i : Nat) : ac_T := match k with
  | 0 => (match i with
    | 0 => cx_0 S G
    | 1 => cx_1 S G
    | 2 => ac_l 10 (S.2 39)
    | 3 => ac_a 0 10 (S.2 66)
    | 4 => cx_4 S G
    | 5 => cx_5 G
    | 30 => cx_30 S
    | _ => ac_a 1 100 (fun j => sb_ (S.2 68 j)))
  | 1 => cx_F S G i
  | 2 => cx_L S G i
  | 3 => cx_S S G i
  | _ => cx_B G i
def vl_ok (S : ms_T) (G : gh_T) (k i : Nat) : Prop := match k with
  | 0 => i ≤ 5 ∨ i = 30 ∨ i = 31
  | 1 => (i : Int) < S.1 2
  | 2 => (i : Int) < S.1 3
  | 3 => (i : Int) < S.1 21
  | 4 => i < G 6 1
  | _ => False
def ad_ (G : gh_T) (k i : Nat) : Nat := match k with
  | 0 => i
  | k + 1 => G (k + 1) i
def co_R (h : ah_T) (S : ms_T) (G : gh_T) : Prop := 77 ≤ h.length ∧ (∀ k i, vl_ok S G k i → h[ad_ G k i]? = some (ce_ S G k i) ∧ (k ≠ 0 → 77 ≤ ad_ G k i)) ∧ ∀ k i k2 i2, vl_ok S G k i → vl_ok S G k2 i2 → ad_ G k i = ad_ G k2 i2 → k = k2 ∧ i = i2
/-- the chooser's cells, the texts' and the model's are as they were, but for what a reading of a text writes -/
def sq_ (h0 h : ah_T) (F : Nat) : Prop := ∀ fs, h0[F]? = some (ac_o 5 fs) → ∃ fs' : List av_T, h[F]? = some (ac_o 5 fs') ∧ fs'.take 3 = fs.take 3 ∧ fs'.length = fs.length
def cf_ (h0 h : ah_T) : Prop := (∀ a, (6 ≤ a ∧ a < 30) ∨ (33 ≤ a ∧ a < 77 ∧ a ≠ 35) → h[a]? = h0[a]?) ∧ sq_ h0 h 32 ∧ sq_ h0 h 35
def co_I (h0 h : ah_T) (S : ms_T) (G : gh_T) : Prop := co_R h S G ∧ cf_ h0 h
theorem co_K {S : ms_T} {G : gh_T} {Q : Nat → Nat → Prop} (q0 : Q 0 0) (q1 : Q 0 1) (q2 : Q 0 2) (q3 : Q 0 3) (q4 : Q 0 4) (q5 : Q 0 5) (q30 : Q 0 30) (q31 : Q 0 31) (qF : ∀ i : Nat, (i : Int) < S.1 2 → Q 1 i) (qL : ∀ i : Nat, (i : Int) < S.1 3 → Q 2 i) (qS : ∀ i : Nat, (i : Int) < S.1 21 → Q 3 i) (qB : ∀ i : Nat, i < G 6 1 → Q 4 i) : ∀ k i, vl_ok S G k i → Q k i
  | 0, i, h => by
    have h2 : i ≤ 5 ∨ i = 30 ∨ i = 31 := h
    rcases (show i = 0 ∨ i = 1 ∨ i = 2 ∨ i = 3 ∨ i = 4 ∨ i = 5 ∨ i = 30 ∨ i = 31 by omega) with rfl | rfl | rfl | rfl | rfl | rfl | rfl | rfl <;> assumption
  | 1, i, h => qF i h
  | 2, i, h => qL i h
  | 3, i, h => qS i h
  | 4, i, h => qB i h
  | _ + 5, i, h => h.elim
/-- a heap in which one cell is another -/
def hu_ (h h' : ah_T) (a : Nat) (c : ac_T) : Prop := h'.length = h.length ∧ h'[a]? = some c ∧ ∀ b, b ≠ a → h'[b]? = h[b]?
theorem hu_set {h : ah_T} {a : Nat} {c0 c : ac_T} (hc : h[a]? = some c0) : hu_ h (h.set a c) a c := by
  refine ⟨List.length_set, ?_, fun b hb => List.getElem?_set_ne (Ne.symm hb)⟩
  rw [List.getElem?_set_self (List.getElem?_eq_some_iff.mp hc).1]
theorem hu_tr {h h1 h2 : ah_T} {a : Nat} {c c2 : ac_T} (g1 : hu_ h h1 a c) (g2 : hu_ h1 h2 a c2) : hu_ h h2 a c2 := ⟨g2.1.trans g1.1, g2.2.1, fun b hb => (g2.2.2 b hb).trans (g1.2.2 b hb)⟩
theorem co_up {h h' : ah_T} {S S' : ms_T} {G G' : gh_T} {k0 i0 : Nat} (H : co_R h S G) (hv : vl_ok S G k0 i0) (hu : hu_ h h' (ad_ G k0 i0) (ce_ S' G' k0 i0)) (K : ∀ k i, vl_ok S' G' k i → vl_ok S G k i ∧ ad_ G' k i = ad_ G k i ∧ ((k = k0 ∧ i = i0) ∨ ce_ S' G' k i = ce_ S G k i)) : co_R h' S' G' := by
  obtain ⟨H1, H2, H3⟩ := H
  refine ⟨by rw [hu.1]; exact H1, fun k i v => ?_, fun k i k2 i2 v v2 e => ?_⟩
  · obtain ⟨a1, a2, a3⟩ := K k i v
    rw [a2]
    rcases a3 with ⟨rfl, rfl⟩ | a3
    · exact ⟨hu.2.1, (H2 _ _ a1).2⟩
    · by_cases q : ad_ G k i = ad_ G k0 i0
      · obtain ⟨rfl, rfl⟩ := H3 _ _ _ _ a1 hv q
        exact ⟨hu.2.1, (H2 _ _ a1).2⟩
      · rw [hu.2.2 _ q, a3]
        exact H2 _ _ a1
  · obtain ⟨a1, a2, -⟩ := K k i v
    obtain ⟨b1, b2, -⟩ := K k2 i2 v2
    rw [a2, b2] at e
    exact H3 _ _ _ _ a1 b1 e
theorem co_cg {h : ah_T} {S S' : ms_T} {G G' : gh_T} (H : co_R h S G) (K : ∀ k i, vl_ok S' G' k i → vl_ok S G k i ∧ ad_ G' k i = ad_ G k i ∧ ce_ S' G' k i = ce_ S G k i) : co_R h S' G' := by
  obtain ⟨H1, H2, H3⟩ := H
  refine ⟨H1, fun k i v => ?_, fun k i k2 i2 v v2 e => ?_⟩
  · obtain ⟨a1, a2, a3⟩ := K k i v
    rw [a2, a3]
    exact H2 _ _ a1
  · obtain ⟨a1, a2, -⟩ := K k i v
    obtain ⟨b1, b2, -⟩ := K k2 i2 v2
    rw [a2, b2] at e
    exact H3 _ _ _ _ a1 b1 e
theorem sq_tr {a b c : ah_T} {F : Nat} (h1 : sq_ a b F) (h2 : sq_ b c F) : sq_ a c F := fun fs hf => by
  obtain ⟨f1, g1, g2, g3⟩ := h1 fs hf
  obtain ⟨f2, k1, k2, k3⟩ := h2 f1 g1
  exact ⟨f2, k1, k2.trans g2, k3.trans g3⟩
theorem sq_eq {a b : ah_T} {F : Nat} (h : b[F]? = a[F]?) : sq_ a b F := fun fs hf => ⟨fs, h.trans hf, rfl, rfl⟩
theorem cf_rf (h : ah_T) : cf_ h h := ⟨fun _ _ => rfl, sq_eq rfl, sq_eq rfl⟩
theorem cf_tr {a b c : ah_T} (h1 : cf_ a b) (h2 : cf_ b c) : cf_ a c := ⟨fun k hk => (h2.1 k hk).trans (h1.1 k hk), sq_tr h1.2.1 h2.2.1, sq_tr h1.2.2 h2.2.2⟩
theorem cf_of {h0 h h' : ah_T} (h1 : cf_ h0 h) (H : ∀ x, (6 ≤ x ∧ x < 30) ∨ (32 ≤ x ∧ x < 77) → h'[x]? = h[x]?) : cf_ h0 h' := cf_tr h1 ⟨fun a ha => H a (by omega), sq_eq (H 32 (by omega)), sq_eq (H 35 (by omega))⟩
theorem cf_hu {h0 h h' : ah_T} {a : Nat} {c : ac_T} (h1 : cf_ h0 h) (hu : hu_ h h' a c) (ha : a < 6 ∨ a = 30 ∨ a = 31 ∨ 77 ≤ a) : cf_ h0 h' := cf_of h1 (fun b hb => hu.2.2 b (by omega))
theorem cr_0 {h0 h : ah_T} {S : ms_T} {G : gh_T} (hC : co_I h0 h S G) : h[0]? = some (cx_0 S G) := (hC.1.2.1 0 0 (Or.inl (Nat.le_of_ble_eq_true rfl))).1
theorem cr_1 {h0 h : ah_T} {S : ms_T} {G : gh_T} (hC : co_I h0 h S G) : h[1]? = some (cx_1 S G) := (hC.1.2.1 0 1 (Or.inl (Nat.le_of_ble_eq_true rfl))).1
theorem cr_2 {h0 h : ah_T} {S : ms_T} {G : gh_T} (hC : co_I h0 h S G) : h[2]? = some (ac_l 10 (S.2 39)) := (hC.1.2.1 0 2 (Or.inl (Nat.le_of_ble_eq_true rfl))).1
theorem cr_3 {h0 h : ah_T} {S : ms_T} {G : gh_T} (hC : co_I h0 h S G) : h[3]? = some (ac_a 0 10 (S.2 66)) := (hC.1.2.1 0 3 (Or.inl (Nat.le_of_ble_eq_true rfl))).1
theorem cr_4 {h0 h : ah_T} {S : ms_T} {G : gh_T} (hC : co_I h0 h S G) : h[4]? = some (cx_4 S G) := (hC.1.2.1 0 4 (Or.inl (Nat.le_of_ble_eq_true rfl))).1
theorem cr_5 {h0 h : ah_T} {S : ms_T} {G : gh_T} (hC : co_I h0 h S G) : h[5]? = some (cx_5 G) := (hC.1.2.1 0 5 (Or.inl (Nat.le_of_ble_eq_true rfl))).1
theorem cr_30 {h0 h : ah_T} {S : ms_T} {G : gh_T} (hC : co_I h0 h S G) : h[30]? = some (cx_30 S) := (hC.1.2.1 0 30 (Or.inr (Or.inl rfl))).1
theorem cr_31 {h0 h : ah_T} {S : ms_T} {G : gh_T} (hC : co_I h0 h S G) : h[31]? = some (ac_a 1 100 (fun j => sb_ (S.2 68 j))) := (hC.1.2.1 0 31 (Or.inr (Or.inr rfl))).1
theorem cr_F {h0 h : ah_T} {S : ms_T} {G : gh_T} (hC : co_I h0 h S G) {i : Nat} (hi : (i : Int) < S.1 2) : h[G 1 i]? = some (cx_F S G i) := (hC.1.2.1 1 i hi).1
theorem cr_L {h0 h : ah_T} {S : ms_T} {G : gh_T} (hC : co_I h0 h S G) {i : Nat} (hi : (i : Int) < S.1 3) : h[G 2 i]? = some (cx_L S G i) := (hC.1.2.1 2 i hi).1
theorem cr_S {h0 h : ah_T} {S : ms_T} {G : gh_T} (hC : co_I h0 h S G) {i : Nat} (hi : (i : Int) < S.1 21) : h[G 3 i]? = some (cx_S S G i) := (hC.1.2.1 3 i hi).1
theorem cr_B {h0 h : ah_T} {S : ms_T} {G : gh_T} (hC : co_I h0 h S G) {i : Nat} (hi : i < G 6 1) : h[G 4 i]? = some (cx_B G i) := (hC.1.2.1 4 i hi).1
theorem cp_4 {w : aw_T} {M : am_T} {d : Nat} {P : ap_T} {pc n : Nat} {L : al_T} {st : List av_T} {h0 h : ah_T} {kc ks : Nat} {S : ms_T} {G : gh_T} {idx : Nat} {v : Int} (hd : ad_D M pc (.putfield idx) 3 n) (hf : af_put M.1.cls M.1.name idx 10 0 .int) (hC : co_I h0 h S G) (k : ∀ (h : ah_T) (S2 : ms_T), S2 = (ai_up S.1 4 v, S.2) → co_I h0 h S2 G → aw_W w M d P n L st h kc ks) : aw_W w M d P pc L (av_i v :: av_r 0 :: st) h kc ks := by
  refine ag_puti hd hf (cr_0 hC) (Nat.le_of_ble_eq_true rfl) (k _ (ai_up S.1 4 v, S.2) rfl ⟨?_, ?_⟩)
  · exact co_up hC.1 (k0 := 0) (i0 := 0) (Or.inl (Nat.le_of_ble_eq_true rfl)) (hu_set (cr_0 hC)) (co_K ⟨(Or.inl (Nat.le_of_ble_eq_true rfl)), rfl, Or.inl ⟨rfl, rfl⟩⟩ ⟨(Or.inl (Nat.le_of_ble_eq_true rfl)), rfl, Or.inr rfl⟩ ⟨(Or.inl (Nat.le_of_ble_eq_true rfl)), rfl, Or.inr rfl⟩ ⟨(Or.inl (Nat.le_of_ble_eq_true rfl)), rfl, Or.inr rfl⟩ ⟨(Or.inl (Nat.le_of_ble_eq_true rfl)), rfl, Or.inr rfl⟩ ⟨(Or.inl (Nat.le_of_ble_eq_true rfl)), rfl, Or.inr rfl⟩ ⟨(Or.inr (Or.inl rfl)), rfl, Or.inr rfl⟩ ⟨(Or.inr (Or.inr rfl)), rfl, Or.inr rfl⟩ (fun i h => ⟨h, rfl, Or.inr rfl⟩) (fun i h => ⟨h, rfl, Or.inr rfl⟩) (fun i h => ⟨h, rfl, Or.inr rfl⟩) (fun i h => ⟨h, rfl, Or.inr rfl⟩))
  · exact cf_hu hC.2 (hu_set (c := cx_0 (ai_up S.1 4 v, S.2) G) (cr_0 hC)) (by decide)
theorem cp_5 {w : aw_T} {M : am_T} {d : Nat} {P : ap_T} {pc n : Nat} {L : al_T} {st : List av_T} {h0 h : ah_T} {kc ks : Nat} {S : ms_T} {G : gh_T} {idx : Nat} {v : Int} (hd : ad_D M pc (.putfield idx) 3 n) (hf : af_put M.1.cls M.1.name idx 10 1 .int) (hC : co_I h0 h S G) (k : ∀ (h : ah_T) (S2 : ms_T), S2 = (ai_up S.1 5 v, S.2) → co_I h0 h S2 G → aw_W w M d P n L st h kc ks) : aw_W w M d P pc L (av_i v :: av_r 0 :: st) h kc ks := by
  refine ag_puti hd hf (cr_0 hC) (Nat.le_of_ble_eq_true rfl) (k _ (ai_up S.1 5 v, S.2) rfl ⟨?_, ?_⟩)
  · exact co_up hC.1 (k0 := 0) (i0 := 0) (Or.inl (Nat.le_of_ble_eq_true rfl)) (hu_set (cr_0 hC)) (co_K ⟨(Or.inl (Nat.le_of_ble_eq_true rfl)), rfl, Or.inl ⟨rfl, rfl⟩⟩ ⟨(Or.inl (Nat.le_of_ble_eq_true rfl)), rfl, Or.inr rfl⟩ ⟨(Or.inl (Nat.le_of_ble_eq_true rfl)), rfl, Or.inr rfl⟩ ⟨(Or.inl (Nat.le_of_ble_eq_true rfl)), rfl, Or.inr rfl⟩ ⟨(Or.inl (Nat.le_of_ble_eq_true rfl)), rfl, Or.inr rfl⟩ ⟨(Or.inl (Nat.le_of_ble_eq_true rfl)), rfl, Or.inr rfl⟩ ⟨(Or.inr (Or.inl rfl)), rfl, Or.inr rfl⟩ ⟨(Or.inr (Or.inr rfl)), rfl, Or.inr rfl⟩ (fun i h => ⟨h, rfl, Or.inr rfl⟩) (fun i h => ⟨h, rfl, Or.inr rfl⟩) (fun i h => ⟨h, rfl, Or.inr rfl⟩) (fun i h => ⟨h, rfl, Or.inr rfl⟩))
  · exact cf_hu hC.2 (hu_set (c := cx_0 (ai_up S.1 5 v, S.2) G) (cr_0 hC)) (by decide)
theorem cp_6 {w : aw_T} {M : am_T} {d : Nat} {P : ap_T} {pc n : Nat} {L : al_T} {st : List av_T} {h0 h : ah_T} {kc ks : Nat} {S : ms_T} {G : gh_T} {idx : Nat} {v : Int} (hd : ad_D M pc (.putfield idx) 3 n) (hf : af_put M.1.cls M.1.name idx 10 2 .int) (hC : co_I h0 h S G) (k : ∀ (h : ah_T) (S2 : ms_T), S2 = (ai_up S.1 6 v, S.2) → co_I h0 h S2 G → aw_W w M d P n L st h kc ks) : aw_W w M d P pc L (av_i v :: av_r 0 :: st) h kc ks := by
  refine ag_puti hd hf (cr_0 hC) (Nat.le_of_ble_eq_true rfl) (k _ (ai_up S.1 6 v, S.2) rfl ⟨?_, ?_⟩)
  · exact co_up hC.1 (k0 := 0) (i0 := 0) (Or.inl (Nat.le_of_ble_eq_true rfl)) (hu_set (cr_0 hC)) (co_K ⟨(Or.inl (Nat.le_of_ble_eq_true rfl)), rfl, Or.inl ⟨rfl, rfl⟩⟩ ⟨(Or.inl (Nat.le_of_ble_eq_true rfl)), rfl, Or.inr rfl⟩ ⟨(Or.inl (Nat.le_of_ble_eq_true rfl)), rfl, Or.inr rfl⟩ ⟨(Or.inl (Nat.le_of_ble_eq_true rfl)), rfl, Or.inr rfl⟩ ⟨(Or.inl (Nat.le_of_ble_eq_true rfl)), rfl, Or.inr rfl⟩ ⟨(Or.inl (Nat.le_of_ble_eq_true rfl)), rfl, Or.inr rfl⟩ ⟨(Or.inr (Or.inl rfl)), rfl, Or.inr rfl⟩ ⟨(Or.inr (Or.inr rfl)), rfl, Or.inr rfl⟩ (fun i h => ⟨h, rfl, Or.inr rfl⟩) (fun i h => ⟨h, rfl, Or.inr rfl⟩) (fun i h => ⟨h, rfl, Or.inr rfl⟩) (fun i h => ⟨h, rfl, Or.inr rfl⟩))
  · exact cf_hu hC.2 (hu_set (c := cx_0 (ai_up S.1 6 v, S.2) G) (cr_0 hC)) (by decide)
theorem cp_7 {w : aw_T} {M : am_T} {d : Nat} {P : ap_T} {pc n : Nat} {L : al_T} {st : List av_T} {h0 h : ah_T} {kc ks : Nat} {S : ms_T} {G : gh_T} {idx : Nat} {v : Int} (hd : ad_D M pc (.putfield idx) 3 n) (hf : af_put M.1.cls M.1.name idx 10 3 .int) (hC : co_I h0 h S G) (k : ∀ (h : ah_T) (S2 : ms_T), S2 = (ai_up S.1 7 v, S.2) → co_I h0 h S2 G → aw_W w M d P n L st h kc ks) : aw_W w M d P pc L (av_i v :: av_r 0 :: st) h kc ks := by
  refine ag_puti hd hf (cr_0 hC) (Nat.le_of_ble_eq_true rfl) (k _ (ai_up S.1 7 v, S.2) rfl ⟨?_, ?_⟩)
  · exact co_up hC.1 (k0 := 0) (i0 := 0) (Or.inl (Nat.le_of_ble_eq_true rfl)) (hu_set (cr_0 hC)) (co_K ⟨(Or.inl (Nat.le_of_ble_eq_true rfl)), rfl, Or.inl ⟨rfl, rfl⟩⟩ ⟨(Or.inl (Nat.le_of_ble_eq_true rfl)), rfl, Or.inr rfl⟩ ⟨(Or.inl (Nat.le_of_ble_eq_true rfl)), rfl, Or.inr rfl⟩ ⟨(Or.inl (Nat.le_of_ble_eq_true rfl)), rfl, Or.inr rfl⟩ ⟨(Or.inl (Nat.le_of_ble_eq_true rfl)), rfl, Or.inr rfl⟩ ⟨(Or.inl (Nat.le_of_ble_eq_true rfl)), rfl, Or.inr rfl⟩ ⟨(Or.inr (Or.inl rfl)), rfl, Or.inr rfl⟩ ⟨(Or.inr (Or.inr rfl)), rfl, Or.inr rfl⟩ (fun i h => ⟨h, rfl, Or.inr rfl⟩) (fun i h => ⟨h, rfl, Or.inr rfl⟩) (fun i h => ⟨h, rfl, Or.inr rfl⟩) (fun i h => ⟨h, rfl, Or.inr rfl⟩))
  · exact cf_hu hC.2 (hu_set (c := cx_0 (ai_up S.1 7 v, S.2) G) (cr_0 hC)) (by decide)
theorem cp_0 {w : aw_T} {M : am_T} {d : Nat} {P : ap_T} {pc n : Nat} {L : al_T} {st : List av_T} {h0 h : ah_T} {kc ks : Nat} {S : ms_T} {G : gh_T} {idx : Nat} {v : Int} (hd : ad_D M pc (.putfield idx) 3 n) (hf : af_put M.1.cls M.1.name idx 10 4 .int) (hC : co_I h0 h S G) (k : ∀ (h : ah_T) (S2 : ms_T), S2 = (ai_up S.1 0 v, S.2) → co_I h0 h S2 G → aw_W w M d P n L st h kc ks) : aw_W w M d P pc L (av_i v :: av_r 0 :: st) h kc ks := by
  refine ag_puti hd hf (cr_0 hC) (Nat.le_of_ble_eq_true rfl) (k _ (ai_up S.1 0 v, S.2) rfl ⟨?_, ?_⟩)
  · exact co_up hC.1 (k0 := 0) (i0 := 0) (Or.inl (Nat.le_of_ble_eq_true rfl)) (hu_set (cr_0 hC)) (co_K ⟨(Or.inl (Nat.le_of_ble_eq_true rfl)), rfl, Or.inl ⟨rfl, rfl⟩⟩ ⟨(Or.inl (Nat.le_of_ble_eq_true rfl)), rfl, Or.inr rfl⟩ ⟨(Or.inl (Nat.le_of_ble_eq_true rfl)), rfl, Or.inr rfl⟩ ⟨(Or.inl (Nat.le_of_ble_eq_true rfl)), rfl, Or.inr rfl⟩ ⟨(Or.inl (Nat.le_of_ble_eq_true rfl)), rfl, Or.inr rfl⟩ ⟨(Or.inl (Nat.le_of_ble_eq_true rfl)), rfl, Or.inr rfl⟩ ⟨(Or.inr (Or.inl rfl)), rfl, Or.inr rfl⟩ ⟨(Or.inr (Or.inr rfl)), rfl, Or.inr rfl⟩ (fun i h => ⟨h, rfl, Or.inr rfl⟩) (fun i h => ⟨h, rfl, Or.inr rfl⟩) (fun i h => ⟨h, rfl, Or.inr rfl⟩) (fun i h => ⟨h, rfl, Or.inr rfl⟩))
  · exact cf_hu hC.2 (hu_set (c := cx_0 (ai_up S.1 0 v, S.2) G) (cr_0 hC)) (by decide)
theorem cp_38 {w : aw_T} {M : am_T} {d : Nat} {P : ap_T} {pc n : Nat} {L : al_T} {st : List av_T} {h0 h : ah_T} {kc ks : Nat} {S : ms_T} {G : gh_T} {idx : Nat} {v : Int} (hd : ad_D M pc (.putfield idx) 3 n) (hf : af_put M.1.cls M.1.name idx 10 5 .int) (hC : co_I h0 h S G) (k : ∀ (h : ah_T) (S2 : ms_T), S2 = (ai_up S.1 38 v, S.2) → co_I h0 h S2 G → aw_W w M d P n L st h kc ks) : aw_W w M d P pc L (av_i v :: av_r 0 :: st) h kc ks := by
  refine ag_puti hd hf (cr_0 hC) (Nat.le_of_ble_eq_true rfl) (k _ (ai_up S.1 38 v, S.2) rfl ⟨?_, ?_⟩)
  · exact co_up hC.1 (k0 := 0) (i0 := 0) (Or.inl (Nat.le_of_ble_eq_true rfl)) (hu_set (cr_0 hC)) (co_K ⟨(Or.inl (Nat.le_of_ble_eq_true rfl)), rfl, Or.inl ⟨rfl, rfl⟩⟩ ⟨(Or.inl (Nat.le_of_ble_eq_true rfl)), rfl, Or.inr rfl⟩ ⟨(Or.inl (Nat.le_of_ble_eq_true rfl)), rfl, Or.inr rfl⟩ ⟨(Or.inl (Nat.le_of_ble_eq_true rfl)), rfl, Or.inr rfl⟩ ⟨(Or.inl (Nat.le_of_ble_eq_true rfl)), rfl, Or.inr rfl⟩ ⟨(Or.inl (Nat.le_of_ble_eq_true rfl)), rfl, Or.inr rfl⟩ ⟨(Or.inr (Or.inl rfl)), rfl, Or.inr rfl⟩ ⟨(Or.inr (Or.inr rfl)), rfl, Or.inr rfl⟩ (fun i h => ⟨h, rfl, Or.inr rfl⟩) (fun i h => ⟨h, rfl, Or.inr rfl⟩) (fun i h => ⟨h, rfl, Or.inr rfl⟩) (fun i h => ⟨h, rfl, Or.inr rfl⟩))
  · exact cf_hu hC.2 (hu_set (c := cx_0 (ai_up S.1 38 v, S.2) G) (cr_0 hC)) (by decide)
theorem cp_47 {w : aw_T} {M : am_T} {d : Nat} {P : ap_T} {pc n : Nat} {L : al_T} {st : List av_T} {h0 h : ah_T} {kc ks : Nat} {S : ms_T} {G : gh_T} {idx : Nat} {v : Int} (hd : ad_D M pc (.putfield idx) 3 n) (hf : af_put M.1.cls M.1.name idx 10 17 .int) (hC : co_I h0 h S G) (k : ∀ (h : ah_T) (S2 : ms_T), S2 = (ai_up S.1 47 v, S.2) → co_I h0 h S2 G → aw_W w M d P n L st h kc ks) : aw_W w M d P pc L (av_i v :: av_r 0 :: st) h kc ks := by
  refine ag_puti hd hf (cr_0 hC) (Nat.le_of_ble_eq_true rfl) (k _ (ai_up S.1 47 v, S.2) rfl ⟨?_, ?_⟩)
  · exact co_up hC.1 (k0 := 0) (i0 := 0) (Or.inl (Nat.le_of_ble_eq_true rfl)) (hu_set (cr_0 hC)) (co_K ⟨(Or.inl (Nat.le_of_ble_eq_true rfl)), rfl, Or.inl ⟨rfl, rfl⟩⟩ ⟨(Or.inl (Nat.le_of_ble_eq_true rfl)), rfl, Or.inr rfl⟩ ⟨(Or.inl (Nat.le_of_ble_eq_true rfl)), rfl, Or.inr rfl⟩ ⟨(Or.inl (Nat.le_of_ble_eq_true rfl)), rfl, Or.inr rfl⟩ ⟨(Or.inl (Nat.le_of_ble_eq_true rfl)), rfl, Or.inr rfl⟩ ⟨(Or.inl (Nat.le_of_ble_eq_true rfl)), rfl, Or.inr rfl⟩ ⟨(Or.inr (Or.inl rfl)), rfl, Or.inr rfl⟩ ⟨(Or.inr (Or.inr rfl)), rfl, Or.inr rfl⟩ (fun i h => ⟨h, rfl, Or.inr rfl⟩) (fun i h => ⟨h, rfl, Or.inr rfl⟩) (fun i h => ⟨h, rfl, Or.inr rfl⟩) (fun i h => ⟨h, rfl, Or.inr rfl⟩))
  · exact cf_hu hC.2 (hu_set (c := cx_0 (ai_up S.1 47 v, S.2) G) (cr_0 hC)) (by decide)
theorem cp_48 {w : aw_T} {M : am_T} {d : Nat} {P : ap_T} {pc n : Nat} {L : al_T} {st : List av_T} {h0 h : ah_T} {kc ks : Nat} {S : ms_T} {G : gh_T} {idx : Nat} {v : Int} (hd : ad_D M pc (.putfield idx) 3 n) (hf : af_put M.1.cls M.1.name idx 10 18 .int) (hC : co_I h0 h S G) (k : ∀ (h : ah_T) (S2 : ms_T), S2 = (ai_up S.1 48 v, S.2) → co_I h0 h S2 G → aw_W w M d P n L st h kc ks) : aw_W w M d P pc L (av_i v :: av_r 0 :: st) h kc ks := by
  refine ag_puti hd hf (cr_0 hC) (Nat.le_of_ble_eq_true rfl) (k _ (ai_up S.1 48 v, S.2) rfl ⟨?_, ?_⟩)
  · exact co_up hC.1 (k0 := 0) (i0 := 0) (Or.inl (Nat.le_of_ble_eq_true rfl)) (hu_set (cr_0 hC)) (co_K ⟨(Or.inl (Nat.le_of_ble_eq_true rfl)), rfl, Or.inl ⟨rfl, rfl⟩⟩ ⟨(Or.inl (Nat.le_of_ble_eq_true rfl)), rfl, Or.inr rfl⟩ ⟨(Or.inl (Nat.le_of_ble_eq_true rfl)), rfl, Or.inr rfl⟩ ⟨(Or.inl (Nat.le_of_ble_eq_true rfl)), rfl, Or.inr rfl⟩ ⟨(Or.inl (Nat.le_of_ble_eq_true rfl)), rfl, Or.inr rfl⟩ ⟨(Or.inl (Nat.le_of_ble_eq_true rfl)), rfl, Or.inr rfl⟩ ⟨(Or.inr (Or.inl rfl)), rfl, Or.inr rfl⟩ ⟨(Or.inr (Or.inr rfl)), rfl, Or.inr rfl⟩ (fun i h => ⟨h, rfl, Or.inr rfl⟩) (fun i h => ⟨h, rfl, Or.inr rfl⟩) (fun i h => ⟨h, rfl, Or.inr rfl⟩) (fun i h => ⟨h, rfl, Or.inr rfl⟩))
  · exact cf_hu hC.2 (hu_set (c := cx_0 (ai_up S.1 48 v, S.2) G) (cr_0 hC)) (by decide)
theorem cp_1 {w : aw_T} {M : am_T} {d : Nat} {P : ap_T} {pc n : Nat} {L : al_T} {st : List av_T} {h0 h : ah_T} {kc ks : Nat} {S : ms_T} {G : gh_T} {idx : Nat} {v : Int} (hd : ad_D M pc (.putfield idx) 3 n) (hf : af_put M.1.cls M.1.name idx 3 2 .int) (hC : co_I h0 h S G) (k : ∀ (h : ah_T) (S2 : ms_T), S2 = (ai_up S.1 1 v, S.2) → co_I h0 h S2 G → aw_W w M d P n L st h kc ks) : aw_W w M d P pc L (av_i v :: av_r 1 :: st) h kc ks := by
  refine ag_puti hd hf (cr_1 hC) (Nat.le_of_ble_eq_true rfl) (k _ (ai_up S.1 1 v, S.2) rfl ⟨?_, ?_⟩)
  · exact co_up hC.1 (k0 := 0) (i0 := 1) (Or.inl (Nat.le_of_ble_eq_true rfl)) (hu_set (cr_1 hC)) (co_K ⟨(Or.inl (Nat.le_of_ble_eq_true rfl)), rfl, Or.inr rfl⟩ ⟨(Or.inl (Nat.le_of_ble_eq_true rfl)), rfl, Or.inl ⟨rfl, rfl⟩⟩ ⟨(Or.inl (Nat.le_of_ble_eq_true rfl)), rfl, Or.inr rfl⟩ ⟨(Or.inl (Nat.le_of_ble_eq_true rfl)), rfl, Or.inr rfl⟩ ⟨(Or.inl (Nat.le_of_ble_eq_true rfl)), rfl, Or.inr rfl⟩ ⟨(Or.inl (Nat.le_of_ble_eq_true rfl)), rfl, Or.inr rfl⟩ ⟨(Or.inr (Or.inl rfl)), rfl, Or.inr rfl⟩ ⟨(Or.inr (Or.inr rfl)), rfl, Or.inr rfl⟩ (fun i h => ⟨h, rfl, Or.inr rfl⟩) (fun i h => ⟨h, rfl, Or.inr rfl⟩) (fun i h => ⟨h, rfl, Or.inr rfl⟩) (fun i h => ⟨h, rfl, Or.inr rfl⟩))
  · exact cf_hu hC.2 (hu_set (c := cx_1 (ai_up S.1 1 v, S.2) G) (cr_1 hC)) (by decide)
theorem cp_39 {w : aw_T} {M : am_T} {d : Nat} {P : ap_T} {pc n : Nat} {L : al_T} {st : List av_T} {h0 h : ah_T} {kc ks : Nat} {S : ms_T} {G : gh_T} {idx : Nat} {v : Int} (hd : ad_D M pc (.putfield idx) 3 n) (hf : af_put M.1.cls M.1.name idx 3 3 .int) (hC : co_I h0 h S G) (k : ∀ (h : ah_T) (S2 : ms_T), S2 = (ai_up S.1 39 v, S.2) → co_I h0 h S2 G → aw_W w M d P n L st h kc ks) : aw_W w M d P pc L (av_i v :: av_r 1 :: st) h kc ks := by
  refine ag_puti hd hf (cr_1 hC) (Nat.le_of_ble_eq_true rfl) (k _ (ai_up S.1 39 v, S.2) rfl ⟨?_, ?_⟩)
  · exact co_up hC.1 (k0 := 0) (i0 := 1) (Or.inl (Nat.le_of_ble_eq_true rfl)) (hu_set (cr_1 hC)) (co_K ⟨(Or.inl (Nat.le_of_ble_eq_true rfl)), rfl, Or.inr rfl⟩ ⟨(Or.inl (Nat.le_of_ble_eq_true rfl)), rfl, Or.inl ⟨rfl, rfl⟩⟩ ⟨(Or.inl (Nat.le_of_ble_eq_true rfl)), rfl, Or.inr rfl⟩ ⟨(Or.inl (Nat.le_of_ble_eq_true rfl)), rfl, Or.inr rfl⟩ ⟨(Or.inl (Nat.le_of_ble_eq_true rfl)), rfl, Or.inr rfl⟩ ⟨(Or.inl (Nat.le_of_ble_eq_true rfl)), rfl, Or.inr rfl⟩ ⟨(Or.inr (Or.inl rfl)), rfl, Or.inr rfl⟩ ⟨(Or.inr (Or.inr rfl)), rfl, Or.inr rfl⟩ (fun i h => ⟨h, rfl, Or.inr rfl⟩) (fun i h => ⟨h, rfl, Or.inr rfl⟩) (fun i h => ⟨h, rfl, Or.inr rfl⟩) (fun i h => ⟨h, rfl, Or.inr rfl⟩))
  · exact cf_hu hC.2 (hu_set (c := cx_1 (ai_up S.1 39 v, S.2) G) (cr_1 hC)) (by decide)
theorem cp_43 {w : aw_T} {M : am_T} {d : Nat} {P : ap_T} {pc n : Nat} {L : al_T} {st : List av_T} {h0 h : ah_T} {kc ks : Nat} {S : ms_T} {G : gh_T} {idx : Nat} {v : Int} (hd : ad_D M pc (.putfield idx) 3 n) (hf : af_put M.1.cls M.1.name idx 8 1 .int) (hC : co_I h0 h S G) (k : ∀ (h : ah_T) (S2 : ms_T), S2 = (ai_up S.1 43 v, S.2) → co_I h0 h S2 G → aw_W w M d P n L st h kc ks) : aw_W w M d P pc L (av_i v :: av_r 30 :: st) h kc ks := by
  refine ag_puti hd hf (cr_30 hC) (Nat.le_of_ble_eq_true rfl) (k _ (ai_up S.1 43 v, S.2) rfl ⟨?_, ?_⟩)
  · exact co_up hC.1 (k0 := 0) (i0 := 30) (Or.inr (Or.inl rfl)) (hu_set (cr_30 hC)) (co_K ⟨(Or.inl (Nat.le_of_ble_eq_true rfl)), rfl, Or.inr rfl⟩ ⟨(Or.inl (Nat.le_of_ble_eq_true rfl)), rfl, Or.inr rfl⟩ ⟨(Or.inl (Nat.le_of_ble_eq_true rfl)), rfl, Or.inr rfl⟩ ⟨(Or.inl (Nat.le_of_ble_eq_true rfl)), rfl, Or.inr rfl⟩ ⟨(Or.inl (Nat.le_of_ble_eq_true rfl)), rfl, Or.inr rfl⟩ ⟨(Or.inl (Nat.le_of_ble_eq_true rfl)), rfl, Or.inr rfl⟩ ⟨(Or.inr (Or.inl rfl)), rfl, Or.inl ⟨rfl, rfl⟩⟩ ⟨(Or.inr (Or.inr rfl)), rfl, Or.inr rfl⟩ (fun i h => ⟨h, rfl, Or.inr rfl⟩) (fun i h => ⟨h, rfl, Or.inr rfl⟩) (fun i h => ⟨h, rfl, Or.inr rfl⟩) (fun i h => ⟨h, rfl, Or.inr rfl⟩))
  · exact cf_hu hC.2 (hu_set (c := cx_30 (ai_up S.1 43 v, S.2)) (cr_30 hC)) (by decide)
def gi_ (G : gh_T) (k i v : Nat) : gh_T := fun a b => if a = k ∧ b = i then v else G a b
theorem gi_s (G : gh_T) (k i v : Nat) : gi_ G k i v k i = v := if_pos ⟨rfl, rfl⟩
theorem gi_n (G : gh_T) {k i v a b : Nat} (h : ¬ (a = k ∧ b = i)) : gi_ G k i v a b = G a b := if_neg h
