/-- the sum of f over those of the first n that Q holds of -/
def ws_ (f : Nat → Int) (Q : Nat → Bool) (n : Nat) : Int := fb_si (fun i => if Q i = true then f i else 0) n
theorem ws_s (f : Nat → Int) (Q : Nat → Bool) (n : Nat) : ws_ f Q (n + 1) = ws_ f Q n + (if Q n = true then f n else 0) := rfl
theorem ws_cg {f g : Nat → Int} {Q R : Nat → Bool} : ∀ {n : Nat}, (∀ i, i < n → (if Q i = true then f i else 0) = (if R i = true then g i else 0)) → ws_ f Q n = ws_ g R n
  | 0, _ => rfl
  | n + 1, h => by rw [ws_s, ws_s, ws_cg (fun i hi => h i (by omega)), h n (by omega)]
theorem ws_le {f g : Nat → Int} {Q : Nat → Bool} : ∀ {n : Nat}, (∀ i, i < n → Q i = true → f i ≤ g i) → ws_ f Q n ≤ ws_ g Q n
  | 0, _ => Int.le_refl _
  | n + 1, h => by
    rw [ws_s, ws_s]
    have := ws_le (f := f) (g := g) (Q := Q) (n := n) (fun i hi => h i (by omega))
    split
    · have := h n (by omega) (by assumption)
      omega
    · omega
theorem ws_nn {f : Nat → Int} {Q : Nat → Bool} : ∀ {n : Nat}, (∀ i, i < n → Q i = true → 0 ≤ f i) → 0 ≤ ws_ f Q n
  | 0, _ => Int.le_refl _
  | n + 1, h => by
    rw [ws_s]
    have := ws_nn (f := f) (Q := Q) (n := n) (fun i hi => h i (by omega))
    split
    · have := h n (by omega) (by assumption)
      omega
    · omega
theorem ws_z {f : Nat → Int} {Q : Nat → Bool} : ∀ {n : Nat}, (∀ i, i < n → Q i = true → f i = 0) → ws_ f Q n = 0
  | 0, _ => rfl
  | n + 1, h => by
    rw [ws_s, ws_z (fun i hi => h i (by omega))]
    split
    · rw [h n (by omega) (by assumption)]
      rfl
    · rfl
theorem ws_one {f : Nat → Int} {Q : Nat → Bool} {l : Nat} (hl : Q l = true) : ∀ {n : Nat}, l < n → (∀ i, i < n → Q i = true → 0 ≤ f i) → f l ≤ ws_ f Q n
  | 0, h, _ => by omega
  | n + 1, h, hn => by
    rw [ws_s]
    by_cases e : l = n
    · subst e
      have := ws_nn (f := f) (Q := Q) (n := l) (fun i hi => hn i (by omega))
      rw [if_pos hl]
      omega
    · have := ws_one hl (f := f) (n := n) (by omega) (fun i hi => hn i (by omega))
      split
      · have := hn n (by omega) (by assumption)
        omega
      · omega
theorem ws_up (f : Nat → Int) (Q : Nat → Bool) (l : Nat) (v : Int) : ∀ n : Nat, ws_ (ai_up f l v) Q n = ws_ f Q n + (if l < n ∧ Q l = true then v - f l else 0)
  | 0 => by
    rw [if_neg (by omega)]
    rfl
  | n + 1 => by
    rw [ws_s, ws_s, ws_up f Q l v n]
    by_cases e : l = n
    · subst e
      have c0 : ¬ (l < l ∧ Q l = true) := fun z => absurd z.1 (Nat.lt_irrefl l)
      rw [ai_up_s, if_neg c0]
      by_cases q : Q l = true
      · have c1 : l < l + 1 ∧ Q l = true := ⟨Nat.lt_succ_self l, q⟩
        rw [if_pos q, if_pos q, if_pos c1]
        omega
      · have c1 : ¬ (l < l + 1 ∧ Q l = true) := fun z => q z.2
        rw [if_neg q, if_neg q, if_neg c1]
    · rw [ai_up_n f v (show n ≠ l by omega)]
      by_cases q : l < n ∧ Q l = true
      · have c1 : l < n + 1 ∧ Q l = true := ⟨by omega, q.2⟩
        rw [if_pos q, if_pos c1]
        omega
      · have c1 : ¬ (l < n + 1 ∧ Q l = true) := fun z => q ⟨by omega, z.2⟩
        rw [if_neg q, if_neg c1]
        omega
theorem df_none {a e r : Nat → Int} {t : Int} : ∀ {n : Nat}, sp_df a e r t n < 0 → ∀ i, i < n → 0 < r i → t < a i
  | 0, _, i, hi, _ => by omega
  | n + 1, h, i, hi, hr => by
    rw [sp_df] at h
    split at h
    · omega
    · rename_i q
      by_cases e1 : i = n
      · subst e1
        by_cases c : a i ≤ t
        · exact absurd ⟨hr, c, Or.inl h⟩ q
        · omega
      · exact df_none h i (by omega) hr
theorem df_min {a e r : Nat → Int} {t : Int} : ∀ {n : Nat}, 0 ≤ sp_df a e r t n → ∀ i, i < n → 0 < r i → a i ≤ t → e (sp_df a e r t n).toNat ≤ e i
  | 0, h, i, hi, _, _ => by omega
  | n + 1, h, i, hi, hr, ha => by
    rw [sp_df] at h ⊢
    by_cases q : 0 < r n ∧ a n ≤ t ∧ (sp_df a e r t n < 0 ∨ e n < e (sp_df a e r t n).toNat)
    · rw [if_pos q, Int.toNat_natCast]
      by_cases e1 : i = n
      · rw [e1]; exact Int.le_refl _
      · by_cases c : sp_df a e r t n < 0
        · have := df_none c i (by omega) hr
          omega
        · have := df_min (a := a) (e := e) (r := r) (t := t) (n := n) (by omega) i (by omega) hr ha
          rcases q.2.2 with z | z
          · omega
          · omega
    · rw [if_neg q] at h ⊢
      by_cases e1 : i = n
      · subst e1
        by_cases c : e i < e (sp_df a e r t i).toNat
        · exact absurd ⟨hr, ha, Or.inr c⟩ q
        · omega
      · exact df_min h i (by omega) hr ha
/-- what one hour's crushing does -/
theorem cr_ok {a e : Nat → Int} {n : Nat} {t : Int} : ∀ (k : Nat) (r : Nat → Int) (room : Int), (∀ i, i < n → 0 ≤ r i) → 0 ≤ room → (room = 0 ∨ sp_rc r n ≤ k) →
    (∀ i, (i < n → 0 ≤ sp_cr a e n t k r room i) ∧ sp_cr a e n t k r room i ≤ r i ∧ (t < a i → sp_cr a e n t k r room i = r i)) ∧
    (∀ Q, ws_ r Q n - ws_ (sp_cr a e n t k r room) Q n ≤ room) ∧
    (∀ D, (∀ i, i < n → a i ≤ t → e i ≤ D → sp_cr a e n t k r room i = 0) ∨ ws_ r (fun i => decide (e i ≤ D)) n - ws_ (sp_cr a e n t k r room) (fun i => decide (e i ≤ D)) n = room)
  | 0, r, room, hr, hm, hk => by
    refine ⟨fun i => ⟨fun hi => hr i hi, Int.le_refl _, fun _ => rfl⟩, fun Q => ?_, fun D => ?_⟩
    · show ws_ r Q n - ws_ r Q n ≤ room
      omega
    · rcases hk with hk | hk
      · right
        show ws_ r _ n - ws_ r _ n = room
        omega
      · left
        intro i hi _ _
        have hz := fb_ct_zero.mp (Nat.le_zero.mp hk) i hi
        have h0 := hr i hi
        have : ¬ 0 < r i := by simpa using hz
        show r i = 0
        omega
  | k + 1, r, room, hr, hm, hk => by
    rw [sp_cr]
    by_cases q : room ≤ 0 ∨ sp_df a e r t n < 0
    · rw [if_pos q]
      refine ⟨fun i => ⟨fun hi => hr i hi, Int.le_refl _, fun _ => rfl⟩, fun Q => by omega, fun D => ?_⟩
      rcases q with q | q
      · right
        omega
      · left
        intro i hi ha _
        have h0 := hr i hi
        by_cases c : 0 < r i
        · have := df_none q i hi c
          omega
        · omega
    · rw [if_neg q]
      have hb := sp_df_b a e r t n
      obtain ⟨l, hl⟩ : ∃ l : Nat, sp_df a e r t n = (l : Int) := ⟨(sp_df a e r t n).toNat, by omega⟩
      have hw := sp_df_w a e r t n (by omega)
      have hmin := df_min (a := a) (e := e) (r := r) (t := t) (n := n) (by omega)
      rw [hl, Int.toNat_natCast] at hw hmin ⊢
      have hln : l < n := by omega
      generalize hx : min (r l) room = x
      have hx1 : 1 ≤ x ∧ x ≤ r l ∧ x ≤ room := by omega
      have hk2 : room - x = 0 ∨ sp_rc (ai_up r l (r l - x)) n ≤ k := by
        by_cases c : x = room
        · left; omega
        · right
          have := sp_rc_less (r := r) (n := n) (l := l) (v := r l - x) hln hw.1 (by omega)
          rcases hk with hk | hk
          · omega
          · omega
      have hr2 : ∀ i, i < n → 0 ≤ ai_up r l (r l - x) i := fun i hi => by
        by_cases e1 : i = l
        · rw [e1, ai_up_s]; omega
        · rw [ai_up_n _ _ e1]; exact hr i hi
      obtain ⟨h1, h2, h3⟩ := cr_ok (a := a) (e := e) (n := n) (t := t) k (ai_up r l (r l - x)) (room - x) hr2 (by omega) hk2
      have hup := fun Q => ws_up r Q l (r l - x) n
      refine ⟨fun i => ⟨(h1 i).1, ?_, fun ha => ?_⟩, fun Q => ?_, fun D => ?_⟩
      · have := (h1 i).2.1
        by_cases e1 : i = l
        · rw [e1, ai_up_s] at this
          rw [e1]; omega
        · rw [ai_up_n _ _ e1] at this
          exact this
      · rw [(h1 i).2.2 ha]
        by_cases e1 : i = l
        · rw [e1] at ha; omega
        · rw [ai_up_n _ _ e1]
      · have g1 := h2 Q
        have g2 := hup Q
        split at g2 <;> omega
      · by_cases c : e l ≤ D
        · rcases h3 D with g | g
          · exact Or.inl g
          · right
            have g2 := hup (fun i => decide (e i ≤ D))
            rw [if_pos ⟨hln, by simpa using c⟩] at g2
            omega
        · left
          intro i hi ha he
          have h0 := hr i hi
          have hle : sp_cr a e n t k (ai_up r l (r l - x)) (room - x) i ≤ r i := by
            have := (h1 i).2.1
            by_cases e1 : i = l
            · rw [e1, ai_up_s] at this
              rw [e1]; omega
            · rw [ai_up_n _ _ e1] at this
              exact this
          have hge := (h1 i).1 hi
          by_cases c2 : 0 < r i
          · have := hmin i hi c2 ha
            omega
          · omega
theorem any_f {r : Nat → Int} : ∀ {n : Nat}, sp_any r n = false → ∀ i, i < n → ¬ 0 < r i
  | 0, _, i, hi => by omega
  | n + 1, h, i, hi => by
    rw [sp_any, Bool.or_eq_false_iff] at h
    by_cases e : i = n
    · subst e
      simpa using h.2
    · exact any_f h.1 i (by omega)
theorem bad_f {e r : Nat → Int} {t : Int} : ∀ {n : Nat}, sp_bad e r t n = false → ∀ i, i < n → ¬ (0 < r i ∧ e i ≤ t + 1)
  | 0, _, i, hi => by omega
  | n + 1, h, i, hi => by
    rw [sp_bad, Bool.or_eq_false_iff] at h
    by_cases e1 : i = n
    · subst e1
      simpa using h.2
    · exact bad_f h.1 i (by omega)
theorem bad_i {e r : Nat → Int} {t : Int} : ∀ {n : Nat}, (∀ i, i < n → ¬ (0 < r i ∧ e i ≤ t + 1)) → sp_bad e r t n = false
  | 0, _ => rfl
  | n + 1, h => by
    rw [sp_bad, Bool.or_eq_false_iff]
    exact ⟨bad_i (fun i hi => h i (by omega)), by simpa using h n (by omega)⟩
theorem any_i {r : Nat → Int} : ∀ {n : Nat}, (∀ i, i < n → ¬ 0 < r i) → sp_any r n = false
  | 0, _ => rfl
  | n + 1, h => by
    rw [sp_any, Bool.or_eq_false_iff]
    exact ⟨any_i (fun i hi => h i (by omega)), by simpa using h n (by omega)⟩
def qw_ (a e : Nat → Int) (s d : Int) : Nat → Bool := fun i => decide (s ≤ a i ∧ e i ≤ d)
theorem qw_t {a e : Nat → Int} {s d : Int} {i : Nat} : qw_ a e s d i = true ↔ (s ≤ a i ∧ e i ≤ d) := by
  unfold qw_
  exact decide_eq_true_iff
/-- what is crushed in time keeps each window -/
theorem run_win {a e : Nat → Int} {n : Nat} {c : Int} (hn : n ≤ 16) (hc : 0 ≤ c) (s d : Int) : ∀ (m : Nat) (t : Int) (r : Nat → Int), (∀ i, i < n → 0 ≤ r i) → (∀ i, i < n → 0 < r i → t < e i) → sp_run a e n c m t r = true → ws_ r (qw_ a e s d) n ≤ c * ((d - max t s).toNat : Int)
  | 0, t, r, hr, hE, h => by
    rw [sp_run] at h
    have hz := any_f (by simpa using h)
    rw [ws_z (fun i hi _ => by have := hz i hi; have := hr i hi; omega)]
    exact Int.mul_nonneg hc (by omega)
  | m + 1, t, r, hr, hE, h => by
    rw [sp_run, Bool.and_eq_true] at h
    have hbad := bad_f (by simpa using h.1)
    obtain ⟨h1, h2, h3⟩ := cr_ok (a := a) (e := e) (n := n) (t := t) 16 r c hr hc (Or.inr (by have := fb_ct_le (fun f => decide (0 < r f)) n; unfold sp_rc; omega))
    generalize hrr : sp_cr a e n t 16 r c = r' at h h1 h2 h3 hbad
    have ih := run_win hn hc s d m (t + 1) r' (fun i hi => (h1 i).1 hi) (fun i hi h0 => by have := hbad i hi; omega) h.2
    by_cases q : t < s
    · have e1 : ws_ r (qw_ a e s d) n = ws_ r' (qw_ a e s d) n := ws_cg (fun i hi => by
        by_cases z : qw_ a e s d i = true
        · have := qw_t.mp z
          rw [if_pos z, if_pos z, (h1 i).2.2 (by omega)]
        · rw [if_neg z, if_neg z])
      rw [e1, show max t s = max (t + 1) s by omega]
      exact ih
    · by_cases q2 : d ≤ t
      · rw [ws_z (fun i hi z => by
          have := qw_t.mp z
          have := hE i hi
          have := hr i hi
          omega)]
        exact Int.mul_nonneg hc (by omega)
      · have g := h2 (qw_ a e s d)
        have e2 : ((d - max t s).toNat : Int) = ((d - max (t + 1) s).toNat : Int) + 1 := by omega
        rw [e2, Int.mul_add, Int.mul_one]
        omega
/-- the windows are kept -/
def WC_ (a e r : Nat → Int) (n : Nat) (c : Int) : Prop := ∀ s d : Int, s ≤ d → ws_ r (qw_ a e s d) n ≤ c * (d - s)
/-- kept windows are enough -/
theorem run_edf {a e u : Nat → Int} {n : Nat} {c : Int} (hn : n ≤ 16) (hc : 0 ≤ c) (hw : WC_ a e u n c) (hu : ∀ i, i < n → 0 ≤ u i) (hae : ∀ i, i < n → 0 < u i → a i < e i) : ∀ (m : Nat) (t : Int) (r : Nat → Int), (∀ i, i < n → 0 ≤ r i ∧ r i ≤ u i) → (∀ i, i < n → t ≤ a i → r i = u i) → (∀ i, i < n → 0 < u i → e i ≤ t + m) →
    (∀ D, ∃ s, s ≤ t ∧ (∀ i, i < n → e i ≤ D → a i < s → r i = 0) ∧ ws_ u (qw_ a e s D) n - ws_ r (qw_ a e s D) n = c * (t - s)) → sp_run a e n c m t r = true
  | 0, t, r, hr, ha, hl, hI => by
    rw [sp_run, any_i (fun i hi h0 => ?_)]
    · rfl
    obtain ⟨s, s1, s2, s3⟩ := hI (e i)
    have hui := hr i hi
    have hei := hl i hi (by omega)
    have hai := hae i hi (by omega)
    have hsa : s ≤ a i := by
      by_cases c1 : s ≤ a i
      · exact c1
      · have := s2 i hi (Int.le_refl _) (by omega)
        omega
    have h1 := hw s (e i) (by omega)
    have h2 := ws_one (f := r) (Q := qw_ a e s (e i)) (l := i) (qw_t.mpr ⟨hsa, Int.le_refl _⟩) hi (fun j hj _ => (hr j hj).1)
    have h3 : c * (e i - s) ≤ c * (t - s) := Int.mul_le_mul_of_nonneg_left (by omega) hc
    omega
  | m + 1, t, r, hr, ha, hl, hI => by
    obtain ⟨h1, h2, h3⟩ := cr_ok (a := a) (e := e) (n := n) (t := t) 16 r c (fun i hi => (hr i hi).1) hc (Or.inr (by have := fb_ct_le (fun f => decide (0 < r f)) n; unfold sp_rc; omega))
    rw [sp_run]
    generalize hrr : sp_cr a e n t 16 r c = r' at h1 h2 h3
    have hr2 : ∀ i, i < n → 0 ≤ r' i ∧ r' i ≤ u i := fun i hi => ⟨(h1 i).1 hi, by have := (h1 i).2.1; have := hr i hi; omega⟩
    have ha2 : ∀ i, i < n → t + 1 ≤ a i → r' i = u i := fun i hi q => by
      rw [(h1 i).2.2 (by omega)]
      exact ha i hi (by omega)
    have hI2 : ∀ D, ∃ s, s ≤ t + 1 ∧ (∀ i, i < n → e i ≤ D → a i < s → r' i = 0) ∧ ws_ u (qw_ a e s D) n - ws_ r' (qw_ a e s D) n = c * (t + 1 - s) := by
      intro D
      rcases h3 D with g | g
      · refine ⟨t + 1, Int.le_refl _, fun i hi q1 q2 => g i hi (by omega) q1, ?_⟩
        rw [ws_cg (f := u) (g := r') (Q := qw_ a e (t + 1) D) (R := qw_ a e (t + 1) D) (fun i hi => by
          by_cases z : qw_ a e (t + 1) D i = true
          · rw [if_pos z, if_pos z, ha2 i hi (qw_t.mp z).1]
          · rw [if_neg z, if_neg z]), Int.sub_self, Int.sub_self, Int.mul_zero]
      · obtain ⟨s, s1, s2, s3⟩ := hI D
        have s2' : ∀ i, i < n → e i ≤ D → a i < s → r' i = 0 := fun i hi q1 q2 => by
          have := s2 i hi q1 q2
          have := (h1 i).2.1
          have := (h1 i).1 hi
          omega
        have same : ∀ f : Nat → Int, (∀ i, i < n → e i ≤ D → a i < s → f i = 0) → ws_ f (fun i => decide (e i ≤ D)) n = ws_ f (qw_ a e s D) n := fun f hf => ws_cg (fun i hi => by
          by_cases z : e i ≤ D
          · by_cases z2 : s ≤ a i
            · rw [if_pos (decide_eq_true z), if_pos (qw_t.mpr ⟨z2, z⟩)]
            · rw [if_pos (decide_eq_true z), if_neg (fun w => z2 (qw_t.mp w).1), hf i hi z (by omega)]
          · rw [if_neg (by simpa using z), if_neg (fun w => z (qw_t.mp w).2)])
        rw [same r s2, same r' s2'] at g
        refine ⟨s, by omega, s2', ?_⟩
        have : c * (t + 1 - s) = c * (t - s) + c := by rw [show t + 1 - s = (t - s) + 1 by omega, Int.mul_add, Int.mul_one]
        omega
    have hnb : sp_bad e r' t n = false := bad_i (fun i hi q => by
      obtain ⟨s, s1, s2, s3⟩ := hI2 (e i)
      have hui := hr2 i hi
      have hai := hae i hi (by omega)
      have hsa : s ≤ a i := by
        by_cases c1 : s ≤ a i
        · exact c1
        · have := s2 i hi (Int.le_refl _) (by omega)
          omega
      have g1 := hw s (e i) (by omega)
      have g2 := ws_one (f := r') (Q := qw_ a e s (e i)) (l := i) (qw_t.mpr ⟨hsa, Int.le_refl _⟩) hi (fun j hj _ => (hr2 j hj).1)
      have g3 : c * (e i - s) ≤ c * (t + 1 - s) := Int.mul_le_mul_of_nonneg_left (by omega) hc
      omega)
    rw [hnb]
    show (true && _) = true
    rw [Bool.true_and]
    exact run_edf hn hc hw hu hae m (t + 1) r' hr2 ha2 (fun i hi h0 => by have := hl i hi h0; omega) hI2
theorem f1_le {a : Nat → Int} {p : Nat} : ∀ {n : Nat} (i : Nat), i < n → p / 2 ^ i % 2 = 1 → sp_f1 a p n ≤ a i
  | 0, i, hi, _ => by omega
  | n + 1, i, hi, hb => by
    rw [sp_f1]
    by_cases e : i = n
    · subst e
      split
      · exact Int.le_refl _
      · rename_i q
        by_cases c : a i < sp_f1 a p i
        · exact absurd ⟨hb, c⟩ q
        · omega
    · have := f1_le (a := a) (p := p) (n := n) i (by omega) hb
      split <;> omega
theorem l1_ge {e : Nat → Int} {p : Nat} : ∀ {n : Nat} (i : Nat), i < n → p / 2 ^ i % 2 = 1 → e i ≤ sp_l1 e p n
  | 0, i, hi, _ => by omega
  | n + 1, i, hi, hb => by
    rw [sp_l1]
    by_cases e1 : i = n
    · subst e1
      split
      · exact Int.le_refl _
      · rename_i q
        by_cases c : sp_l1 e p i < e i
        · exact absurd ⟨hb, c⟩ q
        · omega
    · have := l1_ge (e := e) (p := p) (n := n) i (by omega) hb
      split <;> omega
/-- the tons of the set p -/
def mk_ (u : Nat → Int) (p : Nat) : Nat → Int := fun f => if p / 2 ^ f % 2 = 1 then u f else 0
/-- could, by windows -/
theorem can_iff {a e u : Nat → Int} {n : Nat} {c : Int} {p : Nat} (hn : n ≤ 16) (hc : 0 ≤ c) (hu : ∀ i, i < n → 0 ≤ u i) (hae : ∀ i, i < n → a i < e i) : sp_can a e u n c p = true ↔ WC_ a e (mk_ u p) n c := by
  have hm : ∀ i, i < n → 0 ≤ mk_ u p i := fun i hi => by
    unfold mk_
    split
    · exact hu i hi
    · exact Int.le_refl _
  have hbit : ∀ i, i < n → 0 < mk_ u p i → p / 2 ^ i % 2 = 1 := fun i hi h0 => by
    unfold mk_ at h0
    split at h0
    · assumption
    · omega
  constructor
  · intro h s d hsd
    have g := run_win hn hc s d _ _ (mk_ u p) hm (fun i hi h0 => by
      have b := hbit i hi h0
      have := f1_le (a := a) (n := n) i hi b
      have := hae i hi
      omega) h
    have e1 : c * ((d - max (sp_f1 a p n) s).toNat : Int) ≤ c * (d - s) := Int.mul_le_mul_of_nonneg_left (by omega) hc
    omega
  · intro hw
    refine run_edf hn hc hw hm (fun i hi _ => hae i hi) _ _ (mk_ u p) (fun i hi => ⟨hm i hi, Int.le_refl _⟩) (fun i hi _ => rfl) (fun i hi h0 => ?_) (fun D => ⟨sp_f1 a p n, Int.le_refl _, fun i hi _ q => ?_, ?_⟩)
    · have b := hbit i hi h0
      have := l1_ge (e := e) (n := n) i hi b
      omega
    · by_cases z : p / 2 ^ i % 2 = 1
      · have := f1_le (a := a) (n := n) i hi z
        omega
      · unfold mk_
        rw [if_neg z]
    · rw [Int.sub_self, Int.sub_self, Int.mul_zero]
