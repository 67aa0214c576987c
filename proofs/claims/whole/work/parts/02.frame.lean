-- ===== values, cells, worlds of the abstract machine =====
abbrev av_T : Type := Int ⊕ (Int ⊕ (Option Nat ⊕ Unit))
abbrev av_i (a : Int) : av_T := Sum.inl a
abbrev av_l (a : Int) : av_T := Sum.inr (Sum.inl a)
abbrev av_q (q : Option Nat) : av_T := Sum.inr (Sum.inr (Sum.inl q))
abbrev av_r (k : Nat) : av_T := Sum.inr (Sum.inr (Sum.inl (some k)))
abbrev av_n : av_T := Sum.inr (Sum.inr (Sum.inl none))
abbrev av_s : av_T := Sum.inr (Sum.inr (Sum.inr ()))
/-- launch; the script's cell, length, ints; the first new address; class numbers, slots; array classes -/
abbrev aw_T : Type := Launch × (Nat × (Nat × ((Nat → Int32) × (Nat × ((Nat → ClassId) × ((Nat → Nat → Nat) × (Nat → ClassId)))))))
def aw_l (w : aw_T) : Launch := w.1
def aw_b (w : aw_T) : Nat := w.2.1
def aw_L (w : aw_T) : Nat := w.2.2.1
def aw_x (w : aw_T) : Nat → Int32 := w.2.2.2.1
def aw_o (w : aw_T) : Nat := w.2.2.2.2.1
def aw_D (w : aw_T) : va_G := (w.2.2.2.2.2.1, w.2.2.2.2.2.2.1)
def aw_A (w : aw_T) : Nat → ClassId := w.2.2.2.2.2.2.2
def av_v (w : aw_T) : av_T → Value
  | .inl a => .int (Int32.ofInt a)
  | .inr (.inl a) => .long (Int64.ofInt a)
  | .inr (.inr (.inl (some k))) => .ref (aw_o w + k)
  | .inr (.inr (.inl none)) => .null
  | .inr (.inr (.inr _)) => .ref (aw_b w)
def av_c : av_T → Nat
  | .inr (.inl _) => 2
  | _ => 1
theorem av_cat (w : aw_T) (v : av_T) : (av_v w v).category = av_c v := by
  rcases v with a | a | (_ | k) | u <;> rfl
theorem av_c1 (v : av_T) : av_c v ≤ 2 := by
  rcases v with a | a | (_ | k) | u <;> simp [av_c]
theorem av_sum (w : aw_T) (r : List av_T) : ((r.map (av_v w)).map fun v => v.category).sum ≤ 2 * r.length := by
  induction r with
  | nil => simp
  | cons v r ih =>
    have := av_c1 v
    simp only [List.map_cons, List.sum_cons, List.length_cons, av_cat]
    omega
abbrev ac_T : Type := (Nat × (Nat × (Nat → Int))) ⊕ ((Nat × (Nat → Int)) ⊕ ((Nat × (Nat → Option Nat)) ⊕ (Nat × List av_T)))
abbrev ac_a (t n : Nat) (f : Nat → Int) : ac_T := Sum.inl (t, n, f)
abbrev ac_l (n : Nat) (f : Nat → Int) : ac_T := Sum.inr (Sum.inl (n, f))
abbrev ac_q (n : Nat) (g : Nat → Option Nat) : ac_T := Sum.inr (Sum.inr (Sum.inl (n, g)))
abbrev ac_o (ci : Nat) (fs : List av_T) : ac_T := Sum.inr (Sum.inr (Sum.inr (ci, fs)))
def ac_E (w : aw_T) : ac_T → va_E
  | .inl (t, n, f) => .inl (aw_A w t, n, .inl (fun j => Int32.ofInt (f j)))
  | .inr (.inl (n, f)) => .inl (aw_A w 3, n, .inr (.inl (fun j => Int64.ofInt (f j))))
  | .inr (.inr (.inl (n, g))) => .inl (aw_A w 4, n, .inr (.inr (.inr (.inr (fun j => (g j).map (fun k => aw_o w + k))))))
  | .inr (.inr (.inr (ci, fs))) => .inr (ci, fs.map (av_v w))
abbrev ah_T : Type := List ac_T
def ah_R (w : aw_T) (h : ah_T) (H : Heap) : Prop := H.size = aw_o w + h.length ∧ ∀ (k : Nat) (c : ac_T), h[k]? = some c → va_at (aw_D w) cs_all (aw_o w + k, ac_E w c) H
theorem ah_set {w : aw_T} {h : ah_T} {H H1 : Heap} {k : Nat} {c c' : ac_T} (hR : ah_R w h H) (hk : h[k]? = some c) (hc : va_at (aw_D w) cs_all (aw_o w + k, ac_E w c') H1) (hz : H1.size = H.size) (ho : ∀ q : Nat, q ≠ aw_o w + k → H1[q]? = H[q]?) : ah_R w (h.set k c') H1 := by
  refine ⟨by rw [hz, hR.1, List.length_set], fun j x hj => ?_⟩
  by_cases e : j = k
  · subst e
    have hl : j < h.length := (List.getElem?_eq_some_iff.mp hk).1
    rw [List.getElem?_set_self hl] at hj
    cases hj
    exact hc
  · rw [List.getElem?_set_ne (fun q => e q.symm)] at hj
    exact (hR.2 j x hj).kept (ho _ (by show aw_o w + j ≠ aw_o w + k; omega))
theorem ah_push {w : aw_T} {h : ah_T} {H H1 : Heap} {c : ac_T} (hR : ah_R w h H) (hc : va_at (aw_D w) cs_all (aw_o w + h.length, ac_E w c) H1) (hz : H1.size = H.size + 1) (ho : ∀ q : Nat, q < H.size → H1[q]? = H[q]?) : ah_R w (h ++ [c]) H1 := by
  refine ⟨by rw [hz, hR.1, List.length_append]; simp; omega, fun j x hj => ?_⟩
  by_cases e : j < h.length
  · rw [List.getElem?_append_left e] at hj
    exact (hR.2 j x hj).kept (ho _ (by show aw_o w + j < H.size; rw [hR.1]; omega))
  · have hz : j < (h ++ [c]).length := (List.getElem?_eq_some_iff.mp hj).1
    rw [List.length_append] at hz
    simp at hz
    have e2 : j = h.length := by omega
    subst e2
    rw [List.getElem?_append_right (Nat.le_refl _)] at hj
    simp at hj
    subst hj
    exact hc
-- ===== locals =====
abbrev al_T : Type := List (Option av_T)
def al_lv (w : aw_T) (L : al_T) : List (Nat × Value) := (List.range L.length).filterMap (fun i => match L[i]? with
  | some (some v) => some (i, av_v w v)
  | _ => none)
theorem al_mem {w : aw_T} {L : al_T} {i : Nat} {x : Value} : (i, x) ∈ al_lv w L ↔ ∃ v, L[i]? = some (some v) ∧ x = av_v w v := by
  unfold al_lv
  rw [List.mem_filterMap]
  constructor
  · rintro ⟨j, -, hj⟩
    split at hj
    · rename_i v hv
      cases hj
      exact ⟨v, hv, rfl⟩
    · cases hj
  · rintro ⟨v, hv, rfl⟩
    refine ⟨i, List.mem_range.mpr (List.getElem?_eq_some_iff.mp hv).1, ?_⟩
    rw [hv]
def al_R (w : aw_T) (ls : Array Slot) (nL : Nat) (L : al_T) : Prop := L.length = nL ∧ lv_has ls nL (al_lv w L)
theorem al_get {w : aw_T} {ls : Array Slot} {nL : Nat} {L : al_T} (h : al_R w ls nL L) {i : Nat} {v : av_T} (hi : L[i]? = some (some v)) : ls[i]? = some (.val (av_v w v)) := h.2.2.2 (i, av_v w v) (al_mem.mpr ⟨v, hi, rfl⟩)
def al_ok (L : al_T) : Nat → Bool
  | 0 => true
  | j + 1 => match L[j]? with
    | some (some (.inr (.inl _))) => false
    | _ => true
theorem al_ok_spec {L : al_T} {i j : Nat} (h : al_ok L i = true) (hj : j + 1 = i) {v : av_T} (hv : L[j]? = some (some v)) : av_c v = 1 := by
  subst hj
  rcases v with a | a | (_ | k) | u
  · rfl
  · simp [al_ok, hv] at h
  · rfl
  · rfl
  · rfl
theorem al_put1 {w : aw_T} {ls : Array Slot} {nL i : Nat} {L L' : al_T} {v : av_T} (hn : L.length = nL) (ho : al_ok L i = true) (hl : L.set i (some v) = L') (h : lv_has ls nL ((i, av_v w v) :: (al_lv w L).filter (fun q => !(q.1 == i) && !(q.1 + 1 == i && q.2.category == 2)))) : al_R w ls nL L' := by
  subst hl
  refine ⟨by rw [List.length_set]; exact hn, h.1, h.2.1, fun q hq => h.2.2 q ?_⟩
  obtain ⟨j, x⟩ := q
  obtain ⟨u, hu, rfl⟩ := al_mem.mp hq
  by_cases e : j = i
  · subst e
    have hl : j < L.length := by
      have := (List.getElem?_eq_some_iff.mp hu).1
      rw [List.length_set] at this
      exact this
    rw [List.getElem?_set_self hl] at hu
    cases hu
    exact List.mem_cons_self
  · rw [List.getElem?_set_ne (fun q => e q.symm)] at hu
    refine List.mem_cons_of_mem _ (List.mem_filter.mpr ⟨al_mem.mpr ⟨u, hu, rfl⟩, ?_⟩)
    have : ¬ (j + 1 = i ∧ (av_v w u).category = 2) := by
      rintro ⟨e1, e2⟩
      rw [av_cat, al_ok_spec ho e1 hu] at e2
      cases e2
    simp only [Bool.and_eq_true, Bool.not_eq_true', beq_eq_false_iff_ne, ne_eq, e, not_false_eq_true, true_and, Bool.and_eq_false_iff]
    by_cases e1 : j + 1 = i
    · exact Or.inr (fun e2 => this ⟨e1, e2⟩)
    · exact Or.inl e1
theorem al_put2 {w : aw_T} {ls : Array Slot} {nL i : Nat} {L L' : al_T} {v : av_T} (hn : L.length = nL) (ho : al_ok L i = true) (hl : (L.set i (some v)).set (i + 1) none = L') (h : lv_has ls nL ((i, av_v w v) :: (al_lv w L).filter (fun q => !(q.1 == i) && (!(q.1 == i + 1) && !(q.1 + 1 == i && q.2.category == 2))))) : al_R w ls nL L' := by
  subst hl
  refine ⟨by rw [List.length_set, List.length_set]; exact hn, h.1, h.2.1, fun q hq => h.2.2 q ?_⟩
  obtain ⟨j, x⟩ := q
  obtain ⟨u, hu, rfl⟩ := al_mem.mp hq
  by_cases e0 : j = i + 1
  · subst e0
    have hl : i + 1 < (L.set i (some v)).length := by
      have := (List.getElem?_eq_some_iff.mp hu).1
      rw [List.length_set] at this
      exact this
    rw [List.getElem?_set_self hl] at hu
    cases hu
  · rw [List.getElem?_set_ne (fun q => e0 q.symm)] at hu
    by_cases e : j = i
    · subst e
      have hl : j < L.length := by
        have := (List.getElem?_eq_some_iff.mp hu).1
        rw [List.length_set] at this
        exact this
      rw [List.getElem?_set_self hl] at hu
      cases hu
      exact List.mem_cons_self
    · rw [List.getElem?_set_ne (fun q => e q.symm)] at hu
      refine List.mem_cons_of_mem _ (List.mem_filter.mpr ⟨al_mem.mpr ⟨u, hu, rfl⟩, ?_⟩)
      have : ¬ (j + 1 = i ∧ (av_v w u).category = 2) := by
        rintro ⟨e1, e2⟩
        rw [av_cat, al_ok_spec ho e1 hu] at e2
        cases e2
      simp only [Bool.and_eq_true, Bool.not_eq_true', beq_eq_false_iff_ne, ne_eq, e, e0, not_false_eq_true, true_and, Bool.and_eq_false_iff]
      by_cases e1 : j + 1 = i
      · exact Or.inr (fun e2 => this ⟨e1, e2⟩)
      · exact Or.inl e1
def al_sl (As : List av_T) : al_T := As.flatMap (fun v => if av_c v = 2 then [some v, none] else [some v])
def al_en (As : List av_T) (n : Nat) : al_T := al_sl As ++ List.replicate (n - (al_sl As).length) none
theorem al_sl_len (w : aw_T) (As : List av_T) : (lg_sl (As.map (av_v w))).length = (al_sl As).length := by
  induction As with
  | nil => rfl
  | cons v As ih =>
    simp only [lg_sl, al_sl, List.map_cons, List.flatMap_cons, List.length_append] at ih ⊢
    rw [ih, av_cat]
    by_cases e : av_c v = 2 <;> simp [e]
theorem al_arg (w : aw_T) : ∀ (As : List av_T) (o i : Nat) (v : av_T), (al_sl As)[i]? = some (some v) → (o + i, av_v w v) ∈ lv_args o (As.map (av_v w)) := by
  intro As
  induction As with
  | nil => intro o i v h; simp [al_sl] at h
  | cons u As ih =>
    intro o i v h
    have e : al_sl (u :: As) = (if av_c u = 2 then [some u, none] else [some u]) ++ al_sl As := by simp [al_sl]
    rw [e] at h
    simp only [List.map_cons, lv_args, av_cat]
    by_cases c2 : av_c u = 2
    · rw [if_pos c2] at h ⊢
      match i, h with
      | 0, h => simp at h; subst h; exact List.mem_cons_self
      | 1, h => simp at h
      | i + 2, h =>
        have h2 : (al_sl As)[i]? = some (some v) := by simpa using h
        have h3 := ih (o + 2) i v h2
        rw [show o + (i + 2) = o + 2 + i by omega]
        exact List.mem_cons_of_mem _ h3
    · rw [if_neg c2] at h ⊢
      match i, h with
      | 0, h => simp at h; subst h; exact List.mem_cons_self
      | i + 1, h =>
        have h2 : (al_sl As)[i]? = some (some v) := by simpa using h
        have h3 := ih (o + 1) i v h2
        rw [show o + (i + 1) = o + 1 + i by omega]
        exact List.mem_cons_of_mem _ h3
theorem al_entry (w : aw_T) (As : List av_T) {n : Nat} {L : al_T} (hn : (al_sl As).length ≤ n) (hL : al_en As n = L) : al_R w ((lg_sl (As.map (av_v w)) ++ List.replicate (n - (lg_sl (As.map (av_v w))).length) Slot.unset).toArray) n L := by
  subst hL
  have h := lv_entry (As.map (av_v w)) (n := n) (by rw [al_sl_len]; exact hn)
  refine ⟨by simp [al_en]; omega, h.1, h.2.1, fun q hq => h.2.2 q ?_⟩
  obtain ⟨j, x⟩ := q
  obtain ⟨u, hu, rfl⟩ := al_mem.mp hq
  have hj : (al_sl As)[j]? = some (some u) := by
    by_cases e : j < (al_sl As).length
    · rw [al_en, List.getElem?_append_left e] at hu
      exact hu
    · rw [al_en, List.getElem?_append_right (by omega)] at hu
      have := List.mem_of_getElem? hu
      rw [List.mem_replicate] at this
      cases this.2
  have := al_arg w As 0 j u hj
  simpa using this
-- ===== methods, the judgement =====
abbrev am_T : Type := MethodName × (ByteArray × (Nat × Option FieldType))
def ad_D (M : am_T) (pc : Nat) (i : Instr) (len n : Nat) : Prop := decode M.2.1 pc = .ok (i, len) ∧ n = pc + len
def aw_tys (w : aw_T) : List (ClassId × FieldType) := [(aw_A w 0, .int), (aw_A w 1, .byte), (aw_A w 2, .boolean), (aw_A w 3, .long), (aw_A w 4, .array .int)]
/-- int[][] stands over int[] -/
def aw_O (U : State) : Prop := (Cond.arrayOver (.array .int)).before #[] U = true
theorem aw_O.moved {u U : State} (hvm : u.vm.Alike U.vm) (h : aw_O u) : aw_O U := by
  have h5 := h
  unfold aw_O Cond.before at h
  simp only [Cond.holds, Cond.value, beq_iff_eq] at h
  obtain ⟨comp, c, k, h1, h3, h4, h5⟩ := Cond.arrayOver_specA h5
  rw [h1] at h
  simp only [Option.bind_some, Option.bind_eq_some_iff, Option.map_eq_some_iff] at h
  obtain ⟨c', hi', k2, hk2, hb⟩ := h
  have hcc : c' = c := by
    cases hkind : k2.kind with
    | array component ty =>
      rw [hkind] at hb
      simp at hb
      have := hb.2.symm.trans h5
      exact Option.some.inj this
    | _ => rw [hkind] at hb; simp at hb
  subst hcc
  obtain ⟨k', hk', he⟩ := hvm.2.2 _ _ h3
  have hi : (U.vm.classes.findIdx? fun (x : Class) => match x.kind with | .array component _ => component == comp | _ => false) = some c' := by
    refine (va_idx_bare U.vm comp).symm.trans ?_
    first | rw [hvm.bare_eq] | rw [← hvm.bare_eq]
    exact (va_idx_bare u.vm comp).trans hi'
  have hkind : k'.kind = .array comp (.array .int) := by rw [he]; exact h4
  have f1 : U.vm.findClass (FieldType.array FieldType.int).toString = some comp := by rw [hvm.findClass]; exact h1
  have f2 : U.vm.findClass ("[" ++ (FieldType.array FieldType.int).toString) = some c' := by rw [hvm.findClass]; exact h5
  unfold aw_O Cond.before Cond.holds
  simp only [Cond.value]
  rw [f1, Option.bind_some]
  refine (congrArg (fun o : Option Nat => (o.bind (fun c => (U.vm.classes[c]?).map fun (k : Class) => match k.kind with | .array _ ty => decide (ty = FieldType.array FieldType.int) && decide (U.vm.findClass ("[" ++ (FieldType.array FieldType.int).toString) = some c) | _ => false) == some true)) hi).trans ?_
  simp [hk', hkind, f2]
def aw_K (w : aw_T) (U : State) : Prop := va_K (aw_D w) cs_all (aw_tys w) U ∧ (∀ x ∈ tt_n, va_Nw x U) ∧ aw_O U
def aw_X (w : aw_T) (U : State) (H : Heap) : Prop := va_X (aw_b w) (aw_L w) (aw_x w) U H ∧ aw_b w < aw_o w
def aw_N (w : aw_T) : Nat → Prop := fun q => aw_o w ≤ q
theorem tt_isN_of {x : Cond} (h : x ∈ tt_n) : tt_isN x = true := (List.mem_filter.mp h).2
theorem tt_tab {x : Cond} (h : tt_isN x = true) : x.onTables = true := by
  cases x <;> first | rfl | (simp [tt_isN] at h)
theorem tt_warm {x : Cond} (h : tt_isN x = true) {s U : State} (hW : s.WarmedH U.vm) (hZ : va_Nw x s) : va_Nw x U := by
  cases x <;> first | exact va_Nw.warmF hW hZ | exact va_Nw.warmM hW hZ | (simp [tt_isN] at h)
theorem aw_K.warm {w : aw_T} {s U : State} (h : aw_K w s) (hW : s.WarmedH U.vm) : aw_K w U := ⟨va_K.moved hW.alike h.1, fun x hx => tt_warm (tt_isN_of hx) hW (h.2.1 x hx), h.2.2.moved hW.alike⟩
theorem aw_K.same {w : aw_T} {s U : State} (h : aw_K w s) (hvm : s.vm = U.vm) : aw_K w U := ⟨va_K.moved (by rw [hvm]; exact Vm.Alike.refl _) h.1, fun x hx => (h.2.1 x hx).same (tt_tab (tt_isN_of hx)) hvm, h.2.2.moved (by rw [hvm]; exact Vm.Alike.refl _)⟩
theorem aw_X.to {w : aw_T} {u U : State} {H : Heap} (h : aw_X w u H) (hvm : u.vm.Alike U.vm) : aw_X w U H := ⟨va_X.moved hvm h.1, h.2⟩
def aw_C (w : aw_T) (M : am_T) (d : Nat) (p : Program) (R : Room) (s : State) (m : MethodId) (args : Array Value) (meth : Method) (c : Code) : Prop :=
  p.tables.exec = Jvm.exec ∧ c.code = M.2.1 ∧ meth.sig.returnType = M.2.2.2 ∧ c.maxLocals = M.2.2.1 ∧ s.vm.findClass M.1.cls = some m.cls ∧ (∀ x ∈ tt_g, x.before args s = true) ∧ aw_K w s ∧ meth.locks = false ∧ meth.name = M.1.name ∧ d ≤ R.frames ∧ 60 * d + 20 ≤ R.locals ∧ aw_X w s s.heap ∧ aw_o w ≤ s.heap.size
def am_ret (M : am_T) (pc : Nat) (r : Option av_T) : Prop :=
  (∃ a : Int, r = some (av_i a) ∧ decode M.2.1 pc = .ok (.ireturn, 1) ∧ (M.2.2.2 = some .int ∨ (M.2.2.2 = some .boolean ∧ (a = 0 ∨ a = 1)))) ∨
  (∃ a : Int, r = some (av_l a) ∧ decode M.2.1 pc = .ok (.lreturn, 1) ∧ M.2.2.2 = some .long) ∨
  (∃ q : Option Nat, r = some (av_q q) ∧ decode M.2.1 pc = .ok (.areturn, 1) ∧ ∃ n, M.2.2.2 = some (.object n)) ∨
  (r = none ∧ decode M.2.1 pc = .ok (.return_, 1) ∧ M.2.2.2 = none)
abbrev ap_T : Type := Option av_T → ah_T → Prop
def aw_E (w : aw_T) (M : am_T) (P : ap_T) (p : Program) (e : Env) (R : Room) (s : State) (m : MethodId) (args : Array Value) (below : List Frame) (meth : Method) (c : Code) (Q : State → Prop) : Prop :=
  ∀ (H : Heap) (locs : List Loc) (cells slots : Nat) (ls : Array Slot) (pc : Nat) (r : Option av_T) (h : ah_T), ah_R w h H → va_S (aw_N w) s.heap H locs → P r h → cells ≤ R.cells → slots ≤ R.slots → am_ret M pc r →
    W p (aw_l w) e R s m args below meth c H locs cells slots Q (F0 m pc ls (r.toList.map (av_v w)))
/-- from pc on, with these locals, this stack and this heap, the method returns with P; it makes at most kc cells of ks slots more -/
def aw_W (w : aw_T) (M : am_T) (d : Nat) (P : ap_T) (pc : Nat) (L : al_T) (st : List av_T) (h : ah_T) (kc ks : Nat) : Prop :=
  ∀ (p : Program) (e : Env) (R : Room) (s : State) (m : MethodId) (args : Array Value) (below : List Frame) (meth : Method) (c : Code) (Q : State → Prop), aw_C w M d p R s m args meth c → aw_E w M P p e R s m args below meth c Q →
    ∀ (H : Heap) (locs : List Loc) (cells slots : Nat) (ls : Array Slot), ah_R w h H → va_S (aw_N w) s.heap H locs → al_R w ls M.2.2.1 L → cells + kc ≤ R.cells → slots + ks ≤ R.slots →
      W p (aw_l w) e R s m args below meth c H locs cells slots Q (F0 m pc ls (st.map (av_v w)))
def am_rm (d mc ms : Nat) : Room := { frames := d, cells := mc, slots := ms, locals := 60 * d + 20 }
def am_Pc (w : aw_T) (As : List av_T) (h : ah_T) : Array Value → State → Prop := fun v U => v = (As.map (av_v w)).toArray ∧ aw_K w U ∧ ah_R w h U.heap ∧ aw_X w U U.heap
def am_Qc (w : aw_T) (P : ap_T) : Array Value → State → Outcome → State → Prop := fun _ st oc t => (∃ (r : Option av_T) (h : ah_T), oc = .returned (r.map (av_v w)) ∧ P r h ∧ ah_R w h t.heap) ∧ va_F (aw_N w) st t
/-- the method's contract at these arguments and this heap -/
def am_M (w : aw_T) (M : am_T) (d : Nat) (As : List av_T) (h : ah_T) (mc ms : Nat) (P : ap_T) : Prop :=
  Met (aw_l w) M.1 (Cond.code M.1 M.2.1 M.2.2.1 M.2.2.2 :: tt_g) (am_rm d mc ms) (am_Pc w As h) (am_Qc w P) mc ms (aw_N w)
theorem aw_ret {w : aw_T} {M : am_T} {P : ap_T} {p : Program} {e : Env} {R : Room} {s : State} {m : MethodId} {args : Array Value} {below : List Frame} {meth : Method} {c : Code} {d : Nat} (hC : aw_C w M d p R s m args meth c) : aw_E w M P p e R s m args below meth c (MQ below (am_Qc w P) args s R.cells R.slots (aw_N w)) := by
  intro H locs cells slots ls pc r h hH hS hP hc hs hr
  obtain ⟨hx, hb, hrt, hml, hown, hts, hK, hlk, -⟩ := hC
  refine W.widen hc hs ?_
  have hq : ∀ t : State, t.heap = H → s.WarmedH t.vm → am_Qc w P args s (.returned (r.map (av_v w))) t := fun t ht _ => ⟨⟨r, h, rfl, hP, by rw [ht]; exact hH⟩, hS.F ht⟩
  have hf : ∀ q ∈ locs, aw_N w q.base := hS.2.2
  rcases hr with ⟨a, rfl, hd, hr | ⟨hr, ha⟩⟩ | ⟨a, rfl, hd, hr⟩ | ⟨q, rfl, hd, n, hr⟩ | ⟨rfl, hd, hr⟩
  · exact W.iret hx hb (hrt.trans hr) hq hf hd
  · refine W.zret hx hb (hrt.trans hr) ?_ hq hf hd
    rcases ha with rfl | rfl <;> rfl
  · exact W.lret hx hb (hrt.trans hr) hq hf hd
  · rcases q with _ | k
    · exact W.aret hx hb (hrt.trans hr) (Or.inl ⟨n, rfl⟩) (Or.inl rfl) hq hf hd
    · exact W.aret hx hb (hrt.trans hr) (Or.inl ⟨n, rfl⟩) (Or.inr ⟨_, rfl⟩) hq hf hd
  · exact W.vret hx hb (hrt.trans hr) hq hf hd
theorem am_intro {w : aw_T} {M : am_T} {d : Nat} {As : List av_T} {h : ah_T} {mc ms : Nat} {P : ap_T} (L : al_T) (hy : plainName M.1.cls = true) (hn : (al_sl As).length ≤ M.2.2.1) (hL : al_en As M.2.2.1 = L) (k : aw_W w M d P 0 L [] h mc ms) : am_M w M d As h mc ms P := by
  refine Met.ofW (cc := M.2.1) (maxL := M.2.2.1) (ret := M.2.2.2) hy rfl ?_
  intro p e s m args below meth c s₁ B hml hv
  obtain ⟨rfl, hK, hH, hX⟩ := hv
  have hts := atoms_spec (ws := Cond.code M.1 M.2.1 M.2.2.1 M.2.2.2 :: tt_g) B.pre
  have hC : aw_C w M d p (am_rm d mc ms) s m (As.map (av_v w)).toArray meth c := ⟨B.exec, B.bytes, B.returns, hml, findClass_of_methodNamed B.named, fun x hx => hts x (List.mem_cons_of_mem _ hx), hK, B.notSynchronized, (name_of_methodNamed B.named B.method).1, Nat.le_refl _, Nat.le_refl _, hX, by rw [hH.1]; omega⟩
  rw [lg_entry_eq]
  exact k p e (am_rm d mc ms) s m _ below meth c _ hC (aw_ret hC) s.heap [] 0 0 _ hH va_S.rf (al_entry w As hn hL) (by show 0 + mc ≤ mc; omega) (by show 0 + ms ≤ ms; omega)
-- ===== what the tables say of fields, new objects, calls =====
/-- getfield 'idx' of a method of class cls reads field k of a cell of class ci -/
def af_ok (cls : String) (idx ci k : Nat) : Prop := ∃ (C : String) (T : u_T) (N : Nat), cs_all[ci]? = some (C, T, N) ∧ k < N ∧ (∀ x ∈ u_ws C T N, x ∈ tt_g) ∧ ((Cond.fieldLink cls idx (T k).1 (T k).2.1 (T k).2.2.1 ∈ tt_g) ∨ ∃ host, Cond.fieldLinkNest cls idx (T k).1 (T k).2.1 (T k).2.2.1 host ∈ tt_n)
/-- putfield 'idx': the field's type, and whether it is final -/
def af_put (cls mname : String) (idx ci k : Nat) (ty : FieldType) : Prop := ∃ (C : String) (T : u_T) (N : Nat) (ty0 : Nat → FieldType), cs_all[ci]? = some (C, T, N) ∧ k < N ∧ (∀ x ∈ u_ws C T N, x ∈ tt_g) ∧ (∀ k, k < N → parseFieldDescriptor (T k).2.2.1 = some (ty0 k)) ∧ (∀ a, a < N → ∀ b, b < N → a ≠ b → (T a).2.1 ≠ (T b).2.1) ∧ ty0 k = ty ∧
  (((T k).2.2.2 = false ∧ ((Cond.fieldLink cls idx (T k).1 (T k).2.1 (T k).2.2.1 ∈ tt_g) ∨ ∃ host, Cond.fieldLinkNest cls idx (T k).1 (T k).2.1 (T k).2.2.1 host ∈ tt_n)) ∨
   ((T k).2.2.2 = true ∧ mname = "<init>" ∧ (T k).1 = cls ∧ (Cond.fieldLink cls idx (T k).1 (T k).2.1 (T k).2.2.1 ∈ tt_g)))
def an_ok (cls : String) (idx ci N : Nat) (fs : List av_T) : Prop := ∃ (C : String) (T : u_T) (ty : Nat → FieldType), cs_all[ci]? = some (C, T, N) ∧ (∀ x ∈ u_ws C T N, x ∈ tt_g) ∧ (∀ k, k < N → parseFieldDescriptor (T k).2.2.1 = some (ty k)) ∧ Cond.classLink cls idx C ∈ tt_g ∧ Cond.instantiable C N ∈ tt_g ∧ Cond.initialized C ∈ tt_g ∧ ∀ w : aw_T, ∀ j, j < N → defaultValue (ty j) = vp_V (fs.map (av_v w)) j
/-- what the tables say of a call site: the method called, by its words -/
def ai_B (cls : String) (idx : Nat) (M2 : am_T) (k : Nat) : Prop :=
  Cond.code M2.1 M2.2.1 M2.2.2.1 M2.2.2.2 ∈ tt_g ∧ Cond.initialized M2.1.cls ∈ tt_g ∧ (M2.1.cls ≠ "java/lang/invoke/MethodHandle" ∧ M2.1.cls ≠ "java/lang/invoke/VarHandle" ∧ (parseMethodDescriptor M2.1.desc).map (fun d => d.parameters.length) = some k) ∧ M2.2.2.1 ≤ 40 ∧
  ((Cond.methodLink cls idx M2.1 ∈ tt_g) ∨ ∃ host, Cond.methodLinkNest cls idx M2.1 host ∈ tt_n)
