/-! THE CLAIM OUT OF ONE WALK OF THE LAW'S BODY. Your part is whole_start (and what it stands on); all else here is the same for every law, but numbers. -/
def R_law : String := "CaneRoundsLaw"
def lw_P (b : Addr) (xs : List Int32) (args : Array Value) (s : State) : Prop := args = #[.ref b] ∧ s.IntsAt b xs ∧ xs.length ≤ 3584 ∧ (Jvm.Cond.and given_1 narrow_1).before args s = true
def lw_Q (_ : Array Value) (s : State) (o : Outcome) (t : State) : Prop := o = .returned (some (.int 1)) ∧ Framed s o t [] 600000 7302250
def lw_Z (below : List Frame) (a : Array Value) (s : State) : State → Prop := fun t => ∃ o, t.status = .running ∧ Ended t below o ∧ lw_Q a s o t
/-- the law's own end, with 1 on the stack, nothing written that was there before, its room as the claim has it -/
theorem lw_ret {p : Program} {l : Launch} {e : Env} {s : State} {m : MethodId} {below : List Frame} {meth : Method} {c : Code} {b : Nat} (hx : p.tables.exec = Jvm.exec) (hb : c.code = code) (hr : meth.sig.returnType = ret) (hlocks : meth.locks = false) {pc : Nat} {H : Heap} {ls : Array Slot} (hdg : decode code pc = .ok (.ireturn, 1)) : W p l e room_1 s m #[Value.ref b] below meth c H [] 600000 7302250 (lw_Z below #[Value.ref b] s) (F0 m pc ls [.int 1]) := by
  intro T hT X
  obtain ⟨fs, hret, hrun, hended, hW, hframe⟩ := X.leave (v := some (.int 1)) (hlocks := hlocks) (fun h => by rw [hr] at h; cases h)
  have hmeth' : T.vm.method? m = some meth := X.method'
  refine ⟨T.setFrames fs, ?_, .returned (some (.int 1)), hrun, hended, rfl, ⟨_, rfl⟩, hW, hframe⟩
  jvm_step X.here [X.here.top, hx, hb, hdg, hmeth', hr, ret, narrow_b1]
  (try refine ⟨rfl, ?_⟩); (try refine ⟨rfl, ?_⟩)
  first | (intro acts; rw [hret _ acts rfl rfl rfl]) | rw [hret _ _ rfl rfl rfl]
  exact Steps.refl _
/-- what holds at the law's entry: the machine, the code, the tables' words (any of lw_tbl by 'hts w (by decide +kernel)'), the script of L ints xs at the cell b, what the Statement gives of the start (any of its parts by flat_of_before) -/
def lw_At (p : Program) (s : State) (m : MethodId) (meth : Method) (c : Code) (b L : Nat) (xs : Nat → Int32) : Prop :=
  p.tables.exec = Jvm.exec ∧ c.code = code ∧ meth.sig.returnType = ret ∧ c.maxLocals = 4 ∧ s.vm.findClass R_law = some m.cls ∧ (∀ w ∈ lw_tbl, w.before #[Value.ref b] s = true) ∧ va_X b L xs s s.heap ∧ b < s.heap.size ∧ meth.locks = false ∧ (Jvm.Cond.and given_1 narrow_1).before #[Value.ref b] s = true ∧ meth.name = "law"
theorem ws_kn {s : State} {args : Array Value} (z : ClassId) (hts : ∀ w ∈ lw_tbl, w.before args s = true) : ∃ f : Nat → ClassId × (Nat → Nat), ∀ (k : Nat) (q : vw_C), cs_all[k]? = some q → u_Kn s q.1 q.2.1 q.2.2 (f k).1 (f k).2 := by
  have htg : ∀ w ∈ tt_g, w.before args s = true := fun w hw => hts w (List.mem_filter.mp hw).1
  have h : ∀ k : Nat, ∃ r : ClassId × (Nat → Nat), ∀ q : vw_C, cs_all[k]? = some q → u_Kn s q.1 q.2.1 q.2.2 r.1 r.2 := by
    intro k
    match k with
    | 0 =>
      obtain ⟨cC, iS, hk⟩ := u_known (C := cs_R0) (T := cs_T0) (N := 3) (n := 3) htg cs_w0 (hts (.instantiable cs_R0 3) (by decide +kernel))
      exact ⟨(cC, iS), fun q hq => by cases hq; exact hk⟩
    | 1 =>
      obtain ⟨cC, iS, hk⟩ := u_known (C := cs_R1) (T := cs_T1) (N := 2) (n := 2) htg cs_w1 (hts (.instantiable cs_R1 2) (by decide +kernel))
      exact ⟨(cC, iS), fun q hq => by cases hq; exact hk⟩
    | 2 =>
      obtain ⟨cC, iS, hk⟩ := u_known (C := cs_R2) (T := cs_T2) (N := 11) (n := 11) htg cs_w2 (hts (.instantiable cs_R2 11) (by decide +kernel))
      exact ⟨(cC, iS), fun q hq => by cases hq; exact hk⟩
    | 3 =>
      obtain ⟨cC, iS, hk⟩ := u_known (C := cs_R3) (T := cs_T3) (N := 5) (n := 5) htg cs_w3 (hts (.instantiable cs_R3 5) (by decide +kernel))
      exact ⟨(cC, iS), fun q hq => by cases hq; exact hk⟩
    | 4 =>
      obtain ⟨cC, iS, hk⟩ := u_known (C := cs_R4) (T := cs_T4) (N := 15) (n := 15) htg cs_w4 (hts (.instantiable cs_R4 15) (by decide +kernel))
      exact ⟨(cC, iS), fun q hq => by cases hq; exact hk⟩
    | 5 =>
      obtain ⟨cC, iS, hk⟩ := u_known (C := cs_R5) (T := cs_T5) (N := 11) (n := 11) htg cs_w5 (hts (.instantiable cs_R5 11) (by decide +kernel))
      exact ⟨(cC, iS), fun q hq => by cases hq; exact hk⟩
    | 6 =>
      obtain ⟨cC, iS, hk⟩ := u_known (C := cs_R6) (T := cs_T6) (N := 12) (n := 12) htg cs_w6 (hts (.instantiable cs_R6 12) (by decide +kernel))
      exact ⟨(cC, iS), fun q hq => by cases hq; exact hk⟩
    | 7 =>
      obtain ⟨cC, iS, hk⟩ := u_known (C := cs_R7) (T := cs_T7) (N := 4) (n := 4) htg cs_w7 (hts (.instantiable cs_R7 4) (by decide +kernel))
      exact ⟨(cC, iS), fun q hq => by cases hq; exact hk⟩
    | 8 =>
      obtain ⟨cC, iS, hk⟩ := u_known (C := cs_R8) (T := cs_T8) (N := 2) (n := 2) htg cs_w8 (hts (.instantiable cs_R8 2) (by decide +kernel))
      exact ⟨(cC, iS), fun q hq => by cases hq; exact hk⟩
    | 9 =>
      obtain ⟨cC, iS, hk⟩ := u_known (C := cs_R9) (T := cs_T9) (N := 2) (n := 2) htg cs_w9 (hts (.instantiable cs_R9 2) (by decide +kernel))
      exact ⟨(cC, iS), fun q hq => by cases hq; exact hk⟩
    | 10 =>
      obtain ⟨cC, iS, hk⟩ := u_known (C := cs_R10) (T := cs_T10) (N := 19) (n := 19) htg cs_w10 (hts (.instantiable cs_R10 19) (by decide +kernel))
      exact ⟨(cC, iS), fun q hq => by cases hq; exact hk⟩
    | 11 =>
      obtain ⟨cC, iS, hk⟩ := u_known (C := cs_R11) (T := cs_T11) (N := 64) (n := 64) htg cs_w11 (hts (.instantiable cs_R11 64) (by decide +kernel))
      exact ⟨(cC, iS), fun q hq => by cases hq; exact hk⟩
    | k + 12 => exact ⟨(z, fun _ => 0), fun q hq => by simp [cs_all] at hq⟩
  exact Classical.axiomOfChoice h
theorem ws_ar {s : State} {args : Array Value} {ty : FieldType} (h : (Cond.arrayClass ty).before args s = true) : ∃ cA : ClassId, ArrOfT s cA ty ∧ s.vm.findClass ("[" ++ ty.toString) = some cA := by
  obtain ⟨cA, kA, comp, h1, h2, h3⟩ := Cond.arrayClass_spec h
  exact ⟨cA, fun n z => ⟨fun k h => (by cases h), kA, h2, comp, h3⟩, h1⟩
theorem ws_aq {s : State} {args : Array Value} (h : (Cond.arrayOver (.array .int)).before args s = true) : ∃ cA : ClassId, ArrOfT s cA (.array .int) ∧ s.vm.findClass ("[" ++ (FieldType.array .int).toString) = some cA := by
  obtain ⟨comp, cA, kA, h1, h2, h3, h4⟩ := Cond.arrayOver_specA h
  exact ⟨cA, fun n z => ⟨fun k h => (by cases h), kA, h2, comp, h3⟩, h4⟩
theorem ws_o2 {s : State} {args : Array Value} (h : (Cond.arrayOver (.array .int)).before args s = true) : aw_O s := by
  unfold aw_O Cond.before at *
  simp only [Cond.holds, Cond.value] at h ⊢
  exact h
theorem ws_ov : Cond.arrayOver (.array .int) ∈ lw_tbl := by decide +kernel
/-- from the entry, for every script of at most 3584 ints, the law comes to its end with true -/
theorem whole_start {p : Program} {e : Env} {s : State} {m : MethodId} {below : List Frame} {meth : Method} {c : Code} (l : Launch) {b L : Nat} {xs : Nat → Int32} (hL : L ≤ 3584) (C0 : lw_At p s m meth c b L xs) : W p l e room_1 s m #[Value.ref b] below meth c s.heap [] 0 0 (lw_Z below #[Value.ref b] s) (entryFrame m ([Value.ref b] : List Value).toArray 4) := by
  obtain ⟨hx, hb, hr, hml, hown, hts, hX, hbl, hlocks, hgv, hnm⟩ := id C0
  have htg : ∀ w ∈ tt_g, w.before #[Value.ref b] s = true := fun w hw => hts w (List.mem_filter.mp hw).1
  obtain ⟨f, hf⟩ := ws_kn m.cls hts
  obtain ⟨a0, a1, a2⟩ := ws_ar (htg _ fo_int)
  obtain ⟨b0, b1, b2⟩ := ws_ar (htg _ fo_byte)
  obtain ⟨c0, c1, c2⟩ := ws_ar (htg _ fo_boolean)
  obtain ⟨d0, d1, d2⟩ := ws_ar (htg _ fo_long)
  obtain ⟨e0, e1, e2⟩ := ws_aq (hts _ ws_ov)
  obtain ⟨w, hw⟩ : ∃ w : aw_T, w = (l, b, L, xs, s.heap.size, fun k => (f k).1, fun k => (f k).2, fun t => match t with
    | 0 => a0
    | 1 => b0
    | 2 => c0
    | 3 => d0
    | _ => e0) := ⟨_, rfl⟩
  have hK : aw_K w s := by
    subst hw
    refine ⟨⟨hf, fun k q hq => ?_⟩, fun x hx => va_Nw.of (tt_tab (tt_isN_of hx)) (hts x (List.mem_filter.mp hx).1), ws_o2 (hts _ ws_ov)⟩
    match k, hq with
    | 0, hq => cases hq; exact ⟨a1, a2⟩
    | 1, hq => cases hq; exact ⟨b1, b2⟩
    | 2, hq => cases hq; exact ⟨c1, c2⟩
    | 3, hq => cases hq; exact ⟨d1, d2⟩
    | 4, hq => cases hq; exact ⟨e1, e2⟩
    | k + 5, hq => simp [aw_tys] at hq
  have ew1 : aw_l w = l := by rw [hw]; rfl
  have ew2 : aw_b w = b := by rw [hw]; rfl
  have ew3 : aw_L w = L := by rw [hw]; rfl
  have ew4 : aw_o w = s.heap.size := by rw [hw]; rfl
  have ew5 : aw_x w = xs := by rw [hw]; rfl
  have hC : aw_C w mm_L_law 44 p room_1 s m #[Value.ref b] meth c := ⟨hx, hb, hr, hml, hown, htg, hK, hlocks, hnm, by decide, by decide, ⟨by rw [ew2, ew3, ew5]; exact hX, by rw [ew2, ew4]; exact hbl⟩, Nat.le_of_eq ew4⟩
  have hE : aw_E w mm_L_law (fun r _ => r = some (av_i 1)) p e room_1 s m #[Value.ref b] below meth c (lw_Z below #[Value.ref b] s) := by
    intro H locs cells slots ls pc r h hH hS hP hc hs hr2
    subst hP
    have hd : decode code pc = .ok (.ireturn, 1) := by
      rcases hr2 with ⟨a, e1, hd, -⟩ | ⟨a, e1, -⟩ | ⟨q, e1, -⟩ | ⟨e1, -⟩
      · exact hd
      · cases e1
      · cases e1
      · cases e1
    refine va_forget (fun q hq => by rw [← ew4]; exact hS.2.2 q hq) ?_
    refine W.widen (k := 600000) (n := 7302250) hc hs ?_
    exact lw_ret hx hb hr hlocks hd
  rw [lg_entry_eq, ← ew1]
  refine ml_start (w := w) (d := 44) (Nat.le_refl _) (by rw [ew3]; exact hL) (P := fun r _ => r = some (av_i 1)) (fun _ => rfl) p e room_1 s m #[Value.ref b] below meth c _ hC hE s.heap [] 0 0 _ ⟨by rw [ew4]; rfl, fun k x hk => by simp at hk⟩ va_S.rf ?_ (by decide) (by decide)
  have := al_entry w [av_s] (n := 4) (L := [some (av_s), none, none, none]) (by decide) rfl
  have q : ([av_s] : List av_T).map (av_v w) = [Value.ref b] := by
    show [Value.ref (aw_b w)] = _
    rw [ew2]
  rw [q] at this
  exact this
-- ===== YOUR PART ENDS =====
set_option maxHeartbeats 4000000 in
theorem lw_walk (l : Launch) (b : Addr) (xs : List Int32) : MetFree l x (headSpec (Jvm.Cond.code x code maxLocals ret :: tables_1) room_1) (lw_P b xs) (fun _ _ _ _ _ => True) lw_Q := by
  refine MetFree.of_bodyS (code := code) (maxLocals := maxLocals) (ret := ret) (by decide) ?_ ?_
  · intro args s m h hn
    obtain ⟨meth, c, h1, h2, h3, h4, h5, h6, -, -⟩ := Cond.code_spec hn (atoms_spec (ws := Jvm.Cond.code x code maxLocals ret :: tables_1) h _ List.mem_cons_self)
    exact ⟨meth, c, h1, h2, h3, h4, h5, h6⟩
  · intro p e s m args below meth c s₁ B hml0 hP _
    obtain ⟨rfl, hx, hbd, hgv⟩ := hP
    obtain ⟨scr, harrAt, hlist, hof, hsmall⟩ := hx
    obtain ⟨hcb, hkn, -, -⟩ := State.arrayAt?_spec harrAt
    have hown : s.vm.findClass R_law = some m.cls := findClass_of_methodNamed B.named
    have hts0 : ∀ c ∈ (Jvm.Cond.code x code maxLocals ret :: tables_1), c.before #[Value.ref b] s = true := atoms_spec (ws := Jvm.Cond.code x code maxLocals ret :: tables_1) B.pre
    have hts : ∀ w ∈ lw_tbl, w.before #[Value.ref b] s = true := k2_hts_sels lw_privs (fun w hw => hts0 w (List.mem_cons_of_mem _ hw)) lw_privs_ok
    have hml : c.maxLocals = 4 := B.maxLocals_eq (hts0 _ List.mem_cons_self)
    have X₀ : Stand p l e room_1 s m #[Value.ref b] below meth c s₁ [] 0 0 := Stand.of_body B
    have hh0 : s₁.heap = s.heap := by rw [B.state]; rfl
    have hsz : scr.slots.size = xs.length := by rw [← Array.length_toList, hlist, List.length_map]
    have hval : ∀ j : Nat, j < xs.length → scr.slots[j]? = some (.int (xs.getD j 0)) := fun j hj => by
      rw [← Array.getElem?_toList, hlist]
      simp [hj]
    have hbl : b < s.heap.size := (Array.getElem?_eq_some_iff.mp hcb).1
    have hX : va_X b xs.length (fun j => xs.getD j 0) s s.heap := ⟨scr, hcb, hof, hkn, hsz, hval⟩
    have K : W p l e room_1 s m #[Value.ref b] below meth c s₁.heap [] 0 0 (lw_Z below #[Value.ref b] s) (entryFrame m ([Value.ref b] : List Value).toArray 4) := by
      rw [hh0]
      exact whole_start l hbd ⟨B.exec, B.bytes, B.returns, hml, hown, hts, hX, hbl, B.notSynchronized, hgv, (name_of_methodNamed B.named B.method).1⟩
    obtain ⟨t, a1, o, b1, b2, b3⟩ := K s₁ rfl X₀
    exact ⟨t, o, a1, b1, b2, b3⟩
theorem lw_pre_spec {args : Array Value} {s : State} (h : (Jvm.Cond.and given_1 narrow_1).before args s = true) (hr : rest_1_c.before args s = true) : ∃ (b : Addr) (xs : List Int32), lw_P b xs args s := by
  have hs := flat_of_before _ h
  have hq := flat_of_before _ hr
  have hc : (Cond.count 1).before args s = true := hs _ (by decide +kernel)
  have harr : (Cond.arrayOf (.arg 0) .int).before args s = true := hs _ (by decide +kernel)
  have hle : (Cond.le (.length (.arg 0)) (.int 3584)).before args s = true := hs _ (by decide +kernel)
  have hlen : (Cond.isInt (.length (.arg 0))).before args s = true := hq _ (by decide +kernel)
  have hall : (Cond.all (.arg 0) (.isInt (.elem (.arg 0) (.index 0)))).before args s = true := hq _ (by decide +kernel)
  obtain ⟨b, xs, hb, hx⟩ := State.ints_of_pre rfl harr hlen hall
  have hsm : xs.length < 2 ^ 31 := hx.choose_spec.2.2.2
  have hev : (Term.length (.arg 0)).eval args s none [] s = some (.int xs.length.toInt32) := hx.length_eval hb
  have hv := Cond.le_ints hev (show (Term.int 3584).eval args s none [] s = some (.int 3584) from rfl)
  have hd : xs.length.toInt32 ≤ 3584 := by
    simpa [Cond.before, Cond.holds, hv] using hle
  have hN : xs.length ≤ 3584 := (Int32.ofNat_le_ofNat hsm (by decide)).mp (show Int32.ofNat xs.length ≤ Int32.ofNat 3584 from hd)
  exact ⟨b, xs, Cond.one_arg hc (show args[0]? = some (.ref b) from hb), hx, hN, h⟩
theorem lw_comes (l : Launch) : Comes l x (Jvm.Cond.code x code maxLocals ret :: tables_1) room_1 (fun tb e args s => Calls_1 tb e args s ∧ rest_1 tb e args s ∧ Pre_1 tb e args s)
    (fun _ _ args s o t => lw_Q args s o t) := by
  intro p e ha hc hk s m args below hf hfit hheap happ hpre
  obtain ⟨b, xs, hP⟩ := lw_pre_spec hpre.2.2 hpre.2.1
  obtain ⟨k, o, h1, h2, h3, hQ⟩ := lw_walk l b xs p e ha hc hk s m args below hf ((Spec.applies_iff_loose hf).mp happ).1 hP trivial
  exact ⟨k, o, h1, h2, h3, hQ⟩
theorem lw_frame {s t : State} {o : Outcome} {args : Array Value} (h : Framed s o t [] 600000 7302250) :
    Framed s o t (fieldLocs frame_1_writes args s ++ arrayLocs frame_1_arrays args s ++ staticLocs frame_1_statics s) 600000 7302250 := h
theorem lw_limb (L : Cond) (hL : ∀ (args : Array Value) (s t : State), L.after args s (.returned (some (.int 1))) t = true) :
    ArmFor flags0 classFile x code maxLocals ret World_1 tables_1 room_1 Calls_1 rest_1 Pre_1
      (fun tb e a s o t => postC L tb e a s o t ∧ Framed s o t (fieldLocs frame_1_writes a s ++ arrayLocs frame_1_arrays a s ++ staticLocs frame_1_statics s) 600000 7302250) := by
  intro l _ _ _ p e ha hc hk s m args below hf hfit hheap happ hpre
  obtain ⟨k, o, h1, h2, h3, rfl, hF⟩ := lw_comes l p e ha hc hk s m args below hf hfit hheap happ hpre
  exact ⟨k, _, h1, h2, h3, hL args s _, lw_frame hF⟩
theorem i_vc : Claimed_1_1 ∧ Claimed_1_2 := ⟨lw_limb limb_1_1 (fun args s t => by simp [limb_1_1, Cond.after, Cond.holds, Cond.value]), lw_limb limb_1_2 (fun args s t => Cond.after_iff.mpr (by
  first | (rw [show limb_1_2 = Cond.eq .result (.int 1) from rfl, Cond.eq_ints (x := 1) (y := 1) rfl rfl]; simp; done) | (simp [limb_1_2, Cond.value, Term.eval]; done)))⟩
