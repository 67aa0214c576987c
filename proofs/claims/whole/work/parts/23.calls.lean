-- ===== calls =====
theorem tt_good : ∀ x ∈ tt_g, (x.onTables && x.keeps) = true ∨ ∃ ty, x = .arrayClass ty := fun _ hx => good_of_word (List.mem_filter.mp hx).2
theorem tt_goodIn {x y : Cond} (hy : y ∈ tt_g) : GoodIn (x :: tt_g) (y :: tt_g) := by
  intro z hz
  rcases List.mem_cons.mp hz with rfl | hz
  · exact ⟨List.mem_cons_of_mem _ hy, tt_good _ hy⟩
  · exact ⟨List.mem_cons_of_mem _ hz, tt_good _ hz⟩
theorem tt_goodG {y : Cond} (hy : y ∈ tt_g) : GoodIn tt_g (y :: tt_g) := by
  intro z hz
  rcases List.mem_cons.mp hz with rfl | hz
  · exact ⟨hy, tt_good _ hy⟩
  · exact ⟨hz, tt_good _ hz⟩
theorem am_blind (w : aw_T) (As : List av_T) (h : ah_T) : FrameBlind (am_Pc w As h) := by
  intro a U g mk hv
  obtain ⟨h1, hK, hH, hX⟩ := hv
  exact ⟨h1, hK.same (U := U.calling g mk a) rfl, hH, hX.to (U := U.calling g mk a) (Vm.Alike.refl U.vm)⟩
theorem am_pre {w : aw_T} {As : List av_T} {h : ah_T} {s : State} {H : Heap} {locs : List Loc} (hK : aw_K w s) (hH : ah_R w h H) (hX : aw_X w s s.heap) (hbs : aw_o w ≤ s.heap.size) (hS : va_S (aw_N w) s.heap H locs) : ∀ U : State, U.heap = H → s.WarmedH U.vm → am_Pc w As h ((As.map (av_v w)).toArray) U := by
  intro U hU hW
  have hb : H[aw_b w]? = s.heap[aw_b w]? := hS.2.1 _ (Nat.lt_of_lt_of_le hX.2 hbs) (Nat.not_le.mpr hX.2)
  refine ⟨rfl, hK.warm hW, by rw [hU]; exact hH, ?_⟩
  rw [hU]
  exact ⟨(va_X.kept hX.1 hb).moved hW.alike, hX.2⟩
theorem am_goes {w : aw_T} {P2 : ap_T} {p : Program} {e : Env} {R : Room} {s : State} {m : MethodId} {args a : Array Value} {below : List Frame} {meth : Method} {c : Code} {H : Heap} {locs : List Loc} {cells slots mc ms : Nat} {Q : State → Prop} {pc : Nat} {ls : Array Slot} {st0 rest : List Value}
    (hr : va_Run p (aw_l w) e R s m args below meth c H locs cells slots mc ms (F0 m pc ls st0) rest (am_Qc w P2 a) (aw_N w)) (hS : va_S (aw_N w) s.heap H locs)
    (kk : ∀ (r : Option av_T) (h' : ah_T) (H1 : Heap) (locs1 : List Loc), P2 r h' → ah_R w h' H1 → va_S (aw_N w) s.heap H1 locs1 → W p (aw_l w) e R s m args below meth c H1 locs1 (cells + mc) (slots + ms) Q (F0 m (pc + 3) ls ((r.map (av_v w)).toList ++ rest))) : W p (aw_l w) e R s m args below meth c H locs cells slots Q (F0 m pc ls st0) := by
  intro T hT X
  obtain ⟨v, st₀, t, T', L, h0, X', hL, e1, e2, ⟨⟨r, h', hv, hp, hR⟩, hz, hk⟩, st⟩ := hr T hT X
  cases hv
  rw [h0] at hz hk
  obtain ⟨t2, a1, b1⟩ := kk r h' T'.heap (locs ++ L) hp (by rw [e1]; exact hR)
    ⟨Nat.le_trans hS.1 (by rw [e1]; exact hz), fun q h1 h2 => by rw [e1, hk q (Nat.lt_of_lt_of_le h1 hS.1) h2]; exact hS.2.1 q h1 h2, fun q hq => by
      rcases List.mem_append.mp hq with h | h
      · exact hS.2.2 q h
      · exact hL q h⟩ T' rfl X'
  exact ⟨t2, st t2 a1, b1⟩
theorem ai_wc (w : aw_T) {rest : List av_T} (h : rest.length ≤ 4) : ((rest.map (av_v w)).map fun v => v.category).sum ≤ 8 := by
  have := av_sum w rest
  omega
section CALLS
variable {w : aw_T} {M : am_T} {d : Nat} {P : ap_T} {pc n : Nat} {L : al_T} {st rest : List av_T} {h : ah_T} {kc ks kc' ks' : Nat} {idx : Nat} {M2 : am_T} {d2 k mc ms : Nat} {As : List av_T} {P2 : ap_T}
theorem ag_callS (hd : ad_D M pc (.invokestatic idx) 3 n) (hc : ai_B M.1.cls idx M2 k ∧ Cond.static M2.1 ∈ tt_g) (hM : am_M w M2 d2 As h mc ms P2) (hst : st = As.reverse ++ rest) (hlen : As.length = k) (hd2 : d2 + 1 ≤ d) (hrl : rest.length ≤ 4) (hkc : mc + kc' ≤ kc) (hks : ms + ks' ≤ ks)
    (kk : ∀ (r : Option av_T) (h' : ah_T), P2 r h' → aw_W w M d P n L (r.toList ++ rest) h' kc' ks') : aw_W w M d P pc L st h kc ks := by
  intro p e R s m args below meth c Q hC hQ H locs cells slots ls hH hS hL hk1 hk2
  obtain ⟨hd, rfl⟩ := hd
  have hC0 := hC
  obtain ⟨hx, hb, hr, hml, hown, hts, hK, hlk, hnm, hfr, hlo, hX, hbs⟩ := hC
  obtain ⟨⟨w1, w2, w3, w4, w5⟩, w6⟩ := hc
  have hp : PreS s H (am_Pc w As h) (As.map (av_v w)) := ⟨am_blind w As h, am_pre hK hH hX hbs hS⟩
  have hstk : (F0 m pc ls (st.map (av_v w))).stack = (As.map (av_v w)).reverse ++ rest.map (av_v w) := by
    show st.map (av_v w) = _
    rw [hst, List.map_append, List.map_reverse]
  have hR2 : (am_rm d2 mc ms).frames + 1 ≤ R.frames ∧ 8 + (M2.2.2.1 + 11) + (am_rm d2 mc ms).locals ≤ R.locals := ⟨by show d2 + 1 ≤ _; omega, by show 8 + (M2.2.2.1 + 11) + (60 * d2 + 20) ≤ _; omega⟩
  have hf : cells + mc ≤ R.cells ∧ slots + ms ≤ R.slots := ⟨by omega, by omega⟩
  have run : va_Run p (aw_l w) e R s m args below meth c H locs cells slots mc ms (F0 m pc ls (st.map (av_v w))) (rest.map (av_v w)) (am_Qc w P2 (As.map (av_v w)).toArray) (aw_N w) := by
    rcases w5 with w5 | ⟨host, w5⟩
    · exact va_runS (Ts := tt_g) ⟨hx, hb, hml, hown, hts⟩ hM ⟨callB_of k hts (tt_goodG w1) rfl rfl rfl (hts _ w2) (hts _ w5) w3 hR2, hts _ w6⟩ hp rfl (by rw [List.length_map]; exact hlen) hL.2.1 hstk (lv_room (ai_wc w hrl)) hd hf
    · exact va_runSN (Ts := tt_g) ⟨hx, hb, hml, hown, hts⟩ hM ⟨va_cnB k hts (tt_goodG w1) rfl rfl rfl (hK.2.1 _ w5) (hts _ w2) w3 hR2, hts _ w6, trivial⟩ hp rfl (by rw [List.length_map]; exact hlen) hL.2.1 hstk (lv_room (ai_wc w hrl)) hd hf
  refine am_goes run hS (fun r h' H1 locs1 hp2 hR1 hS1 => ?_)
  have kw := kk r h' hp2 p e R s m args below meth c Q hC0 hQ H1 locs1 (cells + mc) (slots + ms) ls hR1 hS1 hL (by omega) (by omega)
  rw [List.map_append] at kw
  cases r <;> exact kw
theorem ag_callV {a ci : Nat} {fs : List av_T} {T : u_T} {N : Nat} (hd : ad_D M pc (.invokevirtual idx) 3 n) (hc : ai_B M.1.cls idx M2 k ∧ Cond.instanceMethod M2.1 ∈ tt_g ∧ Cond.selects M2.1.cls M2.1 M2.1 ∈ tt_g) (hcell : h[a]? = some (ac_o ci fs)) (hci : cs_all[ci]? = some (M2.1.cls, T, N)) (hM : am_M w M2 d2 (av_r a :: As) h mc ms P2) (hst : st = As.reverse ++ av_r a :: rest) (hlen : As.length = k) (hd2 : d2 + 1 ≤ d) (hrl : rest.length ≤ 4) (hkc : mc + kc' ≤ kc) (hks : ms + ks' ≤ ks)
    (kk : ∀ (r : Option av_T) (h' : ah_T), P2 r h' → aw_W w M d P n L (r.toList ++ rest) h' kc' ks') : aw_W w M d P pc L st h kc ks := by
  intro p e R s m args below meth c Q hC hQ H locs cells slots ls hH hS hL hk1 hk2
  obtain ⟨hd, rfl⟩ := hd
  have hC0 := hC
  obtain ⟨hx, hb, hr, hml, hown, hts, hK, hlk, hnm, hfr, hlo, hX, hbs⟩ := hC
  obtain ⟨⟨w1, w2, w3, w4, w5⟩, w6, w7⟩ := hc
  have hp : PreV s H M2.1.cls (aw_o w + a) (am_Pc w (av_r a :: As) h) (As.map (av_v w)) := ⟨am_blind w _ h, va_recv hK.1 (ah_one hH hcell) hci (q0 := 0) rfl, am_pre hK hH hX hbs hS⟩
  have hstk : (F0 m pc ls (st.map (av_v w))).stack = (As.map (av_v w)).reverse ++ .ref (aw_o w + a) :: rest.map (av_v w) := by
    show st.map (av_v w) = _
    rw [hst, List.map_append, List.map_reverse]
    rfl
  have hR2 : (am_rm d2 mc ms).frames + 1 ≤ R.frames ∧ 8 + (M2.2.2.1 + 11) + (am_rm d2 mc ms).locals ≤ R.locals := ⟨by show d2 + 1 ≤ _; omega, by show 8 + (M2.2.2.1 + 11) + (60 * d2 + 20) ≤ _; omega⟩
  have hf : cells + mc ≤ R.cells ∧ slots + ms ≤ R.slots := ⟨by omega, by omega⟩
  have run : va_Run p (aw_l w) e R s m args below meth c H locs cells slots mc ms (F0 m pc ls (st.map (av_v w))) (rest.map (av_v w)) (am_Qc w P2 (Value.ref (aw_o w + a) :: As.map (av_v w)).toArray) (aw_N w) := by
    rcases w5 with w5 | ⟨host, w5⟩
    · exact va_runV (Ts := tt_g) ⟨hx, hb, hml, hown, hts⟩ hM ⟨callB_of k hts (tt_goodG w1) rfl rfl rfl (hts _ w2) (hts _ w5) w3 hR2, hts _ w6, hts _ w7⟩ hp rfl (by rw [List.length_map]; exact hlen) hL.2.1 hstk (lv_room (ai_wc w hrl)) hd hf
    · exact va_runVN (Ts := tt_g) ⟨hx, hb, hml, hown, hts⟩ hM ⟨va_cnB k hts (tt_goodG w1) rfl rfl rfl (hK.2.1 _ w5) (hts _ w2) w3 hR2, hts _ w6, hts _ w7⟩ hp rfl (by rw [List.length_map]; exact hlen) hL.2.1 hstk (lv_room (ai_wc w hrl)) hd hf
  refine am_goes run hS (fun r h' H1 locs1 hp2 hR1 hS1 => ?_)
  have kw := kk r h' hp2 p e R s m args below meth c Q hC0 hQ H1 locs1 (cells + mc) (slots + ms) ls hR1 hS1 hL (by omega) (by omega)
  rw [List.map_append] at kw
  cases r <;> exact kw
theorem ag_callI {a : Nat} (hd : ad_D M pc (.invokespecial idx) 3 n) (hc : ai_B M.1.cls idx M2 k ∧ Cond.instanceMethod M2.1 ∈ tt_g ∧ M2.1.name = "<init>" ∧ M2.2.2.2 = none) (hM : am_M w M2 d2 (av_r a :: As) h mc ms P2) (hst : st = As.reverse ++ av_r a :: rest) (hlen : As.length = k) (hd2 : d2 + 1 ≤ d) (hrl : rest.length ≤ 4) (hkc : mc + kc' ≤ kc) (hks : ms + ks' ≤ ks)
    (kk : ∀ (r : Option av_T) (h' : ah_T), P2 r h' → aw_W w M d P n L (r.toList ++ rest) h' kc' ks') : aw_W w M d P pc L st h kc ks := by
  intro p e R s m args below meth c Q hC hQ H locs cells slots ls hH hS hL hk1 hk2
  obtain ⟨hd, rfl⟩ := hd
  have hC0 := hC
  obtain ⟨hx, hb, hr, hml, hown, hts, hK, hlk, hnm, hfr, hlo, hX, hbs⟩ := hC
  obtain ⟨⟨w1, w2, w3, w4, w5⟩, w6, w7, w8⟩ := hc
  obtain ⟨y2, b2, l2, r2⟩ := M2
  dsimp only at w8 w7 w6 w5 w4 w3 w2 w1
  subst w8
  have hp : PreS s H (am_Pc w (av_r a :: As) h) (.ref (aw_o w + a) :: As.map (av_v w)) := ⟨am_blind w _ h, am_pre hK hH hX hbs hS⟩
  have hstk : (F0 m pc ls (st.map (av_v w))).stack = (As.map (av_v w)).reverse ++ .ref (aw_o w + a) :: rest.map (av_v w) := by
    show st.map (av_v w) = _
    rw [hst, List.map_append, List.map_reverse]
    rfl
  have hR2 : (am_rm d2 mc ms).frames + 1 ≤ R.frames ∧ 8 + (l2 + 11) + (am_rm d2 mc ms).locals ≤ R.locals := ⟨by show d2 + 1 ≤ _; omega, by show 8 + (l2 + 11) + (60 * d2 + 20) ≤ _; omega⟩
  have hf : cells + mc ≤ R.cells ∧ slots + ms ≤ R.slots := ⟨by omega, by omega⟩
  have run : va_Run p (aw_l w) e R s m args below meth c H locs cells slots mc ms (F0 m pc ls (st.map (av_v w))) (rest.map (av_v w)) (am_Qc w P2 (Value.ref (aw_o w + a) :: As.map (av_v w)).toArray) (aw_N w) := by
    rcases w5 with w5 | ⟨host, w5⟩
    · exact va_runI (Ts := tt_g) ⟨hx, hb, hml, hown, hts⟩ hM ⟨callB_of k hts (tt_goodG w1) rfl rfl rfl (hts _ w2) (hts _ w5) w3 hR2, w7, hts _ w6⟩ hp rfl (by rw [List.length_map]; exact hlen) hL.2.1 hstk (lv_room (ai_wc w hrl)) hd hf
    · exact va_runIN (Ts := tt_g) ⟨hx, hb, hml, hown, hts⟩ hM ⟨va_cnB k hts (tt_goodG w1) rfl rfl rfl (hK.2.1 _ w5) (hts _ w2) w3 hR2, w7, hts _ w6⟩ hp rfl (by rw [List.length_map]; exact hlen) hL.2.1 hstk (lv_room (ai_wc w hrl)) hd hf
  refine am_goes run hS (fun r h' H1 locs1 hp2 hR1 hS1 => ?_)
  have kw := kk r h' hp2 p e R s m args below meth c Q hC0 hQ H1 locs1 (cells + mc) (slots + ms) ls hR1 hS1 hL (by omega) (by omega)
  rw [List.map_append] at kw
  cases r <;> exact kw
end CALLS
-- java.lang.Math
section MATH
variable {w : aw_T} {M : am_T} {d : Nat} {P : ap_T} {pc n : Nat} {L : al_T} {st : List av_T} {h : ah_T} {kc ks : Nat} {idx : Nat} {a b : Int}
theorem ag_max (hd : ad_D M pc (.invokestatic idx) 3 n) (h1 : Cond.methodLink M.1.cls idx Lib.Math.max.name ∈ tt_g) (h2 : Cond.static Lib.Math.max.name ∈ tt_g) (h3 : Cond.initialized "java/lang/Math" ∈ tt_g) (h4 : Cond.code Lib.Math.max.name Lib.Math.max.code 2 (some .int) ∈ tt_g) (ha : -2147483648 ≤ a ∧ a < 2147483648) (hb : -2147483648 ≤ b ∧ b < 2147483648) (hd1 : 1 ≤ d) (hrl : st.length ≤ 3) (kk : aw_W w M d P n L (av_i (max a b) :: st) h kc ks) : aw_W w M d P pc L (av_i b :: av_i a :: st) h kc ks := by
  intro p e R s m args below meth c Q hC hQ H locs cells slots ls hH hS hL hk1 hk2
  obtain ⟨hd, rfl⟩ := hd
  have kw := kk p e R s m args below meth c Q hC hQ H locs cells slots ls hH hS hL hk1 hk2
  obtain ⟨hx, hbb, hr, hml, hown, hts, hK, hlk, hnm, hfr, hlo, hX, hbs⟩ := hC
  have hsum := av_sum w st
  refine va_mmax hx hbb (hml.trans hL.2.1.symm) hown (hts _ h1) (hts _ h2) (hts _ h3) (hts _ h4) (by omega) (by omega) (by omega) (by omega) hd ?_
  have e : (if Int32.ofInt a < Int32.ofInt b then Int32.ofInt b else Int32.ofInt a) = Int32.ofInt (max a b) := by
    by_cases q : a < b
    · rw [if_pos ((ai_lt ha hb).mpr q), Int.max_eq_right (by omega)]
    · rw [if_neg (fun z => q ((ai_lt ha hb).mp z)), Int.max_eq_left (by omega)]
  rw [e]
  exact kw
theorem ag_min (hd : ad_D M pc (.invokestatic idx) 3 n) (h1 : Cond.methodLink M.1.cls idx Lib.Math.min.name ∈ tt_g) (h2 : Cond.static Lib.Math.min.name ∈ tt_g) (h3 : Cond.initialized "java/lang/Math" ∈ tt_g) (h4 : Cond.code Lib.Math.min.name Lib.Math.min.code 2 (some .int) ∈ tt_g) (ha : -2147483648 ≤ a ∧ a < 2147483648) (hb : -2147483648 ≤ b ∧ b < 2147483648) (hd1 : 1 ≤ d) (hrl : st.length ≤ 3) (kk : aw_W w M d P n L (av_i (min a b) :: st) h kc ks) : aw_W w M d P pc L (av_i b :: av_i a :: st) h kc ks := by
  intro p e R s m args below meth c Q hC hQ H locs cells slots ls hH hS hL hk1 hk2
  obtain ⟨hd, rfl⟩ := hd
  have kw := kk p e R s m args below meth c Q hC hQ H locs cells slots ls hH hS hL hk1 hk2
  obtain ⟨hx, hbb, hr, hml, hown, hts, hK, hlk, hnm, hfr, hlo, hX, hbs⟩ := hC
  have hsum := av_sum w st
  refine va_mmin hx hbb (hml.trans hL.2.1.symm) hown (hts _ h1) (hts _ h2) (hts _ h3) (hts _ h4) (by omega) (by omega) (by omega) (by omega) hd ?_
  have e : (if Int32.ofInt b < Int32.ofInt a then Int32.ofInt b else Int32.ofInt a) = Int32.ofInt (min a b) := by
    by_cases q : b < a
    · rw [if_pos ((ai_lt hb ha).mpr q), Int.min_eq_right (by omega)]
    · rw [if_neg (fun z => q ((ai_lt hb ha).mp z)), Int.min_eq_left (by omega)]
  rw [e]
  exact kw
theorem ag_abs (hd : ad_D M pc (.invokestatic idx) 3 n) (h1 : Cond.methodLink M.1.cls idx Lib.Math.abs.name ∈ tt_g) (h2 : Cond.static Lib.Math.abs.name ∈ tt_g) (h3 : Cond.initialized "java/lang/Math" ∈ tt_g) (h4 : Cond.code Lib.Math.abs.name Lib.Math.abs.code 1 (some .int) ∈ tt_g) (ha : -2147483648 ≤ a ∧ a < 2147483648) (hd1 : 1 ≤ d) (hrl : st.length ≤ 3) (kk : aw_W w M d P n L (av_i (if 0 ≤ a then a else -a) :: st) h kc ks) : aw_W w M d P pc L (av_i a :: st) h kc ks := by
  intro p e R s m args below meth c Q hC hQ H locs cells slots ls hH hS hL hk1 hk2
  obtain ⟨hd, rfl⟩ := hd
  have kw := kk p e R s m args below meth c Q hC hQ H locs cells slots ls hH hS hL hk1 hk2
  obtain ⟨hx, hbb, hr, hml, hown, hts, hK, hlk, hnm, hfr, hlo, hX, hbs⟩ := hC
  have hsum := av_sum w st
  refine va_mabs hx hbb (hml.trans hL.2.1.symm) hown (hts _ h1) (hts _ h2) (hts _ h3) (hts _ h4) (by omega) (by omega) (by omega) (by omega) hd ?_
  have e : (if 0 ≤ Int32.ofInt a then Int32.ofInt a else 0 - Int32.ofInt a) = Int32.ofInt (if 0 ≤ a then a else -a) := by
    have hz : (0 : Int32) ≤ Int32.ofInt a ↔ 0 ≤ a := ai_le (a := 0) (by omega) ha
    by_cases q : 0 ≤ a
    · rw [if_pos (hz.mpr q), if_pos q]
    · rw [if_neg (fun z => q (hz.mp z)), if_neg q, Int32.ofInt_neg]
      simp
  rw [e]
  exact kw
theorem ag_maxl (hd : ad_D M pc (.invokestatic idx) 3 n) (h1 : Cond.methodLink M.1.cls idx Lib.MathLoose.max_long.x ∈ tt_g) (h2 : Cond.static Lib.MathLoose.max_long.x ∈ tt_g) (h3 : Cond.initialized "java/lang/Math" ∈ tt_g) (h4 : Cond.code Lib.MathLoose.max_long.x Lib.MathLoose.max_long.code 4 (some .long) ∈ tt_g) (ha : -9223372036854775808 ≤ a ∧ a < 9223372036854775808) (hb : -9223372036854775808 ≤ b ∧ b < 9223372036854775808) (hd1 : 1 ≤ d) (hrl : st.length ≤ 3) (kk : aw_W w M d P n L (av_l (max a b) :: st) h kc ks) : aw_W w M d P pc L (av_l b :: av_l a :: st) h kc ks := by
  intro p e R s m args below meth c Q hC hQ H locs cells slots ls hH hS hL hk1 hk2
  obtain ⟨hd, rfl⟩ := hd
  have kw := kk p e R s m args below meth c Q hC hQ H locs cells slots ls hH hS hL hk1 hk2
  obtain ⟨hx, hbb, hr, hml, hown, hts, hK, hlk, hnm, hfr, hlo, hX, hbs⟩ := hC
  have hsum := av_sum w st
  refine va_mmax_long hx hbb (hml.trans hL.2.1.symm) hown (hts _ h1) (hts _ h2) (hts _ h3) (hts _ h4) (by omega) (by omega) (by omega) (by omega) hd ?_
  have e : (if Int64.ofInt b < Int64.ofInt a then Int64.ofInt a else Int64.ofInt b) = Int64.ofInt (max a b) := by
    by_cases q : b < a
    · rw [if_pos ((al_lt hb ha).mpr q), Int.max_eq_left (by omega)]
    · rw [if_neg (fun z => q ((al_lt hb ha).mp z)), Int.max_eq_right (by omega)]
  rw [e]
  exact kw
theorem ag_minl (hd : ad_D M pc (.invokestatic idx) 3 n) (h1 : Cond.methodLink M.1.cls idx Lib.MathLoose.min_long.x ∈ tt_g) (h2 : Cond.static Lib.MathLoose.min_long.x ∈ tt_g) (h3 : Cond.initialized "java/lang/Math" ∈ tt_g) (h4 : Cond.code Lib.MathLoose.min_long.x Lib.MathLoose.min_long.code 4 (some .long) ∈ tt_g) (ha : -9223372036854775808 ≤ a ∧ a < 9223372036854775808) (hb : -9223372036854775808 ≤ b ∧ b < 9223372036854775808) (hd1 : 1 ≤ d) (hrl : st.length ≤ 3) (kk : aw_W w M d P n L (av_l (min a b) :: st) h kc ks) : aw_W w M d P pc L (av_l b :: av_l a :: st) h kc ks := by
  intro p e R s m args below meth c Q hC hQ H locs cells slots ls hH hS hL hk1 hk2
  obtain ⟨hd, rfl⟩ := hd
  have kw := kk p e R s m args below meth c Q hC hQ H locs cells slots ls hH hS hL hk1 hk2
  obtain ⟨hx, hbb, hr, hml, hown, hts, hK, hlk, hnm, hfr, hlo, hX, hbs⟩ := hC
  have hsum := av_sum w st
  refine va_mmin_long hx hbb (hml.trans hL.2.1.symm) hown (hts _ h1) (hts _ h2) (hts _ h3) (hts _ h4) (by omega) (by omega) (by omega) (by omega) hd ?_
  have e : (if Int64.ofInt b < Int64.ofInt a then Int64.ofInt b else Int64.ofInt a) = Int64.ofInt (min a b) := by
    by_cases q : b < a
    · rw [if_pos ((al_lt hb ha).mpr q), Int.min_eq_right (by omega)]
    · rw [if_neg (fun z => q ((al_lt hb ha).mp z)), Int.min_eq_left (by omega)]
  rw [e]
  exact kw
end MATH

