-- ===== int[n][k] =====
theorem aq_outer (c : ClassId) (N h0 : Nat) : ∀ i : Nat, Jvm.Free.Multi.outerC c N h0 i = arrV c N (fun j => if j < i then Value.ref (h0 + 1 + j) else Value.null) := by
  intro i
  induction i with
  | zero =>
    show ({ cls := c, slots := Array.replicate N .null, vm := .none } : Cell) = _
    rw [arrV_new]
    exact congrArg (arrV c N) (funext fun j => by simp)
  | succ i ih =>
    show (Jvm.Free.Multi.outerC c N h0 i).setSlot i (.ref (h0 + 1 + i)) = _
    rw [ih, arrV_store]
    refine congrArg (arrV c N) (funext fun j => ?_)
    by_cases e : j = i
    · subst e
      simp [updV]
    · by_cases q : j < i
      · simp [updV, e, q, Nat.lt_succ_of_lt q]
      · simp [updV, e, q, show ¬ j < i + 1 by omega]
theorem aq_clamp {x : Nat} (hx : x ≤ 1000000) : (¬ Int32.ofInt (x : Int) < 0) ∧ (Int32.ofInt (x : Int)).toNatClampNeg = x := by
  have h1 : (Int32.ofInt (x : Int)).toNatClampNeg = x := by
    rw [Int32.toNatClampNeg_ofInt_of_le (n := (x : Int)) (by omega) (by omega)]
    omega
  refine ⟨?_, h1⟩
  have h2 : (Int32.ofInt (x : Int)).toInt = x := Int32.toInt_ofInt_of_le (by omega) (by omega)
  rw [Int32.lt_iff_toInt_lt, h2]
  show ¬ (x : Int) < 0
  omega
theorem ag_mna {w : aw_T} {M : am_T} {d : Nat} {P : ap_T} {pc n : Nat} {L : al_T} {st : List av_T} {h : ah_T} {kc ks kc' ks' : Nat} {idx N K : Nat} (hd : ad_D M pc (.multianewarray idx 2) 4 n) (h1 : Cond.classLink M.1.cls idx ("[" ++ (FieldType.array .int).toString) ∈ tt_g) (h3 : Cond.arrayClass .int ∈ tt_g) (hN : N ≤ 1000000) (hK2 : K ≤ 1000000) (hkc : kc' + (1 + N) ≤ kc) (hks : ks' + (N + N * K) ≤ ks) (kk : aw_W w M d P n L (av_r h.length :: st) (h ++ (ac_q N (fun i => if i < N then some (h.length + 1 + i) else none) :: List.replicate N (ac_a 0 K (fun _ => 0)))) kc' ks') : aw_W w M d P pc L (av_i (K : Int) :: av_i (N : Int) :: st) h kc ks := by
  intro p e R s m args below meth c Q hC hQ H locs cells slots ls hH hS hL hk1 hk2
  obtain ⟨hd, rfl⟩ := hd
  have hC0 := hC
  obtain ⟨hx, hb, hr, hml, hown, hts, hK, -⟩ := hC
  obtain ⟨n1, n2⟩ := aq_clamp hN
  obtain ⟨k1, k2⟩ := aq_clamp hK2
  intro T hT Xs
  obtain ⟨vm₁, cA, comp, -, fA, fC, hO, -, X', step⟩ := Jvm.Stand.multianewarray2F Xs hx hown (hts _ h1) hK.2.2 (hts _ h3) (g := F0 m pc ls (.int (Int32.ofInt (K : Int)) :: .int (Int32.ofInt (N : Int)) :: st.map (av_v w))) rfl (by rw [hb]; exact hd) rfl n1 k1 (by rw [n2]; omega) (by rw [k2]; show K * 4 ≤ _; omega) (by rw [k2]; omega) rfl rfl (by rw [n2]; omega) (by rw [n2, k2]; omega)
  rw [n2, k2] at X' step
  have c4 : aw_A w 4 = cA := Option.some.inj ((hK.1.2 4 _ rfl).2.symm.trans fA)
  have c0 : aw_A w 0 = comp := Option.some.inj ((hK.1.2 0 _ rfl).2.symm.trans fC)
  generalize hF : Jvm.Free.Multi.fill (T.setVm vm₁) cA comp N K (defaultValue .int) N = F at X' step
  have hTh : (T.setVm vm₁).heap = H := hT
  obtain ⟨f1, f2, -, -⟩ := Jvm.Free.Multi.fill_facts (T.setVm vm₁) cA comp N K (defaultValue .int) N
  rw [hF, hTh] at f1 f2
  have hold : ∀ x : Nat, x < H.size → F.heap[x]? = H[x]? := fun x hx => by
    have := Jvm.Free.Multi.fill_old (T.setVm vm₁) cA comp N K (defaultValue .int) (a := x) (by rw [hTh]; exact hx) N
    rw [hF, hTh] at this
    exact this
  have hrow : ∀ j : Nat, j < N → F.heap[H.size + 1 + j]? = some (Jvm.Free.Multi.innerC comp K (defaultValue .int)) := fun j hj => by
    have := Jvm.Free.Multi.fill_inner (T.setVm vm₁) cA comp N K (defaultValue .int) N j hj
    rw [hF, hTh] at this
    exact this
  have hsz := hH.1
  have hR : ah_R w (h ++ (ac_q N (fun i => if i < N then some (h.length + 1 + i) else none) :: List.replicate N (ac_a 0 K (fun _ => 0)))) F.heap := by
    refine ⟨by rw [f1, hsz, List.length_append, List.length_cons, List.length_replicate]; omega, fun j x hj => ?_⟩
    by_cases e : j < h.length
    · rw [List.getElem?_append_left e] at hj
      exact (hH.2 j x hj).kept (hold _ (by show aw_o w + j < H.size; rw [hsz]; omega))
    · rw [List.getElem?_append_right (by omega)] at hj
      by_cases e2 : j = h.length
      · subst e2
        rw [Nat.sub_self] at hj
        cases hj
        show F.heap[aw_o w + h.length]? = some (vp_cell (aw_A w 4) (N, .inr (.inr (.inr (.inr (fun i => (if i < N then some (h.length + 1 + i) else none).map (fun k => aw_o w + k)))))))
        rw [← hsz, f2, aq_outer, vp_cell_q, c4]
        refine congrArg (fun q => some (arrV cA N q)) (funext fun i => ?_)
        by_cases q : i < N
        · rw [if_pos q, if_pos q]
          show Value.ref (H.size + 1 + i) = Value.ref (aw_o w + (h.length + 1 + i))
          have en : (H.size + 1 + i : Nat) = aw_o w + (h.length + 1 + i) := by omega
          rw [en]
        · rw [if_neg q, if_neg q]
          rfl
      · obtain ⟨i, hi⟩ : ∃ i, j - h.length = i + 1 := ⟨j - h.length - 1, by omega⟩
        rw [hi, List.getElem?_cons_succ] at hj
        have hm := List.mem_of_getElem? hj
        have hlt : i < N := by
          have := (List.getElem?_eq_some_iff.mp hj).1
          rw [List.length_replicate] at this
          exact this
        obtain rfl := (List.mem_replicate.mp hm).2
        show F.heap[aw_o w + j]? = some (vp_cell (aw_A w 0) (K, .inl (fun _ => Int32.ofInt 0)))
        rw [show aw_o w + j = H.size + 1 + i by rw [hsz]; omega, hrow i hlt, vp_cell_i, c0]
        show some ({ cls := comp, slots := Array.replicate K (defaultValue .int), vm := .none } : Cell) = _
        rw [arrV_new]
        rfl
  have hS2 : va_S (aw_N w) s.heap F.heap locs := ⟨Nat.le_trans hS.1 (by rw [f1]; omega), fun x q1 q2 => (hold x (Nat.lt_of_lt_of_le q1 hS.1)).trans (hS.2.1 x q1 q2), hS.2.2⟩
  obtain ⟨t, a1, b1⟩ := kk p e R s m args below meth c Q hC0 hQ F.heap locs (cells + 1 + N) (slots + N + N * K) ls hR hS2 hL (by omega) (by omega) F rfl X'
  refine ⟨t, step t ?_, b1⟩
  rw [hT, hsz]
  exact a1
