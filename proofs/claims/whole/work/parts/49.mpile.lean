def ou_ (S : ms_T) (n : Nat) : List (Int × Int) := (List.range n).map (fun j => (S.2 69 (128 + j), S.2 70 (128 + j)))
/-- the pile p, what is written u, the levels o and whether an operand has ended (z), in a state -/
def md_ (S : ms_T) (p : List Int) (u : List (Int × Int)) (o z : Int) : Prop := (S.1 55 = (p.length : Int) ∧ pl_of (S.2 71) p.length = p ∧ ∀ q ∈ p, 0 ≤ q ∧ q ≤ 24) ∧ (S.1 53 = (u.length : Int) ∧ ou_ S u.length = u) ∧ S.1 54 = o ∧ S.1 57 = z
/-- only what the reading of a text changes has changed -/
def fr_ (S S1 : ms_T) : Prop := (∀ k, ¬ (49 ≤ k ∧ k ≤ 55) → k ≠ 57 → S1.1 k = S.1 k) ∧ (∀ a, a ≠ 69 → a ≠ 70 → a ≠ 71 → S1.2 a = S.2 a) ∧ ∀ i, i < 128 → S1.2 69 i = S.2 69 i ∧ S1.2 70 i = S.2 70 i
/-- the token that was read is the same -/
def kt_ (S S1 : ms_T) : Prop := ∀ k, 49 ≤ k → k ≤ 52 → S1.1 k = S.1 k
theorem fr_rf (S : ms_T) : fr_ S S := ⟨fun _ _ _ => rfl, fun _ _ _ _ => rfl, fun _ _ => ⟨rfl, rfl⟩⟩
theorem kt_rf (S : ms_T) : kt_ S S := fun _ _ _ => rfl
theorem fr_tr {S S1 S2 : ms_T} (h : fr_ S S1) (g : fr_ S1 S2) : fr_ S S2 := ⟨fun k a b => (g.1 k a b).trans (h.1 k a b), fun k a b c => (g.2.1 k a b c).trans (h.2.1 k a b c), fun i hi => ⟨(g.2.2 i hi).1.trans (h.2.2 i hi).1, (g.2.2 i hi).2.trans (h.2.2 i hi).2⟩⟩
theorem kt_tr {S S1 S2 : ms_T} (h : kt_ S S1) (g : kt_ S1 S2) : kt_ S S2 := fun k a b => (g k a b).trans (h k a b)
theorem fr_nx {S S1 : ms_T} (h : nx_ S S1) : fr_ S S1 := ⟨fun k a b => h.2 k (by omega), fun k _ _ _ => by rw [h.1], fun i _ => ⟨by rw [h.1], by rw [h.1]⟩⟩
theorem fr_put {S S2 : ms_T} {k : Nat} {v : Int} (e : S2 = (ai_up S.1 k v, S.2)) (hk : (49 ≤ k ∧ k ≤ 55) ∨ k = 57) : fr_ S S2 := by
  subst e
  refine ⟨fun j a b => ?_, fun _ _ _ _ => rfl, fun _ _ => ⟨rfl, rfl⟩⟩
  show ai_up S.1 k v j = _
  rw [ai_up_n _ _ (by omega)]
theorem kt_put {S S2 : ms_T} {k : Nat} {v : Int} (e : S2 = (ai_up S.1 k v, S.2)) (hk : ¬ (49 ≤ k ∧ k ≤ 52)) : kt_ S S2 := by
  subst e
  intro j a b
  show ai_up S.1 k v j = _
  rw [ai_up_n _ _ (by omega)]
theorem md_nx {S S1 : ms_T} {p : List Int} {u : List (Int × Int)} {o z : Int} (h : md_ S p u o z) (g : nx_ S S1) : md_ S1 p u o z := by
  unfold md_ ou_ at h ⊢
  rw [g.1, g.2 55 (by decide), g.2 53 (by decide), g.2 54 (by decide), g.2 57 (by decide)]
  exact h
theorem md_57 {S S2 : ms_T} {p : List Int} {u : List (Int × Int)} {o z v : Int} (h : md_ S p u o z) (e : S2 = (ai_up S.1 57 v, S.2)) : md_ S2 p u o v := by
  subst e
  exact ⟨h.1, h.2.1, h.2.2.1, rfl⟩
theorem md_54 {S S2 : ms_T} {p : List Int} {u : List (Int × Int)} {o z v : Int} (h : md_ S p u o z) (e : S2 = (ai_up S.1 54 v, S.2)) : md_ S2 p u v z := by
  subst e
  exact ⟨h.1, h.2.1, rfl, h.2.2.2⟩
theorem md_top {S : ms_T} {p : List Int} {u : List (Int × Int)} {o z q : Int} (h : md_ S (q :: p) u o z) : S.1 55 = (p.length : Int) + 1 ∧ S.2 71 (S.1 55 - 1).toNat = q ∧ (0 ≤ q ∧ q ≤ 24) := by
  obtain ⟨⟨h1, h2, h3⟩, -⟩ := h
  rw [List.length_cons] at h1 h2
  rw [pl_of] at h2
  have := (List.cons.inj h2).1
  refine ⟨by omega, ?_, h3 q (by simp)⟩
  rw [show (S.1 55 - 1).toNat = p.length by omega]
  exact this
theorem md_pop {S S2 : ms_T} {p : List Int} {u : List (Int × Int)} {o z q : Int} (h : md_ S (q :: p) u o z) (e : S2 = (ai_up S.1 55 (S.1 55 - 1), S.2)) : md_ S2 p u o z ∧ S2.2 71 (S2.1 55).toNat = q := by
  have ht := md_top h
  obtain ⟨⟨h1, h2, h3⟩, h4⟩ := h
  subst e
  rw [List.length_cons] at h1 h2
  rw [pl_of] at h2
  refine ⟨⟨⟨?_, (List.cons.inj h2).2, fun q hq => h3 q (by simp [hq])⟩, h4⟩, ht.2.1⟩
  show S.1 55 - 1 = _
  omega
def em_ (S : ms_T) (a b : Int) : ms_T := (ai_up S.1 53 (S.1 53 + 1), ai_up (ai_up S.2 69 (ai_up (S.2 69) (128 + S.1 53).toNat a)) 70 (ai_up (S.2 70) (128 + S.1 53).toNat b))
theorem md_em {S : ms_T} {p : List Int} {u : List (Int × Int)} {o z : Int} (h : md_ S p u o z) (a b : Int) : md_ (em_ S a b) p (u ++ [(a, b)]) o z ∧ fr_ S (em_ S a b) ∧ kt_ S (em_ S a b) := by
  obtain ⟨h1, ⟨h2, h3⟩, h4⟩ := h
  have hi : (128 + S.1 53).toNat = 128 + u.length := by omega
  have e69 : (em_ S a b).2 69 = ai_up (S.2 69) (128 + u.length) a := by rw [← hi]; rfl
  have e70 : (em_ S a b).2 70 = ai_up (S.2 70) (128 + u.length) b := by rw [← hi]; rfl
  refine ⟨⟨h1, ⟨?_, ?_⟩, h4⟩, ⟨fun k q1 q2 => ?_, fun k q1 q2 q3 => ?_, fun i q => ?_⟩, fun k q1 q2 => ?_⟩
  · show S.1 53 + 1 = _
    rw [List.length_append, List.length_singleton]
    omega
  · unfold ou_
    rw [e69, e70, List.length_append, List.length_singleton, List.range_succ, List.map_append, List.map_singleton, ai_up_s, ai_up_s]
    refine congrArg (· ++ [(a, b)]) ?_
    rw [← h3, ou_, List.length_map, List.length_range]
    refine List.map_congr_left (fun j hj => ?_)
    have hj2 := List.mem_range.mp hj
    rw [ai_up_n _ _ (by omega), ai_up_n _ _ (by omega)]
  · show ai_up S.1 53 (S.1 53 + 1) k = _
    rw [ai_up_n _ _ (by omega)]
  · show ai_up (ai_up S.2 69 _) 70 _ k = _
    rw [ai_up_n _ _ q2, ai_up_n _ _ q1]
  · rw [e69, e70, ai_up_n _ _ (by omega), ai_up_n _ _ (by omega)]
    exact ⟨rfl, rfl⟩
  · show ai_up S.1 53 (S.1 53 + 1) k = _
    rw [ai_up_n _ _ (by omega)]
def pu_ (S : ms_T) (q : Int) : ms_T := (ai_up S.1 55 (S.1 55 + 1), ai_up S.2 71 (ai_up (S.2 71) (S.1 55).toNat q))
theorem md_pu {S : ms_T} {p : List Int} {u : List (Int × Int)} {o z : Int} (h : md_ S p u o z) {q : Int} (hq : 0 ≤ q ∧ q ≤ 24) : md_ (pu_ S q) (q :: p) u o z ∧ fr_ S (pu_ S q) ∧ kt_ S (pu_ S q) := by
  obtain ⟨⟨h1, h2, h3⟩, h4⟩ := h
  have hi : (S.1 55).toNat = p.length := by omega
  have e71 : (pu_ S q).2 71 = ai_up (S.2 71) p.length q := by rw [← hi]; rfl
  refine ⟨⟨⟨?_, ?_, ?_⟩, h4⟩, ⟨fun k q1 q2 => ?_, fun k q1 q2 q3 => ?_, fun i q => ⟨rfl, rfl⟩⟩, fun k q1 q2 => ?_⟩
  · show S.1 55 + 1 = _
    rw [List.length_cons]
    omega
  · rw [e71, List.length_cons, pl_push, h2]
  · intro x hx
    rcases List.mem_cons.mp hx with hx | hx
    · rw [hx]; exact hq
    · exact h3 x hx
  · show ai_up S.1 55 (S.1 55 + 1) k = _
    rw [ai_up_n _ _ (by omega)]
  · show ai_up S.2 71 _ k = _
    rw [ai_up_n _ _ q3]
  · show ai_up S.1 55 (S.1 55 + 1) k = _
    rw [ai_up_n _ _ (by omega)]
/-- the top of the pile is set anew -/
theorem md_set {S S2 : ms_T} {p : List Int} {u : List (Int × Int)} {o z q v : Int} (h : md_ S (q :: p) u o z) (hv : 0 ≤ v ∧ v ≤ 24) (e : S2 = (S.1, ai_up S.2 71 (ai_up (S.2 71) (S.1 55 - 1).toNat v))) : md_ S2 (v :: p) u o z ∧ fr_ S S2 ∧ kt_ S S2 := by
  have ht := md_top h
  obtain ⟨⟨h1, h2, h3⟩, h4⟩ := h
  subst e
  have hi : (S.1 55 - 1).toNat = p.length := by omega
  rw [List.length_cons] at h1 h2
  rw [pl_of] at h2
  have h5 := (List.cons.inj h2).2
  refine ⟨⟨⟨?_, ?_, ?_⟩, h4⟩, ⟨fun k q1 q2 => rfl, fun k q1 q2 q3 => ?_, fun i q => ⟨rfl, rfl⟩⟩, fun k q1 q2 => rfl⟩
  · show S.1 55 = _
    rw [List.length_cons]
    omega
  · show pl_of (ai_up (S.2 71) (S.1 55 - 1).toNat v) _ = _
    rw [hi, List.length_cons, pl_push, h5]
  · intro x hx
    rcases List.mem_cons.mp hx with hx | hx
    · rw [hx]; exact hv
    · exact h3 x (by simp [hx])
  · show ai_up S.2 71 _ k = _
    rw [ai_up_n _ _ q3]
theorem mw_len : ∀ (p : List Int) (u : List (Int × Int)) (o : Int), (mw_ p u o).1.length + (mw_ p u o).2.1.length = p.length + u.length ∧ (mw_ p u o).2.2 + (mw_ p u o).2.1.length = o + u.length ∧ u.length ≤ (mw_ p u o).2.1.length
  | [], u, o => ⟨rfl, rfl, Nat.le_refl _⟩
  | q :: p, u, o => by
    rw [mw_]
    split
    · have := mw_len p (u ++ [(2, 0)]) (o - 1)
      rw [List.length_append, List.length_singleton] at this
      rw [List.length_cons]
      omega
    · exact ⟨rfl, rfl, Nat.le_refl _⟩
theorem mt_len (l : Int) : ∀ (p : List Int) (u : List (Int × Int)), (mt_ l p u).1.length + (mt_ l p u).2.length = p.length + u.length ∧ u.length ≤ (mt_ l p u).2.length
  | [], u => ⟨rfl, Nat.le_refl _⟩
  | q :: p, u => by
    rw [mt_]
    split
    · have := mt_len l p (u ++ [(q, 0)])
      rw [List.length_append, List.length_singleton] at this
      rw [List.length_cons]
      omega
    · exact ⟨rfl, Nat.le_refl _⟩
set_option maxHeartbeats 1000000 in
theorem mc_M_emit {w : aw_T} {h0 h : ah_T} {S : ms_T} {d : Nat} (hd : 0 ≤ d) (hM : mo_I h0 h S) {p : List Int} {u : List (Int × Int)} {o z : Int} (hm : md_ S p u o z) (hu : u.length < 128) {a b : Int} : am_M w mm_M_emit d [av_r 38, av_i a, av_i b] h 0 0 (fun r1 h1 => r1 = none ∧ ∃ S3, md_ S3 p (u ++ [(a, b)]) o z ∧ fr_ S S3 ∧ kt_ S S3 ∧ mo_I h0 h1 S3) := by
  refine am_intro [some (av_r 38), some (av_i (a)), some (av_i (b))] (by decide +kernel) (Nat.le_of_ble_eq_true rfl) rfl ?_
  have h53 := hm.2.1.1
  refine ag_aload_n dd_M_emit_0 rfl ?_
  refine ag_get dd_M_emit_1 fg_M_119 (mr_38 hM) rfl ?_
  refine ag_sipush dd_M_emit_4 (by decide +kernel) ?_
  refine ag_aload_n dd_M_emit_7 rfl ?_
  refine ag_get dd_M_emit_8 fg_M_268 (mr_38 hM) rfl ?_
  refine ag_iadd dd_M_emit_11 ?_
  refine ag_iload_n dd_M_emit_12 rfl ?_
  refine ms_69 dd_M_emit_13 hM (by omega) (fun h S1 eS1 hM => ?_)
  have v53 : S1.1 53 = S.1 53 := by subst_vars; rfl
  refine ag_aload_n dd_M_emit_14 rfl ?_
  refine ag_get dd_M_emit_15 fg_M_122 (mr_38 hM) rfl ?_
  refine ag_sipush dd_M_emit_18 (by decide +kernel) ?_
  refine ag_aload_n dd_M_emit_21 rfl ?_
  refine ag_get dd_M_emit_22 fg_M_268 (mr_38 hM) rfl ?_
  refine ag_iadd dd_M_emit_25 ?_
  refine ag_iload_n dd_M_emit_26 rfl ?_
  refine ms_70 dd_M_emit_27 hM (by omega) (fun h S2 eS2 hM => ?_)
  refine ag_aload_n dd_M_emit_28 rfl ?_
  refine ag_dup dd_M_emit_29 rfl ?_
  refine ag_get dd_M_emit_30 fg_M_268 (mr_38 hM) rfl ?_
  refine ag_iconst dd_M_emit_33 ?_
  refine ag_iadd dd_M_emit_34 ?_
  refine mp_53 dd_M_emit_35 fp_M_268 hM (fun h S3 eS3 hM => ?_)
  refine ag_vret dd_M_emit_38 rfl ?_
  have e3 : S3 = em_ S a b := by subst_vars; rfl
  have hq := md_em hm a b
  rw [← e3] at hq
  exact ⟨rfl, S3, hq.1, hq.2.1, hq.2.2, hM⟩
set_option maxHeartbeats 1000000 in
theorem mc_M_push {w : aw_T} {h0 h : ah_T} {S : ms_T} {d : Nat} (hd : 0 ≤ d) (hM : mo_I h0 h S) {p : List Int} {u : List (Int × Int)} {o z : Int} (hm : md_ S p u o z) (hu : p.length < 128) {q : Int} (hqv : 0 ≤ q ∧ q ≤ 24) : am_M w mm_M_push d [av_r 38, av_i q] h 0 0 (fun r1 h1 => r1 = none ∧ ∃ S3, md_ S3 (q :: p) u o z ∧ fr_ S S3 ∧ kt_ S S3 ∧ mo_I h0 h1 S3) := by
  refine am_intro [some (av_r 38), some (av_i (q))] (by decide +kernel) (Nat.le_of_ble_eq_true rfl) rfl ?_
  have h55 := hm.1.1
  refine ag_aload_n dd_M_push_0 rfl ?_
  refine ag_get dd_M_push_1 fg_M_131 (mr_38 hM) rfl ?_
  refine ag_aload_n dd_M_push_4 rfl ?_
  refine ag_get dd_M_push_5 fg_M_271 (mr_38 hM) rfl ?_
  refine ag_iload_n dd_M_push_8 rfl ?_
  refine ms_71 dd_M_push_9 hM (by omega) (fun h S1 eS1 hM => ?_)
  refine ag_aload_n dd_M_push_10 rfl ?_
  refine ag_dup dd_M_push_11 rfl ?_
  refine ag_get dd_M_push_12 fg_M_271 (mr_38 hM) rfl ?_
  refine ag_iconst dd_M_push_15 ?_
  refine ag_iadd dd_M_push_16 ?_
  refine mp_55 dd_M_push_17 fp_M_271 hM (fun h S2 eS2 hM => ?_)
  refine ag_vret dd_M_push_20 rfl ?_
  have e3 : S2 = pu_ S q := by subst_vars; rfl
  have hq := md_pu hm hqv
  rw [← e3] at hq
  exact ⟨rfl, S2, hq.1, hq.2.1, hq.2.2, hM⟩
set_option maxHeartbeats 1000000 in
theorem ml_M_whole {w : aw_T} {h0 : ah_T} {d : Nat} (hd : 1 ≤ d) {z : Int} {P : ap_T} : ∀ (p : List Int) (u : List (Int × Int)) (o : Int) (S : ms_T) (h : ah_T), md_ S p u o z → p.length + u.length ≤ 120 → mo_I h0 h S → (∀ (S3 : ms_T) (h : ah_T), md_ S3 (mw_ p u o).1 (mw_ p u o).2.1 (mw_ p u o).2.2 z → fr_ S S3 → kt_ S S3 → mo_I h0 h S3 → P none h) → aw_W w mm_M_whole d P 0 [some (av_r 38)] [] h 0 0 := by
  intro p
  induction p with
  | nil =>
    intro u o S h hm hb hM hX
    have h55 := hm.1.1
    rw [List.length_nil] at h55
    refine ag_aload_n dd_M_whole_0 rfl ?_
    refine ag_get dd_M_whole_1 fg_M_271 (mr_38 hM) rfl ?_
    refine ag_if_le (tgt := 51) dd_M_whole_4 (by decide) (by omega) (fun c1 => ?_) (fun c1 => ?_)
    · refine ag_vret dd_M_whole_51 rfl ?_
      exact hX S h (by rw [mw_]; exact hm) (fr_rf S) (kt_rf S) hM
    · exfalso; omega
  | cons q p ih =>
    intro u o S h hm hb hM hX
    have ht := md_top hm
    rw [List.length_cons] at hb
    refine ag_aload_n dd_M_whole_0 rfl ?_
    refine ag_get dd_M_whole_1 fg_M_271 (mr_38 hM) rfl ?_
    refine ag_if_le (tgt := 51) dd_M_whole_4 (by decide) (by omega) (fun c1 => ?_) (fun c1 => ?_)
    · exfalso; omega
    · refine ag_aload_n dd_M_whole_7 rfl ?_
      refine ag_get dd_M_whole_8 fg_M_131 (mr_38 hM) rfl ?_
      refine ag_aload_n dd_M_whole_11 rfl ?_
      refine ag_get dd_M_whole_12 fg_M_271 (mr_38 hM) rfl ?_
      refine ag_iconst dd_M_whole_15 ?_
      refine ag_isub dd_M_whole_16 ?_
      refine ag_iald dd_M_whole_17 (mr_71 hM) (by decide) (by omega) ?_
      refine ag_iconst dd_M_whole_18 ?_
      refine ag_icmp_ne (tgt := 51) dd_M_whole_19 (by decide) (by omega) (by omega) (fun c2 => ?_) (fun c2 => ?_)
      · refine ag_vret dd_M_whole_51 rfl ?_
        exact hX S h (by rw [mw_, if_neg (by omega)]; exact hm) (fr_rf S) (kt_rf S) hM
      · refine ag_aload_n dd_M_whole_22 rfl ?_
        refine ag_dup dd_M_whole_23 rfl ?_
        refine ag_get dd_M_whole_24 fg_M_271 (mr_38 hM) rfl ?_
        refine ag_iconst dd_M_whole_27 ?_
        refine ag_isub dd_M_whole_28 ?_
        refine mp_55 dd_M_whole_29 fp_M_271 hM (fun h S3 eS3 hM => ?_)
        have hpp := md_pop hm eS3
        have md_S3 := hpp.1
        have fr_S3 := fr_put eS3 (by decide)
        have kt_S3 := kt_put eS3 (by decide)
        have v54_S3 : S3.1 54 = S.1 54 := by rw [eS3]; rfl
        clear eS3
        have w55 := md_S3.1.1
        refine ag_aload_n dd_M_whole_32 rfl ?_
        refine ag_dup dd_M_whole_33 rfl ?_
        refine ag_get dd_M_whole_34 fg_M_274 (mr_38 hM) rfl ?_
        refine ag_iconst dd_M_whole_37 ?_
        refine ag_isub dd_M_whole_38 ?_
        refine mp_54 dd_M_whole_39 fp_M_274 hM (fun h S4 eS4 hM => ?_)
        have md_S4 := md_54 md_S3 eS4
        have fr_S4 := fr_tr fr_S3 (fr_put eS4 (by decide))
        have kt_S4 := kt_tr kt_S3 (kt_put eS4 (by decide))
        clear eS4
        refine ag_aload_n dd_M_whole_42 rfl ?_
        refine ag_iconst dd_M_whole_43 ?_
        refine ag_iconst dd_M_whole_44 ?_
        refine ag_wV dd_M_whole_45 fi_M_277 (mr_38 hM) rfl (mc_M_emit (d := 0) (by omega) hM md_S4 (by omega)) rfl rfl (by omega) (Nat.le_of_ble_eq_true rfl) (fun r1 h hP => ?_)
        obtain ⟨rfl, S5, md_S5, g1, g2, hM⟩ := hP
        replace g1 := fr_tr fr_S4 g1
        replace g2 := kt_tr kt_S4 g2
        have fr_S5 := g1
        have kt_S5 := g2
        clear g1 g2
        refine ag_goto (tgt := 0) dd_M_whole_48 (by decide) ?_
        have hv54 : S.1 54 = o := hm.2.2.1
        refine ih  _ _ S5 h md_S5 (by rw [List.length_append, List.length_singleton]; omega) hM (fun S3 h hm3 g1 g2 hM => ?_)
        refine hX S3 h ?_ (fr_tr fr_S5 g1) (kt_tr kt_S5 g2) hM
        rw [mw_, if_pos (by omega)]
        rw [v54_S3, hv54] at hm3
        exact hm3
set_option maxHeartbeats 1000000 in
theorem ml_M_settle {w : aw_T} {h0 : ah_T} {d : Nat} (hd : 1 ≤ d) {o z l : Int} (hl : 0 ≤ l ∧ l ≤ 100) {P : ap_T} : ∀ (p : List Int) (u : List (Int × Int)) (S : ms_T) (h : ah_T), md_ S p u o z → p.length + u.length ≤ 120 → mo_I h0 h S → (∀ (S3 : ms_T) (h : ah_T), md_ S3 (mt_ l p u).1 (mt_ l p u).2 o z → fr_ S S3 → kt_ S S3 → mo_I h0 h S3 → P none h) → aw_W w mm_M_settle d P 0 [some (av_r 38), some (av_i (l))] [] h 0 0 := by
  intro p
  induction p with
  | nil =>
    intro u S h hm hb hM hX
    have h55 := hm.1.1
    rw [List.length_nil] at h55
    refine ag_aload_n dd_M_settle_0 rfl ?_
    refine ag_get dd_M_settle_1 fg_M_271 (mr_38 hM) rfl ?_
    refine ag_if_le (tgt := 65) dd_M_settle_4 (by decide) (by omega) (fun c1 => ?_) (fun c1 => ?_)
    · refine ag_vret dd_M_settle_65 rfl ?_
      exact hX S h (by rw [mt_]; exact hm) (fr_rf S) (kt_rf S) hM
    · exfalso; omega
  | cons q p ih =>
    intro u S h hm hb hM hX
    have ht := md_top hm
    rw [List.length_cons] at hb
    refine ag_aload_n dd_M_settle_0 rfl ?_
    refine ag_get dd_M_settle_1 fg_M_271 (mr_38 hM) rfl ?_
    refine ag_if_le (tgt := 65) dd_M_settle_4 (by decide) (by omega) (fun c1 => ?_) (fun c1 => ?_)
    · exfalso; omega
    · refine ag_aload_n dd_M_settle_7 rfl ?_
      refine ag_get dd_M_settle_8 fg_M_131 (mr_38 hM) rfl ?_
      refine ag_aload_n dd_M_settle_11 rfl ?_
      refine ag_get dd_M_settle_12 fg_M_271 (mr_38 hM) rfl ?_
      refine ag_iconst dd_M_settle_15 ?_
      refine ag_isub dd_M_settle_16 ?_
      refine ag_iald dd_M_settle_17 (mr_71 hM) (by decide) (by omega) ?_
      refine ag_bipush dd_M_settle_18 (by decide +kernel) ?_
      refine ag_icmp_ge (tgt := 65) dd_M_settle_20 (by decide) (by omega) (by omega) (fun c2 => ?_) (fun c2 => ?_)
      · refine ag_vret dd_M_settle_65 rfl ?_
        exact hX S h (by rw [mt_, if_neg (by omega)]; exact hm) (fr_rf S) (kt_rf S) hM
      · refine ag_aload_n dd_M_settle_23 rfl ?_
        refine ag_get dd_M_settle_24 fg_M_131 (mr_38 hM) rfl ?_
        refine ag_aload_n dd_M_settle_27 rfl ?_
        refine ag_get dd_M_settle_28 fg_M_271 (mr_38 hM) rfl ?_
        refine ag_iconst dd_M_settle_31 ?_
        refine ag_isub dd_M_settle_32 ?_
        refine ag_iald dd_M_settle_33 (mr_71 hM) (by decide) (by omega) ?_
        refine ag_iload_n dd_M_settle_34 rfl ?_
        refine ag_icmp_lt (tgt := 65) dd_M_settle_35 (by decide) (by omega) (by omega) (fun c3 => ?_) (fun c3 => ?_)
        · refine ag_vret dd_M_settle_65 rfl ?_
          exact hX S h (by rw [mt_, if_neg (by omega)]; exact hm) (fr_rf S) (kt_rf S) hM
        · refine ag_aload_n dd_M_settle_38 rfl ?_
          refine ag_dup dd_M_settle_39 rfl ?_
          refine ag_get dd_M_settle_40 fg_M_271 (mr_38 hM) rfl ?_
          refine ag_iconst dd_M_settle_43 ?_
          refine ag_isub dd_M_settle_44 ?_
          refine mp_55 dd_M_settle_45 fp_M_271 hM (fun h S4 eS4 hM => ?_)
          have hpp := md_pop hm eS4
          have md_S4 := hpp.1
          have fr_S4 := fr_put eS4 (by decide)
          have kt_S4 := kt_put eS4 (by decide)
          have v54_S4 : S4.1 54 = S.1 54 := by rw [eS4]; rfl
          clear eS4
          have w55 := md_S4.1.1
          refine ag_aload_n dd_M_settle_48 rfl ?_
          refine ag_aload_n dd_M_settle_49 rfl ?_
          refine ag_get dd_M_settle_50 fg_M_131 (mr_38 hM) rfl ?_
          refine ag_aload_n dd_M_settle_53 rfl ?_
          refine ag_get dd_M_settle_54 fg_M_271 (mr_38 hM) rfl ?_
          refine ag_iald dd_M_settle_57 (mr_71 hM) (by decide) (by omega) ?_
          refine ag_iconst dd_M_settle_58 ?_
          refine ag_wV dd_M_settle_59 fi_M_277 (mr_38 hM) rfl (mc_M_emit (d := 0) (by omega) hM md_S4 (by omega)) rfl rfl (by omega) (Nat.le_of_ble_eq_true rfl) (fun r1 h hP => ?_)
          obtain ⟨rfl, S5, md_S5, g1, g2, hM⟩ := hP
          replace g1 := fr_tr fr_S4 g1
          replace g2 := kt_tr kt_S4 g2
          have fr_S5 := g1
          have kt_S5 := g2
          clear g1 g2
          refine ag_goto (tgt := 0) dd_M_settle_62 (by decide) ?_
          refine ih  _ S5 h md_S5 (by rw [List.length_append, List.length_singleton]; omega) hM (fun S3 h hm3 g1 g2 hM => ?_)
          refine hX S3 h ?_ (fr_tr fr_S5 g1) (kt_tr kt_S5 g2) hM
          rw [mt_, if_pos (by omega)]
          rw [hpp.2] at hm3
          exact hm3
set_option maxHeartbeats 1000000 in
theorem mc_M_whole {w : aw_T} {h0 h : ah_T} {S : ms_T} {d : Nat} (hd : 1 ≤ d) (hM : mo_I h0 h S) {p : List Int} {u : List (Int × Int)} {o z : Int} (hm : md_ S p u o z) (hb : p.length + u.length ≤ 120) : am_M w mm_M_whole d [av_r 38] h 0 0 (fun r1 h1 => r1 = none ∧ ∃ S3, md_ S3 (mw_ p u o).1 (mw_ p u o).2.1 (mw_ p u o).2.2 z ∧ fr_ S S3 ∧ kt_ S S3 ∧ mo_I h0 h1 S3) := by
  refine am_intro [some (av_r 38)] (by decide +kernel) (Nat.le_of_ble_eq_true rfl) rfl ?_
  exact ml_M_whole hd p u o S h hm hb hM (fun S3 h g1 g2 g3 hM => ⟨rfl, S3, g1, g2, g3, hM⟩)
set_option maxHeartbeats 1000000 in
theorem mc_M_settle {w : aw_T} {h0 h : ah_T} {S : ms_T} {d : Nat} (hd : 1 ≤ d) (hM : mo_I h0 h S) {p : List Int} {u : List (Int × Int)} {o z : Int} (hm : md_ S p u o z) {l : Int} (hl : 0 ≤ l ∧ l ≤ 100) (hb : p.length + u.length ≤ 120) : am_M w mm_M_settle d [av_r 38, av_i l] h 0 0 (fun r1 h1 => r1 = none ∧ ∃ S3, md_ S3 (mt_ l p u).1 (mt_ l p u).2 o z ∧ fr_ S S3 ∧ kt_ S S3 ∧ mo_I h0 h1 S3) := by
  refine am_intro [some (av_r 38), some (av_i (l))] (by decide +kernel) (Nat.le_of_ble_eq_true rfl) rfl ?_
  exact ml_M_settle hd hl p u S h hm hb hM (fun S3 h g1 g2 g3 hM => ⟨rfl, S3, g1, g2, g3, hM⟩)
