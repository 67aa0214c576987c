section WRAP
variable {w : aw_T} {M : am_T} {d : Nat} {P : ap_T} {pc n : Nat} {L : al_T} {st rest : List av_T} {h : ah_T} {kc ks : Nat} {idx : Nat} {M2 : am_T} {d2 k : Nat} {As : List av_T} {P2 : ap_T} {v : av_T}
/-- a call that only reads -/
theorem ag_rS (hd : ad_D M pc (.invokestatic idx) 3 n) (hc : ai_B M.1.cls idx M2 k ∧ Cond.static M2.1 ∈ tt_g) (hM : am_M w M2 d2 As h 0 0 (fun r h' => r = some v ∧ h' = h)) (hst : st = As.reverse ++ rest) (hlen : As.length = k) (hd2 : d2 + 1 ≤ d) (hrl : rest.length ≤ 4) (kk : aw_W w M d P n L (v :: rest) h kc ks) : aw_W w M d P pc L st h kc ks :=
  ag_callS hd hc hM hst hlen hd2 hrl (Nat.le_of_eq (Nat.zero_add kc)) (Nat.le_of_eq (Nat.zero_add ks)) (fun r h' hp => by obtain ⟨rfl, rfl⟩ := hp; exact kk)
theorem ag_rV {a ci : Nat} {fs : List av_T} {T : u_T} {N : Nat} (hd : ad_D M pc (.invokevirtual idx) 3 n) (hc : ai_B M.1.cls idx M2 k ∧ Cond.instanceMethod M2.1 ∈ tt_g ∧ Cond.selects M2.1.cls M2.1 M2.1 ∈ tt_g) (hcell : h[a]? = some (ac_o ci fs)) (hci : cs_all[ci]? = some (M2.1.cls, T, N)) (hM : am_M w M2 d2 (av_r a :: As) h 0 0 (fun r h' => r = some v ∧ h' = h)) (hst : st = As.reverse ++ av_r a :: rest) (hlen : As.length = k) (hd2 : d2 + 1 ≤ d) (hrl : rest.length ≤ 4) (kk : aw_W w M d P n L (v :: rest) h kc ks) : aw_W w M d P pc L st h kc ks :=
  ag_callV hd hc hcell hci hM hst hlen hd2 hrl (Nat.le_of_eq (Nat.zero_add kc)) (Nat.le_of_eq (Nat.zero_add ks)) (fun r h' hp => by obtain ⟨rfl, rfl⟩ := hp; exact kk)
/-- a call that makes no cells -/
theorem ag_wS (hd : ad_D M pc (.invokestatic idx) 3 n) (hc : ai_B M.1.cls idx M2 k ∧ Cond.static M2.1 ∈ tt_g) (hM : am_M w M2 d2 As h 0 0 P2) (hst : st = As.reverse ++ rest) (hlen : As.length = k) (hd2 : d2 + 1 ≤ d) (hrl : rest.length ≤ 4) (kk : ∀ (r : Option av_T) (h' : ah_T), P2 r h' → aw_W w M d P n L (r.toList ++ rest) h' kc ks) : aw_W w M d P pc L st h kc ks :=
  ag_callS hd hc hM hst hlen hd2 hrl (Nat.le_of_eq (Nat.zero_add kc)) (Nat.le_of_eq (Nat.zero_add ks)) kk
theorem ag_wV {a ci : Nat} {fs : List av_T} {T : u_T} {N : Nat} (hd : ad_D M pc (.invokevirtual idx) 3 n) (hc : ai_B M.1.cls idx M2 k ∧ Cond.instanceMethod M2.1 ∈ tt_g ∧ Cond.selects M2.1.cls M2.1 M2.1 ∈ tt_g) (hcell : h[a]? = some (ac_o ci fs)) (hci : cs_all[ci]? = some (M2.1.cls, T, N)) (hM : am_M w M2 d2 (av_r a :: As) h 0 0 P2) (hst : st = As.reverse ++ av_r a :: rest) (hlen : As.length = k) (hd2 : d2 + 1 ≤ d) (hrl : rest.length ≤ 4) (kk : ∀ (r : Option av_T) (h' : ah_T), P2 r h' → aw_W w M d P n L (r.toList ++ rest) h' kc ks) : aw_W w M d P pc L st h kc ks :=
  ag_callV hd hc hcell hci hM hst hlen hd2 hrl (Nat.le_of_eq (Nat.zero_add kc)) (Nat.le_of_eq (Nat.zero_add ks)) kk
/-- a test of a boolean answer -/
theorem ag_if_eqB {q : Prop} {hq : Decidable q} {off : Int} {tgt : Nat} (hd : ad_D M pc (.ifCond .eq off) 3 n) (ht : (pc : Int) + off = (tgt : Int)) (kt : ¬ q → aw_W w M d P tgt L st h kc ks) (kf : q → aw_W w M d P n L st h kc ks) : aw_W w M d P pc L (av_i (@ite Int q hq 1 0) :: st) h kc ks := by
  refine ag_if_eq hd ht (by split <;> omega) (fun c => kt (fun z => ?_)) (fun c => kf (Classical.not_not.mp (fun z => ?_)))
  · rw [if_pos z] at c; omega
  · rw [if_neg z] at c; omega
theorem ag_if_neB {q : Prop} {hq : Decidable q} {off : Int} {tgt : Nat} (hd : ad_D M pc (.ifCond .ne off) 3 n) (ht : (pc : Int) + off = (tgt : Int)) (kt : q → aw_W w M d P tgt L st h kc ks) (kf : ¬ q → aw_W w M d P n L st h kc ks) : aw_W w M d P pc L (av_i (@ite Int q hq 1 0) :: st) h kc ks := by
  refine ag_if_ne hd ht (by split <;> omega) (fun c => kt (Classical.not_not.mp (fun z => ?_))) (fun c => kf (fun z => ?_))
  · rw [if_neg z] at c; omega
  · rw [if_pos z] at c; omega
end WRAP
def al_le : al_T → al_T → Prop
  | [], [] => True
  | none :: L, _ :: L' => al_le L L'
  | some v :: L, x :: L' => x = some v ∧ al_le L L'
  | _, _ => False
theorem al_le_len : ∀ {L L' : al_T}, al_le L L' → L.length = L'.length
  | [], [], _ => rfl
  | none :: L, _ :: L', h => by rw [List.length_cons, List.length_cons, al_le_len (L := L) (L' := L') h]
  | some v :: L, x :: L', h => by rw [List.length_cons, List.length_cons, al_le_len (L := L) (L' := L') h.2]
theorem al_le_get : ∀ {L L' : al_T}, al_le L L' → ∀ (i : Nat) (v : av_T), L[i]? = some (some v) → L'[i]? = some (some v)
  | [], [], _, i, v, hi => by simp at hi
  | none :: L, _ :: L', h, 0, v, hi => by simp at hi
  | none :: L, _ :: L', h, i + 1, v, hi => by
    have := al_le_get (L := L) (L' := L') h i v (by simpa using hi)
    simpa using this
  | some u :: L, x :: L', h, 0, v, hi => by
    simp at hi
    subst hi
    simp [h.1]
  | some u :: L, x :: L', h, i + 1, v, hi => by
    have := al_le_get (L := L) (L' := L') h.2 i v (by simpa using hi)
    simpa using this
/-- forget some locals -/
theorem ag_weak {w : aw_T} {M : am_T} {d : Nat} {P : ap_T} {pc : Nat} (L : al_T) {L' : al_T} {st : List av_T} {h : ah_T} {kc ks : Nat} (hl : al_le L L') (k : aw_W w M d P pc L st h kc ks) : aw_W w M d P pc L' st h kc ks := by
  intro p e R s m args below meth c Q hC hQ H locs cells slots ls hH hS hL hk1 hk2
  refine k p e R s m args below meth c Q hC hQ H locs cells slots ls hH hS ⟨by rw [al_le_len hl]; exact hL.1, hL.2.1, hL.2.2.1, fun q hq => hL.2.2.2 q ?_⟩ hk1 hk2
  obtain ⟨i, x⟩ := q
  obtain ⟨v, hv, rfl⟩ := al_mem.mp hq
  exact al_mem.mpr ⟨v, al_le_get hl i v hv, rfl⟩
/-- a smaller need of room -/
theorem ag_room {w : aw_T} {M : am_T} {d : Nat} {P : ap_T} {pc : Nat} {L : al_T} {st : List av_T} {h : ah_T} {kc ks kc' ks' : Nat} (h1 : kc' ≤ kc) (h2 : ks' ≤ ks) (k : aw_W w M d P pc L st h kc' ks') : aw_W w M d P pc L st h kc ks := by
  intro p e R s m args below meth c Q hC hQ H locs cells slots ls hH hS hL hk1 hk2
  exact k p e R s m args below meth c Q hC hQ H locs cells slots ls hH hS hL (by omega) (by omega)
