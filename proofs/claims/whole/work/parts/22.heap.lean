-- ===== the heap: fields, arrays, new objects =====
theorem ah_one {w : aw_T} {h : ah_T} {H : Heap} {a : Nat} {c : ac_T} (hR : ah_R w h H) (hc : h[a]? = some c) : va_P (aw_D w) cs_all [(aw_o w + a, ac_E w c)] H := by
  intro k q hk
  have hz : k < 1 := (List.getElem?_eq_some_iff.mp hk).1
  rw [show k = 0 by omega] at hk
  cases hk
  exact hR.2 a c hc
theorem ag_get {w : aw_T} {M : am_T} {d : Nat} {P : ap_T} {pc n : Nat} {L : al_T} {st : List av_T} {h : ah_T} {kc ks : Nat} {idx ci k a : Nat} {fs : List av_T} {v : av_T} (hd : ad_D M pc (.getfield idx) 3 n) (hf : af_ok M.1.cls idx ci k) (hc : h[a]? = some (ac_o ci fs)) (hv : fs[k]? = some v) (kk : aw_W w M d P n L (v :: st) h kc ks) : aw_W w M d P pc L (av_r a :: st) h kc ks := by
  intro p e R s m args below meth c Q hC hQ H locs cells slots ls hH hS hL hk1 hk2
  obtain ⟨hd, rfl⟩ := hd
  have kw := kk p e R s m args below meth c Q hC hQ H locs cells slots ls hH hS hL hk1 hk2
  obtain ⟨hx, hb, hr, hml, hown, hts, hK, -⟩ := hC
  obtain ⟨C, T, N, hcl, hkN, hin, hlk⟩ := hf
  have hv2 : (fs.map (av_v w))[k]? = some (av_v w v) := by rw [List.getElem?_map, hv]; rfl
  rcases hlk with hlk | ⟨host, hlk⟩
  · exact va_get hx hb hts hin hown hK.1 (ah_one hH hc) 0 rfl hcl k hkN (hts _ hlk) (fun _ q => q) hv2 hd kw
  · exact va_getN hx hb hts hin hown hK.1 (ah_one hH hc) 0 rfl hcl k hkN (va_Nw.use rfl (hK.2.1 _ hlk)) (fun _ q => q) hv2 hd kw
theorem ag_putV {w : aw_T} {M : am_T} {d : Nat} {P : ap_T} {pc n : Nat} {L : al_T} {st : List av_T} {h : ah_T} {kc ks : Nat} {idx ci k a : Nat} {fs : List av_T} {v : av_T} {ty : FieldType} (hd : ad_D M pc (.putfield idx) 3 n) (hf : af_put M.1.cls M.1.name idx ci k ty) (hc : h[a]? = some (ac_o ci fs)) (hl : k < fs.length) (hn : narrow ty (av_v w v) = av_v w v) (hfit : fits ty (av_v w v) = true) (kk : aw_W w M d P n L st (h.set a (ac_o ci (fs.set k v))) kc ks) : aw_W w M d P pc L (v :: av_r a :: st) h kc ks := by
  intro p e R s m args below meth c Q hC hQ H locs cells slots ls hH hS hL hk1 hk2
  obtain ⟨hd, rfl⟩ := hd
  have hC0 := hC
  obtain ⟨hx, hb, hr, hml, hown, hts, hK, hlks, hnm, -⟩ := hC
  obtain ⟨C, T, N, ty0, hcl, hkN, hin, hty, hnn, hte, hlk⟩ := hf
  have hap := va_apart (own := M.1.cls) hts hin ty0 hty hnn hK.1 hcl
  have hat := hH.2 a _ hc
  have hat0 := hat
  obtain ⟨r, h1, cell, q1, q2, q3, q4⟩ := hat
  have hr2 : r = (C, T, N) := Option.some.inj (h1.symm.trans hcl)
  subst hr2
  obtain ⟨hSl, hfc, kC, hkC, hkind⟩ := hK.1.1 ci _ hcl
  obtain ⟨cf, kf, fi, f, hi, hsl⟩ := hSl k hkN
  have hst := (u_facts hfc hkC (u_lays hts hin hkN) hi).1
  have hpt : parseFieldDescriptor (T k).2.2.1 = some ty := by rw [hty k hkN, hte]
  have hlay := hts _ (hin _ (u_in_lay hkN))
  have fin : ∀ H' : Heap, H'[aw_o w + a]? = some (cell.setSlot f.slot (av_v w v)) → H'.size = H.size → (∀ q, q ≠ aw_o w + a → H'[q]? = H[q]?) → W p (aw_l w) e R s m args below meth c H' (locs ++ [⟨aw_o w + a, f.slot⟩]) cells slots Q (F0 m (pc + 3) ls (st.map (av_v w))) := by
    intro H' e1 e2 e3
    rw [hsl] at e1 ⊢
    have hat2 : va_at (aw_D w) cs_all (aw_o w + a, ac_E w (ac_o ci (fs.set k v))) H' := by
      refine ⟨_, hcl, ?_⟩
      have hl2 : k < (fs.map (av_v w)).length := by rw [List.length_map]; exact hl
      refine t_OB.to (V := updV (vp_V (fs.map (av_v w))) k (av_v w v)) ⟨_, e1, q2, q3, t_set q4 hap hkN (av_v w v)⟩ (fun j _ => ?_)
      rw [vp_updV_set hl2 (av_v w v) j]
      show vp_V _ j = vp_V ((fs.set k v).map (av_v w)) j
      rw [List.map_set]
    exact kk p e R s m args below meth c Q hC0 hQ H' _ cells slots ls (ah_set hH hc hat2 e2 e3) (hS.put e2 e3 (by show aw_o w ≤ aw_o w + a; omega)) hL hk1 hk2
  unfold u_lay at hlay
  rcases hlk with ⟨hfin, hlk⟩ | ⟨hfin, hin2, hdecl, hlk⟩
  · rw [if_neg (by rw [hfin]; decide)] at hlay
    have h6 := u_store hfc hkC hkind hlay hi hpt hn hfit
    rcases hlk with hlk | ⟨host, hlk⟩
    · exact W.putK hx hb (f := f) ⟨hown, hts _ hlk, ⟨_, _, _, hi⟩, hst⟩ (by rw [q2]; exact h6) q1 q3 (by rw [hsl]; exact k2_hasslot (q4 k hkN)) rfl rfl hd fin
    · exact va_WputK hx hb (f := f) hown (va_Nw.use rfl (hK.2.1 _ hlk)) hi hst (by rw [q2]; exact h6) q1 q3 (by rw [hsl]; exact k2_hasslot (q4 k hkN)) rfl rfl hd fin
  · rw [if_pos hfin] at hlay
    have hcf : m.cls = cf := by
      obtain ⟨_, _, c', _, _, _, -, -, hf', -, -, -, hown2, -⟩ := Cond.laysFinal_spec hlay
      have e1 : c' = cf := by have := hi.symm.trans hf'; simp at this; exact this.1.symm
      rw [hdecl] at hown2
      rw [← e1]; exact Option.some.inj (hown.symm.trans hown2)
    have h6 := u_fits hfc hkC hkind (Or.inr hlay) hi hpt hn hfit
    exact W.putFinK hx hb hown (hts _ hlk) hi hst hcf (hnm.trans hin2) (by rw [q2]; exact h6) q1 q3 (by rw [hsl]; exact k2_hasslot (q4 k hkN)) rfl rfl hd fin
theorem ag_puti {w : aw_T} {M : am_T} {d : Nat} {P : ap_T} {pc n : Nat} {L : al_T} {st : List av_T} {h : ah_T} {kc ks : Nat} {idx ci k a : Nat} {fs : List av_T} {x : Int} (hd : ad_D M pc (.putfield idx) 3 n) (hf : af_put M.1.cls M.1.name idx ci k .int) (hc : h[a]? = some (ac_o ci fs)) (hl : k < fs.length) (kk : aw_W w M d P n L st (h.set a (ac_o ci (fs.set k (av_i x)))) kc ks) : aw_W w M d P pc L (av_i x :: av_r a :: st) h kc ks := ag_putV hd hf hc hl rfl rfl kk
theorem ag_putz {w : aw_T} {M : am_T} {d : Nat} {P : ap_T} {pc n : Nat} {L : al_T} {st : List av_T} {h : ah_T} {kc ks : Nat} {idx ci k a : Nat} {fs : List av_T} {x : Int} (hd : ad_D M pc (.putfield idx) 3 n) (hf : af_put M.1.cls M.1.name idx ci k .boolean) (hc : h[a]? = some (ac_o ci fs)) (hl : k < fs.length) (hz : x = 0 ∨ x = 1) (kk : aw_W w M d P n L st (h.set a (ac_o ci (fs.set k (av_i x)))) kc ks) : aw_W w M d P pc L (av_i x :: av_r a :: st) h kc ks := ag_putV hd hf hc hl (by rcases hz with rfl | rfl <;> rfl) (by rcases hz with rfl | rfl <;> rfl) kk
theorem ag_putl {w : aw_T} {M : am_T} {d : Nat} {P : ap_T} {pc n : Nat} {L : al_T} {st : List av_T} {h : ah_T} {kc ks : Nat} {idx ci k a : Nat} {fs : List av_T} {x : Int} (hd : ad_D M pc (.putfield idx) 3 n) (hf : af_put M.1.cls M.1.name idx ci k .long) (hc : h[a]? = some (ac_o ci fs)) (hl : k < fs.length) (kk : aw_W w M d P n L st (h.set a (ac_o ci (fs.set k (av_l x)))) kc ks) : aw_W w M d P pc L (av_l x :: av_r a :: st) h kc ks := ag_putV hd hf hc hl rfl rfl kk
theorem ag_puto {w : aw_T} {M : am_T} {d : Nat} {P : ap_T} {pc n : Nat} {L : al_T} {st : List av_T} {h : ah_T} {kc ks : Nat} {idx ci k a : Nat} {fs : List av_T} {q : Option Nat} {nm : String} (hd : ad_D M pc (.putfield idx) 3 n) (hf : af_put M.1.cls M.1.name idx ci k (.object nm)) (hc : h[a]? = some (ac_o ci fs)) (hl : k < fs.length) (kk : aw_W w M d P n L st (h.set a (ac_o ci (fs.set k (av_q q)))) kc ks) : aw_W w M d P pc L (av_q q :: av_r a :: st) h kc ks := ag_putV hd hf hc hl (by rcases q with _ | q <;> rfl) (by rcases q with _ | q <;> rfl) kk
theorem ag_puta {w : aw_T} {M : am_T} {d : Nat} {P : ap_T} {pc n : Nat} {L : al_T} {st : List av_T} {h : ah_T} {kc ks : Nat} {idx ci k a : Nat} {fs : List av_T} {q : Option Nat} {ty : FieldType} (hd : ad_D M pc (.putfield idx) 3 n) (hf : af_put M.1.cls M.1.name idx ci k (.array ty)) (hc : h[a]? = some (ac_o ci fs)) (hl : k < fs.length) (kk : aw_W w M d P n L st (h.set a (ac_o ci (fs.set k (av_q q)))) kc ks) : aw_W w M d P pc L (av_q q :: av_r a :: st) h kc ks := ag_putV hd hf hc hl (by rcases q with _ | q <;> rfl) (by rcases q with _ | q <;> rfl) kk
-- arrays: reading
def ai_up {α : Type} (f : Nat → α) (k : Nat) (v : α) : Nat → α := fun j => if j = k then v else f j
theorem ai_up_s {α : Type} (f : Nat → α) (k : Nat) (v : α) : ai_up f k v k = v := if_pos rfl
theorem ai_up_n {α : Type} (f : Nat → α) {k j : Nat} (v : α) (h : j ≠ k) : ai_up f k v j = f j := if_neg h
theorem ag_iald {w : aw_T} {M : am_T} {d : Nat} {P : ap_T} {pc n : Nat} {L : al_T} {st : List av_T} {h : ah_T} {kc ks : Nat} {a N : Nat} {f : Nat → Int} {i : Int} (hd : ad_D M pc .iaload 1 n) (hc : h[a]? = some (ac_a 0 N f)) (hN : N ≤ 2147483648) (hi : 0 ≤ i ∧ i < N) (kk : aw_W w M d P n L (av_i (f i.toNat) :: st) h kc ks) : aw_W w M d P pc L (av_i i :: av_r a :: st) h kc ks := by
  intro p e R s m args below meth c Q hC hQ H locs cells slots ls hH hS hL hk1 hk2
  obtain ⟨hd, rfl⟩ := hd
  have kw := kk p e R s m args below meth c Q hC hQ H locs cells slots ls hH hS hL hk1 hk2
  obtain ⟨hin, hcl⟩ := ai_in hi hN
  refine va_iald hC.1 hC.2.1 hC.2.2.2.2.2.2.1.1 (ah_one hH hc) 0 0 rfl rfl hin hd ?_
  rw [hcl]
  exact kw
theorem ag_bald {w : aw_T} {M : am_T} {d : Nat} {P : ap_T} {pc n : Nat} {L : al_T} {st : List av_T} {h : ah_T} {kc ks : Nat} {a N : Nat} {f : Nat → Int} {i : Int} (hd : ad_D M pc .baload 1 n) (hc : h[a]? = some (ac_a 1 N f)) (hN : N ≤ 2147483648) (hi : 0 ≤ i ∧ i < N) (kk : aw_W w M d P n L (av_i (f i.toNat) :: st) h kc ks) : aw_W w M d P pc L (av_i i :: av_r a :: st) h kc ks := by
  intro p e R s m args below meth c Q hC hQ H locs cells slots ls hH hS hL hk1 hk2
  obtain ⟨hd, rfl⟩ := hd
  have kw := kk p e R s m args below meth c Q hC hQ H locs cells slots ls hH hS hL hk1 hk2
  obtain ⟨hin, hcl⟩ := ai_in hi hN
  refine va_bald hC.1 hC.2.1 hC.2.2.2.2.2.2.1.1 (ah_one hH hc) 0 1 rfl rfl hin hd ?_
  rw [hcl]
  exact kw
theorem ag_zald {w : aw_T} {M : am_T} {d : Nat} {P : ap_T} {pc n : Nat} {L : al_T} {st : List av_T} {h : ah_T} {kc ks : Nat} {a N : Nat} {f : Nat → Int} {i : Int} (hd : ad_D M pc .baload 1 n) (hc : h[a]? = some (ac_a 2 N f)) (hN : N ≤ 2147483648) (hi : 0 ≤ i ∧ i < N) (kk : aw_W w M d P n L (av_i (f i.toNat) :: st) h kc ks) : aw_W w M d P pc L (av_i i :: av_r a :: st) h kc ks := by
  intro p e R s m args below meth c Q hC hQ H locs cells slots ls hH hS hL hk1 hk2
  obtain ⟨hd, rfl⟩ := hd
  have kw := kk p e R s m args below meth c Q hC hQ H locs cells slots ls hH hS hL hk1 hk2
  obtain ⟨hin, hcl⟩ := ai_in hi hN
  refine va_zald hC.1 hC.2.1 hC.2.2.2.2.2.2.1.1 (ah_one hH hc) 0 2 rfl rfl hin hd ?_
  rw [hcl]
  exact kw
theorem ag_lald {w : aw_T} {M : am_T} {d : Nat} {P : ap_T} {pc n : Nat} {L : al_T} {st : List av_T} {h : ah_T} {kc ks : Nat} {a N : Nat} {f : Nat → Int} {i : Int} (hd : ad_D M pc .laload 1 n) (hc : h[a]? = some (ac_l N f)) (hN : N ≤ 2147483648) (hi : 0 ≤ i ∧ i < N) (kk : aw_W w M d P n L (av_l (f i.toNat) :: st) h kc ks) : aw_W w M d P pc L (av_i i :: av_r a :: st) h kc ks := by
  intro p e R s m args below meth c Q hC hQ H locs cells slots ls hH hS hL hk1 hk2
  obtain ⟨hd, rfl⟩ := hd
  have kw := kk p e R s m args below meth c Q hC hQ H locs cells slots ls hH hS hL hk1 hk2
  obtain ⟨hin, hcl⟩ := ai_in hi hN
  refine va_lald hC.1 hC.2.1 hC.2.2.2.2.2.2.1.1 (ah_one hH hc) 0 3 rfl rfl hin hd ?_
  rw [hcl]
  exact kw
theorem ag_aald {w : aw_T} {M : am_T} {d : Nat} {P : ap_T} {pc n : Nat} {L : al_T} {st : List av_T} {h : ah_T} {kc ks : Nat} {a N : Nat} {f : Nat → Option Nat} {i : Int} (hd : ad_D M pc .aaload 1 n) (hc : h[a]? = some (ac_q N f)) (hN : N ≤ 2147483648) (hi : 0 ≤ i ∧ i < N) (kk : aw_W w M d P n L (av_q (f i.toNat) :: st) h kc ks) : aw_W w M d P pc L (av_i i :: av_r a :: st) h kc ks := by
  intro p e R s m args below meth c Q hC hQ H locs cells slots ls hH hS hL hk1 hk2
  obtain ⟨hd, rfl⟩ := hd
  have kw := kk p e R s m args below meth c Q hC hQ H locs cells slots ls hH hS hL hk1 hk2
  obtain ⟨hin, hcl⟩ := ai_in hi hN
  have hlt : (Int32.ofInt i).toNatClampNeg < N := Nat.not_le.mp fun q => hin (Or.inr q)
  have hat : H[aw_o w + a]? = some (vp_cell (aw_A w 4) (N, .inr (.inr (.inr (.inr (fun j => (f j).map (fun k => aw_o w + k))))))) := hH.2 a _ hc
  have hv : va_rf ((f i.toNat).map (fun k => aw_o w + k)) = av_v w (av_q (f i.toNat)) := by cases f i.toNat <;> rfl
  refine W.aald (v := av_v w (av_q (f i.toNat))) (ty := .array .int) hC.1 hC.2.1 hat (((hC.2.2.2.2.2.2.1.1).2 4 _ rfl).1 N (fun j => va_rf ((f j).map (fun k => aw_o w + k)))) rfl (fun q => by cases q) (by show ¬ (_ ∨ (arrV _ _ _).slots.size ≤ _); rw [arrV_size]; exact hin) ?_ rfl rfl hd kw
  show (arrV _ _ _).slots[_]? = _
  rw [arrV_read _ _ hlt, hcl, hv]
theorem ag_ialdN {w : aw_T} {M : am_T} {d : Nat} {P : ap_T} {pc n : Nat} {L : al_T} {st : List av_T} {h : ah_T} {kc ks : Nat} {a N : Nat} {f : Nat → Int} {i : Nat} (hd : ad_D M pc .iaload 1 n) (hc : h[a]? = some (ac_a 0 N f)) (hN : N ≤ 2147483648) (hi : i < N) (kk : aw_W w M d P n L (av_i (f i) :: st) h kc ks) : aw_W w M d P pc L (av_i (i : Int) :: av_r a :: st) h kc ks := ag_iald hd hc hN (by omega) kk
theorem ag_baldN {w : aw_T} {M : am_T} {d : Nat} {P : ap_T} {pc n : Nat} {L : al_T} {st : List av_T} {h : ah_T} {kc ks : Nat} {a N : Nat} {f : Nat → Int} {i : Nat} (hd : ad_D M pc .baload 1 n) (hc : h[a]? = some (ac_a 1 N f)) (hN : N ≤ 2147483648) (hi : i < N) (kk : aw_W w M d P n L (av_i (f i) :: st) h kc ks) : aw_W w M d P pc L (av_i (i : Int) :: av_r a :: st) h kc ks := ag_bald hd hc hN (by omega) kk
theorem ag_zaldN {w : aw_T} {M : am_T} {d : Nat} {P : ap_T} {pc n : Nat} {L : al_T} {st : List av_T} {h : ah_T} {kc ks : Nat} {a N : Nat} {f : Nat → Int} {i : Nat} (hd : ad_D M pc .baload 1 n) (hc : h[a]? = some (ac_a 2 N f)) (hN : N ≤ 2147483648) (hi : i < N) (kk : aw_W w M d P n L (av_i (f i) :: st) h kc ks) : aw_W w M d P pc L (av_i (i : Int) :: av_r a :: st) h kc ks := ag_zald hd hc hN (by omega) kk
theorem ag_laldN {w : aw_T} {M : am_T} {d : Nat} {P : ap_T} {pc n : Nat} {L : al_T} {st : List av_T} {h : ah_T} {kc ks : Nat} {a N : Nat} {f : Nat → Int} {i : Nat} (hd : ad_D M pc .laload 1 n) (hc : h[a]? = some (ac_l N f)) (hN : N ≤ 2147483648) (hi : i < N) (kk : aw_W w M d P n L (av_l (f i) :: st) h kc ks) : aw_W w M d P pc L (av_i (i : Int) :: av_r a :: st) h kc ks := ag_lald hd hc hN (by omega) kk
theorem ag_aaldN {w : aw_T} {M : am_T} {d : Nat} {P : ap_T} {pc n : Nat} {L : al_T} {st : List av_T} {h : ah_T} {kc ks : Nat} {a N : Nat} {f : Nat → Option Nat} {i : Nat} (hd : ad_D M pc .aaload 1 n) (hc : h[a]? = some (ac_q N f)) (hN : N ≤ 2147483648) (hi : i < N) (kk : aw_W w M d P n L (av_q (f i) :: st) h kc ks) : aw_W w M d P pc L (av_i (i : Int) :: av_r a :: st) h kc ks := ag_aald hd hc hN (by omega) kk
-- arrays: writing
theorem ag_st {w : aw_T} {h : ah_T} {H H1 : Heap} {a : Nat} {c0 : ac_T} {cA : ClassId} {z : vp_A} {c' : ac_T} (hR : ah_R w h H) (hc : h[a]? = some c0) (he : ac_E w c' = .inl (cA, z)) (h1 : H1[aw_o w + a]? = some (vp_cell cA z)) (hz : H1.size = H.size) (ho : ∀ q : Nat, q ≠ aw_o w + a → H1[q]? = H[q]?) : ah_R w (h.set a c') H1 := by
  refine ah_set hR hc ?_ hz ho
  show va_at _ _ (_, ac_E w c') H1
  rw [he]
  exact h1
theorem ag_iast {w : aw_T} {M : am_T} {d : Nat} {P : ap_T} {pc n : Nat} {L : al_T} {st : List av_T} {h : ah_T} {kc ks : Nat} {a N : Nat} {f : Nat → Int} {i x : Int} (hd : ad_D M pc .iastore 1 n) (hc : h[a]? = some (ac_a 0 N f)) (hN : N ≤ 2147483648) (hi : 0 ≤ i ∧ i < N) (kk : aw_W w M d P n L st (h.set a (ac_a 0 N (ai_up f i.toNat x))) kc ks) : aw_W w M d P pc L (av_i x :: av_i i :: av_r a :: st) h kc ks := by
  intro p e R s m args below meth c Q hC hQ H locs cells slots ls hH hS hL hk1 hk2
  obtain ⟨hd, rfl⟩ := hd
  obtain ⟨hin, hcl⟩ := ai_in hi hN
  have hat : H[aw_o w + a]? = some (vp_cell (aw_A w 0) (N, .inl (fun j => Int32.ofInt (f j)))) := hH.2 a _ hc
  refine W.iast hC.1 hC.2.1 hat (((hC.2.2.2.2.2.2.1.1).2 0 _ rfl).1 N _) (fun q => by cases q) (by show ¬ (_ ∨ (arrV _ _ _).slots.size ≤ _); rw [arrV_size]; exact hin) rfl rfl hd fun H1 e1 z oq => ?_
  refine kk p e R s m args below meth c Q hC hQ H1 _ cells slots ls (ag_st (z := (N, .inl (fun j => Int32.ofInt (ai_up f i.toNat x j)))) hH hc rfl ?_ z oq) (hS.put z oq (by show aw_o w ≤ aw_o w + a; omega)) hL hk1 hk2
  rw [e1, vp_cell_i, vp_cell_i, arrV_store, hcl]
  congr 2
  funext q
  by_cases hq : q = i.toNat <;> simp [updV, ai_up, hq]
theorem ag_last {w : aw_T} {M : am_T} {d : Nat} {P : ap_T} {pc n : Nat} {L : al_T} {st : List av_T} {h : ah_T} {kc ks : Nat} {a N : Nat} {f : Nat → Int} {i x : Int} (hd : ad_D M pc .lastore 1 n) (hc : h[a]? = some (ac_l N f)) (hN : N ≤ 2147483648) (hi : 0 ≤ i ∧ i < N) (kk : aw_W w M d P n L st (h.set a (ac_l N (ai_up f i.toNat x))) kc ks) : aw_W w M d P pc L (av_l x :: av_i i :: av_r a :: st) h kc ks := by
  intro p e R s m args below meth c Q hC hQ H locs cells slots ls hH hS hL hk1 hk2
  obtain ⟨hd, rfl⟩ := hd
  obtain ⟨hin, hcl⟩ := ai_in hi hN
  have hat : H[aw_o w + a]? = some (vp_cell (aw_A w 3) (N, .inr (.inl (fun j => Int64.ofInt (f j))))) := hH.2 a _ hc
  refine W.last hC.1 hC.2.1 hat (((hC.2.2.2.2.2.2.1.1).2 3 _ rfl).1 N _) (fun q => by cases q) (by show ¬ (_ ∨ (arrV _ _ _).slots.size ≤ _); rw [arrV_size]; exact hin) rfl rfl hd fun H1 e1 z oq => ?_
  refine kk p e R s m args below meth c Q hC hQ H1 _ cells slots ls (ag_st (z := (N, .inr (.inl (fun j => Int64.ofInt (ai_up f i.toNat x j))))) hH hc rfl ?_ z oq) (hS.put z oq (by show aw_o w ≤ aw_o w + a; omega)) hL hk1 hk2
  rw [e1, vp_cell_l, vp_cell_l, arrV_store, hcl]
  congr 2
  funext q
  by_cases hq : q = i.toNat <;> simp [updV, ai_up, hq]
/-- a byte: what is kept of an int -/
def ai_8 (x : Int) : Int := (Int32.ofInt x).toInt8.toInt32.toInt
theorem ag_bast {w : aw_T} {M : am_T} {d : Nat} {P : ap_T} {pc n : Nat} {L : al_T} {st : List av_T} {h : ah_T} {kc ks : Nat} {a N : Nat} {f : Nat → Int} {i x : Int} (hd : ad_D M pc .bastore 1 n) (hc : h[a]? = some (ac_a 1 N f)) (hN : N ≤ 2147483648) (hi : 0 ≤ i ∧ i < N) (kk : aw_W w M d P n L st (h.set a (ac_a 1 N (ai_up f i.toNat (ai_8 x)))) kc ks) : aw_W w M d P pc L (av_i x :: av_i i :: av_r a :: st) h kc ks := by
  intro p e R s m args below meth c Q hC hQ H locs cells slots ls hH hS hL hk1 hk2
  obtain ⟨hd, rfl⟩ := hd
  obtain ⟨hin, hcl⟩ := ai_in hi hN
  have hat : H[aw_o w + a]? = some (vp_cell (aw_A w 1) (N, .inl (fun j => Int32.ofInt (f j)))) := hH.2 a _ hc
  refine W.bast hC.1 hC.2.1 hat (((hC.2.2.2.2.2.2.1.1).2 1 _ rfl).1 N _) (fun q => by cases q) (by show ¬ (_ ∨ (arrV _ _ _).slots.size ≤ _); rw [arrV_size]; exact hin) rfl rfl hd fun H1 e1 z oq => ?_
  refine kk p e R s m args below meth c Q hC hQ H1 _ cells slots ls (ag_st (z := (N, .inl (fun j => Int32.ofInt (ai_up f i.toNat (ai_8 x) j)))) hH hc rfl ?_ z oq) (hS.put z oq (by show aw_o w ≤ aw_o w + a; omega)) hL hk1 hk2
  rw [e1, vp_cell_i, vp_cell_i, arrV_store, hcl]
  congr 2
  funext q
  by_cases hq : q = i.toNat
  · simp only [updV, ai_up, ai_8, hq, if_true, Int32.ofInt_toInt]
    rfl
  · simp [updV, ai_up, hq]
theorem ag_zast {w : aw_T} {M : am_T} {d : Nat} {P : ap_T} {pc n : Nat} {L : al_T} {st : List av_T} {h : ah_T} {kc ks : Nat} {a N : Nat} {f : Nat → Int} {i x : Int} (hd : ad_D M pc .bastore 1 n) (hc : h[a]? = some (ac_a 2 N f)) (hN : N ≤ 2147483648) (hi : 0 ≤ i ∧ i < N) (hz : x = 0 ∨ x = 1) (kk : aw_W w M d P n L st (h.set a (ac_a 2 N (ai_up f i.toNat x))) kc ks) : aw_W w M d P pc L (av_i x :: av_i i :: av_r a :: st) h kc ks := by
  intro p e R s m args below meth c Q hC hQ H locs cells slots ls hH hS hL hk1 hk2
  obtain ⟨hd, rfl⟩ := hd
  obtain ⟨hin, hcl⟩ := ai_in hi hN
  have hat : H[aw_o w + a]? = some (vp_cell (aw_A w 2) (N, .inl (fun j => Int32.ofInt (f j)))) := hH.2 a _ hc
  refine W.zast hC.1 hC.2.1 hat (((hC.2.2.2.2.2.2.1.1).2 2 _ rfl).1 N _) (fun q => by cases q) (by show ¬ (_ ∨ (arrV _ _ _).slots.size ≤ _); rw [arrV_size]; exact hin) rfl rfl hd fun H1 e1 z oq => ?_
  refine kk p e R s m args below meth c Q hC hQ H1 _ cells slots ls (ag_st (z := (N, .inl (fun j => Int32.ofInt (ai_up f i.toNat x j)))) hH hc rfl ?_ z oq) (hS.put z oq (by show aw_o w ≤ aw_o w + a; omega)) hL hk1 hk2
  rw [e1, vp_cell_i, vp_cell_i, arrV_store, hcl]
  congr 2
  have hnx : narrow .boolean (.int (Int32.ofInt x)) = .int (Int32.ofInt x) := by rcases hz with rfl | rfl <;> rfl
  rw [hnx]
  funext q
  by_cases hq : q = i.toNat <;> simp [updV, ai_up, hq]
theorem ag_alen {w : aw_T} {M : am_T} {d : Nat} {P : ap_T} {pc n : Nat} {L : al_T} {st : List av_T} {h : ah_T} {kc ks : Nat} {a N t : Nat} {f : Nat → Int} (hd : ad_D M pc .arraylength 1 n) (hc : h[a]? = some (ac_a t N f)) (ht : t < 3) (kk : aw_W w M d P n L (av_i N :: st) h kc ks) : aw_W w M d P pc L (av_r a :: st) h kc ks := by
  intro p e R s m args below meth c Q hC hQ H locs cells slots ls hH hS hL hk1 hk2
  obtain ⟨hd, rfl⟩ := hd
  have kw := kk p e R s m args below meth c Q hC hQ H locs cells slots ls hH hS hL hk1 hk2
  have hv : Int32.ofNat N = Int32.ofInt (N : Int) := Int32.ofInt_eq_ofNat.symm
  rcases (show t = 0 ∨ t = 1 ∨ t = 2 by omega) with rfl | rfl | rfl
  · exact va_alen hC.1 hC.2.1 hC.2.2.2.2.2.2.1.1 (ah_one hH hc) 0 0 rfl rfl hv hd kw
  · exact va_alen hC.1 hC.2.1 hC.2.2.2.2.2.2.1.1 (ah_one hH hc) 0 1 rfl rfl hv hd kw
  · exact va_alen hC.1 hC.2.1 hC.2.2.2.2.2.2.1.1 (ah_one hH hc) 0 2 rfl rfl hv hd kw
-- the script
def aw_y (w : aw_T) (j : Nat) : Int := (aw_x w j).toInt
theorem aw_y_in (w : aw_T) (j : Nat) : -2147483648 ≤ aw_y w j ∧ aw_y w j < 2147483648 := ⟨by have := Int32.le_toInt (aw_x w j); unfold aw_y; omega, by have := Int32.toInt_lt (aw_x w j); unfold aw_y; omega⟩
theorem ag_sld {w : aw_T} {M : am_T} {d : Nat} {P : ap_T} {pc n : Nat} {L : al_T} {st : List av_T} {h : ah_T} {kc ks : Nat} {i : Int} (hd : ad_D M pc .iaload 1 n) (hN : aw_L w ≤ 2147483648) (hi : 0 ≤ i ∧ i < aw_L w) (kk : aw_W w M d P n L (av_i (aw_y w i.toNat) :: st) h kc ks) : aw_W w M d P pc L (av_i i :: av_s :: st) h kc ks := by
  intro p e R s m args below meth c Q hC hQ H locs cells slots ls hH hS hL hk1 hk2
  obtain ⟨hd, rfl⟩ := hd
  have kw := kk p e R s m args below meth c Q hC hQ H locs cells slots ls hH hS hL hk1 hk2
  obtain ⟨hin, hcl⟩ := ai_in hi hN
  obtain ⟨hx, hb, hr, hml, hown, hts, hK, hlk, hnm, -, -, hX, hbs⟩ := hC
  refine va_sld (A := aw_N w) hx hb hX.1 (Nat.lt_of_lt_of_le hX.2 hbs) (Nat.not_le.mpr hX.2) hS hin hd ?_
  rw [hcl]
  simp only [List.map_cons, av_v, aw_y, Int32.ofInt_toInt] at kw
  exact kw
theorem ag_slen {w : aw_T} {M : am_T} {d : Nat} {P : ap_T} {pc n : Nat} {L : al_T} {st : List av_T} {h : ah_T} {kc ks : Nat} (hd : ad_D M pc .arraylength 1 n) (kk : aw_W w M d P n L (av_i (aw_L w) :: st) h kc ks) : aw_W w M d P pc L (av_s :: st) h kc ks := by
  intro p e R s m args below meth c Q hC hQ H locs cells slots ls hH hS hL hk1 hk2
  obtain ⟨hd, rfl⟩ := hd
  have kw := kk p e R s m args below meth c Q hC hQ H locs cells slots ls hH hS hL hk1 hk2
  obtain ⟨hx, hb, hr, hml, hown, hts, hK, hlk, hnm, -, -, hX, hbs⟩ := hC
  refine va_slen (A := aw_N w) hx hb hX.1 (Nat.lt_of_lt_of_le hX.2 hbs) (Nat.not_le.mpr hX.2) hS hd ?_
  rw [show Int32.ofNat (aw_L w) = Int32.ofInt (aw_L w : Int) from Int32.ofInt_eq_ofNat.symm]
  exact kw
-- new objects and arrays
theorem ag_new {w : aw_T} {M : am_T} {d : Nat} {P : ap_T} {pc n : Nat} {L : al_T} {st : List av_T} {h : ah_T} {kc ks kc' ks' : Nat} {idx ci N : Nat} {fs : List av_T} (hd : ad_D M pc (.new idx) 3 n) (hw : an_ok M.1.cls idx ci N fs) (hkc : kc' + 1 ≤ kc) (hks : ks' + N ≤ ks) (kk : aw_W w M d P n L (av_r h.length :: st) (h ++ [ac_o ci fs]) kc' ks') : aw_W w M d P pc L st h kc ks := by
  intro p e R s m args below meth c Q hC hQ H locs cells slots ls hH hS hL hk1 hk2
  obtain ⟨hd, rfl⟩ := hd
  have hC0 := hC
  obtain ⟨hx, hb, hr, hml, hown, hts, hK, -⟩ := hC
  obtain ⟨C, T, ty, hcl, hin, hty, hw1, hw2, hw3, hfs⟩ := hw
  have hKn := hK.1.1 ci _ hcl
  refine W.newcK hx hb hown (hts _ hw1) (hts _ hw2) (hts _ hw3) rfl hd (by omega) (by omega) hKn.2.1 hH.1 fun H1 kC hkC e1 z1 o1 => ?_
  refine kk p e R s m args below meth c Q hC0 hQ H1 locs (cells + 1) (slots + N) ls (ah_push hH ?_ (by rw [z1, hH.1]) (fun q hq => o1 q (by rw [← hH.1]; exact hq))) ⟨Nat.le_trans hS.1 (by rw [z1, hH.1]; omega), fun x h1 h2 => (o1 x (by have := hS.1; have := hH.1; omega)).trans (hS.2.1 x h1 h2), hS.2.2⟩ hL (by omega) (by omega)
  exact ⟨_, hcl, (u_born ty hts hin hKn hkC e1 hty).to (hfs w)⟩
theorem ag_newa {w : aw_T} {M : am_T} {d : Nat} {P : ap_T} {pc n : Nat} {L : al_T} {st : List av_T} {h : ah_T} {kc ks kc' ks' : Nat} {atype : ArrayType} {N : Nat} {t : Nat} {ty : FieldType} (hd : ad_D M pc (.newarray atype) 2 n) (hty : newarray.typeOf atype = ty) (ht : (aw_tys w)[t]? = some (aw_A w t, ty)) (hdv : defaultValue ty = .int 0) (hw : Cond.arrayClass ty ∈ tt_g) (hN : N ≤ 100000000) (hcb : componentBytes ty ≤ 4) (hkc : kc' + 1 ≤ kc) (hks : ks' + N ≤ ks) (hobj : ty.toString ≠ "" ∧ ∀ U cA, va_RA U cA ty ↔ U.vm.findClass ("[" ++ ty.toString) = some cA) (kk : aw_W w M d P n L (av_r h.length :: st) (h ++ [ac_a t N (fun _ => 0)]) kc' ks') : aw_W w M d P pc L (av_i (N : Int) :: st) h kc ks := by
  intro p e R s m args below meth c Q hC hQ H locs cells slots ls hH hS hL hk1 hk2
  obtain ⟨hd, rfl⟩ := hd
  have hC0 := hC
  obtain ⟨hx, hb, hr, hml, hown, hts, hK, -⟩ := hC
  subst hty
  have hn : ¬ Int32.ofInt (N : Int) < 0 := by rw [← ai_0, ai_lt (by omega) (by omega)]; omega
  have hcl : (Int32.ofInt (N : Int)).toNatClampNeg = N := by
    have := Int32.toNatClampNeg_ofInt_of_le (n := (N : Int)) (by omega) (by omega)
    rw [this]; omega
  have hby : N * componentBytes (newarray.typeOf atype) ≤ 536870912 := by
    have := Nat.mul_le_mul hN hcb
    omega
  refine va_newaK hx hb (hts _ hw) rfl hd rfl hn hcl hby (by omega) (by omega) hH.1 fun H1 cA e1 z1 o1 hAr hNm => ?_
  have hcA : aw_A w t = cA := by
    have h1 := (hK.1.2 t _ ht).2
    rw [hobj.2] at h1
    exact Option.some.inj (h1.symm.trans hNm)
  refine kk p e R s m args below meth c Q hC0 hQ H1 locs (cells + 1) (slots + N) ls (ah_push hH ?_ (by rw [z1, hH.1]) (fun q hq => o1 q (by rw [← hH.1]; exact hq))) ⟨Nat.le_trans hS.1 (by rw [z1, hH.1]; omega), fun x h1 h2 => (o1 x (by have := hS.1; have := hH.1; omega)).trans (hS.2.1 x h1 h2), hS.2.2⟩ hL (by omega) (by omega)
  show H1[aw_o w + h.length]? = some (vp_cell (aw_A w t) (N, .inl (fun _ => Int32.ofInt 0)))
  rw [e1, vp_cell_i, hcA, hdv]
  rfl
theorem ag_newl {w : aw_T} {M : am_T} {d : Nat} {P : ap_T} {pc n : Nat} {L : al_T} {st : List av_T} {h : ah_T} {kc ks kc' ks' : Nat} {N : Nat} (hd : ad_D M pc (.newarray .long) 2 n) (hw : Cond.arrayClass .long ∈ tt_g) (hN : N ≤ 10000000) (hkc : kc' + 1 ≤ kc) (hks : ks' + N ≤ ks) (kk : aw_W w M d P n L (av_r h.length :: st) (h ++ [ac_l N (fun _ => 0)]) kc' ks') : aw_W w M d P pc L (av_i (N : Int) :: st) h kc ks := by
  intro p e R s m args below meth c Q hC hQ H locs cells slots ls hH hS hL hk1 hk2
  obtain ⟨hd, rfl⟩ := hd
  have hC0 := hC
  obtain ⟨hx, hb, hr, hml, hown, hts, hK, -⟩ := hC
  have hn : ¬ Int32.ofInt (N : Int) < 0 := by rw [← ai_0, ai_lt (by omega) (by omega)]; omega
  have hcl : (Int32.ofInt (N : Int)).toNatClampNeg = N := by
    have := Int32.toNatClampNeg_ofInt_of_le (n := (N : Int)) (by omega) (by omega)
    rw [this]; omega
  have hby : N * componentBytes (newarray.typeOf .long) ≤ 536870912 := by
    show N * 8 ≤ 536870912
    omega
  refine va_newaK (atype := .long) hx hb (hts _ hw) rfl hd rfl hn hcl hby (by omega) (by omega) hH.1 fun H1 cA e1 z1 o1 hAr hNm => ?_
  have hcA : aw_A w 3 = cA := Option.some.inj ((hK.1.2 3 _ rfl).2.symm.trans hNm)
  refine kk p e R s m args below meth c Q hC0 hQ H1 locs (cells + 1) (slots + N) ls (ah_push hH ?_ (by rw [z1, hH.1]) (fun q hq => o1 q (by rw [← hH.1]; exact hq))) ⟨Nat.le_trans hS.1 (by rw [z1, hH.1]; omega), fun x h1 h2 => (o1 x (by have := hS.1; have := hH.1; omega)).trans (hS.2.1 x h1 h2), hS.2.2⟩ hL (by omega) (by omega)
  show H1[aw_o w + h.length]? = some (vp_cell (aw_A w 3) (N, .inr (.inl (fun _ => Int64.ofInt 0))))
  rw [e1, vp_cell_l, hcA]
  rfl
theorem ag_obj {w : aw_T} {M : am_T} {d : Nat} {P : ap_T} {pc n : Nat} {L : al_T} {st : List av_T} {h : ah_T} {kc ks : Nat} {idx a : Nat} (hd : ad_D M pc (.invokespecial idx) 3 n) (h1 : Cond.methodLink M.1.cls idx Lib.objectInit ∈ tt_g) (h2 : Cond.instanceMethod Lib.objectInit ∈ tt_g) (h3 : Cond.code Lib.objectInit ⟨#[0xb1]⟩ 1 none ∈ tt_g) (hd1 : 1 ≤ d) (hst : st.length ≤ 4) (kk : aw_W w M d P n L st h kc ks) : aw_W w M d P pc L (av_r a :: st) h kc ks := by
  intro p e R s m args below meth c Q hC hQ H locs cells slots ls hH hS hL hk1 hk2
  obtain ⟨hd, rfl⟩ := hd
  have kw := kk p e R s m args below meth c Q hC hQ H locs cells slots ls hH hS hL hk1 hk2
  obtain ⟨hx, hb, hr, hml, hown, hts, hK, hlk, hnm, hfr, hlo, -⟩ := hC
  have hs := av_sum w st
  exact W.objInit hx hb hown (hts _ h1) (hts _ h2) (hts _ h3) rfl (hL.2.1.trans hml.symm) rfl hd (by omega) (by show 2 * 0 + _ + 12 ≤ _; omega) kw
