theorem ai_t {a : Int} (h : -2147483648 ≤ a ∧ a < 2147483648) : (Int32.ofInt a).toInt = a := Int32.toInt_ofInt_of_le (by omega) (by omega)
theorem ai_lt {a b : Int} (ha : -2147483648 ≤ a ∧ a < 2147483648) (hb : -2147483648 ≤ b ∧ b < 2147483648) : Int32.ofInt a < Int32.ofInt b ↔ a < b := by rw [Int32.lt_iff_toInt_lt, ai_t ha, ai_t hb]
theorem ai_le {a b : Int} (ha : -2147483648 ≤ a ∧ a < 2147483648) (hb : -2147483648 ≤ b ∧ b < 2147483648) : Int32.ofInt a ≤ Int32.ofInt b ↔ a ≤ b := by rw [Int32.le_iff_toInt_le, ai_t ha, ai_t hb]
theorem ai_eq {a b : Int} (ha : -2147483648 ≤ a ∧ a < 2147483648) (hb : -2147483648 ≤ b ∧ b < 2147483648) : Int32.ofInt a = Int32.ofInt b ↔ a = b := by rw [← Int32.toInt_inj, ai_t ha, ai_t hb]
theorem ai_0 : Int32.ofInt 0 = 0 := rfl
theorem ai_div {a b : Int} (ha : -2147483648 ≤ a ∧ a < 2147483648) (hb : -2147483648 ≤ b ∧ b < 2147483648) : Int32.ofInt (a.tdiv b) = Int32.ofInt a / Int32.ofInt b := by
  rw [Int32.ofInt_eq_iff_bmod_eq_toInt, Int32.toInt_div, ai_t ha, ai_t hb]
theorem ai_ne0 {a : Int} (ha : -2147483648 ≤ a ∧ a < 2147483648) (h : a ≠ 0) : ¬ Int32.ofInt a = 0 := by
  rw [← ai_0, ai_eq ha (by omega)]
  exact h
theorem ai_rem {a b : Int} (ha : -2147483648 ≤ a ∧ a < 2147483648) (hb : -2147483648 ≤ b ∧ b < 2147483648) : Int32.ofInt (a.tmod b) = Int32.ofInt a - Int32.ofInt a / Int32.ofInt b * Int32.ofInt b := by
  rw [Int.tmod_def, Int32.ofInt_sub, Int32.ofInt_mul, ai_div ha hb, Int32.mul_comm]
theorem al_t {a : Int} (h : -9223372036854775808 ≤ a ∧ a < 9223372036854775808) : (Int64.ofInt a).toInt = a := Int64.toInt_ofInt_of_le (by omega) (by omega)
theorem al_div {a b : Int} (ha : -9223372036854775808 ≤ a ∧ a < 9223372036854775808) (hb : -9223372036854775808 ≤ b ∧ b < 9223372036854775808) : Int64.ofInt (a.tdiv b) = Int64.ofInt a / Int64.ofInt b := by
  rw [← Int64.ofInt_toInt (Int64.ofInt a / Int64.ofInt b), Int64.toInt_div, al_t ha, al_t hb]
  apply Int64.toInt_inj.mp
  rw [Int64.toInt_ofInt, Int64.toInt_ofInt]
  simp [Int64.size, Int.bmod_bmod]
theorem al_ne0 {a : Int} (ha : -9223372036854775808 ≤ a ∧ a < 9223372036854775808) (h : a ≠ 0) : ¬ Int64.ofInt a = 0 := by
  intro q
  have := congrArg Int64.toInt q
  rw [al_t ha] at this
  exact h this
theorem al_lt {a b : Int} (ha : -9223372036854775808 ≤ a ∧ a < 9223372036854775808) (hb : -9223372036854775808 ≤ b ∧ b < 9223372036854775808) : Int64.ofInt a < Int64.ofInt b ↔ a < b := by rw [Int64.lt_iff_toInt_lt, al_t ha, al_t hb]
theorem al_eq {a b : Int} (ha : -9223372036854775808 ≤ a ∧ a < 9223372036854775808) (hb : -9223372036854775808 ≤ b ∧ b < 9223372036854775808) : Int64.ofInt a = Int64.ofInt b ↔ a = b := by rw [← Int64.toInt_inj, al_t ha, al_t hb]
def ai_cmp (a b : Int) : Int := if b < a then 1 else if a = b then 0 else -1
theorem al_cmp {a b : Int} (ha : -9223372036854775808 ≤ a ∧ a < 9223372036854775808) (hb : -9223372036854775808 ≤ b ∧ b < 9223372036854775808) : lg_cmp (Int64.ofInt a) (Int64.ofInt b) = Int32.ofInt (ai_cmp a b) := by
  unfold lg_cmp ai_cmp
  simp only [al_lt hb ha, al_eq ha hb]
  by_cases h1 : b < a
  · simp [h1]
  · by_cases h2 : a = b
    · simp [h1, h2]
    · simp [h1, h2]
theorem ai_in {a : Int} {n : Nat} (h : 0 ≤ a ∧ a < n) (hn : n ≤ 2147483648) : vp_in (Int32.ofInt a) n ∧ (Int32.ofInt a).toNatClampNeg = a.toNat := by
  have h1 : (Int32.ofInt a).toNatClampNeg = a.toNat := Int32.toNatClampNeg_ofInt_of_le (by omega) (by omega)
  refine ⟨?_, h1⟩
  unfold vp_in
  rw [h1, ← ai_0, ai_lt (by omega) (by omega)]
  omega

theorem ag_iconst {w : aw_T} {M : am_T} {d : Nat} {P : ap_T} {pc n : Nat} {L : al_T} {st : List av_T} {h : ah_T} {kc ks : Nat} {a : Int} (hd : ad_D M pc (.iconst a) 1 n)  (k : aw_W w M d P n L (av_i a :: st) h kc ks) : aw_W w M d P pc L (st) h kc ks := by
  intro p e R s m args below meth c Q hC hQ H locs cells slots ls hH hS hL hk1 hk2
  obtain ⟨hd, rfl⟩ := hd
  exact lv_iconst hC.1 hC.2.1 hd rfl (k p e R s m args below meth c Q hC hQ H locs cells slots ls hH hS hL hk1 hk2)
theorem ag_bipush {w : aw_T} {M : am_T} {d : Nat} {P : ap_T} {pc n : Nat} {L : al_T} {st : List av_T} {h : ah_T} {kc ks : Nat} {a : Int} (hd : ad_D M pc (.bipush a) 2 n)  (hv : (Int8.ofInt a).toInt32 = Int32.ofInt a) (k : aw_W w M d P n L (av_i a :: st) h kc ks) : aw_W w M d P pc L (st) h kc ks := by
  intro p e R s m args below meth c Q hC hQ H locs cells slots ls hH hS hL hk1 hk2
  obtain ⟨hd, rfl⟩ := hd
  exact lv_bipush hC.1 hC.2.1 hd hv (k p e R s m args below meth c Q hC hQ H locs cells slots ls hH hS hL hk1 hk2)
theorem ag_sipush {w : aw_T} {M : am_T} {d : Nat} {P : ap_T} {pc n : Nat} {L : al_T} {st : List av_T} {h : ah_T} {kc ks : Nat} {a : Int} (hd : ad_D M pc (.sipush a) 3 n)  (hv : (Int16.ofInt a).toInt32 = Int32.ofInt a) (k : aw_W w M d P n L (av_i a :: st) h kc ks) : aw_W w M d P pc L (st) h kc ks := by
  intro p e R s m args below meth c Q hC hQ H locs cells slots ls hH hS hL hk1 hk2
  obtain ⟨hd, rfl⟩ := hd
  exact lv_sipush hC.1 hC.2.1 hd hv (k p e R s m args below meth c Q hC hQ H locs cells slots ls hH hS hL hk1 hk2)
theorem ag_lconst {w : aw_T} {M : am_T} {d : Nat} {P : ap_T} {pc n : Nat} {L : al_T} {st : List av_T} {h : ah_T} {kc ks : Nat} {j : Fin 2} {a : Int} (hd : ad_D M pc (.lconst j) 1 n) (hv : Int64.ofNat (j : Nat) = Int64.ofInt a) (k : aw_W w M d P n L (av_l a :: st) h kc ks) : aw_W w M d P pc L (st) h kc ks := by
  intro p e R s m args below meth c Q hC hQ H locs cells slots ls hH hS hL hk1 hk2
  obtain ⟨hd, rfl⟩ := hd
  exact lv_lconst hC.1 hC.2.1 hd hv (k p e R s m args below meth c Q hC hQ H locs cells slots ls hH hS hL hk1 hk2)
theorem ag_null {w : aw_T} {M : am_T} {d : Nat} {P : ap_T} {pc n : Nat} {L : al_T} {st : List av_T} {h : ah_T} {kc ks : Nat}  (hd : ad_D M pc .aconst_null 1 n)  (k : aw_W w M d P n L (av_n :: st) h kc ks) : aw_W w M d P pc L (st) h kc ks := by
  intro p e R s m args below meth c Q hC hQ H locs cells slots ls hH hS hL hk1 hk2
  obtain ⟨hd, rfl⟩ := hd
  exact lv_null hC.1 hC.2.1 hd (k p e R s m args below meth c Q hC hQ H locs cells slots ls hH hS hL hk1 hk2)
theorem ag_ldc {w : aw_T} {M : am_T} {d : Nat} {P : ap_T} {pc n : Nat} {L : al_T} {st : List av_T} {h : ah_T} {kc ks : Nat} {idx : Nat} {v : Int32} {a : Int} (hd : ad_D M pc (.ldc idx) 2 n) (hw : Cond.constant M.1.cls idx v ∈ tt_g) (hv : v = Int32.ofInt a) (k : aw_W w M d P n L (av_i a :: st) h kc ks) : aw_W w M d P pc L (st) h kc ks := by
  intro p e R s m args below meth c Q hC hQ H locs cells slots ls hH hS hL hk1 hk2
  obtain ⟨hd, rfl⟩ := hd
  subst hv
  exact lv_ldc hC.1 hC.2.1 hC.2.2.2.2.1 (hC.2.2.2.2.2.1 _ hw) hd (k p e R s m args below meth c Q hC hQ H locs cells slots ls hH hS hL hk1 hk2)
theorem ag_ldcw {w : aw_T} {M : am_T} {d : Nat} {P : ap_T} {pc n : Nat} {L : al_T} {st : List av_T} {h : ah_T} {kc ks : Nat} {idx : Nat} {v : Int32} {a : Int} (hd : ad_D M pc (.ldc_w idx) 3 n) (hw : Cond.constant M.1.cls idx v ∈ tt_g) (hv : v = Int32.ofInt a) (k : aw_W w M d P n L (av_i a :: st) h kc ks) : aw_W w M d P pc L (st) h kc ks := by
  intro p e R s m args below meth c Q hC hQ H locs cells slots ls hH hS hL hk1 hk2
  obtain ⟨hd, rfl⟩ := hd
  subst hv
  exact lv_ldcw hC.1 hC.2.1 hC.2.2.2.2.1 (hC.2.2.2.2.2.1 _ hw) hd (k p e R s m args below meth c Q hC hQ H locs cells slots ls hH hS hL hk1 hk2)
theorem ag_ldc2 {w : aw_T} {M : am_T} {d : Nat} {P : ap_T} {pc n : Nat} {L : al_T} {st : List av_T} {h : ah_T} {kc ks : Nat} {idx : Nat} {v : Int64} {a : Int} (hd : ad_D M pc (.ldc2_w idx) 3 n) (hw : Cond.constantLong M.1.cls idx v ∈ tt_g) (hv : v = Int64.ofInt a) (k : aw_W w M d P n L (av_l a :: st) h kc ks) : aw_W w M d P pc L (st) h kc ks := by
  intro p e R s m args below meth c Q hC hQ H locs cells slots ls hH hS hL hk1 hk2
  obtain ⟨hd, rfl⟩ := hd
  subst hv
  exact lv_ldc2 hC.1 hC.2.1 hC.2.2.2.2.1 (hC.2.2.2.2.2.1 _ hw) hd (k p e R s m args below meth c Q hC hQ H locs cells slots ls hH hS hL hk1 hk2)
theorem ag_iload_n {w : aw_T} {M : am_T} {d : Nat} {P : ap_T} {pc n : Nat} {L : al_T} {st : List av_T} {h : ah_T} {kc ks : Nat} {j : Fin 4} {a : Int} (hd : ad_D M pc (.iload_n j) 1 n) (hl : L[(j : Nat)]? = some (some (av_i a))) (k : aw_W w M d P n L (av_i a :: st) h kc ks) : aw_W w M d P pc L (st) h kc ks := by
  intro p e R s m args below meth c Q hC hQ H locs cells slots ls hH hS hL hk1 hk2
  obtain ⟨hd, rfl⟩ := hd
  exact lv_iload_n hC.1 hC.2.1 hd rfl (al_get hL hl) (k p e R s m args below meth c Q hC hQ H locs cells slots ls hH hS hL hk1 hk2)
theorem ag_iload {w : aw_T} {M : am_T} {d : Nat} {P : ap_T} {pc n : Nat} {L : al_T} {st : List av_T} {h : ah_T} {kc ks : Nat} {j : Nat} {a : Int} (hd : ad_D M pc (.iload j) 2 n) (hl : L[j]? = some (some (av_i a))) (k : aw_W w M d P n L (av_i a :: st) h kc ks) : aw_W w M d P pc L (st) h kc ks := by
  intro p e R s m args below meth c Q hC hQ H locs cells slots ls hH hS hL hk1 hk2
  obtain ⟨hd, rfl⟩ := hd
  exact lv_iload hC.1 hC.2.1 hd (al_get hL hl) (k p e R s m args below meth c Q hC hQ H locs cells slots ls hH hS hL hk1 hk2)
theorem ag_lload_n {w : aw_T} {M : am_T} {d : Nat} {P : ap_T} {pc n : Nat} {L : al_T} {st : List av_T} {h : ah_T} {kc ks : Nat} {j : Fin 4} {a : Int} (hd : ad_D M pc (.lload_n j) 1 n) (hl : L[(j : Nat)]? = some (some (av_l a))) (k : aw_W w M d P n L (av_l a :: st) h kc ks) : aw_W w M d P pc L (st) h kc ks := by
  intro p e R s m args below meth c Q hC hQ H locs cells slots ls hH hS hL hk1 hk2
  obtain ⟨hd, rfl⟩ := hd
  exact lv_lload_n hC.1 hC.2.1 hd rfl (al_get hL hl) (k p e R s m args below meth c Q hC hQ H locs cells slots ls hH hS hL hk1 hk2)
theorem ag_lload {w : aw_T} {M : am_T} {d : Nat} {P : ap_T} {pc n : Nat} {L : al_T} {st : List av_T} {h : ah_T} {kc ks : Nat} {j : Nat} {a : Int} (hd : ad_D M pc (.lload j) 2 n) (hl : L[j]? = some (some (av_l a))) (k : aw_W w M d P n L (av_l a :: st) h kc ks) : aw_W w M d P pc L (st) h kc ks := by
  intro p e R s m args below meth c Q hC hQ H locs cells slots ls hH hS hL hk1 hk2
  obtain ⟨hd, rfl⟩ := hd
  exact lv_lload hC.1 hC.2.1 hd (al_get hL hl) (k p e R s m args below meth c Q hC hQ H locs cells slots ls hH hS hL hk1 hk2)
theorem ag_aload_n {w : aw_T} {M : am_T} {d : Nat} {P : ap_T} {pc n : Nat} {L : al_T} {st : List av_T} {h : ah_T} {kc ks : Nat} {j : Fin 4} {q : Option Nat} (hd : ad_D M pc (.aload_n j) 1 n) (hl : L[(j : Nat)]? = some (some (av_q q))) (k : aw_W w M d P n L (av_q q :: st) h kc ks) : aw_W w M d P pc L (st) h kc ks := by
  intro p e R s m args below meth c Q hC hQ H locs cells slots ls hH hS hL hk1 hk2
  obtain ⟨hd, rfl⟩ := hd
  rcases q with _ | q
  · exact lv_aload_nN hC.1 hC.2.1 hd rfl (al_get hL hl) (k p e R s m args below meth c Q hC hQ H locs cells slots ls hH hS hL hk1 hk2)
  · exact lv_aload_n hC.1 hC.2.1 hd rfl (al_get hL hl) (k p e R s m args below meth c Q hC hQ H locs cells slots ls hH hS hL hk1 hk2)
theorem ag_aload {w : aw_T} {M : am_T} {d : Nat} {P : ap_T} {pc n : Nat} {L : al_T} {st : List av_T} {h : ah_T} {kc ks : Nat} {j : Nat} {q : Option Nat} (hd : ad_D M pc (.aload j) 2 n) (hl : L[j]? = some (some (av_q q))) (k : aw_W w M d P n L (av_q q :: st) h kc ks) : aw_W w M d P pc L (st) h kc ks := by
  intro p e R s m args below meth c Q hC hQ H locs cells slots ls hH hS hL hk1 hk2
  obtain ⟨hd, rfl⟩ := hd
  rcases q with _ | q
  · exact lv_aloadN hC.1 hC.2.1 hd (al_get hL hl) (k p e R s m args below meth c Q hC hQ H locs cells slots ls hH hS hL hk1 hk2)
  · exact lv_aload hC.1 hC.2.1 hd (al_get hL hl) (k p e R s m args below meth c Q hC hQ H locs cells slots ls hH hS hL hk1 hk2)
theorem ag_aload_s {w : aw_T} {M : am_T} {d : Nat} {P : ap_T} {pc n : Nat} {L : al_T} {st : List av_T} {h : ah_T} {kc ks : Nat} {j : Fin 4} (hd : ad_D M pc (.aload_n j) 1 n) (hl : L[(j : Nat)]? = some (some av_s)) (k : aw_W w M d P n L (av_s :: st) h kc ks) : aw_W w M d P pc L (st) h kc ks := by
  intro p e R s m args below meth c Q hC hQ H locs cells slots ls hH hS hL hk1 hk2
  obtain ⟨hd, rfl⟩ := hd
  exact lv_aload_n hC.1 hC.2.1 hd rfl (al_get hL hl) (k p e R s m args below meth c Q hC hQ H locs cells slots ls hH hS hL hk1 hk2)
theorem ag_istore_n {w : aw_T} {M : am_T} {d : Nat} {P : ap_T} {pc n : Nat} {L : al_T} {st : List av_T} {h : ah_T} {kc ks : Nat} {L' : al_T} {j : Fin 4} {a : Int} (hd : ad_D M pc (.istore_n j) 1 n) (hl : L.set (j : Nat) (some (av_i a)) = L') (ho : al_ok L (j : Nat) = true) (hi : (j : Nat) < M.2.2.1) (k : aw_W w M d P n L' st h kc ks) : aw_W w M d P pc L (av_i a :: st) h kc ks := by
  intro p e R s m args below meth c Q hC hQ H locs cells slots ls hH hS hL hk1 hk2
  obtain ⟨hd, rfl⟩ := hd
  exact lv_istore_n hC.1 hC.2.1 hd rfl hL.2 hi rfl (fun ls hl2 => k p e R s m args below meth c Q hC hQ H locs cells slots ls hH hS (al_put1 hL.1 ho hl hl2) hk1 hk2)
theorem ag_istore {w : aw_T} {M : am_T} {d : Nat} {P : ap_T} {pc n : Nat} {L : al_T} {st : List av_T} {h : ah_T} {kc ks : Nat} {L' : al_T} {j : Nat} {a : Int} (hd : ad_D M pc (.istore j) 2 n) (hl : L.set j (some (av_i a)) = L') (ho : al_ok L j = true) (hi : j < M.2.2.1) (k : aw_W w M d P n L' st h kc ks) : aw_W w M d P pc L (av_i a :: st) h kc ks := by
  intro p e R s m args below meth c Q hC hQ H locs cells slots ls hH hS hL hk1 hk2
  obtain ⟨hd, rfl⟩ := hd
  exact lv_istore hC.1 hC.2.1 hd hL.2 hi rfl (fun ls hl2 => k p e R s m args below meth c Q hC hQ H locs cells slots ls hH hS (al_put1 hL.1 ho hl hl2) hk1 hk2)
theorem ag_lstore_n {w : aw_T} {M : am_T} {d : Nat} {P : ap_T} {pc n : Nat} {L : al_T} {st : List av_T} {h : ah_T} {kc ks : Nat} {L' : al_T} {j : Fin 4} {a : Int} (hd : ad_D M pc (.lstore_n j) 1 n) (hl : (L.set (j : Nat) (some (av_l a))).set ((j : Nat) + 1) none = L') (ho : al_ok L (j : Nat) = true) (hi : (j : Nat) + 1 < M.2.2.1) (k : aw_W w M d P n L' st h kc ks) : aw_W w M d P pc L (av_l a :: st) h kc ks := by
  intro p e R s m args below meth c Q hC hQ H locs cells slots ls hH hS hL hk1 hk2
  obtain ⟨hd, rfl⟩ := hd
  exact lv_lstore_n hC.1 hC.2.1 hd rfl hL.2 hi rfl (fun ls hl2 => k p e R s m args below meth c Q hC hQ H locs cells slots ls hH hS (al_put2 hL.1 ho hl hl2) hk1 hk2)
theorem ag_lstore {w : aw_T} {M : am_T} {d : Nat} {P : ap_T} {pc n : Nat} {L : al_T} {st : List av_T} {h : ah_T} {kc ks : Nat} {L' : al_T} {j : Nat} {a : Int} (hd : ad_D M pc (.lstore j) 2 n) (hl : (L.set j (some (av_l a))).set (j + 1) none = L') (ho : al_ok L j = true) (hi : j + 1 < M.2.2.1) (k : aw_W w M d P n L' st h kc ks) : aw_W w M d P pc L (av_l a :: st) h kc ks := by
  intro p e R s m args below meth c Q hC hQ H locs cells slots ls hH hS hL hk1 hk2
  obtain ⟨hd, rfl⟩ := hd
  exact lv_lstore hC.1 hC.2.1 hd hL.2 hi rfl (fun ls hl2 => k p e R s m args below meth c Q hC hQ H locs cells slots ls hH hS (al_put2 hL.1 ho hl hl2) hk1 hk2)
theorem ag_astore_n {w : aw_T} {M : am_T} {d : Nat} {P : ap_T} {pc n : Nat} {L : al_T} {st : List av_T} {h : ah_T} {kc ks : Nat} {L' : al_T} {j : Fin 4} {q : Option Nat} (hd : ad_D M pc (.astore_n j) 1 n) (hl : L.set (j : Nat) (some (av_q q)) = L') (ho : al_ok L (j : Nat) = true) (hi : (j : Nat) < M.2.2.1) (k : aw_W w M d P n L' st h kc ks) : aw_W w M d P pc L (av_q q :: st) h kc ks := by
  intro p e R s m args below meth c Q hC hQ H locs cells slots ls hH hS hL hk1 hk2
  obtain ⟨hd, rfl⟩ := hd
  rcases q with _ | q
  · exact lv_astore_nN hC.1 hC.2.1 hd rfl hL.2 hi rfl (fun ls hl2 => k p e R s m args below meth c Q hC hQ H locs cells slots ls hH hS (al_put1 hL.1 ho hl hl2) hk1 hk2)
  · exact lv_astore_n hC.1 hC.2.1 hd rfl hL.2 hi rfl (fun ls hl2 => k p e R s m args below meth c Q hC hQ H locs cells slots ls hH hS (al_put1 hL.1 ho hl hl2) hk1 hk2)
theorem ag_astore {w : aw_T} {M : am_T} {d : Nat} {P : ap_T} {pc n : Nat} {L : al_T} {st : List av_T} {h : ah_T} {kc ks : Nat} {L' : al_T} {j : Nat} {q : Option Nat} (hd : ad_D M pc (.astore j) 2 n) (hl : L.set j (some (av_q q)) = L') (ho : al_ok L j = true) (hi : j < M.2.2.1) (k : aw_W w M d P n L' st h kc ks) : aw_W w M d P pc L (av_q q :: st) h kc ks := by
  intro p e R s m args below meth c Q hC hQ H locs cells slots ls hH hS hL hk1 hk2
  obtain ⟨hd, rfl⟩ := hd
  rcases q with _ | q
  · exact lv_astoreN hC.1 hC.2.1 hd hL.2 hi rfl (fun ls hl2 => k p e R s m args below meth c Q hC hQ H locs cells slots ls hH hS (al_put1 hL.1 ho hl hl2) hk1 hk2)
  · exact lv_astore hC.1 hC.2.1 hd hL.2 hi rfl (fun ls hl2 => k p e R s m args below meth c Q hC hQ H locs cells slots ls hH hS (al_put1 hL.1 ho hl hl2) hk1 hk2)
theorem ag_iinc {w : aw_T} {M : am_T} {d : Nat} {P : ap_T} {pc n : Nat} {L : al_T} {st : List av_T} {h : ah_T} {kc ks : Nat} {L' : al_T} {j : Nat} {a b : Int} (hd : ad_D M pc (.iinc j b) 3 n) (hg : L[j]? = some (some (av_i a))) (hl : L.set j (some (av_i (a + b))) = L') (ho : al_ok L j = true) (hi : j < M.2.2.1) (k : aw_W w M d P n L' st h kc ks) : aw_W w M d P pc L st h kc ks := by
  intro p e R s m args below meth c Q hC hQ H locs cells slots ls hH hS hL hk1 hk2
  obtain ⟨hd, rfl⟩ := hd
  obtain ⟨q, hq⟩ := List.mem_iff_getElem?.mp (al_mem.mpr ⟨_, hg, rfl⟩ : (j, av_v w (av_i a)) ∈ al_lv w L)
  exact lv_iinc hC.1 hC.2.1 hd hL.2 (k := q) (x := Int32.ofInt a) hq (Int32.ofInt_add a b).symm hi rfl (fun ls hl2 => k p e R s m args below meth c Q hC hQ H locs cells slots ls hH hS (al_put1 hL.1 ho hl hl2) hk1 hk2)
theorem ag_iadd {w : aw_T} {M : am_T} {d : Nat} {P : ap_T} {pc n : Nat} {L : al_T} {st : List av_T} {h : ah_T} {kc ks : Nat} {a b : Int} (hd : ad_D M pc .iadd 1 n)  (k : aw_W w M d P n L (av_i (a + b) :: st) h kc ks) : aw_W w M d P pc L (av_i b :: av_i a :: st) h kc ks := by
  intro p e R s m args below meth c Q hC hQ H locs cells slots ls hH hS hL hk1 hk2
  obtain ⟨hd, rfl⟩ := hd
  refine lv_iadd hC.1 hC.2.1 hd ?_
  have kk := k p e R s m args below meth c Q hC hQ H locs cells slots ls hH hS hL hk1 hk2
  simp only [List.map_cons, av_v, Int32.ofInt_add] at kk
  exact kk
theorem ag_isub {w : aw_T} {M : am_T} {d : Nat} {P : ap_T} {pc n : Nat} {L : al_T} {st : List av_T} {h : ah_T} {kc ks : Nat} {a b : Int} (hd : ad_D M pc .isub 1 n)  (k : aw_W w M d P n L (av_i (a - b) :: st) h kc ks) : aw_W w M d P pc L (av_i b :: av_i a :: st) h kc ks := by
  intro p e R s m args below meth c Q hC hQ H locs cells slots ls hH hS hL hk1 hk2
  obtain ⟨hd, rfl⟩ := hd
  refine lv_isub hC.1 hC.2.1 hd ?_
  have kk := k p e R s m args below meth c Q hC hQ H locs cells slots ls hH hS hL hk1 hk2
  simp only [List.map_cons, av_v, Int32.ofInt_sub] at kk
  exact kk
theorem ag_imul {w : aw_T} {M : am_T} {d : Nat} {P : ap_T} {pc n : Nat} {L : al_T} {st : List av_T} {h : ah_T} {kc ks : Nat} {a b : Int} (hd : ad_D M pc .imul 1 n)  (k : aw_W w M d P n L (av_i (a * b) :: st) h kc ks) : aw_W w M d P pc L (av_i b :: av_i a :: st) h kc ks := by
  intro p e R s m args below meth c Q hC hQ H locs cells slots ls hH hS hL hk1 hk2
  obtain ⟨hd, rfl⟩ := hd
  refine lv_imul hC.1 hC.2.1 hd ?_
  have kk := k p e R s m args below meth c Q hC hQ H locs cells slots ls hH hS hL hk1 hk2
  simp only [List.map_cons, av_v, Int32.ofInt_mul] at kk
  exact kk
theorem ag_idiv {w : aw_T} {M : am_T} {d : Nat} {P : ap_T} {pc n : Nat} {L : al_T} {st : List av_T} {h : ah_T} {kc ks : Nat} {a b : Int} (hd : ad_D M pc .idiv 1 n) (ha : -2147483648 ≤ a ∧ a < 2147483648) (hb : -2147483648 ≤ b ∧ b < 2147483648) (h0 : b ≠ 0) (k : aw_W w M d P n L (av_i (a.tdiv b) :: st) h kc ks) : aw_W w M d P pc L (av_i b :: av_i a :: st) h kc ks := by
  intro p e R s m args below meth c Q hC hQ H locs cells slots ls hH hS hL hk1 hk2
  obtain ⟨hd, rfl⟩ := hd
  refine lv_idiv hC.1 hC.2.1 hd (ai_ne0 hb h0) ?_
  have kk := k p e R s m args below meth c Q hC hQ H locs cells slots ls hH hS hL hk1 hk2
  simp only [List.map_cons, av_v, ai_div ha hb] at kk
  exact kk
theorem ag_irem {w : aw_T} {M : am_T} {d : Nat} {P : ap_T} {pc n : Nat} {L : al_T} {st : List av_T} {h : ah_T} {kc ks : Nat} {a b : Int} (hd : ad_D M pc .irem 1 n) (ha : -2147483648 ≤ a ∧ a < 2147483648) (hb : -2147483648 ≤ b ∧ b < 2147483648) (h0 : b ≠ 0) (k : aw_W w M d P n L (av_i (a.tmod b) :: st) h kc ks) : aw_W w M d P pc L (av_i b :: av_i a :: st) h kc ks := by
  intro p e R s m args below meth c Q hC hQ H locs cells slots ls hH hS hL hk1 hk2
  obtain ⟨hd, rfl⟩ := hd
  refine lv_irem hC.1 hC.2.1 hd (ai_ne0 hb h0) ?_
  have kk := k p e R s m args below meth c Q hC hQ H locs cells slots ls hH hS hL hk1 hk2
  simp only [List.map_cons, av_v, ai_rem ha hb] at kk
  exact kk
theorem ag_iand {w : aw_T} {M : am_T} {d : Nat} {P : ap_T} {pc n : Nat} {L : al_T} {st : List av_T} {h : ah_T} {kc ks : Nat} {a b : Int} (hd : ad_D M pc .iand 1 n)  (k : aw_W w M d P n L (av_i ((Int32.ofInt a &&& Int32.ofInt b).toInt) :: st) h kc ks) : aw_W w M d P pc L (av_i b :: av_i a :: st) h kc ks := by
  intro p e R s m args below meth c Q hC hQ H locs cells slots ls hH hS hL hk1 hk2
  obtain ⟨hd, rfl⟩ := hd
  refine lv_iand hC.1 hC.2.1 hd ?_
  have kk := k p e R s m args below meth c Q hC hQ H locs cells slots ls hH hS hL hk1 hk2
  simp only [List.map_cons, av_v, Int32.ofInt_toInt] at kk
  exact kk
theorem ag_ior {w : aw_T} {M : am_T} {d : Nat} {P : ap_T} {pc n : Nat} {L : al_T} {st : List av_T} {h : ah_T} {kc ks : Nat} {a b : Int} (hd : ad_D M pc .ior 1 n)  (k : aw_W w M d P n L (av_i ((Int32.ofInt a ||| Int32.ofInt b).toInt) :: st) h kc ks) : aw_W w M d P pc L (av_i b :: av_i a :: st) h kc ks := by
  intro p e R s m args below meth c Q hC hQ H locs cells slots ls hH hS hL hk1 hk2
  obtain ⟨hd, rfl⟩ := hd
  refine lv_ior hC.1 hC.2.1 hd ?_
  have kk := k p e R s m args below meth c Q hC hQ H locs cells slots ls hH hS hL hk1 hk2
  simp only [List.map_cons, av_v, Int32.ofInt_toInt] at kk
  exact kk
theorem ag_ixor {w : aw_T} {M : am_T} {d : Nat} {P : ap_T} {pc n : Nat} {L : al_T} {st : List av_T} {h : ah_T} {kc ks : Nat} {a b : Int} (hd : ad_D M pc .ixor 1 n)  (k : aw_W w M d P n L (av_i ((Int32.ofInt a ^^^ Int32.ofInt b).toInt) :: st) h kc ks) : aw_W w M d P pc L (av_i b :: av_i a :: st) h kc ks := by
  intro p e R s m args below meth c Q hC hQ H locs cells slots ls hH hS hL hk1 hk2
  obtain ⟨hd, rfl⟩ := hd
  refine lv_ixor hC.1 hC.2.1 hd ?_
  have kk := k p e R s m args below meth c Q hC hQ H locs cells slots ls hH hS hL hk1 hk2
  simp only [List.map_cons, av_v, Int32.ofInt_toInt] at kk
  exact kk
theorem ag_ishl {w : aw_T} {M : am_T} {d : Nat} {P : ap_T} {pc n : Nat} {L : al_T} {st : List av_T} {h : ah_T} {kc ks : Nat} {a b : Int} (hd : ad_D M pc .ishl 1 n)  (k : aw_W w M d P n L (av_i ((Int32.ofInt a <<< (Int32.ofInt b &&& 31)).toInt) :: st) h kc ks) : aw_W w M d P pc L (av_i b :: av_i a :: st) h kc ks := by
  intro p e R s m args below meth c Q hC hQ H locs cells slots ls hH hS hL hk1 hk2
  obtain ⟨hd, rfl⟩ := hd
  refine lv_ishl hC.1 hC.2.1 hd ?_
  have kk := k p e R s m args below meth c Q hC hQ H locs cells slots ls hH hS hL hk1 hk2
  simp only [List.map_cons, av_v, Int32.ofInt_toInt] at kk
  exact kk
theorem ag_ishr {w : aw_T} {M : am_T} {d : Nat} {P : ap_T} {pc n : Nat} {L : al_T} {st : List av_T} {h : ah_T} {kc ks : Nat} {a b : Int} (hd : ad_D M pc .ishr 1 n)  (k : aw_W w M d P n L (av_i ((Int32.ofInt a >>> (Int32.ofInt b &&& 31)).toInt) :: st) h kc ks) : aw_W w M d P pc L (av_i b :: av_i a :: st) h kc ks := by
  intro p e R s m args below meth c Q hC hQ H locs cells slots ls hH hS hL hk1 hk2
  obtain ⟨hd, rfl⟩ := hd
  refine lv_ishr hC.1 hC.2.1 hd ?_
  have kk := k p e R s m args below meth c Q hC hQ H locs cells slots ls hH hS hL hk1 hk2
  simp only [List.map_cons, av_v, Int32.ofInt_toInt] at kk
  exact kk
theorem ag_iushr {w : aw_T} {M : am_T} {d : Nat} {P : ap_T} {pc n : Nat} {L : al_T} {st : List av_T} {h : ah_T} {kc ks : Nat} {a b : Int} (hd : ad_D M pc .iushr 1 n)  (k : aw_W w M d P n L (av_i ((Int32.ofInt a).toUInt32 >>> ((Int32.ofInt b).toUInt32 &&& Int32.toUInt32 31)).toInt32.toInt :: st) h kc ks) : aw_W w M d P pc L (av_i b :: av_i a :: st) h kc ks := by
  intro p e R s m args below meth c Q hC hQ H locs cells slots ls hH hS hL hk1 hk2
  obtain ⟨hd, rfl⟩ := hd
  refine lv_iushr hC.1 hC.2.1 hd rfl ?_
  have kk := k p e R s m args below meth c Q hC hQ H locs cells slots ls hH hS hL hk1 hk2
  simp only [List.map_cons, av_v, Int32.ofInt_toInt] at kk
  exact kk
theorem ag_ineg {w : aw_T} {M : am_T} {d : Nat} {P : ap_T} {pc n : Nat} {L : al_T} {st : List av_T} {h : ah_T} {kc ks : Nat} {a : Int} (hd : ad_D M pc .ineg 1 n)  (k : aw_W w M d P n L (av_i (-a) :: st) h kc ks) : aw_W w M d P pc L (av_i a :: st) h kc ks := by
  intro p e R s m args below meth c Q hC hQ H locs cells slots ls hH hS hL hk1 hk2
  obtain ⟨hd, rfl⟩ := hd
  refine lv_ineg hC.1 hC.2.1 hd ?_
  have kk := k p e R s m args below meth c Q hC hQ H locs cells slots ls hH hS hL hk1 hk2
  simp only [List.map_cons, av_v, Int32.ofInt_neg] at kk
  exact kk
theorem ag_i2b {w : aw_T} {M : am_T} {d : Nat} {P : ap_T} {pc n : Nat} {L : al_T} {st : List av_T} {h : ah_T} {kc ks : Nat} {a : Int} (hd : ad_D M pc .i2b 1 n)  (k : aw_W w M d P n L (av_i (Int32.ofInt a).toInt8.toInt32.toInt :: st) h kc ks) : aw_W w M d P pc L (av_i a :: st) h kc ks := by
  intro p e R s m args below meth c Q hC hQ H locs cells slots ls hH hS hL hk1 hk2
  obtain ⟨hd, rfl⟩ := hd
  refine lv_i2b hC.1 hC.2.1 hd rfl ?_
  have kk := k p e R s m args below meth c Q hC hQ H locs cells slots ls hH hS hL hk1 hk2
  simp only [List.map_cons, av_v, Int32.ofInt_toInt] at kk
  exact kk
theorem ag_i2l {w : aw_T} {M : am_T} {d : Nat} {P : ap_T} {pc n : Nat} {L : al_T} {st : List av_T} {h : ah_T} {kc ks : Nat} {a : Int} (hd : ad_D M pc .i2l 1 n) (ha : -2147483648 ≤ a ∧ a < 2147483648) (k : aw_W w M d P n L (av_l a :: st) h kc ks) : aw_W w M d P pc L (av_i a :: st) h kc ks := by
  intro p e R s m args below meth c Q hC hQ H locs cells slots ls hH hS hL hk1 hk2
  obtain ⟨hd, rfl⟩ := hd
  exact lv_i2l hC.1 hC.2.1 hd (Int32.toInt64_ofInt (by show (-2147483648 : Int) ≤ a; omega) (by show a ≤ (2147483647 : Int); omega)) (k p e R s m args below meth c Q hC hQ H locs cells slots ls hH hS hL hk1 hk2)
theorem ag_l2i {w : aw_T} {M : am_T} {d : Nat} {P : ap_T} {pc n : Nat} {L : al_T} {st : List av_T} {h : ah_T} {kc ks : Nat} {a : Int} (hd : ad_D M pc .l2i 1 n)  (k : aw_W w M d P n L (av_i a :: st) h kc ks) : aw_W w M d P pc L (av_l a :: st) h kc ks := by
  intro p e R s m args below meth c Q hC hQ H locs cells slots ls hH hS hL hk1 hk2
  obtain ⟨hd, rfl⟩ := hd
  exact lv_l2i hC.1 hC.2.1 hd Int64.toInt32_ofInt (k p e R s m args below meth c Q hC hQ H locs cells slots ls hH hS hL hk1 hk2)
theorem ag_ladd {w : aw_T} {M : am_T} {d : Nat} {P : ap_T} {pc n : Nat} {L : al_T} {st : List av_T} {h : ah_T} {kc ks : Nat} {a b : Int} (hd : ad_D M pc .ladd 1 n)  (k : aw_W w M d P n L (av_l (a + b) :: st) h kc ks) : aw_W w M d P pc L (av_l b :: av_l a :: st) h kc ks := by
  intro p e R s m args below meth c Q hC hQ H locs cells slots ls hH hS hL hk1 hk2
  obtain ⟨hd, rfl⟩ := hd
  refine lv_ladd hC.1 hC.2.1 hd ?_
  have kk := k p e R s m args below meth c Q hC hQ H locs cells slots ls hH hS hL hk1 hk2
  simp only [List.map_cons, av_v, Int64.ofInt_add] at kk
  exact kk
theorem ag_lsub {w : aw_T} {M : am_T} {d : Nat} {P : ap_T} {pc n : Nat} {L : al_T} {st : List av_T} {h : ah_T} {kc ks : Nat} {a b : Int} (hd : ad_D M pc .lsub 1 n)  (k : aw_W w M d P n L (av_l (a - b) :: st) h kc ks) : aw_W w M d P pc L (av_l b :: av_l a :: st) h kc ks := by
  intro p e R s m args below meth c Q hC hQ H locs cells slots ls hH hS hL hk1 hk2
  obtain ⟨hd, rfl⟩ := hd
  refine lv_lsub hC.1 hC.2.1 hd ?_
  have kk := k p e R s m args below meth c Q hC hQ H locs cells slots ls hH hS hL hk1 hk2
  simp only [List.map_cons, av_v, Int64.ofInt_sub] at kk
  exact kk
theorem ag_lmul {w : aw_T} {M : am_T} {d : Nat} {P : ap_T} {pc n : Nat} {L : al_T} {st : List av_T} {h : ah_T} {kc ks : Nat} {a b : Int} (hd : ad_D M pc .lmul 1 n)  (k : aw_W w M d P n L (av_l (a * b) :: st) h kc ks) : aw_W w M d P pc L (av_l b :: av_l a :: st) h kc ks := by
  intro p e R s m args below meth c Q hC hQ H locs cells slots ls hH hS hL hk1 hk2
  obtain ⟨hd, rfl⟩ := hd
  refine lv_lmul hC.1 hC.2.1 hd ?_
  have kk := k p e R s m args below meth c Q hC hQ H locs cells slots ls hH hS hL hk1 hk2
  simp only [List.map_cons, av_v, Int64.ofInt_mul] at kk
  exact kk
theorem ag_ldiv {w : aw_T} {M : am_T} {d : Nat} {P : ap_T} {pc n : Nat} {L : al_T} {st : List av_T} {h : ah_T} {kc ks : Nat} {a b : Int} (hd : ad_D M pc .ldiv 1 n) (ha : -9223372036854775808 ≤ a ∧ a < 9223372036854775808) (hb : -9223372036854775808 ≤ b ∧ b < 9223372036854775808) (h0 : b ≠ 0) (k : aw_W w M d P n L (av_l (a.tdiv b) :: st) h kc ks) : aw_W w M d P pc L (av_l b :: av_l a :: st) h kc ks := by
  intro p e R s m args below meth c Q hC hQ H locs cells slots ls hH hS hL hk1 hk2
  obtain ⟨hd, rfl⟩ := hd
  refine lv_ldiv hC.1 hC.2.1 hd (al_ne0 hb h0) ?_
  have kk := k p e R s m args below meth c Q hC hQ H locs cells slots ls hH hS hL hk1 hk2
  simp only [List.map_cons, av_v, al_div ha hb] at kk
  exact kk
theorem ag_lneg {w : aw_T} {M : am_T} {d : Nat} {P : ap_T} {pc n : Nat} {L : al_T} {st : List av_T} {h : ah_T} {kc ks : Nat} {a : Int} (hd : ad_D M pc .lneg 1 n)  (k : aw_W w M d P n L (av_l (-a) :: st) h kc ks) : aw_W w M d P pc L (av_l a :: st) h kc ks := by
  intro p e R s m args below meth c Q hC hQ H locs cells slots ls hH hS hL hk1 hk2
  obtain ⟨hd, rfl⟩ := hd
  refine lv_lneg hC.1 hC.2.1 hd ?_
  have kk := k p e R s m args below meth c Q hC hQ H locs cells slots ls hH hS hL hk1 hk2
  simp only [List.map_cons, av_v, Int64.ofInt_neg] at kk
  exact kk
theorem ag_lcmp {w : aw_T} {M : am_T} {d : Nat} {P : ap_T} {pc n : Nat} {L : al_T} {st : List av_T} {h : ah_T} {kc ks : Nat} {a b : Int} (hd : ad_D M pc .lcmp 1 n) (ha : -9223372036854775808 ≤ a ∧ a < 9223372036854775808) (hb : -9223372036854775808 ≤ b ∧ b < 9223372036854775808) (k : aw_W w M d P n L (av_i (ai_cmp a b) :: st) h kc ks) : aw_W w M d P pc L (av_l b :: av_l a :: st) h kc ks := by
  intro p e R s m args below meth c Q hC hQ H locs cells slots ls hH hS hL hk1 hk2
  obtain ⟨hd, rfl⟩ := hd
  refine W.lcmp hC.1 hC.2.1 hd ?_
  rw [al_cmp ha hb]
  exact k p e R s m args below meth c Q hC hQ H locs cells slots ls hH hS hL hk1 hk2
theorem ag_dup {w : aw_T} {M : am_T} {d : Nat} {P : ap_T} {pc n : Nat} {L : al_T} {st : List av_T} {h : ah_T} {kc ks : Nat} {v : av_T} (hd : ad_D M pc .dup 1 n) (hv : av_c v = 1) (k : aw_W w M d P n L (v :: v :: st) h kc ks) : aw_W w M d P pc L (v :: st) h kc ks := by
  intro p e R s m args below meth c Q hC hQ H locs cells slots ls hH hS hL hk1 hk2
  obtain ⟨hd, rfl⟩ := hd
  exact lv_dup hC.1 hC.2.1 hd (by rw [av_cat]; exact hv) (k p e R s m args below meth c Q hC hQ H locs cells slots ls hH hS hL hk1 hk2)
theorem ag_pop {w : aw_T} {M : am_T} {d : Nat} {P : ap_T} {pc n : Nat} {L : al_T} {st : List av_T} {h : ah_T} {kc ks : Nat} {v : av_T} (hd : ad_D M pc .pop 1 n) (hv : av_c v = 1) (k : aw_W w M d P n L (st) h kc ks) : aw_W w M d P pc L (v :: st) h kc ks := by
  intro p e R s m args below meth c Q hC hQ H locs cells slots ls hH hS hL hk1 hk2
  obtain ⟨hd, rfl⟩ := hd
  exact lv_pop hC.1 hC.2.1 hd (by rw [av_cat]; exact hv) (k p e R s m args below meth c Q hC hQ H locs cells slots ls hH hS hL hk1 hk2)
theorem ag_dup2 {w : aw_T} {M : am_T} {d : Nat} {P : ap_T} {pc n : Nat} {L : al_T} {st : List av_T} {h : ah_T} {kc ks : Nat} {v u : av_T} (hd : ad_D M pc .dup2 1 n) (hv : av_c v = 1) (hu : av_c u = 1) (k : aw_W w M d P n L (v :: u :: v :: u :: st) h kc ks) : aw_W w M d P pc L (v :: u :: st) h kc ks := by
  intro p e R s m args below meth c Q hC hQ H locs cells slots ls hH hS hL hk1 hk2
  obtain ⟨hd, rfl⟩ := hd
  exact lv_dup2_11 hC.1 hC.2.1 hd (by rw [av_cat]; exact hv) (by rw [av_cat]; exact hu) (k p e R s m args below meth c Q hC hQ H locs cells slots ls hH hS hL hk1 hk2)
theorem ag_icmp_eq {w : aw_T} {M : am_T} {d : Nat} {P : ap_T} {pc n : Nat} {L : al_T} {st : List av_T} {h : ah_T} {kc ks : Nat} {a b off : Int} {tgt : Nat} (hd : ad_D M pc (.if_icmp .eq off) 3 n) (ht : (pc : Int) + off = (tgt : Int)) (ha : -2147483648 ≤ a ∧ a < 2147483648) (hb : -2147483648 ≤ b ∧ b < 2147483648) (kt : a = b → aw_W w M d P tgt L st h kc ks) (kf : a ≠ b → aw_W w M d P n L st h kc ks) : aw_W w M d P pc L (av_i b :: av_i a :: st) h kc ks := by
  intro p e R s m args below meth c Q hC hQ H locs cells slots ls hH hS hL hk1 hk2
  obtain ⟨hd, rfl⟩ := hd
  exact lv_icmp_eq hC.1 hC.2.1 hd ht (fun hc => kt ((ai_eq ha hb).mp hc) p e R s m args below meth c Q hC hQ H locs cells slots ls hH hS hL hk1 hk2) (fun hc => kf (fun q => hc ((ai_eq ha hb).mpr q)) p e R s m args below meth c Q hC hQ H locs cells slots ls hH hS hL hk1 hk2)
theorem ag_if_eq {w : aw_T} {M : am_T} {d : Nat} {P : ap_T} {pc n : Nat} {L : al_T} {st : List av_T} {h : ah_T} {kc ks : Nat} {a off : Int} {tgt : Nat} (hd : ad_D M pc (.ifCond .eq off) 3 n) (ht : (pc : Int) + off = (tgt : Int)) (ha : -2147483648 ≤ a ∧ a < 2147483648) (kt : a = 0 → aw_W w M d P tgt L st h kc ks) (kf : a ≠ 0 → aw_W w M d P n L st h kc ks) : aw_W w M d P pc L (av_i a :: st) h kc ks := by
  intro p e R s m args below meth c Q hC hQ H locs cells slots ls hH hS hL hk1 hk2
  obtain ⟨hd, rfl⟩ := hd
  have hb : (-2147483648 : Int) ≤ 0 ∧ (0 : Int) < 2147483648 := by omega
  exact lv_if_eq hC.1 hC.2.1 hd ht (fun hc => kt ((ai_eq ha hb).mp hc) p e R s m args below meth c Q hC hQ H locs cells slots ls hH hS hL hk1 hk2) (fun hc => kf (fun q => hc ((ai_eq ha hb).mpr q)) p e R s m args below meth c Q hC hQ H locs cells slots ls hH hS hL hk1 hk2)
theorem ag_icmp_ne {w : aw_T} {M : am_T} {d : Nat} {P : ap_T} {pc n : Nat} {L : al_T} {st : List av_T} {h : ah_T} {kc ks : Nat} {a b off : Int} {tgt : Nat} (hd : ad_D M pc (.if_icmp .ne off) 3 n) (ht : (pc : Int) + off = (tgt : Int)) (ha : -2147483648 ≤ a ∧ a < 2147483648) (hb : -2147483648 ≤ b ∧ b < 2147483648) (kt : a ≠ b → aw_W w M d P tgt L st h kc ks) (kf : a = b → aw_W w M d P n L st h kc ks) : aw_W w M d P pc L (av_i b :: av_i a :: st) h kc ks := by
  intro p e R s m args below meth c Q hC hQ H locs cells slots ls hH hS hL hk1 hk2
  obtain ⟨hd, rfl⟩ := hd
  exact lv_icmp_ne hC.1 hC.2.1 hd ht (fun hc => kt (fun q => hc ((ai_eq ha hb).mpr q)) p e R s m args below meth c Q hC hQ H locs cells slots ls hH hS hL hk1 hk2) (fun hc => kf ((ai_eq ha hb).mp hc) p e R s m args below meth c Q hC hQ H locs cells slots ls hH hS hL hk1 hk2)
theorem ag_if_ne {w : aw_T} {M : am_T} {d : Nat} {P : ap_T} {pc n : Nat} {L : al_T} {st : List av_T} {h : ah_T} {kc ks : Nat} {a off : Int} {tgt : Nat} (hd : ad_D M pc (.ifCond .ne off) 3 n) (ht : (pc : Int) + off = (tgt : Int)) (ha : -2147483648 ≤ a ∧ a < 2147483648) (kt : a ≠ 0 → aw_W w M d P tgt L st h kc ks) (kf : a = 0 → aw_W w M d P n L st h kc ks) : aw_W w M d P pc L (av_i a :: st) h kc ks := by
  intro p e R s m args below meth c Q hC hQ H locs cells slots ls hH hS hL hk1 hk2
  obtain ⟨hd, rfl⟩ := hd
  have hb : (-2147483648 : Int) ≤ 0 ∧ (0 : Int) < 2147483648 := by omega
  exact lv_if_ne hC.1 hC.2.1 hd ht (fun hc => kt (fun q => hc ((ai_eq ha hb).mpr q)) p e R s m args below meth c Q hC hQ H locs cells slots ls hH hS hL hk1 hk2) (fun hc => kf ((ai_eq ha hb).mp hc) p e R s m args below meth c Q hC hQ H locs cells slots ls hH hS hL hk1 hk2)
theorem ag_icmp_lt {w : aw_T} {M : am_T} {d : Nat} {P : ap_T} {pc n : Nat} {L : al_T} {st : List av_T} {h : ah_T} {kc ks : Nat} {a b off : Int} {tgt : Nat} (hd : ad_D M pc (.if_icmp .lt off) 3 n) (ht : (pc : Int) + off = (tgt : Int)) (ha : -2147483648 ≤ a ∧ a < 2147483648) (hb : -2147483648 ≤ b ∧ b < 2147483648) (kt : a < b → aw_W w M d P tgt L st h kc ks) (kf : b ≤ a → aw_W w M d P n L st h kc ks) : aw_W w M d P pc L (av_i b :: av_i a :: st) h kc ks := by
  intro p e R s m args below meth c Q hC hQ H locs cells slots ls hH hS hL hk1 hk2
  obtain ⟨hd, rfl⟩ := hd
  exact lv_icmp_lt hC.1 hC.2.1 hd ht (fun hc => kt ((ai_lt ha hb).mp hc) p e R s m args below meth c Q hC hQ H locs cells slots ls hH hS hL hk1 hk2) (fun hc => kf (Int.not_lt.mp (fun q => hc ((ai_lt ha hb).mpr q))) p e R s m args below meth c Q hC hQ H locs cells slots ls hH hS hL hk1 hk2)
theorem ag_if_lt {w : aw_T} {M : am_T} {d : Nat} {P : ap_T} {pc n : Nat} {L : al_T} {st : List av_T} {h : ah_T} {kc ks : Nat} {a off : Int} {tgt : Nat} (hd : ad_D M pc (.ifCond .lt off) 3 n) (ht : (pc : Int) + off = (tgt : Int)) (ha : -2147483648 ≤ a ∧ a < 2147483648) (kt : a < 0 → aw_W w M d P tgt L st h kc ks) (kf : 0 ≤ a → aw_W w M d P n L st h kc ks) : aw_W w M d P pc L (av_i a :: st) h kc ks := by
  intro p e R s m args below meth c Q hC hQ H locs cells slots ls hH hS hL hk1 hk2
  obtain ⟨hd, rfl⟩ := hd
  have hb : (-2147483648 : Int) ≤ 0 ∧ (0 : Int) < 2147483648 := by omega
  exact lv_if_lt hC.1 hC.2.1 hd ht (fun hc => kt ((ai_lt ha hb).mp hc) p e R s m args below meth c Q hC hQ H locs cells slots ls hH hS hL hk1 hk2) (fun hc => kf (Int.not_lt.mp (fun q => hc ((ai_lt ha hb).mpr q))) p e R s m args below meth c Q hC hQ H locs cells slots ls hH hS hL hk1 hk2)
theorem ag_icmp_ge {w : aw_T} {M : am_T} {d : Nat} {P : ap_T} {pc n : Nat} {L : al_T} {st : List av_T} {h : ah_T} {kc ks : Nat} {a b off : Int} {tgt : Nat} (hd : ad_D M pc (.if_icmp .ge off) 3 n) (ht : (pc : Int) + off = (tgt : Int)) (ha : -2147483648 ≤ a ∧ a < 2147483648) (hb : -2147483648 ≤ b ∧ b < 2147483648) (kt : b ≤ a → aw_W w M d P tgt L st h kc ks) (kf : a < b → aw_W w M d P n L st h kc ks) : aw_W w M d P pc L (av_i b :: av_i a :: st) h kc ks := by
  intro p e R s m args below meth c Q hC hQ H locs cells slots ls hH hS hL hk1 hk2
  obtain ⟨hd, rfl⟩ := hd
  exact lv_icmp_ge hC.1 hC.2.1 hd ht (fun hc => kt ((ai_le hb ha).mp hc) p e R s m args below meth c Q hC hQ H locs cells slots ls hH hS hL hk1 hk2) (fun hc => kf (Int.not_le.mp (fun q => hc ((ai_le hb ha).mpr q))) p e R s m args below meth c Q hC hQ H locs cells slots ls hH hS hL hk1 hk2)
theorem ag_if_ge {w : aw_T} {M : am_T} {d : Nat} {P : ap_T} {pc n : Nat} {L : al_T} {st : List av_T} {h : ah_T} {kc ks : Nat} {a off : Int} {tgt : Nat} (hd : ad_D M pc (.ifCond .ge off) 3 n) (ht : (pc : Int) + off = (tgt : Int)) (ha : -2147483648 ≤ a ∧ a < 2147483648) (kt : 0 ≤ a → aw_W w M d P tgt L st h kc ks) (kf : a < 0 → aw_W w M d P n L st h kc ks) : aw_W w M d P pc L (av_i a :: st) h kc ks := by
  intro p e R s m args below meth c Q hC hQ H locs cells slots ls hH hS hL hk1 hk2
  obtain ⟨hd, rfl⟩ := hd
  have hb : (-2147483648 : Int) ≤ 0 ∧ (0 : Int) < 2147483648 := by omega
  exact lv_if_ge hC.1 hC.2.1 hd ht (fun hc => kt ((ai_le hb ha).mp hc) p e R s m args below meth c Q hC hQ H locs cells slots ls hH hS hL hk1 hk2) (fun hc => kf (Int.not_le.mp (fun q => hc ((ai_le hb ha).mpr q))) p e R s m args below meth c Q hC hQ H locs cells slots ls hH hS hL hk1 hk2)
theorem ag_icmp_gt {w : aw_T} {M : am_T} {d : Nat} {P : ap_T} {pc n : Nat} {L : al_T} {st : List av_T} {h : ah_T} {kc ks : Nat} {a b off : Int} {tgt : Nat} (hd : ad_D M pc (.if_icmp .gt off) 3 n) (ht : (pc : Int) + off = (tgt : Int)) (ha : -2147483648 ≤ a ∧ a < 2147483648) (hb : -2147483648 ≤ b ∧ b < 2147483648) (kt : b < a → aw_W w M d P tgt L st h kc ks) (kf : a ≤ b → aw_W w M d P n L st h kc ks) : aw_W w M d P pc L (av_i b :: av_i a :: st) h kc ks := by
  intro p e R s m args below meth c Q hC hQ H locs cells slots ls hH hS hL hk1 hk2
  obtain ⟨hd, rfl⟩ := hd
  exact lv_icmp_gt hC.1 hC.2.1 hd ht (fun hc => kt ((ai_lt hb ha).mp hc) p e R s m args below meth c Q hC hQ H locs cells slots ls hH hS hL hk1 hk2) (fun hc => kf (Int.not_lt.mp (fun q => hc ((ai_lt hb ha).mpr q))) p e R s m args below meth c Q hC hQ H locs cells slots ls hH hS hL hk1 hk2)
theorem ag_if_gt {w : aw_T} {M : am_T} {d : Nat} {P : ap_T} {pc n : Nat} {L : al_T} {st : List av_T} {h : ah_T} {kc ks : Nat} {a off : Int} {tgt : Nat} (hd : ad_D M pc (.ifCond .gt off) 3 n) (ht : (pc : Int) + off = (tgt : Int)) (ha : -2147483648 ≤ a ∧ a < 2147483648) (kt : 0 < a → aw_W w M d P tgt L st h kc ks) (kf : a ≤ 0 → aw_W w M d P n L st h kc ks) : aw_W w M d P pc L (av_i a :: st) h kc ks := by
  intro p e R s m args below meth c Q hC hQ H locs cells slots ls hH hS hL hk1 hk2
  obtain ⟨hd, rfl⟩ := hd
  have hb : (-2147483648 : Int) ≤ 0 ∧ (0 : Int) < 2147483648 := by omega
  exact lv_if_gt hC.1 hC.2.1 hd ht (fun hc => kt ((ai_lt hb ha).mp hc) p e R s m args below meth c Q hC hQ H locs cells slots ls hH hS hL hk1 hk2) (fun hc => kf (Int.not_lt.mp (fun q => hc ((ai_lt hb ha).mpr q))) p e R s m args below meth c Q hC hQ H locs cells slots ls hH hS hL hk1 hk2)
theorem ag_icmp_le {w : aw_T} {M : am_T} {d : Nat} {P : ap_T} {pc n : Nat} {L : al_T} {st : List av_T} {h : ah_T} {kc ks : Nat} {a b off : Int} {tgt : Nat} (hd : ad_D M pc (.if_icmp .le off) 3 n) (ht : (pc : Int) + off = (tgt : Int)) (ha : -2147483648 ≤ a ∧ a < 2147483648) (hb : -2147483648 ≤ b ∧ b < 2147483648) (kt : a ≤ b → aw_W w M d P tgt L st h kc ks) (kf : b < a → aw_W w M d P n L st h kc ks) : aw_W w M d P pc L (av_i b :: av_i a :: st) h kc ks := by
  intro p e R s m args below meth c Q hC hQ H locs cells slots ls hH hS hL hk1 hk2
  obtain ⟨hd, rfl⟩ := hd
  exact lv_icmp_le hC.1 hC.2.1 hd ht (fun hc => kt ((ai_le ha hb).mp hc) p e R s m args below meth c Q hC hQ H locs cells slots ls hH hS hL hk1 hk2) (fun hc => kf (Int.not_le.mp (fun q => hc ((ai_le ha hb).mpr q))) p e R s m args below meth c Q hC hQ H locs cells slots ls hH hS hL hk1 hk2)
theorem ag_if_le {w : aw_T} {M : am_T} {d : Nat} {P : ap_T} {pc n : Nat} {L : al_T} {st : List av_T} {h : ah_T} {kc ks : Nat} {a off : Int} {tgt : Nat} (hd : ad_D M pc (.ifCond .le off) 3 n) (ht : (pc : Int) + off = (tgt : Int)) (ha : -2147483648 ≤ a ∧ a < 2147483648) (kt : a ≤ 0 → aw_W w M d P tgt L st h kc ks) (kf : 0 < a → aw_W w M d P n L st h kc ks) : aw_W w M d P pc L (av_i a :: st) h kc ks := by
  intro p e R s m args below meth c Q hC hQ H locs cells slots ls hH hS hL hk1 hk2
  obtain ⟨hd, rfl⟩ := hd
  have hb : (-2147483648 : Int) ≤ 0 ∧ (0 : Int) < 2147483648 := by omega
  exact lv_if_le hC.1 hC.2.1 hd ht (fun hc => kt ((ai_le ha hb).mp hc) p e R s m args below meth c Q hC hQ H locs cells slots ls hH hS hL hk1 hk2) (fun hc => kf (Int.not_le.mp (fun q => hc ((ai_le ha hb).mpr q))) p e R s m args below meth c Q hC hQ H locs cells slots ls hH hS hL hk1 hk2)
theorem ag_goto {w : aw_T} {M : am_T} {d : Nat} {P : ap_T} {pc n : Nat} {L : al_T} {st : List av_T} {h : ah_T} {kc ks : Nat} {off : Int} {tgt : Nat} (hd : ad_D M pc (.goto off) 3 n) (ht : (pc : Int) + off = (tgt : Int)) (k : aw_W w M d P tgt L st h kc ks) : aw_W w M d P pc L st h kc ks := by
  intro p e R s m args below meth c Q hC hQ H locs cells slots ls hH hS hL hk1 hk2
  obtain ⟨hd, rfl⟩ := hd
  exact lv_goto hC.1 hC.2.1 hd ht (k p e R s m args below meth c Q hC hQ H locs cells slots ls hH hS hL hk1 hk2)
theorem ag_ifnull {w : aw_T} {M : am_T} {d : Nat} {P : ap_T} {pc n : Nat} {L : al_T} {st : List av_T} {h : ah_T} {kc ks : Nat} {q : Option Nat} {off : Int} {tgt : Nat} (hd : ad_D M pc (.ifnull off) 3 n) (ht : (pc : Int) + off = (tgt : Int)) (kt : q = none → aw_W w M d P tgt L st h kc ks) (kf : ∀ a, q = some a → aw_W w M d P n L st h kc ks) : aw_W w M d P pc L (av_q q :: st) h kc ks := by
  intro p e R s m args below meth c Q hC hQ H locs cells slots ls hH hS hL hk1 hk2
  obtain ⟨hd, rfl⟩ := hd
  rcases q with _ | q
  · exact lv_ifnullN hC.1 hC.2.1 hd ht (kt rfl p e R s m args below meth c Q hC hQ H locs cells slots ls hH hS hL hk1 hk2)
  · exact lv_ifnull hC.1 hC.2.1 hd (kf q rfl p e R s m args below meth c Q hC hQ H locs cells slots ls hH hS hL hk1 hk2)
theorem ag_ifnonnull {w : aw_T} {M : am_T} {d : Nat} {P : ap_T} {pc n : Nat} {L : al_T} {st : List av_T} {h : ah_T} {kc ks : Nat} {q : Option Nat} {off : Int} {tgt : Nat} (hd : ad_D M pc (.ifnonnull off) 3 n) (ht : (pc : Int) + off = (tgt : Int)) (kt : ∀ a, q = some a → aw_W w M d P tgt L st h kc ks) (kf : q = none → aw_W w M d P n L st h kc ks) : aw_W w M d P pc L (av_q q :: st) h kc ks := by
  intro p e R s m args below meth c Q hC hQ H locs cells slots ls hH hS hL hk1 hk2
  obtain ⟨hd, rfl⟩ := hd
  rcases q with _ | q
  · exact lv_ifnonnullN hC.1 hC.2.1 hd (kf rfl p e R s m args below meth c Q hC hQ H locs cells slots ls hH hS hL hk1 hk2)
  · exact lv_ifnonnull hC.1 hC.2.1 hd ht (kt q rfl p e R s m args below meth c Q hC hQ H locs cells slots ls hH hS hL hk1 hk2)
theorem ag_tabIn {w : aw_T} {M : am_T} {d : Nat} {P : ap_T} {pc n : Nat} {L : al_T} {st : List av_T} {h : ah_T} {kc ks : Nat} {a dflt lo hi off : Int} {offs : Array Int} {len tgt : Nat} (hd : ad_D M pc (.tableswitch dflt lo hi offs) len n) (ha : -2147483648 ≤ a ∧ a < 2147483648) (h1 : lo ≤ a) (h2 : a ≤ hi) (ho : offs[(a - lo).toNat]? = some off) (ht : (pc : Int) + off = (tgt : Int)) (k : aw_W w M d P tgt L st h kc ks) : aw_W w M d P pc L (av_i a :: st) h kc ks := by
  intro p e R s m args below meth c Q hC hQ H locs cells slots ls hH hS hL hk1 hk2
  obtain ⟨hd, rfl⟩ := hd
  have et := ai_t ha
  exact lv_tableIn hC.1 hC.2.1 hd (by rw [et]; omega) (by rw [et]; omega) (by rw [et]; exact ho) ht (k p e R s m args below meth c Q hC hQ H locs cells slots ls hH hS hL hk1 hk2)
theorem ag_tabOut {w : aw_T} {M : am_T} {d : Nat} {P : ap_T} {pc n : Nat} {L : al_T} {st : List av_T} {h : ah_T} {kc ks : Nat} {a dflt lo hi : Int} {offs : Array Int} {len tgt : Nat} (hd : ad_D M pc (.tableswitch dflt lo hi offs) len n) (ha : -2147483648 ≤ a ∧ a < 2147483648) (h1 : a < lo ∨ hi < a) (ht : (pc : Int) + dflt = (tgt : Int)) (k : aw_W w M d P tgt L st h kc ks) : aw_W w M d P pc L (av_i a :: st) h kc ks := by
  intro p e R s m args below meth c Q hC hQ H locs cells slots ls hH hS hL hk1 hk2
  obtain ⟨hd, rfl⟩ := hd
  have et := ai_t ha
  exact lv_tableOut hC.1 hC.2.1 hd (by rw [et]; exact h1) ht (k p e R s m args below meth c Q hC hQ H locs cells slots ls hH hS hL hk1 hk2)
theorem ag_lookup {w : aw_T} {M : am_T} {d : Nat} {P : ap_T} {pc n : Nat} {L : al_T} {st : List av_T} {h : ah_T} {kc ks : Nat} {a dflt off : Int} {ps : Array (Int × Int)} {len tgt : Nat} (hd : ad_D M pc (.lookupswitch dflt ps) len n) (ha : -2147483648 ≤ a ∧ a < 2147483648) (hp : (ps.toList.zip (ps.toList.drop 1)).all (fun (a, next) => a.1 < next.1) = true) (ho : Op.lookupswitch.offset ps.toList dflt a = off) (ht : (pc : Int) + off = (tgt : Int)) (k : aw_W w M d P tgt L st h kc ks) : aw_W w M d P pc L (av_i a :: st) h kc ks := by
  intro p e R s m args below meth c Q hC hQ H locs cells slots ls hH hS hL hk1 hk2
  obtain ⟨hd, rfl⟩ := hd
  have et := ai_t ha
  exact lv_lookup hC.1 hC.2.1 hd hp (by rw [et]; exact ho) ht (k p e R s m args below meth c Q hC hQ H locs cells slots ls hH hS hL hk1 hk2)
theorem ag_iret {w : aw_T} {M : am_T} {d : Nat} {P : ap_T} {pc n : Nat} {L : al_T} {h : ah_T} {kc ks : Nat} {a : Int} (hd : ad_D M pc .ireturn 1 n) (hr : M.2.2.2 = some .int) (hP : P (some (av_i a)) h) : aw_W w M d P pc L [av_i a] h kc ks := by
  intro p e R s m args below meth c Q hC hQ H locs cells slots ls hH hS hL hk1 hk2
  exact hQ H locs cells slots ls pc (some (av_i a)) h hH hS hP (by omega) (by omega) (Or.inl ⟨a, rfl, hd.1, Or.inl hr⟩)
theorem ag_zret {w : aw_T} {M : am_T} {d : Nat} {P : ap_T} {pc n : Nat} {L : al_T} {h : ah_T} {kc ks : Nat} {a : Int} (hd : ad_D M pc .ireturn 1 n) (hr : M.2.2.2 = some .boolean) (hz : a = 0 ∨ a = 1) (hP : P (some (av_i a)) h) : aw_W w M d P pc L [av_i a] h kc ks := by
  intro p e R s m args below meth c Q hC hQ H locs cells slots ls hH hS hL hk1 hk2
  exact hQ H locs cells slots ls pc (some (av_i a)) h hH hS hP (by omega) (by omega) (Or.inl ⟨a, rfl, hd.1, Or.inr ⟨hr, hz⟩⟩)
theorem ag_lret {w : aw_T} {M : am_T} {d : Nat} {P : ap_T} {pc n : Nat} {L : al_T} {h : ah_T} {kc ks : Nat} {a : Int} (hd : ad_D M pc .lreturn 1 n) (hr : M.2.2.2 = some .long) (hP : P (some (av_l a)) h) : aw_W w M d P pc L [av_l a] h kc ks := by
  intro p e R s m args below meth c Q hC hQ H locs cells slots ls hH hS hL hk1 hk2
  exact hQ H locs cells slots ls pc (some (av_l a)) h hH hS hP (by omega) (by omega) (Or.inr (Or.inl ⟨a, rfl, hd.1, hr⟩))
theorem ag_vret {w : aw_T} {M : am_T} {d : Nat} {P : ap_T} {pc n : Nat} {L : al_T} {h : ah_T} {kc ks : Nat} (hd : ad_D M pc .return_ 1 n) (hr : M.2.2.2 = none) (hP : P (none) h) : aw_W w M d P pc L [] h kc ks := by
  intro p e R s m args below meth c Q hC hQ H locs cells slots ls hH hS hL hk1 hk2
  exact hQ H locs cells slots ls pc (none) h hH hS hP (by omega) (by omega) (Or.inr (Or.inr (Or.inr ⟨rfl, hd.1, hr⟩)))
theorem ag_aret {w : aw_T} {M : am_T} {d : Nat} {P : ap_T} {pc n : Nat} {L : al_T} {h : ah_T} {kc ks : Nat} {q : Option Nat} {nm : String} (hd : ad_D M pc .areturn 1 n) (hr : M.2.2.2 = some (.object nm)) (hP : P (some (av_q q)) h) : aw_W w M d P pc L [av_q q] h kc ks := by
  intro p e R s m args below meth c Q hC hQ H locs cells slots ls hH hS hL hk1 hk2
  exact hQ H locs cells slots ls pc (some (av_q q)) h hH hS hP (by omega) (by omega) (Or.inr (Or.inr (Or.inl ⟨q, rfl, hd.1, nm, hr⟩)))
theorem ag_istore_nN {w : aw_T} {M : am_T} {d : Nat} {P : ap_T} {pc n : Nat} {L : al_T} {st : List av_T} {h : ah_T} {kc ks : Nat} {j : Fin 4} {a : Int} {Lf : Int → al_T} (hd : ad_D M pc (.istore_n j) 1 n) (hl : ∀ y, L.set (j : Nat) (some (av_i y)) = Lf y) (ho : al_ok L (j : Nat) = true) (hi : (j : Nat) < M.2.2.1) (k : ∀ y, y = a → aw_W w M d P n (Lf y) st h kc ks) : aw_W w M d P pc L (av_i a :: st) h kc ks := ag_istore_n hd (hl a) ho hi (k a rfl)
theorem ag_istoreN {w : aw_T} {M : am_T} {d : Nat} {P : ap_T} {pc n : Nat} {L : al_T} {st : List av_T} {h : ah_T} {kc ks : Nat} {j : Nat} {a : Int} {Lf : Int → al_T} (hd : ad_D M pc (.istore j) 2 n) (hl : ∀ y, L.set j (some (av_i y)) = Lf y) (ho : al_ok L j = true) (hi : j < M.2.2.1) (k : ∀ y, y = a → aw_W w M d P n (Lf y) st h kc ks) : aw_W w M d P pc L (av_i a :: st) h kc ks := ag_istore hd (hl a) ho hi (k a rfl)
theorem ag_iincN {w : aw_T} {M : am_T} {d : Nat} {P : ap_T} {pc n : Nat} {L : al_T} {st : List av_T} {h : ah_T} {kc ks : Nat} {j : Nat} {a b : Int} {Lf : Int → al_T} (hd : ad_D M pc (.iinc j b) 3 n) (hg : L[j]? = some (some (av_i a))) (hl : ∀ y, L.set j (some (av_i y)) = Lf y) (ho : al_ok L j = true) (hi : j < M.2.2.1) (k : ∀ y, y = a + b → aw_W w M d P n (Lf y) st h kc ks) : aw_W w M d P pc L st h kc ks := ag_iinc hd hg (hl (a + b)) ho hi (k (a + b) rfl)
theorem ag_lstore_nN {w : aw_T} {M : am_T} {d : Nat} {P : ap_T} {pc n : Nat} {L : al_T} {st : List av_T} {h : ah_T} {kc ks : Nat} {j : Fin 4} {a : Int} {Lf : Int → al_T} (hd : ad_D M pc (.lstore_n j) 1 n) (hl : ∀ y, (L.set (j : Nat) (some (av_l y))).set ((j : Nat) + 1) none = Lf y) (ho : al_ok L (j : Nat) = true) (hi : (j : Nat) + 1 < M.2.2.1) (k : ∀ y, y = a → aw_W w M d P n (Lf y) st h kc ks) : aw_W w M d P pc L (av_l a :: st) h kc ks := ag_lstore_n hd (hl a) ho hi (k a rfl)
theorem ag_nm {w : aw_T} {M : am_T} {d : Nat} {P : ap_T} {pc : Nat} {L : al_T} {st : List av_T} {h : ah_T} {kc ks : Nat} {a : Int} (k : ∀ y, y = a → aw_W w M d P pc L (av_i y :: st) h kc ks) : aw_W w M d P pc L (av_i a :: st) h kc ks := k a rfl
theorem ag_to {w : aw_T} {M : am_T} {d : Nat} {P : ap_T} {pc : Nat} {L : al_T} {st : List av_T} {h : ah_T} {kc ks : Nat} {a b : Int} (e : a = b) (k : aw_W w M d P pc L (av_i b :: st) h kc ks) : aw_W w M d P pc L (av_i a :: st) h kc ks := e ▸ k
