def kx_c (K : ms_T) : ac_T := ac_o 2 [av_r 7, av_r 8, av_r 9, av_r 10, av_r 11, av_r 12, av_i (K.1 6), av_i (K.1 7), av_i (K.1 8), av_i (K.1 9), av_i (K.1 10)]
def kq_ : Nat → Option Nat := fun i => if i < 17 then some (13 + i) else none
/-- the chooser's cells: numbers by slot, rows by address -/
def kc_R (h : ah_T) (K : ms_T) : Prop := h[6]? = some (kx_c K) ∧ (∀ a, 7 ≤ a → a ≤ 11 → h[a]? = some (ac_a 0 16 (K.2 a))) ∧ h[12]? = some (ac_q 17 kq_) ∧ ∀ m, m < 17 → h[13 + m]? = some (ac_a 0 10 (K.2 (13 + m)))
def kf_ (h0 h : ah_T) : Prop := h.length = h0.length ∧ ∀ a, ¬ (6 ≤ a ∧ a < 30) → h[a]? = h0[a]?
def kc_I (h0 h : ah_T) (K : ms_T) : Prop := kc_R h K ∧ kf_ h0 h
theorem kf_rf (h : ah_T) : kf_ h h := ⟨rfl, fun _ _ => rfl⟩
theorem kf_tr {a b c : ah_T} (h1 : kf_ a b) (h2 : kf_ b c) : kf_ a c := ⟨h2.1.trans h1.1, fun x hx => (h2.2 x hx).trans (h1.2 x hx)⟩
theorem kx_6 {h0 h : ah_T} {K : ms_T} (hK : kc_I h0 h K) : h[6]? = some (kx_c K) := hK.1.1
theorem kx_a {h0 h : ah_T} {K : ms_T} (hK : kc_I h0 h K) {a : Nat} (h1 : 7 ≤ a) (h2 : a ≤ 11) : h[a]? = some (ac_a 0 16 (K.2 a)) := hK.1.2.1 a h1 h2
theorem kx_12 {h0 h : ah_T} {K : ms_T} (hK : kc_I h0 h K) : h[12]? = some (ac_q 17 kq_) := hK.1.2.2.1
theorem kx_m {h0 h : ah_T} {K : ms_T} (hK : kc_I h0 h K) {m : Nat} (hm : m < 17) : h[13 + m]? = some (ac_a 0 10 (K.2 (13 + m))) := hK.1.2.2.2 m hm
theorem kc_u6 {h0 h h' : ah_T} {K K' : ms_T} (hK : kc_I h0 h K) (hu : hu_ h h' 6 (kx_c K')) (h2 : K'.2 = K.2) : kc_I h0 h' K' := by
  obtain ⟨⟨a1, a2, a3, a4⟩, a5, a6⟩ := hK
  refine ⟨⟨hu.2.1, fun a q1 q2 => ?_, ?_, fun m hm => ?_⟩, hu.1.trans a5, fun a ha => ?_⟩
  · rw [hu.2.2 a (by omega), h2]
    exact a2 a q1 q2
  · rw [hu.2.2 12 (by decide)]
    exact a3
  · rw [hu.2.2 _ (by omega), h2]
    exact a4 m hm
  · rw [hu.2.2 a (by omega)]
    exact a6 a ha
theorem kc_ua {h0 h h' : ah_T} {K : ms_T} {a : Nat} {g : Nat → Int} (hK : kc_I h0 h K) (ha : 7 ≤ a ∧ a ≤ 11) (hu : hu_ h h' a (ac_a 0 16 g)) : kc_I h0 h' (K.1, ai_up K.2 a g) := by
  obtain ⟨⟨a1, a2, a3, a4⟩, a5, a6⟩ := hK
  refine ⟨⟨?_, fun b q1 q2 => ?_, ?_, fun m hm => ?_⟩, hu.1.trans a5, fun b hb => ?_⟩
  · rw [hu.2.2 6 (by omega)]
    exact a1
  · by_cases e : b = a
    · rw [e, hu.2.1]
      show _ = some (ac_a 0 16 (ai_up K.2 a g a))
      rw [ai_up_s]
    · rw [hu.2.2 b e]
      show _ = some (ac_a 0 16 (ai_up K.2 a g b))
      rw [ai_up_n _ _ e]
      exact a2 b q1 q2
  · rw [hu.2.2 12 (by omega)]
    exact a3
  · rw [hu.2.2 _ (by omega)]
    show _ = some (ac_a 0 10 (ai_up K.2 a g (13 + m)))
    rw [ai_up_n _ _ (by omega)]
    exact a4 m hm
  · rw [hu.2.2 b (by omega)]
    exact a6 b hb
theorem kc_um {h0 h h' : ah_T} {K : ms_T} {m0 : Nat} {g : Nat → Int} (hK : kc_I h0 h K) (hm0 : m0 < 17) (hu : hu_ h h' (13 + m0) (ac_a 0 10 g)) : kc_I h0 h' (K.1, ai_up K.2 (13 + m0) g) := by
  obtain ⟨⟨a1, a2, a3, a4⟩, a5, a6⟩ := hK
  refine ⟨⟨?_, fun b q1 q2 => ?_, ?_, fun m hm => ?_⟩, hu.1.trans a5, fun b hb => ?_⟩
  · rw [hu.2.2 6 (by omega)]
    exact a1
  · rw [hu.2.2 b (by omega)]
    show _ = some (ac_a 0 16 (ai_up K.2 (13 + m0) g b))
    rw [ai_up_n _ _ (by omega)]
    exact a2 b q1 q2
  · rw [hu.2.2 12 (by omega)]
    exact a3
  · by_cases e : m = m0
    · rw [e, hu.2.1]
      show _ = some (ac_a 0 10 (ai_up K.2 (13 + m0) g (13 + m0)))
      rw [ai_up_s]
    · rw [hu.2.2 _ (by omega)]
      show _ = some (ac_a 0 10 (ai_up K.2 (13 + m0) g (13 + m)))
      rw [ai_up_n _ _ (by omega)]
      exact a4 m hm
  · rw [hu.2.2 b (by omega)]
    exact a6 b hb
theorem kp_6 {w : aw_T} {M : am_T} {d : Nat} {P : ap_T} {pc n : Nat} {L : al_T} {st : List av_T} {h0 h : ah_T} {kc ks : Nat} {K : ms_T} {idx : Nat} {v : Int} (hd : ad_D M pc (.putfield idx) 3 n) (hf : af_put M.1.cls M.1.name idx 2 6 .int) (hK : kc_I h0 h K) (k : ∀ (h : ah_T) (K2 : ms_T), K2 = (ai_up K.1 6 v, K.2) → kc_I h0 h K2 → aw_W w M d P n L st h kc ks) : aw_W w M d P pc L (av_i v :: av_r 6 :: st) h kc ks := ag_puti hd hf (kx_6 hK) (Nat.le_of_ble_eq_true rfl) (k _ (ai_up K.1 6 v, K.2) rfl (kc_u6 hK (hu_set (kx_6 hK)) rfl))
theorem kp_7 {w : aw_T} {M : am_T} {d : Nat} {P : ap_T} {pc n : Nat} {L : al_T} {st : List av_T} {h0 h : ah_T} {kc ks : Nat} {K : ms_T} {idx : Nat} {v : Int} (hd : ad_D M pc (.putfield idx) 3 n) (hf : af_put M.1.cls M.1.name idx 2 7 .int) (hK : kc_I h0 h K) (k : ∀ (h : ah_T) (K2 : ms_T), K2 = (ai_up K.1 7 v, K.2) → kc_I h0 h K2 → aw_W w M d P n L st h kc ks) : aw_W w M d P pc L (av_i v :: av_r 6 :: st) h kc ks := ag_puti hd hf (kx_6 hK) (Nat.le_of_ble_eq_true rfl) (k _ (ai_up K.1 7 v, K.2) rfl (kc_u6 hK (hu_set (kx_6 hK)) rfl))
theorem kp_8 {w : aw_T} {M : am_T} {d : Nat} {P : ap_T} {pc n : Nat} {L : al_T} {st : List av_T} {h0 h : ah_T} {kc ks : Nat} {K : ms_T} {idx : Nat} {v : Int} (hd : ad_D M pc (.putfield idx) 3 n) (hf : af_put M.1.cls M.1.name idx 2 8 .int) (hK : kc_I h0 h K) (k : ∀ (h : ah_T) (K2 : ms_T), K2 = (ai_up K.1 8 v, K.2) → kc_I h0 h K2 → aw_W w M d P n L st h kc ks) : aw_W w M d P pc L (av_i v :: av_r 6 :: st) h kc ks := ag_puti hd hf (kx_6 hK) (Nat.le_of_ble_eq_true rfl) (k _ (ai_up K.1 8 v, K.2) rfl (kc_u6 hK (hu_set (kx_6 hK)) rfl))
theorem kp_9 {w : aw_T} {M : am_T} {d : Nat} {P : ap_T} {pc n : Nat} {L : al_T} {st : List av_T} {h0 h : ah_T} {kc ks : Nat} {K : ms_T} {idx : Nat} {v : Int} (hd : ad_D M pc (.putfield idx) 3 n) (hf : af_put M.1.cls M.1.name idx 2 9 .int) (hK : kc_I h0 h K) (k : ∀ (h : ah_T) (K2 : ms_T), K2 = (ai_up K.1 9 v, K.2) → kc_I h0 h K2 → aw_W w M d P n L st h kc ks) : aw_W w M d P pc L (av_i v :: av_r 6 :: st) h kc ks := ag_puti hd hf (kx_6 hK) (Nat.le_of_ble_eq_true rfl) (k _ (ai_up K.1 9 v, K.2) rfl (kc_u6 hK (hu_set (kx_6 hK)) rfl))
theorem kp_10 {w : aw_T} {M : am_T} {d : Nat} {P : ap_T} {pc n : Nat} {L : al_T} {st : List av_T} {h0 h : ah_T} {kc ks : Nat} {K : ms_T} {idx : Nat} {v : Int} (hd : ad_D M pc (.putfield idx) 3 n) (hf : af_put M.1.cls M.1.name idx 2 10 .int) (hK : kc_I h0 h K) (k : ∀ (h : ah_T) (K2 : ms_T), K2 = (ai_up K.1 10 v, K.2) → kc_I h0 h K2 → aw_W w M d P n L st h kc ks) : aw_W w M d P pc L (av_i v :: av_r 6 :: st) h kc ks := ag_puti hd hf (kx_6 hK) (Nat.le_of_ble_eq_true rfl) (k _ (ai_up K.1 10 v, K.2) rfl (kc_u6 hK (hu_set (kx_6 hK)) rfl))
theorem ks_7 {w : aw_T} {M : am_T} {d : Nat} {P : ap_T} {pc n : Nat} {L : al_T} {st : List av_T} {h0 h : ah_T} {kc ks : Nat} {K : ms_T} {i v : Int} (hd : ad_D M pc .iastore 1 n) (hK : kc_I h0 h K) (hi : 0 ≤ i ∧ i < 16) (k : ∀ (h : ah_T) (K2 : ms_T), K2 = (K.1, ai_up K.2 7 (ai_up (K.2 7) i.toNat v)) → kc_I h0 h K2 → aw_W w M d P n L st h kc ks) : aw_W w M d P pc L (av_i v :: av_i i :: av_r 7 :: st) h kc ks := ag_iast hd (kx_a hK (by decide) (by decide)) (by decide) hi (k _ _ rfl (kc_ua hK (by decide) (hu_set (kx_a hK (by decide) (by decide)))))
theorem ks_7N {w : aw_T} {M : am_T} {d : Nat} {P : ap_T} {pc n : Nat} {L : al_T} {st : List av_T} {h0 h : ah_T} {kc ks : Nat} {K : ms_T} {i : Nat} {v : Int} (hd : ad_D M pc .iastore 1 n) (hK : kc_I h0 h K) (hi : i < 16) (k : ∀ (h : ah_T) (K2 : ms_T), K2 = (K.1, ai_up K.2 7 (ai_up (K.2 7) i v)) → kc_I h0 h K2 → aw_W w M d P n L st h kc ks) : aw_W w M d P pc L (av_i v :: av_i (i : Int) :: av_r 7 :: st) h kc ks := ks_7 hd hK (by omega) k
theorem ks_8 {w : aw_T} {M : am_T} {d : Nat} {P : ap_T} {pc n : Nat} {L : al_T} {st : List av_T} {h0 h : ah_T} {kc ks : Nat} {K : ms_T} {i v : Int} (hd : ad_D M pc .iastore 1 n) (hK : kc_I h0 h K) (hi : 0 ≤ i ∧ i < 16) (k : ∀ (h : ah_T) (K2 : ms_T), K2 = (K.1, ai_up K.2 8 (ai_up (K.2 8) i.toNat v)) → kc_I h0 h K2 → aw_W w M d P n L st h kc ks) : aw_W w M d P pc L (av_i v :: av_i i :: av_r 8 :: st) h kc ks := ag_iast hd (kx_a hK (by decide) (by decide)) (by decide) hi (k _ _ rfl (kc_ua hK (by decide) (hu_set (kx_a hK (by decide) (by decide)))))
theorem ks_8N {w : aw_T} {M : am_T} {d : Nat} {P : ap_T} {pc n : Nat} {L : al_T} {st : List av_T} {h0 h : ah_T} {kc ks : Nat} {K : ms_T} {i : Nat} {v : Int} (hd : ad_D M pc .iastore 1 n) (hK : kc_I h0 h K) (hi : i < 16) (k : ∀ (h : ah_T) (K2 : ms_T), K2 = (K.1, ai_up K.2 8 (ai_up (K.2 8) i v)) → kc_I h0 h K2 → aw_W w M d P n L st h kc ks) : aw_W w M d P pc L (av_i v :: av_i (i : Int) :: av_r 8 :: st) h kc ks := ks_8 hd hK (by omega) k
theorem ks_9 {w : aw_T} {M : am_T} {d : Nat} {P : ap_T} {pc n : Nat} {L : al_T} {st : List av_T} {h0 h : ah_T} {kc ks : Nat} {K : ms_T} {i v : Int} (hd : ad_D M pc .iastore 1 n) (hK : kc_I h0 h K) (hi : 0 ≤ i ∧ i < 16) (k : ∀ (h : ah_T) (K2 : ms_T), K2 = (K.1, ai_up K.2 9 (ai_up (K.2 9) i.toNat v)) → kc_I h0 h K2 → aw_W w M d P n L st h kc ks) : aw_W w M d P pc L (av_i v :: av_i i :: av_r 9 :: st) h kc ks := ag_iast hd (kx_a hK (by decide) (by decide)) (by decide) hi (k _ _ rfl (kc_ua hK (by decide) (hu_set (kx_a hK (by decide) (by decide)))))
theorem ks_9N {w : aw_T} {M : am_T} {d : Nat} {P : ap_T} {pc n : Nat} {L : al_T} {st : List av_T} {h0 h : ah_T} {kc ks : Nat} {K : ms_T} {i : Nat} {v : Int} (hd : ad_D M pc .iastore 1 n) (hK : kc_I h0 h K) (hi : i < 16) (k : ∀ (h : ah_T) (K2 : ms_T), K2 = (K.1, ai_up K.2 9 (ai_up (K.2 9) i v)) → kc_I h0 h K2 → aw_W w M d P n L st h kc ks) : aw_W w M d P pc L (av_i v :: av_i (i : Int) :: av_r 9 :: st) h kc ks := ks_9 hd hK (by omega) k
theorem ks_10 {w : aw_T} {M : am_T} {d : Nat} {P : ap_T} {pc n : Nat} {L : al_T} {st : List av_T} {h0 h : ah_T} {kc ks : Nat} {K : ms_T} {i v : Int} (hd : ad_D M pc .iastore 1 n) (hK : kc_I h0 h K) (hi : 0 ≤ i ∧ i < 16) (k : ∀ (h : ah_T) (K2 : ms_T), K2 = (K.1, ai_up K.2 10 (ai_up (K.2 10) i.toNat v)) → kc_I h0 h K2 → aw_W w M d P n L st h kc ks) : aw_W w M d P pc L (av_i v :: av_i i :: av_r 10 :: st) h kc ks := ag_iast hd (kx_a hK (by decide) (by decide)) (by decide) hi (k _ _ rfl (kc_ua hK (by decide) (hu_set (kx_a hK (by decide) (by decide)))))
theorem ks_10N {w : aw_T} {M : am_T} {d : Nat} {P : ap_T} {pc n : Nat} {L : al_T} {st : List av_T} {h0 h : ah_T} {kc ks : Nat} {K : ms_T} {i : Nat} {v : Int} (hd : ad_D M pc .iastore 1 n) (hK : kc_I h0 h K) (hi : i < 16) (k : ∀ (h : ah_T) (K2 : ms_T), K2 = (K.1, ai_up K.2 10 (ai_up (K.2 10) i v)) → kc_I h0 h K2 → aw_W w M d P n L st h kc ks) : aw_W w M d P pc L (av_i v :: av_i (i : Int) :: av_r 10 :: st) h kc ks := ks_10 hd hK (by omega) k
theorem ks_11 {w : aw_T} {M : am_T} {d : Nat} {P : ap_T} {pc n : Nat} {L : al_T} {st : List av_T} {h0 h : ah_T} {kc ks : Nat} {K : ms_T} {i v : Int} (hd : ad_D M pc .iastore 1 n) (hK : kc_I h0 h K) (hi : 0 ≤ i ∧ i < 16) (k : ∀ (h : ah_T) (K2 : ms_T), K2 = (K.1, ai_up K.2 11 (ai_up (K.2 11) i.toNat v)) → kc_I h0 h K2 → aw_W w M d P n L st h kc ks) : aw_W w M d P pc L (av_i v :: av_i i :: av_r 11 :: st) h kc ks := ag_iast hd (kx_a hK (by decide) (by decide)) (by decide) hi (k _ _ rfl (kc_ua hK (by decide) (hu_set (kx_a hK (by decide) (by decide)))))
theorem ks_11N {w : aw_T} {M : am_T} {d : Nat} {P : ap_T} {pc n : Nat} {L : al_T} {st : List av_T} {h0 h : ah_T} {kc ks : Nat} {K : ms_T} {i : Nat} {v : Int} (hd : ad_D M pc .iastore 1 n) (hK : kc_I h0 h K) (hi : i < 16) (k : ∀ (h : ah_T) (K2 : ms_T), K2 = (K.1, ai_up K.2 11 (ai_up (K.2 11) i v)) → kc_I h0 h K2 → aw_W w M d P n L st h kc ks) : aw_W w M d P pc L (av_i v :: av_i (i : Int) :: av_r 11 :: st) h kc ks := ks_11 hd hK (by omega) k
theorem ks_m {w : aw_T} {M : am_T} {d : Nat} {P : ap_T} {pc n : Nat} {L : al_T} {st : List av_T} {h0 h : ah_T} {kc ks : Nat} {K : ms_T} {m : Nat} {i v : Int} (hd : ad_D M pc .iastore 1 n) (hK : kc_I h0 h K) (hm : m < 17) (hi : 0 ≤ i ∧ i < 10) (k : ∀ (h : ah_T) (K2 : ms_T), K2 = (K.1, ai_up K.2 (13 + m) (ai_up (K.2 (13 + m)) i.toNat v)) → kc_I h0 h K2 → aw_W w M d P n L st h kc ks) : aw_W w M d P pc L (av_i v :: av_i i :: av_r (13 + m) :: st) h kc ks := ag_iast hd (kx_m hK hm) (by decide) hi (k _ _ rfl (kc_um hK hm (hu_set (kx_m hK hm))))
set_option maxHeartbeats 1000000 in
theorem mc_Chooser_clear {w : aw_T} {h0 h : ah_T} {K : ms_T} {d : Nat} (hd : 0 ≤ d) (hK : kc_I h0 h K) {c : Int} : am_M w mm_Chooser_clear d [av_r 6, av_i c] h 0 0 (fun r1 h1 => r1 = none ∧ kc_I h0 h1 (ai_up (ai_up (ai_up K.1 8 c) 6 0) 7 0, K.2)) := by
  refine am_intro [some (av_r 6), some (av_i (c))] (by decide +kernel) (Nat.le_of_ble_eq_true rfl) rfl ?_
  refine ag_aload_n dd_Chooser_clear_0 rfl ?_
  refine ag_iload_n dd_Chooser_clear_1 rfl ?_
  refine kp_8 dd_Chooser_clear_2 fp_Chooser_32 hK (fun h K1 eK1 hK => ?_)
  refine ag_aload_n dd_Chooser_clear_5 rfl ?_
  refine ag_iconst dd_Chooser_clear_6 ?_
  refine kp_6 dd_Chooser_clear_7 fp_Chooser_36 hK (fun h K2 eK2 hK => ?_)
  refine ag_aload_n dd_Chooser_clear_10 rfl ?_
  refine ag_iconst dd_Chooser_clear_11 ?_
  refine kp_7 dd_Chooser_clear_12 fp_Chooser_39 hK (fun h K3 eK3 hK => ?_)
  refine ag_vret dd_Chooser_clear_15 rfl ?_
  subst_vars
  exact ⟨rfl, hK⟩
/-- f' is f with x put in at place q -/
def is_ (f f' : Nat → Int) (n q : Nat) (x : Int) : Prop := q ≤ n ∧ (∀ j, j ≤ n → f' j = if j < q then f j else if j = q then x else f (j - 1)) ∧ (q = 0 ∨ f (q - 1) ≤ x) ∧ ∀ j, q ≤ j → j < n → x < f j
set_option maxHeartbeats 1000000 in
theorem ml_Chooser_insert {w : aw_T} {d : Nat} {A n : Nat} (hn : n ≤ 15) {f : Nat → Int} (hb : ∀ j, j < n → -2147483648 ≤ f j ∧ f j < 2147483648) {x len : Int} (hx : -2147483648 ≤ x ∧ x < 2147483648) {h0 : ah_T} {P : ap_T} (hX : ∀ (h : ah_T) (f2 : Nat → Int) (q : Nat), hu_ h0 h A (ac_a 0 16 f2) → is_ f f2 n q x → P none h) : ∀ (q : Nat) (h : ah_T) (g : Nat → Int), q ≤ n → h[A]? = some (ac_a 0 16 g) → hu_ h0 h A (ac_a 0 16 g) → (∀ j, j < q → g j = f j) → (∀ j, q ≤ j → j < n → g (j + 1) = f j) → (∀ j, q ≤ j → j < n → x < f j) → aw_W w mm_Chooser_insert d P 9 [some (av_i (x)), some (av_r (A)), some (av_i (len)), some (av_i ((q : Int)))] [] h 0 0 := by
  intro q
  induction q with
  | zero =>
    intro h g hq hA hu hlo hhi hgt
    refine ag_iload_n dd_Chooser_insert_9 rfl ?_
    refine ag_if_le (tgt := 36) dd_Chooser_insert_10 (by decide) (by omega) (fun c1 => ?_) (fun c1 => ?_)
    · refine ag_aload_n dd_Chooser_insert_36 rfl ?_
      refine ag_iload_n dd_Chooser_insert_37 rfl ?_
      refine ag_iload_n dd_Chooser_insert_38 rfl ?_
      refine ag_iastU dd_Chooser_insert_39 hA (by decide) (by omega) (fun h u1 => ?_)
      refine ag_vret dd_Chooser_insert_40 rfl ?_
      rw [Int.toNat_natCast] at u1
      have hu2 := hu_tr hu u1
      refine hX h _ 0 hu2 ⟨by omega, fun j hj => ?_, by first | (left; omega) | (right; rw [Nat.add_sub_cancel]; omega), hgt⟩
      by_cases e : j = 0
      · rw [e, ai_up_s, if_neg (by omega), if_pos rfl]
      · rw [ai_up_n _ _ e]
        by_cases e2 : j < 0
        · rw [if_pos e2]
          exact hlo j e2
        · rw [if_neg e2, if_neg e]
          have := hhi (j - 1) (by omega) (by omega)
          rw [show j - 1 + 1 = j by omega] at this
          exact this
    · exfalso; omega
  | succ q ih =>
    intro h g hq hA hu hlo hhi hgt
    have ki0 : (((q + 1 : Nat) : Int) - 1).toNat = q := by omega
    have hq9 := hlo q (by omega)
    have hgq := hb q (by omega)
    have ke : g (((q + 1 : Nat) : Int) - 1).toNat = f q := by rw [ki0]; exact hq9
    refine ag_iload_n dd_Chooser_insert_9 rfl ?_
    refine ag_if_le (tgt := 36) dd_Chooser_insert_10 (by decide) (by omega) (fun c1 => ?_) (fun c1 => ?_)
    · exfalso; omega
    · refine ag_aload_n dd_Chooser_insert_13 rfl ?_
      refine ag_iload_n dd_Chooser_insert_14 rfl ?_
      refine ag_iconst dd_Chooser_insert_15 ?_
      refine ag_isub dd_Chooser_insert_16 ?_
      refine ag_iald dd_Chooser_insert_17 hA (by decide) (by omega) ?_
      refine ag_iload_n dd_Chooser_insert_18 rfl ?_
      refine ag_icmp_le (tgt := 36) dd_Chooser_insert_19 (by decide) (by omega) (by omega) (fun c2 => ?_) (fun c2 => ?_)
      · refine ag_aload_n dd_Chooser_insert_36 rfl ?_
        refine ag_iload_n dd_Chooser_insert_37 rfl ?_
        refine ag_iload_n dd_Chooser_insert_38 rfl ?_
        refine ag_iastU dd_Chooser_insert_39 hA (by decide) (by omega) (fun h u1 => ?_)
        refine ag_vret dd_Chooser_insert_40 rfl ?_
        rw [Int.toNat_natCast] at u1
        have hu2 := hu_tr hu u1
        refine hX h _ (q + 1) hu2 ⟨by omega, fun j hj => ?_, by first | (left; omega) | (right; rw [Nat.add_sub_cancel]; omega), hgt⟩
        by_cases e : j = q + 1
        · rw [e, ai_up_s, if_neg (by omega), if_pos rfl]
        · rw [ai_up_n _ _ e]
          by_cases e2 : j < q + 1
          · rw [if_pos e2]
            exact hlo j e2
          · rw [if_neg e2, if_neg e]
            have := hhi (j - 1) (by omega) (by omega)
            rw [show j - 1 + 1 = j by omega] at this
            exact this
      · refine ag_aload_n dd_Chooser_insert_22 rfl ?_
        refine ag_iload_n dd_Chooser_insert_23 rfl ?_
        refine ag_aload_n dd_Chooser_insert_24 rfl ?_
        refine ag_iload_n dd_Chooser_insert_25 rfl ?_
        refine ag_iconst dd_Chooser_insert_26 ?_
        refine ag_isub dd_Chooser_insert_27 ?_
        refine ag_iald dd_Chooser_insert_28 hA (by decide) (by omega) ?_
        refine ag_iastU dd_Chooser_insert_29 hA (by decide) (by omega) (fun h u1 => ?_)
        refine ag_iincN (Lf := fun y => [some (av_i (x)), some (av_r (A)), some (av_i (len)), some (av_i (y))]) dd_Chooser_insert_30 rfl (fun _ => rfl) rfl (by decide) (fun y3 ey3 => ?_)
        refine ag_goto (tgt := 9) dd_Chooser_insert_33 (by decide) ?_
        have ki : (((q + 1 : Nat) : Int) - 1).toNat = q := by omega
        have kq : (((q + 1 : Nat) : Int)).toNat = q + 1 := by omega
        rw [ki, kq] at u1
        obtain rfl : y3 = (q : Int) := by omega
        have hu2 := hu_tr hu u1
        refine ih h _ (by omega) u1.2.1 hu2 (fun j hj => ?_) (fun j h1 h2 => ?_) (fun j h1 h2 => ?_)
        · rw [ai_up_n _ _ (by omega)]
          exact hlo j (by omega)
        · by_cases e : j = q
          · rw [e, ai_up_s]
            exact hlo q (by omega)
          · rw [ai_up_n _ _ (by omega)]
            exact hhi j (by omega) h2
        · by_cases e : j = q
          · rw [e]
            have := hlo q (by omega)
            omega
          · exact hgt j (by omega) h2
set_option maxHeartbeats 1000000 in
theorem mc_Chooser_insert {w : aw_T} {h : ah_T} {d : Nat} (hd : 1 ≤ d) {A n : Nat} (hn : n ≤ 15) {f : Nat → Int} (hA : h[A]? = some (ac_a 0 16 f)) (hb : ∀ j, j < n → -2147483648 ≤ f j ∧ f j < 2147483648) {x : Int} (hx : -2147483648 ≤ x ∧ x < 2147483648) : am_M w mm_Chooser_insert d [av_i x, av_r A, av_i (n : Int)] h 0 0 (fun r1 h1 => r1 = none ∧ ∃ (f2 : Nat → Int) (q : Nat), hu_ h h1 A (ac_a 0 16 f2) ∧ is_ f f2 n q x) := by
  refine am_intro [some (av_i (x)), some (av_r (A)), some (av_i ((n : Int))), none] (by decide +kernel) (Nat.le_of_ble_eq_true rfl) rfl ?_
  refine ag_iload_n dd_Chooser_insert_0 rfl ?_
  refine ag_aload_n dd_Chooser_insert_1 rfl ?_
  refine ag_alen dd_Chooser_insert_2 hA (by decide) ?_
  refine ag_iconst dd_Chooser_insert_3 ?_
  refine ag_isub dd_Chooser_insert_4 ?_
  refine ag_min dd_Chooser_insert_5 fi_Chooser_68 fo_mins fo_m fo_minc (by omega) (by omega) (by omega) (Nat.le_of_ble_eq_true rfl) ?_
  refine ag_istore_nN (Lf := fun y => [some (av_i (x)), some (av_r (A)), some (av_i ((n : Int))), some (av_i (y))]) dd_Chooser_insert_8 (fun _ => rfl) rfl (by decide) (fun y1 ey1 => ?_)
  have ey2 : y1 = ((n : Nat) : Int) := by rw [ey1]; omega
  rw [ey2]
  exact ml_Chooser_insert hn hb hx (h0 := h) (fun h f2 q z1 z2 => ⟨rfl, f2, q, z1, z2⟩) n h f (Nat.le_refl n) hA ⟨rfl, hA, fun _ _ => rfl⟩ (fun _ _ => rfl) (fun j h1 h2 => by omega) (fun j h1 h2 => by omega)
