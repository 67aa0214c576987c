def g0_ : gh_T := fun k _ => if k = 9 then 32 else 0
def k0_ : ms_T := (fun _ => 0, fun _ _ => 0)
theorem h0_len : (xh_0 ++ mh_0).length = 77 := rfl
theorem mo_0 : mo_R (xh_0 ++ mh_0) im_S := by
  refine ⟨fun k hk hk2 => ?_, im_2 72, rfl⟩
  rcases (show k = 0 ∨ k = 1 ∨ k = 2 ∨ k = 3 ∨ k = 4 ∨ k = 5 ∨ k = 6 ∨ k = 7 ∨ k = 8 ∨ k = 9 ∨ k = 10 ∨ k = 11 ∨ k = 12 ∨ k = 13 ∨ k = 14 ∨ k = 15 ∨ k = 16 ∨ k = 17 ∨ k = 18 ∨ k = 19 ∨ k = 20 ∨ k = 21 ∨ k = 22 ∨ k = 23 ∨ k = 24 ∨ k = 25 ∨ k = 26 ∨ k = 27 ∨ k = 28 ∨ k = 29 ∨ k = 30 ∨ k = 31 ∨ k = 32 ∨ k = 33 ∨ k = 35 ∨ k = 36 ∨ k = 37 ∨ k = 38 by omega) with rfl | rfl | rfl | rfl | rfl | rfl | rfl | rfl | rfl | rfl | rfl | rfl | rfl | rfl | rfl | rfl | rfl | rfl | rfl | rfl | rfl | rfl | rfl | rfl | rfl | rfl | rfl | rfl | rfl | rfl | rfl | rfl | rfl | rfl | rfl | rfl | rfl | rfl <;> rfl
theorem co_0 : co_R (xh_0 ++ mh_0) im_S g0_ := by
  have v0 : ∀ k i, vl_ok im_S g0_ k i → k = 0 := by
    intro k i h
    match k, h with
    | 0, _ => rfl
    | 1, h => exact absurd (show (i : Int) < 0 from h) (by omega)
    | 2, h => exact absurd (show (i : Int) < 0 from h) (by omega)
    | 3, h => exact absurd (show (i : Int) < 0 from h) (by omega)
    | 4, h => exact absurd (show i < 0 from h) (by omega)
    | k + 5, h => exact h.elim
  refine ⟨Nat.le_of_eq h0_len.symm, fun k i v => ?_, fun k i k2 i2 v1 v2 e => ?_⟩
  · obtain rfl := v0 k i v
    refine ⟨?_, fun q => absurd rfl q⟩
    have v2 : i ≤ 5 ∨ i = 30 ∨ i = 31 := v
    rcases (show i = 0 ∨ i = 1 ∨ i = 2 ∨ i = 3 ∨ i = 4 ∨ i = 5 ∨ i = 30 ∨ i = 31 by omega) with rfl | rfl | rfl | rfl | rfl | rfl | rfl | rfl <;> rfl
  · obtain rfl := v0 k i v1
    obtain rfl := v0 k2 i2 v2
    exact ⟨rfl, e⟩
theorem fm_0 : fm_ (xh_0 ++ mh_0) im_S g0_ := by
  refine ⟨Or.inl rfl, ⟨[(1001, 0), (42, 0), (116, 0), (0, 0)], ⟨⟨by decide, ⟨tk_0, rfl, ?_⟩, ⟨fun _ => 0, rfl, ?_⟩, ?_⟩, [av_i 0, av_i 0, av_i 0, av_i 0, av_i 0, av_i 0, av_i 0, av_i 0], rfl, rfl⟩, [], ?_⟩, av_i 4, [av_i 0, av_i 0, av_i 0, av_i 0, av_i 0, av_i 0, av_i 0, av_i 0], tk_0, fun _ => 0, rfl, rfl, rfl, rfl⟩
  · decide
  · decide
  · decide
  · decide +kernel
theorem kc_0 : kc_R (xh_0 ++ mh_0) k0_ ∧ ch_ k0_ := by
  refine ⟨⟨rfl, fun a h1 h2 => ?_, rfl, fun m hm => ?_⟩, fun i hi => ⟨⟨Int.le_refl _, (show (0 : Int) ≤ 200 by decide)⟩, ⟨Int.le_refl _, (show (0 : Int) ≤ 6000 by decide)⟩, ⟨Int.le_refl _, (show (0 : Int) ≤ 5000 by decide)⟩⟩, fun _ _ => rfl, fun _ => rfl⟩
  · rcases (show a = 7 ∨ a = 8 ∨ a = 9 ∨ a = 10 ∨ a = 11 by omega) with rfl | rfl | rfl | rfl | rfl <;> rfl
  · rcases (show m = 0 ∨ m = 1 ∨ m = 2 ∨ m = 3 ∨ m = 4 ∨ m = 5 ∨ m = 6 ∨ m = 7 ∨ m = 8 ∨ m = 9 ∨ m = 10 ∨ m = 11 ∨ m = 12 ∨ m = 13 ∨ m = 14 ∨ m = 15 ∨ m = 16 by omega) with rfl | rfl | rfl | rfl | rfl | rfl | rfl | rfl | rfl | rfl | rfl | rfl | rfl | rfl | rfl | rfl | rfl <;> rfl
theorem im_code : sp_code im_S = [(0, 1), (1, 0), (5, 0)] := by decide +kernel
theorem lp_0 : LP_ im_S g0_ := by
  have z : ∀ (n : Nat), ¬ ((n : Int) < 0) := fun n => by omega
  refine ⟨⟨⟨⟨?_, ?_, ?_, ?_, ?_, ?_, ?_, ?_, ?_⟩, fun f hf => absurd hf (z f), fun f _ => ⟨rfl, rfl, rfl⟩, fun l hl => absurd hl (z l), fun l _ => ⟨rfl, rfl⟩, rfl, rfl, fun k => ⟨Int.le_refl _, (show (0 : Int) ≤ 4100 by decide)⟩⟩, ⟨by decide, ?_⟩, fun i hi => absurd hi (z i), ⟨by decide, fun i hi => absurd hi (z i), fun i => ⟨Int.le_refl _, (show (0 : Int) ≤ 1 by decide)⟩⟩, ⟨by decide, fun i => ⟨Int.le_refl _, (show (0 : Int) ≤ 255 by decide)⟩⟩, Int.le_refl _⟩, ⟨Int.le_refl _, by decide, ⟨fun j hj => absurd hj (z j), fun a b ha => absurd ha (z a)⟩, fun i hi => absurd hi (z i)⟩, ⟨fun t ht => ?_, fun l hl => absurd hl (z l), fun k _ => Int.le_refl _⟩, ⟨fun j hj => absurd hj (Nat.not_lt_zero _), fun _ => rfl, fun q => absurd rfl q, fun i j hj => absurd hj (Nat.not_lt_zero _), fun j hj => absurd hj (Nat.not_lt_zero _)⟩, fun l _ hl => absurd hl (z l), fun f hf => absurd hf (z f), fun f _ => rfl, fun _ => rfl⟩
  any_goals decide
  · rw [im_code]
    simp [iv_hv]
  · have ht : 0 ≤ t := ht
    have q : ¬ t < (0 : Int) := by omega
    show ct_ (fun _ => 0) t 3 = 0
    rw [ct_, ct_, ct_, ct_, if_neg q]
    rfl
theorem li_0 : LI_ (xh_0 ++ mh_0) im_S g0_ k0_ := ⟨mo_0, co_0, fm_0, kc_0.1, kc_0.2, lp_0⟩
set_option maxHeartbeats 1000000 in
theorem ml_start {w : aw_T} {d : Nat} (hd : 44 ≤ d) (hL2 : aw_L w ≤ 3584) {P : ap_T} (hP : ∀ h, P (some (av_i 1)) h) : aw_W w mm_L_law d P 0 [some (av_s), none, none, none] [] [] 10000 100000 := by
  refine ag_new (kc' := 9999) (ks' := 99000) dd_L_law_0 fn_L_7 (by decide) (by decide) ?_
  refine ag_dup dd_L_law_3 rfl ?_
  refine ag_callI (mc := 37) (ms := 835) (kc' := 9000) (ks' := 98000) dd_L_law_4 fi_L_9 (mc_X_init (d := 2) (by omega)) rfl rfl (by omega) (Nat.le_of_ble_eq_true rfl) (by decide) (by decide) (fun r1 h1 hP1 => ?_)
  obtain ⟨rfl, rfl⟩ := hP1
  refine ag_astore_n (L' := [some (av_s), some (av_r 0), none, none]) dd_L_law_7 rfl rfl (by decide) ?_
  refine ag_new (kc' := 8999) (ks' := 97000) dd_L_law_8 fn_L_10 (by decide) (by decide) ?_
  refine ag_dup dd_L_law_11 rfl ?_
  refine ag_callI (mc := 38) (ms := 4567) (kc' := 8000) (ks' := 90000) dd_L_law_12 fi_L_12 (mc_M_init (d := 1) (by omega) (hb := xh_0) rfl) rfl rfl (by omega) (Nat.le_of_ble_eq_true rfl) (by decide) (by decide) (fun r1 h1 hP1 => ?_)
  obtain ⟨rfl, rfl⟩ := hP1
  refine ag_astore_n (L' := [some (av_s), some (av_r 0), some (av_r 38), none]) dd_L_law_15 rfl rfl (by decide) ?_
  refine ag_iconst dd_L_law_16 ?_
  refine ag_istore_n (L' := [some (av_s), some (av_r 0), some (av_r 38), some (av_i ((7 * 0 : Nat) : Int))]) dd_L_law_17 rfl rfl (by decide) ?_
  have b1 : bC im_S (aw_L w / 7) = aw_L w / 7 + 16 + 3200 := rfl
  have b2 : bS im_S (aw_L w / 7) = 15 * (aw_L w / 7) + 12 * 16 + 3 * 3200 := rfl
  exact ag_room (by rw [b1]; omega) (by rw [b2]; omega) (ml_law hd (by omega) hL2 hP (aw_L w / 7) 0 im_S g0_ k0_ (xh_0 ++ mh_0) (by omega) li_0)
