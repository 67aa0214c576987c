/-- what the dearest that fit are worth, taken one after the other -/
def gw_ (K : ms_T) : Nat → Nat → Nat → Int → Int
  | 0, _, _, v => v
  | c + 1, k, p, v => if k = 0 then v else if ft_ K (p ||| 2 ^ (ix_ (K.2 11 c))) (ix_ (K.2 11 c)) = true then gw_ K c (k - 1) (p ||| 2 ^ (ix_ (K.2 11 c))) (v + K.2 8 (ix_ (K.2 11 c))) else gw_ K c k p v
theorem gw_b {K : ms_T} (hv : kv_ K) : ∀ (c k p : Nat) (v : Int), 0 ≤ v → v ≤ gw_ K c k p v ∧ gw_ K c k p v ≤ v + 6000 * (c : Int)
  | 0, k, p, v, h => by rw [gw_]; omega
  | c + 1, k, p, v, h => by
    have hw := (hv.2.2.2 (ix_ (K.2 11 c)) (by unfold ix_; omega)).2.1
    rw [gw_]
    split
    · omega
    · split
      · have := gw_b hv c (k - 1) (p ||| 2 ^ (ix_ (K.2 11 c))) (v + K.2 8 (ix_ (K.2 11 c))) (by omega)
        omega
      · have := gw_b hv c k p v h
        omega
set_option maxHeartbeats 1000000 in
theorem ml_Chooser_greedy {w : aw_T} {h0 h : ah_T} {K : ms_T} {d : Nat} (hd : 3 ≤ d) (hK : kc_I h0 h K) (hv : kv_ K) {P : ap_T} : ∀ (c k p : Nat) (v : Int), (c : Int) ≤ K.1 7 → p < 65536 → k ≤ 9 → (0 ≤ v ∧ v + 6000 * (c : Int) ≤ 100000) → P (some (av_i (gw_ K c k p v))) h → aw_W w mm_Chooser_worthOfDearestThatFit d P 15 [some (av_r 6), none, some (av_i ((p : Int))), some (av_i ((k : Int))), some (av_i (v)), some (av_i (((c : Nat) : Int) - 1)), none] [] h 0 0 := by
  intro c
  induction c with
  | zero =>
    intro k p v hc hp hk hvb hP
    refine ag_iload dd_Chooser_worthOfDearestThatFit_15 rfl ?_
    refine ag_if_lt (tgt := 79) dd_Chooser_worthOfDearestThatFit_17 (by decide) (by omega) (fun c1 => ?_) (fun c1 => ?_)
    · refine ag_iload dd_Chooser_worthOfDearestThatFit_79 rfl ?_
      refine ag_iret dd_Chooser_worthOfDearestThatFit_81 rfl ?_
      rw [gw_] at hP
      exact hP
    · exfalso; omega
  | succ c ih =>
    intro k p v hc hp hk hvb hP
    have hv1 := hv.1
    have hvj := (hv.2.2.1 c (by omega)).2
    obtain ⟨x, hx⟩ : ∃ x : Nat, K.2 11 c = (x : Int) := ⟨(K.2 11 c).toNat, by omega⟩
    have hix : ix_ (K.2 11 c) = x % 16 := by rw [hx]; rfl
    have b8 := (hv.2.2.2 (x % 16) (by omega)).2.1
    have kc : (((c + 1 : Nat) : Int) - 1).toNat = c := by omega
    refine ag_iload dd_Chooser_worthOfDearestThatFit_15 rfl ?_
    refine ag_if_lt (tgt := 79) dd_Chooser_worthOfDearestThatFit_17 (by decide) (by omega) (fun c1 => ?_) (fun c1 => ?_)
    · exfalso; omega
    · refine ag_iload_n dd_Chooser_worthOfDearestThatFit_20 rfl ?_
      refine ag_if_le (tgt := 79) dd_Chooser_worthOfDearestThatFit_21 (by decide) (by omega) (fun c2 => ?_) (fun c2 => ?_)
      · refine ag_iload dd_Chooser_worthOfDearestThatFit_79 rfl ?_
        refine ag_iret dd_Chooser_worthOfDearestThatFit_81 rfl ?_
        have e9 : gw_ K (c + 1) k p v = v := by rw [gw_, if_pos (by omega)]
        rw [e9] at hP
        exact hP
      · refine ag_aload_n dd_Chooser_worthOfDearestThatFit_24 rfl ?_
        refine ag_get dd_Chooser_worthOfDearestThatFit_25 fg_Chooser_24 (kx_6 hK) rfl ?_
        refine ag_iload dd_Chooser_worthOfDearestThatFit_28 rfl ?_
        refine ag_iald dd_Chooser_worthOfDearestThatFit_30 (kx_a hK (by decide) (by decide)) (by decide) (by omega) ?_
        rw [kc, hx]
        refine ag_bipush dd_Chooser_worthOfDearestThatFit_31 (by decide +kernel) ?_
        refine ag_iand dd_Chooser_worthOfDearestThatFit_33 ?_
        refine ag_to (an15 (x := x) (by omega)) ?_
        refine ag_istore (L' := [some (av_r 6), none, some (av_i ((p : Int))), some (av_i ((k : Int))), some (av_i (v)), some (av_i (((c + 1 : Nat) : Int) - 1)), some (av_i (((x % 16 : Nat) : Int)))]) dd_Chooser_worthOfDearestThatFit_34 rfl rfl (by decide) ?_
        refine ag_aload_n dd_Chooser_worthOfDearestThatFit_36 rfl ?_
        refine ag_iload_n dd_Chooser_worthOfDearestThatFit_37 rfl ?_
        refine ag_iconst dd_Chooser_worthOfDearestThatFit_38 ?_
        refine ag_iload dd_Chooser_worthOfDearestThatFit_39 rfl ?_
        refine ag_ishl dd_Chooser_worthOfDearestThatFit_41 ?_
        refine ag_ior dd_Chooser_worthOfDearestThatFit_42 ?_
        refine ag_to (or_bit hp (by omega)) ?_
        refine ag_iload dd_Chooser_worthOfDearestThatFit_43 rfl ?_
        refine ag_rV dd_Chooser_worthOfDearestThatFit_45 fi_Chooser_91 (kx_6 hK) rfl (mc_Chooser_fits (d := 2) (by omega) hK hv (p := p ||| 2 ^ (x % 16)) (i := x % 16) (or_lt hp (by omega)) (by omega)) rfl rfl (by omega) (Nat.le_of_ble_eq_true rfl) ?_
        refine ag_if_eqB (tgt := 73) dd_Chooser_worthOfDearestThatFit_48 (by decide) (fun c3 => ?_) (fun c3 => ?_)
        · refine ag_iincN (Lf := fun y => [some (av_r 6), none, some (av_i ((p : Int))), some (av_i ((k : Int))), some (av_i (v)), some (av_i (y)), some (av_i (((x % 16 : Nat) : Int)))]) dd_Chooser_worthOfDearestThatFit_73 rfl (fun _ => rfl) rfl (by decide) (fun y4 ey4 => ?_)
          refine ag_goto (tgt := 15) dd_Chooser_worthOfDearestThatFit_76 (by decide) ?_
          have e9 : gw_ K (c + 1) k p v = gw_ K c k p v := by
            rw [gw_, if_neg (by omega), hix, if_neg (by assumption)]
          rw [e9] at hP
          have epl : y4 = ((c : Nat) : Int) - 1 := by omega
          rw [epl]
          refine ag_weak [some (av_r 6), none, some (av_i ((p : Int))), some (av_i ((k : Int))), some (av_i (v)), some (av_i (((c : Nat) : Int) - 1)), none] (by simp [al_le]) ?_
          exact ih k p v (by omega) hp (by omega) (by omega) hP
        · refine ag_iload_n dd_Chooser_worthOfDearestThatFit_51 rfl ?_
          refine ag_iconst dd_Chooser_worthOfDearestThatFit_52 ?_
          refine ag_iload dd_Chooser_worthOfDearestThatFit_53 rfl ?_
          refine ag_ishl dd_Chooser_worthOfDearestThatFit_55 ?_
          refine ag_ior dd_Chooser_worthOfDearestThatFit_56 ?_
          refine ag_to (or_bit hp (by omega)) ?_
          refine ag_istore_n (L' := [some (av_r 6), none, some (av_i (((p ||| 2 ^ (x % 16) : Nat) : Int))), some (av_i ((k : Int))), some (av_i (v)), some (av_i (((c + 1 : Nat) : Int) - 1)), some (av_i (((x % 16 : Nat) : Int)))]) dd_Chooser_worthOfDearestThatFit_57 rfl rfl (by decide) ?_
          refine ag_iload dd_Chooser_worthOfDearestThatFit_58 rfl ?_
          refine ag_aload_n dd_Chooser_worthOfDearestThatFit_60 rfl ?_
          refine ag_get dd_Chooser_worthOfDearestThatFit_61 fg_Chooser_15 (kx_6 hK) rfl ?_
          refine ag_iload dd_Chooser_worthOfDearestThatFit_64 rfl ?_
          refine ag_ialdN dd_Chooser_worthOfDearestThatFit_66 (kx_a hK (by decide) (by decide)) (by decide) (by omega) ?_
          refine ag_iadd dd_Chooser_worthOfDearestThatFit_67 ?_
          refine ag_istoreN (Lf := fun y => [some (av_r 6), none, some (av_i (((p ||| 2 ^ (x % 16) : Nat) : Int))), some (av_i ((k : Int))), some (av_i (y)), some (av_i (((c + 1 : Nat) : Int) - 1)), some (av_i (((x % 16 : Nat) : Int)))]) dd_Chooser_worthOfDearestThatFit_68 (fun _ => rfl) rfl (by decide) (fun y5 ey5 => ?_)
          refine ag_iincN (Lf := fun y => [some (av_r 6), none, some (av_i (((p ||| 2 ^ (x % 16) : Nat) : Int))), some (av_i (y)), some (av_i (y5)), some (av_i (((c + 1 : Nat) : Int) - 1)), some (av_i (((x % 16 : Nat) : Int)))]) dd_Chooser_worthOfDearestThatFit_70 rfl (fun _ => rfl) rfl (by decide) (fun y6 ey6 => ?_)
          refine ag_iincN (Lf := fun y => [some (av_r 6), none, some (av_i (((p ||| 2 ^ (x % 16) : Nat) : Int))), some (av_i (y6)), some (av_i (y5)), some (av_i (y)), some (av_i (((x % 16 : Nat) : Int)))]) dd_Chooser_worthOfDearestThatFit_73 rfl (fun _ => rfl) rfl (by decide) (fun y7 ey7 => ?_)
          refine ag_goto (tgt := 15) dd_Chooser_worthOfDearestThatFit_76 (by decide) ?_
          have e9 : gw_ K (c + 1) k p v = gw_ K c (k - 1) (p ||| 2 ^ (x % 16)) (v + K.2 8 (x % 16)) := by
            rw [gw_, if_neg (by omega), hix, if_pos (by assumption)]
          rw [e9] at hP
          have ev : y5 = v + K.2 8 (x % 16) := ey5
          have ek : y6 = ((k - 1 : Nat) : Int) := by omega
          have epl : y7 = ((c : Nat) : Int) - 1 := by omega
          rw [ev, ek, epl]
          refine ag_weak [some (av_r 6), none, some (av_i (((p ||| 2 ^ (x % 16) : Nat) : Int))), some (av_i (((k - 1 : Nat) : Int))), some (av_i ((v + K.2 8 (x % 16)))), some (av_i (((c : Nat) : Int) - 1)), none] (by simp [al_le]) ?_
          exact ih (k - 1) (p ||| 2 ^ (x % 16)) (v + K.2 8 (x % 16)) (by omega) (or_lt hp (by omega)) (by omega) (by omega) hP
set_option maxHeartbeats 1000000 in
theorem mc_Chooser_greedy {w : aw_T} {h0 h : ah_T} {K : ms_T} {d : Nat} (hd : 3 ≤ d) (hK : kc_I h0 h K) (hv : kv_ K) {k : Nat} (hk : k ≤ 9) : am_M w mm_Chooser_worthOfDearestThatFit d [av_r 6, av_i (k : Int)] h 0 0 (fun r h' => r = some (av_i (gw_ K (K.1 7).toNat k 0 0)) ∧ h' = h) := by
  refine am_intro [some (av_r 6), some (av_i ((k : Int))), none, none, none, none, none] (by decide +kernel) (Nat.le_of_ble_eq_true rfl) rfl ?_
  refine ag_iconst dd_Chooser_worthOfDearestThatFit_0 ?_
  refine ag_istore_n (L' := [some (av_r 6), some (av_i ((k : Int))), some (av_i (0)), none, none, none, none]) dd_Chooser_worthOfDearestThatFit_1 rfl rfl (by decide) ?_
  refine ag_iload_n dd_Chooser_worthOfDearestThatFit_2 rfl ?_
  refine ag_istore_n (L' := [some (av_r 6), some (av_i ((k : Int))), some (av_i (0)), some (av_i ((k : Int))), none, none, none]) dd_Chooser_worthOfDearestThatFit_3 rfl rfl (by decide) ?_
  refine ag_iconst dd_Chooser_worthOfDearestThatFit_4 ?_
  refine ag_istore (L' := [some (av_r 6), some (av_i ((k : Int))), some (av_i (0)), some (av_i ((k : Int))), some (av_i (0)), none, none]) dd_Chooser_worthOfDearestThatFit_5 rfl rfl (by decide) ?_
  refine ag_aload_n dd_Chooser_worthOfDearestThatFit_7 rfl ?_
  refine ag_get dd_Chooser_worthOfDearestThatFit_8 fg_Chooser_39 (kx_6 hK) rfl ?_
  refine ag_iconst dd_Chooser_worthOfDearestThatFit_11 ?_
  refine ag_isub dd_Chooser_worthOfDearestThatFit_12 ?_
  refine ag_istoreN (Lf := fun y => [some (av_r 6), some (av_i ((k : Int))), some (av_i (0)), some (av_i ((k : Int))), some (av_i (0)), some (av_i (y)), none]) dd_Chooser_worthOfDearestThatFit_13 (fun _ => rfl) rfl (by decide) (fun y1 ey1 => ?_)
  have hv1 := hv.1
  have ey : y1 = (((K.1 7).toNat : Nat) : Int) - 1 := by omega
  rw [ey]
  refine ag_weak [some (av_r 6), none, some (av_i (((0 : Nat) : Int))), some (av_i ((k : Int))), some (av_i (0)), some (av_i ((((K.1 7).toNat : Nat) : Int) - 1)), none] (by simp [al_le]) ?_
  exact ml_Chooser_greedy hd hK hv (K.1 7).toNat k 0 0 (by omega) (by decide) hk (by omega) ⟨rfl, rfl⟩
/-- the rows 'most' up to the m-th are made -/
def kd_ (K K2 : ms_T) (m : Nat) : Prop := K2.1 = K.1 ∧ (∀ a, a ≤ 13 ∨ 13 + m < a → K2.2 a = K.2 a) ∧ ∀ i, 1 ≤ i → i ≤ m → ∀ j, j ≤ 9 → K2.2 (13 + i) j = tp_ K i (K.1 7).toNat j
theorem tp_kd {K K2 : ms_T} {m : Nat} (h : kd_ K K2 m) (i : Nat) : ∀ c j, tp_ K2 i c j = tp_ K i c j
  | 0, _ => rfl
  | _ + 1, 0 => rfl
  | c + 1, j + 1 => by
    rw [tp_, tp_, tp_kd h i c j, tp_kd h i c (j + 1), h.2.1 11 (by omega), h.2.1 8 (by omega)]
theorem kv_kd {K K2 : ms_T} {m : Nat} (h : kd_ K K2 m) (hv : kv_ K) : kv_ K2 := by
  unfold kv_
  rw [h.1, h.2.1 7 (by omega), h.2.1 8 (by omega), h.2.1 9 (by omega), h.2.1 10 (by omega), h.2.1 11 (by omega)]
  exact hv
theorem kd_s {K K2 : ms_T} {m : Nat} {g : Nat → Int} (h : kd_ K K2 m) (hg : ∀ j, j ≤ 9 → g j = tp_ K (m + 1) (K.1 7).toNat j) : kd_ K (kw_ K2 (m + 1) g) (m + 1) := by
  refine ⟨h.1, fun a ha => ?_, fun i h1 h2 j hj => ?_⟩
  · rw [kw_n _ _ _ (by omega)]
    exact h.2.1 a (by omega)
  · by_cases e : i = m + 1
    · rw [e, kw_s]
      exact hg j hj
    · rw [kw_n _ _ _ (by omega)]
      exact h.2.2 i h1 (by omega) j hj
set_option maxHeartbeats 1000000 in
theorem ml_Chooser_decide {w : aw_T} {h0 : ah_T} {K : ms_T} {d g : Nat} (hd : 1 ≤ d) (hv : kv_ K) (hz : ∀ i, i < 17 → K.2 (13 + i) 0 = 0) {P : ap_T} (hX : ∀ (h : ah_T) (K2 : ms_T), kc_I h0 h K2 → kd_ K K2 16 → aw_W w mm_Chooser_decide d P 19 [some (av_r 6), some (av_i ((g : Int))), none] [] h 0 0) : ∀ (r m : Nat) (K2 : ms_T) (h : ah_T), m + r = 16 → kc_I h0 h K2 → kd_ K K2 m → aw_W w mm_Chooser_decide d P 2 [some (av_r 6), some (av_i ((g : Int))), some (av_i (((m + 1 : Nat) : Int)))] [] h 0 0 := by
  intro r
  induction r with
  | zero =>
    intro m K2 h hm hK hd2
    refine ag_iload_n dd_Chooser_decide_2 rfl ?_
    refine ag_bipush dd_Chooser_decide_3 (by decide +kernel) ?_
    refine ag_icmp_gt (tgt := 19) dd_Chooser_decide_5 (by decide) (by omega) (by omega) (fun c1 => ?_) (fun c1 => ?_)
    · obtain rfl : m = 16 := by omega
      exact ag_weak [some (av_r 6), some (av_i ((g : Int))), none] (by simp [al_le]) (hX h K2 hK hd2)
    · exfalso; omega
  | succ r ih =>
    intro m K2 h hm hK hd2
    refine ag_iload_n dd_Chooser_decide_2 rfl ?_
    refine ag_bipush dd_Chooser_decide_3 (by decide +kernel) ?_
    refine ag_icmp_gt (tgt := 19) dd_Chooser_decide_5 (by decide) (by omega) (by omega) (fun c1 => ?_) (fun c1 => ?_)
    · exfalso; omega
    · refine ag_aload_n dd_Chooser_decide_8 rfl ?_
      refine ag_iload_n dd_Chooser_decide_9 rfl ?_
      refine ag_wV dd_Chooser_decide_10 fi_Chooser_74 (kx_6 hK) rfl (mc_Chooser_sumDearest (d := 0) (by omega) hK (kv_kd hd2 hv) (m := m + 1) (by omega) (by rw [hd2.2.1 _ (by omega)]; exact hz (m + 1) (by omega))) rfl rfl (by omega) (Nat.le_of_ble_eq_true rfl) (fun r1 h hP => ?_)
      obtain ⟨rfl, g2, hK1, hg2⟩ := hP
      have hd3 := kd_s hd2 (g := g2) (fun j hj => by rw [hg2 j hj, hd2.1, tp_kd hd2])
      refine ag_iincN (Lf := fun y => [some (av_r 6), some (av_i ((g : Int))), some (av_i (y))]) dd_Chooser_decide_13 rfl (fun _ => rfl) rfl (by decide) (fun y2 ey2 => ?_)
      refine ag_goto (tgt := 2) dd_Chooser_decide_16 (by decide) ?_
      obtain rfl : y2 = ((m + 1 + 1 : Nat) : Int) := by omega
      exact ih (m + 1) _ h (by omega) hK1 hd3
set_option maxHeartbeats 1000000 in
theorem mc_Chooser_decide {w : aw_T} {h0 h : ah_T} {K : ms_T} {d : Nat} (hd : 20 ≤ d) (hK : kc_I h0 h K) (hv : kv_ K) (h6 : 0 ≤ K.1 6 ∧ K.1 6 < 65536) (hz : ∀ i, i < 17 → K.2 (13 + i) 0 = 0) (hz0 : ∀ k, K.2 13 k = 0) {g : Nat} (hg : g ≤ 9) : am_M w mm_Chooser_decide d [av_r 6, av_i (g : Int)] h 0 0 (fun r1 h1 => r1 = none ∧ ∃ K2 : ms_T, kd_ K K2 16 ∧ kc_I h0 h1 (kb_ K2 (se_ K2 16 g 0 0 (gw_ K2 (K2.1 7).toNat g 0 0 - 1, 0)))) := by
  refine am_intro [some (av_r 6), some (av_i ((g : Int))), none] (by decide +kernel) (Nat.le_of_ble_eq_true rfl) rfl ?_
  refine ag_iconst dd_Chooser_decide_0 ?_
  refine ag_istore_n (L' := [some (av_r 6), some (av_i ((g : Int))), some (av_i (1))]) dd_Chooser_decide_1 rfl rfl (by decide) ?_
  refine ml_Chooser_decide (by omega) hv hz (fun h Kd hK hd2 => ?_) 16 0 K h rfl hK ⟨rfl, fun _ _ => rfl, fun i h1 h2 => by omega⟩
  have hv2 := kv_kd hd2 hv
  have hm2 : km_ Kd := by
    refine ⟨fun m k q1 q2 => ?_, by rw [hd2.1]; exact h6⟩
    by_cases e : m = 0
    · rw [e, hd2.2.1 13 (by omega)]
      rw [hz0 k]
      omega
    · rw [hd2.2.2 m (by omega) (by omega) k (by omega)]
      have := tp_b hv m (K.1 7).toNat k
      omega
  refine ag_aload_n dd_Chooser_decide_19 rfl ?_
  refine ag_aload_n dd_Chooser_decide_20 rfl ?_
  refine ag_iload_n dd_Chooser_decide_21 rfl ?_
  refine ag_rV dd_Chooser_decide_22 fi_Chooser_78 (kx_6 hK) rfl (mc_Chooser_greedy (d := 3) (by omega) hK hv2 (k := g) (by omega)) rfl rfl (by omega) (Nat.le_of_ble_eq_true rfl) ?_
  refine ag_iconst dd_Chooser_decide_25 ?_
  refine ag_isub dd_Chooser_decide_26 ?_
  refine kp_9 dd_Chooser_decide_27 fp_Chooser_81 hK (fun h K1 eK1 hK => ?_)
  refine ag_aload_n dd_Chooser_decide_30 rfl ?_
  refine ag_iconst dd_Chooser_decide_31 ?_
  refine kp_10 dd_Chooser_decide_32 fp_Chooser_84 hK (fun h K2 eK2 hK => ?_)
  refine ag_aload_n dd_Chooser_decide_35 rfl ?_
  refine ag_bipush dd_Chooser_decide_36 (by decide +kernel) ?_
  refine ag_iload_n dd_Chooser_decide_38 rfl ?_
  refine ag_iconst dd_Chooser_decide_39 ?_
  refine ag_iconst dd_Chooser_decide_40 ?_
  have ekb : K2 = kb_ Kd (gw_ Kd (Kd.1 7).toNat g 0 0 - 1, 0) := by subst_vars; rfl
  rw [ekb] at hK
  have hgb := gw_b hv2 (Kd.1 7).toNat g 0 0 (Int.le_refl 0)
  have hv27 := hv2.1
  refine ag_wV dd_Chooser_decide_41 fi_Chooser_87 (kx_6 hK) rfl (mc_Chooser_search hv2 hm2 16 (Nat.le_refl 16) g 0 0 (gw_ Kd (Kd.1 7).toNat g 0 0 - 1, 0) h hK (by omega) ⟨by omega, by show -10 ≤ gw_ Kd (Kd.1 7).toNat g 0 0 - 1 ∧ gw_ Kd (Kd.1 7).toNat g 0 0 - 1 ≤ 200000; omega⟩ (by decide)) rfl rfl (by omega) (Nat.le_of_ble_eq_true rfl) (fun r1 h hP => ?_)
  obtain ⟨rfl, hK1⟩ := hP
  refine ag_vret dd_Chooser_decide_44 rfl ?_
  exact ⟨rfl, Kd, hd2, hK1⟩
