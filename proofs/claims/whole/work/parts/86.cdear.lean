/-- what the k dearest of the first c of the row are worth, of those below m -/
def tp_ (K : ms_T) (m : Nat) : Nat → Nat → Int
  | 0, _ => 0
  | _ + 1, 0 => 0
  | c + 1, k + 1 => if ix_ (K.2 11 c) < m then K.2 8 (ix_ (K.2 11 c)) + tp_ K m c k else tp_ K m c (k + 1)
theorem tp_0 (K : ms_T) (m : Nat) : ∀ c, tp_ K m c 0 = 0
  | 0 => rfl
  | _ + 1 => rfl
theorem tp_n {K : ms_T} {m c : Nat} (h : ¬ ix_ (K.2 11 c) < m) : ∀ k, tp_ K m (c + 1) k = tp_ K m c k
  | 0 => by rw [tp_0, tp_0]
  | k + 1 => by rw [tp_, if_neg h]
theorem tp_b {K : ms_T} (hv : kv_ K) (m : Nat) : ∀ c k, 0 ≤ tp_ K m c k ∧ tp_ K m c k ≤ 6000 * (k : Int)
  | 0, k => by rw [tp_]; omega
  | c + 1, 0 => by rw [tp_]; omega
  | c + 1, k + 1 => by
    have hw := (hv.2.2.2 (ix_ (K.2 11 c)) (by unfold ix_; omega)).2.1
    rw [tp_]
    split
    · have := tp_b hv m c k
      omega
    · have := tp_b hv m c (k + 1)
      omega
def kw_ (K : ms_T) (m : Nat) (g : Nat → Int) : ms_T := (K.1, ai_up K.2 (13 + m) g)
theorem kw_s (K : ms_T) (m : Nat) (g : Nat → Int) : (kw_ K m g).2 (13 + m) = g := ai_up_s _ _ _
theorem kw_w (K : ms_T) (m : Nat) (g g2 : Nat → Int) : ((K.1, ai_up (kw_ K m g).2 (13 + m) g2) : ms_T) = kw_ K m g2 := by
  refine Prod.ext rfl (funext fun a => ?_)
  show ai_up (ai_up K.2 (13 + m) g) (13 + m) g2 a = ai_up K.2 (13 + m) g2 a
  by_cases e : a = 13 + m
  · rw [e, ai_up_s, ai_up_s]
  · rw [ai_up_n _ _ e, ai_up_n _ _ e, ai_up_n _ _ e]
theorem kw_n (K : ms_T) (m : Nat) (g : Nat → Int) {a : Nat} (h : a ≠ 13 + m) : (kw_ K m g).2 a = K.2 a := ai_up_n _ _ h
theorem kw_self (K : ms_T) (m : Nat) : kw_ K m (K.2 (13 + m)) = K := by
  refine Prod.ext rfl (funext fun a => ?_)
  show ai_up K.2 (13 + m) (K.2 (13 + m)) a = K.2 a
  by_cases e : a = 13 + m
  · rw [e, ai_up_s]
  · rw [ai_up_n _ _ e]
set_option maxHeartbeats 1000000 in
theorem ml_Chooser_sd2 {w : aw_T} {h0 : ah_T} {K : ms_T} {d m : Nat} (hm : m < 17) {F : Nat → Int} {P : ap_T} (hX : ∀ (h : ah_T) (g : Nat → Int), kc_I h0 h (kw_ K m g) → (∀ j, j ≤ 9 → g j = F j) → P none h) : ∀ (r t : Nat) (g : Nat → Int) (h : ah_T), t + r = 9 → kc_I h0 h (kw_ K m g) → (∀ j, j ≤ t → g j = F j) → (∀ k, F (t + k) = g t) → aw_W w mm_Chooser_sumDearest d P 71 [some (av_r 6), some (av_i ((m : Int))), some (av_i ((t : Int))), none, none] [] h 0 0 := by
  intro r
  induction r with
  | zero =>
    intro t g h ht hK hg hc
    refine ag_iload_n dd_Chooser_sumDearest_71 rfl ?_
    refine ag_bipush dd_Chooser_sumDearest_72 (by decide +kernel) ?_
    refine ag_icmp_ge (tgt := 101) dd_Chooser_sumDearest_74 (by decide) (by omega) (by omega) (fun c1 => ?_) (fun c1 => ?_)
    · refine ag_vret dd_Chooser_sumDearest_101 rfl ?_
      obtain rfl : t = 9 := by omega
      exact hX h g hK hg
    · exfalso; omega
  | succ r ih =>
    intro t g h ht hK hg hc
    refine ag_iload_n dd_Chooser_sumDearest_71 rfl ?_
    refine ag_bipush dd_Chooser_sumDearest_72 (by decide +kernel) ?_
    refine ag_icmp_ge (tgt := 101) dd_Chooser_sumDearest_74 (by decide) (by omega) (by omega) (fun c1 => ?_) (fun c1 => ?_)
    · exfalso; omega
    · refine ag_aload_n dd_Chooser_sumDearest_77 rfl ?_
      refine ag_get dd_Chooser_sumDearest_78 fg_Chooser_29 (kx_6 hK) rfl ?_
      refine ag_iload_n dd_Chooser_sumDearest_81 rfl ?_
      refine ag_aaldN dd_Chooser_sumDearest_82 (kx_12 hK) (by decide) (by omega) ?_
      rw [show kq_ m = some (13 + m) from if_pos (by omega)]
      refine ag_iload_n dd_Chooser_sumDearest_83 rfl ?_
      refine ag_iconst dd_Chooser_sumDearest_84 ?_
      refine ag_iadd dd_Chooser_sumDearest_85 ?_
      refine ag_aload_n dd_Chooser_sumDearest_86 rfl ?_
      refine ag_get dd_Chooser_sumDearest_87 fg_Chooser_29 (kx_6 hK) rfl ?_
      refine ag_iload_n dd_Chooser_sumDearest_90 rfl ?_
      refine ag_aaldN dd_Chooser_sumDearest_91 (kx_12 hK) (by decide) (by omega) ?_
      rw [show kq_ m = some (13 + m) from if_pos (by omega)]
      refine ag_iload_n dd_Chooser_sumDearest_92 rfl ?_
      refine ag_ialdN dd_Chooser_sumDearest_93 (kx_m hK (m := m) (by omega)) (by decide) (by omega) ?_
      refine ks_m (m := m) dd_Chooser_sumDearest_94 hK (by omega) (by omega) (fun h K2 eK2 hK => ?_)
      refine ag_iincN (Lf := fun y => [some (av_r 6), some (av_i ((m : Int))), some (av_i (y)), none, none]) dd_Chooser_sumDearest_95 rfl (fun _ => rfl) rfl (by decide) (fun y3 ey3 => ?_)
      refine ag_goto (tgt := 71) dd_Chooser_sumDearest_98 (by decide) ?_
      obtain rfl : y3 = ((t + 1 : Nat) : Int) := by omega
      have k1 : ((t : Int) + 1).toNat = t + 1 := by omega
      have eK : K2 = kw_ K m (ai_up g (t + 1) (g t)) := by
        rw [eK2, k1, kw_s]
        exact kw_w K m g _
      rw [eK] at hK
      refine ih (t + 1) (ai_up g (t + 1) (g t)) h (by omega) hK (fun j hj => ?_) (fun k => ?_)
      · by_cases e : j = t + 1
        · rw [e, ai_up_s]
          have := hc 1
          rw [this]
        · rw [ai_up_n _ _ e]
          exact hg j (by omega)
      · rw [ai_up_s, show t + 1 + k = t + (1 + k) by omega]
        exact hc (1 + k)
set_option maxHeartbeats 1000000 in
theorem ml_Chooser_sd3 {w : aw_T} {h0 : ah_T} {K : ms_T} {d m : Nat} (hm : m < 17) {F : Nat → Int} {P : ap_T} (hX : ∀ (h : ah_T) (g : Nat → Int), kc_I h0 h (kw_ K m g) → (∀ j, j ≤ 9 → g j = F j) → P none h) (g : Nat → Int) (h : ah_T) (hK : kc_I h0 h (kw_ K m g)) (hg : ∀ j, j ≤ 9 → g j = F j) : aw_W w mm_Chooser_sumDearest d P 71 [some (av_r 6), some (av_i ((m : Int))), some (av_i (((9 : Nat) : Int))), none, none] [] h 0 0 := by
  refine ag_iload_n dd_Chooser_sumDearest_71 rfl ?_
  refine ag_bipush dd_Chooser_sumDearest_72 (by decide +kernel) ?_
  refine ag_icmp_ge (tgt := 101) dd_Chooser_sumDearest_74 (by decide) (by omega) (by omega) (fun c1 => ?_) (fun c1 => ?_)
  · refine ag_vret dd_Chooser_sumDearest_101 rfl ?_
    exact hX h g hK hg
  · exfalso; omega
set_option maxHeartbeats 1000000 in
theorem ml_Chooser_sd1 {w : aw_T} {h0 : ah_T} {K : ms_T} {d m : Nat} (hv : kv_ K) (hm : m < 17) {P : ap_T} (hX : ∀ (h : ah_T) (g : Nat → Int), kc_I h0 h (kw_ K m g) → (∀ j, j ≤ 9 → g j = (tp_ K m (K.1 7).toNat) j) → P none h) : ∀ (c t : Nat) (g : Nat → Int) (h : ah_T), (c : Int) ≤ K.1 7 → t ≤ 9 → kc_I h0 h (kw_ K m g) → (∀ j, j ≤ t → g j = (tp_ K m (K.1 7).toNat) j) → (∀ k, (tp_ K m (K.1 7).toNat) (t + k) = g t + tp_ K m c k) → aw_W w mm_Chooser_sumDearest d P 9 [some (av_r 6), some (av_i ((m : Int))), some (av_i ((t : Int))), some (av_i (((c : Nat) : Int) - 1)), none] [] h 0 0 := by
  intro c
  induction c with
  | zero =>
    intro t g h hcn ht hK hg hc
    refine ag_iload_n dd_Chooser_sumDearest_9 rfl ?_
    refine ag_if_lt (tgt := 71) dd_Chooser_sumDearest_10 (by decide) (by omega) (fun c1 => ?_) (fun c1 => ?_)
    · refine ag_weak [some (av_r 6), some (av_i ((m : Int))), some (av_i ((t : Int))), none, none] (by simp [al_le]) ?_
      refine ml_Chooser_sd2 hm hX (9 - t) t g h (by omega) hK hg ?_
      intro k
      rw [hc k, tp_]
      omega
    · exfalso; omega
  | succ c ih =>
    intro t g h hcn ht hK hg hc
    have hv1 := hv.1
    have hvj := (hv.2.2.1 c (by omega)).2
    obtain ⟨x, hx⟩ : ∃ x : Nat, K.2 11 c = (x : Int) := ⟨(K.2 11 c).toNat, by omega⟩
    have hix : ix_ (K.2 11 c) = x % 16 := by rw [hx]; rfl
    have b8 := (hv.2.2.2 (x % 16) (by omega)).2.1
    have kc : (((c + 1 : Nat) : Int) - 1).toNat = c := by omega
    have e11 : (kw_ K m g).2 11 = K.2 11 := kw_n K m g (by omega)
    have e8 : (kw_ K m g).2 8 = K.2 8 := kw_n K m g (by omega)
    refine ag_iload_n dd_Chooser_sumDearest_9 rfl ?_
    refine ag_if_lt (tgt := 71) dd_Chooser_sumDearest_10 (by decide) (by omega) (fun c1 => ?_) (fun c1 => ?_)
    · exfalso; omega
    · refine ag_iload_n dd_Chooser_sumDearest_13 rfl ?_
      refine ag_bipush dd_Chooser_sumDearest_14 (by decide +kernel) ?_
      refine ag_icmp_ge (tgt := 71) dd_Chooser_sumDearest_16 (by decide) (by omega) (by omega) (fun c2 => ?_) (fun c2 => ?_)
      · refine ag_weak [some (av_r 6), some (av_i ((m : Int))), some (av_i ((t : Int))), none, none] (by simp [al_le]) ?_
        obtain rfl : t = 9 := by omega
        exact ml_Chooser_sd3 hm hX g h hK hg
      · refine ag_aload_n dd_Chooser_sumDearest_19 rfl ?_
        refine ag_get dd_Chooser_sumDearest_20 fg_Chooser_24 (kx_6 hK) rfl ?_
        refine ag_iload_n dd_Chooser_sumDearest_23 rfl ?_
        refine ag_iald dd_Chooser_sumDearest_24 (kx_a hK (by decide) (by decide)) (by decide) (by omega) ?_
        rw [kc, e11, hx]
        refine ag_bipush dd_Chooser_sumDearest_25 (by decide +kernel) ?_
        refine ag_iand dd_Chooser_sumDearest_27 ?_
        refine ag_to (an15 (x := x) (by omega)) ?_
        refine ag_istore (L' := [some (av_r 6), some (av_i ((m : Int))), some (av_i ((t : Int))), some (av_i (((c + 1 : Nat) : Int) - 1)), some (av_i (((x % 16 : Nat) : Int)))]) dd_Chooser_sumDearest_28 rfl rfl (by decide) ?_
        refine ag_iload dd_Chooser_sumDearest_30 rfl ?_
        refine ag_iload_n dd_Chooser_sumDearest_32 rfl ?_
        refine ag_icmp_ge (tgt := 65) dd_Chooser_sumDearest_33 (by decide) (by omega) (by omega) (fun c3 => ?_) (fun c3 => ?_)
        · refine ag_iincN (Lf := fun y => [some (av_r 6), some (av_i ((m : Int))), some (av_i ((t : Int))), some (av_i (y)), some (av_i (((x % 16 : Nat) : Int)))]) dd_Chooser_sumDearest_65 rfl (fun _ => rfl) rfl (by decide) (fun y4 ey4 => ?_)
          refine ag_goto (tgt := 9) dd_Chooser_sumDearest_68 (by decide) ?_
          have epl : y4 = ((c : Nat) : Int) - 1 := by omega
          rw [epl]
          have hlt : ¬ ix_ (K.2 11 c) < m := by rw [hix]; omega
          refine ag_weak [some (av_r 6), some (av_i ((m : Int))), some (av_i ((t : Int))), some (av_i (((c : Nat) : Int) - 1)), none] (by simp [al_le]) ?_
          exact ih t g h (by omega) (by omega) hK hg (fun k => by rw [hc k, tp_n hlt])
        · refine ag_aload_n dd_Chooser_sumDearest_36 rfl ?_
          refine ag_get dd_Chooser_sumDearest_37 fg_Chooser_29 (kx_6 hK) rfl ?_
          refine ag_iload_n dd_Chooser_sumDearest_40 rfl ?_
          refine ag_aaldN dd_Chooser_sumDearest_41 (kx_12 hK) (by decide) (by omega) ?_
          rw [show kq_ m = some (13 + m) from if_pos (by omega)]
          refine ag_iload_n dd_Chooser_sumDearest_42 rfl ?_
          refine ag_iconst dd_Chooser_sumDearest_43 ?_
          refine ag_iadd dd_Chooser_sumDearest_44 ?_
          refine ag_aload_n dd_Chooser_sumDearest_45 rfl ?_
          refine ag_get dd_Chooser_sumDearest_46 fg_Chooser_29 (kx_6 hK) rfl ?_
          refine ag_iload_n dd_Chooser_sumDearest_49 rfl ?_
          refine ag_aaldN dd_Chooser_sumDearest_50 (kx_12 hK) (by decide) (by omega) ?_
          rw [show kq_ m = some (13 + m) from if_pos (by omega)]
          refine ag_iload_n dd_Chooser_sumDearest_51 rfl ?_
          refine ag_ialdN dd_Chooser_sumDearest_52 (kx_m hK (m := m) (by omega)) (by decide) (by omega) ?_
          refine ag_aload_n dd_Chooser_sumDearest_53 rfl ?_
          refine ag_get dd_Chooser_sumDearest_54 fg_Chooser_15 (kx_6 hK) rfl ?_
          refine ag_iload dd_Chooser_sumDearest_57 rfl ?_
          refine ag_ialdN dd_Chooser_sumDearest_59 (kx_a hK (by decide) (by decide)) (by decide) (by omega) ?_
          refine ag_iadd dd_Chooser_sumDearest_60 ?_
          refine ks_m (m := m) dd_Chooser_sumDearest_61 hK (by omega) (by omega) (fun h K5 eK5 hK => ?_)
          refine ag_iincN (Lf := fun y => [some (av_r 6), some (av_i ((m : Int))), some (av_i (y)), some (av_i (((c + 1 : Nat) : Int) - 1)), some (av_i (((x % 16 : Nat) : Int)))]) dd_Chooser_sumDearest_62 rfl (fun _ => rfl) rfl (by decide) (fun y6 ey6 => ?_)
          refine ag_iincN (Lf := fun y => [some (av_r 6), some (av_i ((m : Int))), some (av_i (y6)), some (av_i (y)), some (av_i (((x % 16 : Nat) : Int)))]) dd_Chooser_sumDearest_65 rfl (fun _ => rfl) rfl (by decide) (fun y7 ey7 => ?_)
          refine ag_goto (tgt := 9) dd_Chooser_sumDearest_68 (by decide) ?_
          obtain rfl : y6 = ((t + 1 : Nat) : Int) := by omega
          have epl : y7 = ((c : Nat) : Int) - 1 := by omega
          have k1 : ((t : Int) + 1).toNat = t + 1 := by omega
          have eK : K5 = kw_ K m (ai_up g (t + 1) (g t + K.2 8 (x % 16))) := by
            rw [eK5, k1, kw_s, e8]
            exact kw_w K m g _
          rw [eK] at hK
          rw [epl]
          have hlt : ix_ (K.2 11 c) < m := by rw [hix]; omega
          have htp : ∀ k, tp_ K m (c + 1) (1 + k) = K.2 8 (x % 16) + tp_ K m c k := fun k => by rw [Nat.add_comm 1 k, tp_, if_pos hlt, hix]
          refine ag_weak [some (av_r 6), some (av_i ((m : Int))), some (av_i (((t + 1 : Nat) : Int))), some (av_i (((c : Nat) : Int) - 1)), none] (by simp [al_le]) ?_
          refine ih (t + 1) (ai_up g (t + 1) (g t + K.2 8 (x % 16))) h (by omega) (by omega) hK (fun j hj => ?_) (fun k => ?_)
          · by_cases e : j = t + 1
            · rw [e, ai_up_s, hc 1]
              have := htp 0
              rw [tp_0] at this
              rw [this]
              omega
            · rw [ai_up_n _ _ e]
              exact hg j (by omega)
          · rw [ai_up_s, show t + 1 + k = t + (1 + k) by omega, hc (1 + k), htp k]
            omega
set_option maxHeartbeats 1000000 in
theorem mc_Chooser_sumDearest {w : aw_T} {h0 h : ah_T} {K : ms_T} {d : Nat} (hd : 0 ≤ d) (hK : kc_I h0 h K) (hv : kv_ K) {m : Nat} (hm : m < 17) (hz : K.2 (13 + m) 0 = 0) : am_M w mm_Chooser_sumDearest d [av_r 6, av_i (m : Int)] h 0 0 (fun r1 h1 => r1 = none ∧ ∃ g : Nat → Int, kc_I h0 h1 (kw_ K m g) ∧ ∀ j, j ≤ 9 → g j = tp_ K m (K.1 7).toNat j) := by
  refine am_intro [some (av_r 6), some (av_i ((m : Int))), none, none, none] (by decide +kernel) (Nat.le_of_ble_eq_true rfl) rfl ?_
  refine ag_iconst dd_Chooser_sumDearest_0 ?_
  refine ag_istore_n (L' := [some (av_r 6), some (av_i ((m : Int))), some (av_i (0)), none, none]) dd_Chooser_sumDearest_1 rfl rfl (by decide) ?_
  refine ag_aload_n dd_Chooser_sumDearest_2 rfl ?_
  refine ag_get dd_Chooser_sumDearest_3 fg_Chooser_39 (kx_6 hK) rfl ?_
  refine ag_iconst dd_Chooser_sumDearest_6 ?_
  refine ag_isub dd_Chooser_sumDearest_7 ?_
  refine ag_istore_nN (Lf := fun y => [some (av_r 6), some (av_i ((m : Int))), some (av_i (0)), some (av_i (y)), none]) dd_Chooser_sumDearest_8 (fun _ => rfl) rfl (by decide) (fun y1 ey1 => ?_)
  have hv1 := hv.1
  have ey : y1 = (((K.1 7).toNat : Nat) : Int) - 1 := by omega
  rw [ey]
  have hK0 : kc_I h0 h (kw_ K m (K.2 (13 + m))) := by rw [kw_self]; exact hK
  exact ml_Chooser_sd1 hv hm (fun h g z1 z2 => ⟨rfl, g, z1, z2⟩) (K.1 7).toNat 0 (K.2 (13 + m)) h (by omega) (by omega) hK0 (fun j hj => by rw [show j = 0 by omega, tp_0]; exact hz) (fun k => by rw [hz, Nat.zero_add]; omega)
