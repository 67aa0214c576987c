set_option maxHeartbeats 1000000 in
theorem mc_Bundles_count {w : aw_T} {h0 h : ah_T} {S : ms_T} {G : gh_T} {d : Nat} (hd : 0 ≤ d) (hC : co_I h0 h S G) : am_M w mm_Bundles_count d [av_r 5] h 0 0 (fun r h' => r = some (av_i ((cn_ G : Nat) : Int)) ∧ h' = h) := by
  refine am_intro [some (av_r 5)] (by decide +kernel) (Nat.le_of_ble_eq_true rfl) rfl ?_
  by_cases hz : G 6 1 = 0
  · skip
    have h5 := cr_5 hC
    unfold cx_5 at h5
    rw [rl_e hz, rf_e (by omega)] at h5
    refine ag_aload_n dd_Bundles_count_0 rfl ?_
    refine ag_get dd_Bundles_count_1 fg_Bundles_15 h5 rfl ?_
    refine ag_ifnonnull (tgt := 11) dd_Bundles_count_4 (by decide) (fun _ q => by cases q) (fun _ => ?_)
    refine ag_iconst dd_Bundles_count_7 ?_
    refine ag_goto (tgt := 18) dd_Bundles_count_8 (by decide) ?_
    refine ag_iret dd_Bundles_count_18 rfl ?_
    refine ⟨congrArg (fun z => some (av_i z)) ?_, rfl⟩
    unfold cn_
    rw [if_pos hz]
    rfl
  · skip
    have h5 := cr_5 hC
    unfold cx_5 at h5
    rw [rl_s hz, rf_s (by omega)] at h5
    have hlb := cr_B hC (show G 6 1 - 1 < G 6 1 by omega)
    unfold cx_B at hlb
    rw [rf_e (by omega)] at hlb
    refine ag_aload_n dd_Bundles_count_0 rfl ?_
    refine ag_get dd_Bundles_count_1 fg_Bundles_15 h5 rfl ?_
    refine ag_ifnonnull (tgt := 11) dd_Bundles_count_4 (by decide) (fun _ _ => ?_) (fun q => by cases q)
    refine ag_aload_n dd_Bundles_count_11 rfl ?_
    refine ag_get dd_Bundles_count_12 fg_Bundles_15 h5 rfl ?_
    refine ag_get dd_Bundles_count_15 fg_Bundles_25 hlb rfl ?_
    refine ag_iret dd_Bundles_count_18 rfl ?_
    refine ⟨congrArg (fun z => some (av_i z)) ?_, rfl⟩
    unfold cn_
    rw [if_neg hz]
set_option maxHeartbeats 1000000 in
theorem mc_Batch_init {w : aw_T} {h : ah_T} {d : Nat} (hd : 1 ≤ d) {a : Nat} {v0 v1 v2 : av_T} (hc : h[a]? = some (ac_o 0 [v0, v1, v2])) {x y : Int} : am_M w mm_Batch_init d [av_r a, av_i x, av_i y] h 0 0 (fun r1 h1 => r1 = none ∧ hu_ h h1 a (ac_o 0 [av_i x, av_i y, v2])) := by
  refine am_intro [some (av_r (a)), some (av_i (x)), some (av_i (y))] (by decide +kernel) (Nat.le_of_ble_eq_true rfl) rfl ?_
  refine ag_aload_n dd_Batch_init_0 rfl ?_
  refine ag_obj dd_Batch_init_1 fi_Batch_1 fo_i fo_c (by omega) (Nat.le_of_ble_eq_true rfl) ?_
  refine ag_aload_n dd_Batch_init_4 rfl ?_
  refine ag_iload_n dd_Batch_init_5 rfl ?_
  refine hp_i dd_Batch_init_6 fp_Batch_7 hc (Nat.le_of_ble_eq_true rfl) (fun h huN => ?_)
  have hu1 := huN
  clear huN
  refine ag_aload_n dd_Batch_init_9 rfl ?_
  refine ag_iload_n dd_Batch_init_10 rfl ?_
  refine hp_i dd_Batch_init_11 fp_Batch_13 hu1.2.1 (Nat.le_of_ble_eq_true rfl) (fun h huN => ?_)
  replace hu1 := hu_tr hu1 huN
  clear huN
  refine ag_vret dd_Batch_init_14 rfl ?_
  exact ⟨rfl, hu1⟩
set_option maxHeartbeats 1000000 in
theorem mc_Bundles_add {w : aw_T} {h0 h : ah_T} {S : ms_T} {G : gh_T} {d : Nat} (hd : 2 ≤ d) (hC : co_I h0 h S G) {f : Nat} (hf : f < 16) (h7 : ∀ j, j < G 6 1 → G 7 j < 16) {t : Int} (ht : 1 ≤ t ∧ t ≤ 200) (hcn : cn_ G ≤ 4000) : am_M w mm_Bundles_add d [av_r 5, av_i (f : Int), av_i t] h 1 3 (fun r1 h1 => r1 = none ∧ ∃ G2 : gh_T, co_I h0 h1 S G2 ∧ ((G 6 1 ≠ 0 ∧ G 7 (G 6 1 - 1) = f ∧ G2 = gb1 G ((cn_ G : Int) + t).toNat) ∨ ∃ a0, ¬ (G 6 1 ≠ 0 ∧ G 7 (G 6 1 - 1) = f) ∧ G2 = gb2 G a0 f ((cn_ G : Int) + t).toNat)) := by
  refine am_intro [some (av_r 5), some (av_i ((f : Int))), some (av_i (t)), none, none] (by decide +kernel) (Nat.le_of_ble_eq_true rfl) rfl ?_
  have hlen := hC.1.1
  by_cases hz : G 6 1 = 0
  · skip
    have h5 := cr_5 hC
    unfold cx_5 at h5
    rw [rl_e hz, rf_e (by omega)] at h5
    refine ag_aload_n dd_Bundles_add_0 rfl ?_
    refine ag_rV dd_Bundles_add_1 fi_Bundles_9 (cr_5 hC) rfl (mc_Bundles_count (d := 0) (by omega) hC) rfl rfl (by omega) (Nat.le_of_ble_eq_true rfl) ?_
    refine ag_iload_n dd_Bundles_add_4 rfl ?_
    refine ag_iadd dd_Bundles_add_5 ?_
    refine ag_istore_nN (Lf := fun y => [some (av_r 5), some (av_i ((f : Int))), some (av_i (t)), some (av_i (y)), none]) dd_Bundles_add_6 (fun _ => rfl) rfl (by decide) (fun y1 ey1 => ?_)
    refine ag_aload_n dd_Bundles_add_7 rfl ?_
    refine ag_get dd_Bundles_add_8 fg_Bundles_15 h5 rfl ?_
    refine ag_ifnull (tgt := 34) dd_Bundles_add_11 (by decide) (fun _ => ?_) (fun _ q => by cases q)
    refine an_new (kc' := 0) (ks' := 0) dd_Bundles_add_34 fn_Bundles_20 (by decide) (by decide) (fun a0 h hn => ?_)
    refine ag_dup dd_Bundles_add_37 rfl ?_
    refine ag_iload_n dd_Bundles_add_38 rfl ?_
    refine ag_iload_n dd_Bundles_add_39 rfl ?_
    refine ag_callI (mc := 0) (ms := 0) (kc' := 0) (ks' := 0) dd_Bundles_add_40 fi_Bundles_28 (mc_Batch_init (d := 1) (by omega) hn.2.2.1) rfl rfl (by omega) (Nat.le_of_ble_eq_true rfl) (by decide) (by decide) (fun r1 h hP => ?_)
    obtain ⟨rfl, huI⟩ := hP
    have hn2 := hn_hu hn huI
    have h52 := (hn2.2.2.2 5 (by omega)).trans h5
    refine ag_astore (L' := [some (av_r 5), some (av_i ((f : Int))), some (av_i (t)), some (av_i (y1)), some (av_r (a0))]) dd_Bundles_add_43 rfl rfl (by decide) ?_
    refine ag_aload_n dd_Bundles_add_45 rfl ?_
    refine ag_get dd_Bundles_add_46 fg_Bundles_15 h52 rfl ?_
    refine ag_ifnonnull (tgt := 61) dd_Bundles_add_49 (by decide) (fun _ q => by cases q) (fun _ => ?_)
    refine ag_aload_n dd_Bundles_add_52 rfl ?_
    refine ag_aload dd_Bundles_add_53 rfl ?_
    refine hp_o dd_Bundles_add_55 fp_Bundles_31 h52 (Nat.le_of_ble_eq_true rfl) (fun h huN => ?_)
    have hu1 := huN
    clear huN
    refine ag_goto (tgt := 70) dd_Bundles_add_58 (by decide) ?_
    refine ag_aload_n dd_Bundles_add_70 rfl ?_
    refine ag_aload dd_Bundles_add_71 rfl ?_
    refine hp_o dd_Bundles_add_73 fp_Bundles_15 hu1.2.1 (Nat.le_of_ble_eq_true rfl) (fun h huN => ?_)
    replace hu1 := hu_tr hu1 huN
    clear huN
    refine ag_vret dd_Bundles_add_76 rfl ?_
    have hy : y1 = (((cn_ G : Int) + t).toNat : Int) := by omega
    refine ⟨rfl, _, co_b2 (h3 := _) hC hn2 (by rw [hy]) (fun x _ => rfl) rfl (fun q => absurd hz q) hu1 (by rw [if_pos hz]; rfl), Or.inr ⟨a0, fun q => q.1 hz, rfl⟩⟩
  · skip
    have h5 := cr_5 hC
    unfold cx_5 at h5
    rw [rl_s hz, rf_s (by omega)] at h5
    have hlb := cr_B hC (show G 6 1 - 1 < G 6 1 by omega)
    unfold cx_B at hlb
    rw [rf_e (by omega)] at hlb
    have h7l := h7 (G 6 1 - 1) (by omega)
    refine ag_aload_n dd_Bundles_add_0 rfl ?_
    refine ag_rV dd_Bundles_add_1 fi_Bundles_9 (cr_5 hC) rfl (mc_Bundles_count (d := 0) (by omega) hC) rfl rfl (by omega) (Nat.le_of_ble_eq_true rfl) ?_
    refine ag_iload_n dd_Bundles_add_4 rfl ?_
    refine ag_iadd dd_Bundles_add_5 ?_
    refine ag_istore_nN (Lf := fun y => [some (av_r 5), some (av_i ((f : Int))), some (av_i (t)), some (av_i (y)), none]) dd_Bundles_add_6 (fun _ => rfl) rfl (by decide) (fun y1 ey1 => ?_)
    refine ag_aload_n dd_Bundles_add_7 rfl ?_
    refine ag_get dd_Bundles_add_8 fg_Bundles_15 h5 rfl ?_
    refine ag_ifnull (tgt := 34) dd_Bundles_add_11 (by decide) (fun q => by cases q) (fun _ _ => ?_)
    refine ag_aload_n dd_Bundles_add_14 rfl ?_
    refine ag_get dd_Bundles_add_15 fg_Bundles_15 h5 rfl ?_
    refine ag_get dd_Bundles_add_18 fg_Bundles_19 hlb rfl ?_
    refine ag_iload_n dd_Bundles_add_21 rfl ?_
    refine ag_icmp_ne (tgt := 34) dd_Bundles_add_22 (by decide) (by omega) (by omega) (fun c3 => ?_) (fun c3 => ?_)
    · refine an_new (kc' := 0) (ks' := 0) dd_Bundles_add_34 fn_Bundles_20 (by decide) (by decide) (fun a0 h hn => ?_)
      refine ag_dup dd_Bundles_add_37 rfl ?_
      refine ag_iload_n dd_Bundles_add_38 rfl ?_
      refine ag_iload_n dd_Bundles_add_39 rfl ?_
      refine ag_callI (mc := 0) (ms := 0) (kc' := 0) (ks' := 0) dd_Bundles_add_40 fi_Bundles_28 (mc_Batch_init (d := 1) (by omega) hn.2.2.1) rfl rfl (by omega) (Nat.le_of_ble_eq_true rfl) (by decide) (by decide) (fun r1 h hP => ?_)
      obtain ⟨rfl, huI⟩ := hP
      have hn2 := hn_hu hn huI
      have h52 := (hn2.2.2.2 5 (by omega)).trans h5
      have hlb2 := (hn2.2.2.2 _ (co_lt hC (show vl_ok S G 4 (G 6 1 - 1) from (show G 6 1 - 1 < G 6 1 by omega)))).trans hlb
      refine ag_astore (L' := [some (av_r 5), some (av_i ((f : Int))), some (av_i (t)), some (av_i (y1)), some (av_r (a0))]) dd_Bundles_add_43 rfl rfl (by decide) ?_
      refine ag_aload_n dd_Bundles_add_45 rfl ?_
      refine ag_get dd_Bundles_add_46 fg_Bundles_15 h52 rfl ?_
      refine ag_ifnonnull (tgt := 61) dd_Bundles_add_49 (by decide) (fun _ _ => ?_) (fun q => by cases q)
      refine ag_aload_n dd_Bundles_add_61 rfl ?_
      refine ag_get dd_Bundles_add_62 fg_Bundles_15 h52 rfl ?_
      refine ag_aload dd_Bundles_add_65 rfl ?_
      refine hp_o dd_Bundles_add_67 fp_Bundles_34 hlb2 (Nat.le_of_ble_eq_true rfl) (fun h huN => ?_)
      have hu1 := huN
      clear huN
      have hl77 : 77 ≤ G 4 (G 6 1 - 1) := (hC.1.2.1 4 (G 6 1 - 1) (show G 6 1 - 1 < G 6 1 by omega)).2 (by decide)
      have h53 := (hu1.2.2 5 (by omega)).trans h52
      refine ag_aload_n dd_Bundles_add_70 rfl ?_
      refine ag_aload dd_Bundles_add_71 rfl ?_
      refine hp_o dd_Bundles_add_73 fp_Bundles_15 h53 (Nat.le_of_ble_eq_true rfl) (fun h huN => ?_)
      have hu2 := huN
      clear huN
      refine ag_vret dd_Bundles_add_76 rfl ?_
      have hy : y1 = (((cn_ G : Int) + t).toNat : Int) := by omega
      refine ⟨rfl, _, co_b2 (h3 := _) hC hn2 (by rw [hy]) (fun x hx => hu1.2.2 x (hx hz)) hu1.1 (fun _ => hu1.2.1) hu2 (by rw [if_neg hz]; rfl), Or.inr ⟨a0, fun q => by omega, rfl⟩⟩
    · refine ag_aload_n dd_Bundles_add_25 rfl ?_
      refine ag_get dd_Bundles_add_26 fg_Bundles_15 h5 rfl ?_
      refine ag_iload_n dd_Bundles_add_29 rfl ?_
      refine hp_i dd_Bundles_add_30 fp_Bundles_25 hlb (Nat.le_of_ble_eq_true rfl) (fun h huN => ?_)
      have hu1 := huN
      clear huN
      refine ag_vret dd_Bundles_add_33 rfl ?_
      have hy : y1 = (((cn_ G : Int) + t).toNat : Int) := by omega
      refine ⟨rfl, _, co_b1 hC hz hu1 (by rw [hy]; rfl), Or.inl ⟨hz, by omega, rfl⟩⟩
set_option maxHeartbeats 1000000 in
theorem ml_Bundles_fieldOfTon {w : aw_T} {h0 h : ah_T} {S : ms_T} {G : gh_T} {d : Nat} (hd : 0 ≤ d) (hC : co_I h0 h S G) (hb : br_ S G) (h36 : 0 ≤ S.1 36 ∧ S.1 36 ≤ 4000) {i : Nat} (hi : i < 2147483648) {P : ap_T} (hP : P (some (av_i (sp_bundle S (i : Int)))) h) : ∀ (m j : Nat), j + m = G 6 1 → (∀ j2, j2 < j → G 8 j2 ≤ i) → aw_W w mm_Bundles_fieldOfTon d P 11 [some (av_r 5), some (av_i ((i : Int))), some (av_q (rf_ G 4 (G 6 1) j))] [] h 0 0 := by
  intro m
  induction m with
  | zero =>
    intro j hj hp
    rw [rf_e (by omega)]
    obtain rfl : j = G 6 1 := by omega
    refine ag_aload_n dd_Bundles_fieldOfTon_11 rfl ?_
    refine ag_ifnull (tgt := 36) dd_Bundles_fieldOfTon_12 (by decide) (fun _ => ?_) (fun _ q => by cases q)
    refine ag_iconst dd_Bundles_fieldOfTon_36 ?_
    refine ag_iret dd_Bundles_fieldOfTon_37 rfl ?_
    have hnot : ¬ ((i : Int) < S.1 36) := by
      by_cases q : G 6 1 = 0
      · have := hb.2.1 q
        omega
      · have h1 := (hb.2.2.1 q).1
        have := hp (G 6 1 - 1) (by omega)
        omega
    have e9 : sp_bundle S (i : Int) = -1 := by
      unfold sp_bundle
      rw [if_neg (by omega)]
    rw [e9] at hP
    exact hP
  | succ m ih =>
    intro j hj hp
    rw [rf_s (by omega)]
    have hle := br_le hb j (G 6 1 - 1) (by omega) (by omega)
    have hl36 := (hb.2.2.1 (by omega)).1
    have h3200 := h36
    refine ag_aload_n dd_Bundles_fieldOfTon_11 rfl ?_
    refine ag_ifnull (tgt := 36) dd_Bundles_fieldOfTon_12 (by decide) (fun q => by cases q) (fun _ _ => ?_)
    refine ag_iload_n dd_Bundles_fieldOfTon_15 rfl ?_
    refine ag_aload_n dd_Bundles_fieldOfTon_16 rfl ?_
    refine ag_get dd_Bundles_fieldOfTon_17 fg_Bundles_25 (cr_B hC (by omega)) rfl ?_
    refine ag_icmp_ge (tgt := 28) dd_Bundles_fieldOfTon_20 (by decide) (by omega) (by omega) (fun c2 => ?_) (fun c2 => ?_)
    · refine ag_aload_n dd_Bundles_fieldOfTon_28 rfl ?_
      refine ag_get dd_Bundles_fieldOfTon_29 fg_Bundles_34 (cr_B hC (by omega)) rfl ?_
      refine ag_astore_n (L' := [some (av_r 5), some (av_i ((i : Int))), some (av_q (rf_ G 4 (G 6 1) (j + 1)))]) dd_Bundles_fieldOfTon_32 rfl rfl (by decide) ?_
      refine ag_goto (tgt := 11) dd_Bundles_fieldOfTon_33 (by decide) ?_
      refine ih (j + 1) (by omega) (fun j2 hj2 => ?_)
      by_cases q : j2 = j
      · rw [q]; omega
      · exact hp j2 (by omega)
    · refine ag_aload_n dd_Bundles_fieldOfTon_23 rfl ?_
      refine ag_get dd_Bundles_fieldOfTon_24 fg_Bundles_19 (cr_B hC (by omega)) rfl ?_
      refine ag_iret dd_Bundles_fieldOfTon_27 rfl ?_
      have e9 : sp_bundle S (i : Int) = (G 7 j : Int) := by
        unfold sp_bundle
        rw [if_pos (by omega), Int.toNat_natCast]
        exact hb.2.2.2.1 i j (by omega) (by omega) hp
      rw [e9] at hP
      exact hP
set_option maxHeartbeats 1000000 in
theorem mc_Bundles_fieldOfTon {w : aw_T} {h0 h : ah_T} {S : ms_T} {G : gh_T} {d : Nat} (hd : 0 ≤ d) (hC : co_I h0 h S G) (hb : br_ S G) (h36 : 0 ≤ S.1 36 ∧ S.1 36 ≤ 4000) {i : Int} (hi : -2147483648 ≤ i ∧ i < 2147483648) : am_M w mm_Bundles_fieldOfTon d [av_r 5, av_i i] h 0 0 (fun r h' => r = some (av_i (sp_bundle S i)) ∧ h' = h) := by
  refine am_intro [some (av_r 5), some (av_i (i)), none] (by decide +kernel) (Nat.le_of_ble_eq_true rfl) rfl ?_
  refine ag_iload_n dd_Bundles_fieldOfTon_0 rfl ?_
  refine ag_if_ge (tgt := 6) dd_Bundles_fieldOfTon_1 (by decide) (by omega) (fun c1 => ?_) (fun c1 => ?_)
  · obtain ⟨k, rfl⟩ : ∃ k : Nat, i = (k : Int) := ⟨i.toNat, by omega⟩
    refine ag_aload_n dd_Bundles_fieldOfTon_6 rfl ?_
    refine ag_get dd_Bundles_fieldOfTon_7 fg_Bundles_31 (cr_5 hC) rfl ?_
    refine ag_astore_n (L' := [some (av_r 5), some (av_i ((k : Int))), some (av_q (rf_ G 4 (G 6 1) 0))]) dd_Bundles_fieldOfTon_10 rfl rfl (by decide) ?_
    exact ml_Bundles_fieldOfTon hd hC hb h36 (by omega) ⟨rfl, rfl⟩ (G 6 1) 0 (by omega) (fun j2 hj2 => by omega)
  · refine ag_iconst dd_Bundles_fieldOfTon_4 ?_
    refine ag_iret dd_Bundles_fieldOfTon_5 rfl ?_
    refine ⟨congrArg (fun z => some (av_i z)) ?_, rfl⟩
    unfold sp_bundle
    rw [if_neg (by omega)]
set_option maxHeartbeats 1000000 in
theorem mc_X_bundle {w : aw_T} {h0 h : ah_T} {S : ms_T} {G : gh_T} {d : Nat} (hd : 1 ≤ d) (hC : co_I h0 h S G) (hb : br_ S G) (h36 : 0 ≤ S.1 36 ∧ S.1 36 ≤ 4000) {i : Int} (hi : -2147483648 ≤ i ∧ i < 2147483648) : am_M w mm_X_bundle d [av_r 0, av_i i] h 0 0 (fun r h' => r = some (av_i (sp_bundle S i)) ∧ h' = h) := by
  refine am_intro [some (av_r 0), some (av_i (i))] (by decide +kernel) (Nat.le_of_ble_eq_true rfl) rfl ?_
  refine ag_aload_n dd_X_bundle_0 rfl ?_
  refine ag_get dd_X_bundle_1 fg_X_42 (cr_0 hC) rfl ?_
  refine ag_iload_n dd_X_bundle_4 rfl ?_
  refine ag_rV dd_X_bundle_5 fi_X_224 (cr_5 hC) rfl (mc_Bundles_fieldOfTon (d := 0) (by omega) hC hb h36 (by omega)) rfl rfl (by omega) (Nat.le_of_ble_eq_true rfl) ?_
  refine ag_iret dd_X_bundle_8 rfl ?_
  exact ⟨rfl, rfl⟩
theorem ml_mono : ∀ (r : Nat) (S : ms_T) (room : Int), iv_S S → S.1 36 ≤ (sp_mlN r S room).1 36
  | 0, S, room, h => Int.le_refl _
  | r + 1, S, room, h => by
    rw [sp_mlN]
    by_cases q : sp_fd S < 0 ∨ room ≤ 0
    · rw [if_pos q]
      exact Int.le_refl _
    · rw [if_neg q]
      have h3 := h.1.2.2.2.1
      have hb : -1 ≤ sp_fd S ∧ sp_fd S < (S.1 3).toNat := sp_fdN_b S (S.1 3).toNat
      have hw := sp_fdN_w S (S.1 3).toNat (by show 0 ≤ sp_fd S; omega)
      have hw1 : S.2 62 (sp_fd S).toNat < 0 := hw.1
      have hw2 : 0 < sp_left S (sp_fd S).toNat := hw.2.2
      have hmn : 1 ≤ sp_mn S room ∧ sp_mn S room ≤ sp_left S (sp_fd S).toNat := by unfold sp_mn; split <;> omega
      have h1 := ml_mono r _ (room - sp_mn S room) (iv_ml1 h (l := (sp_fd S).toNat) (by omega) hw1 (n := sp_mn S room) (by omega))
      have h2 : (sp_ml1 S (sp_fd S).toNat (sp_mn S room)).1 36 = S.1 36 + sp_mn S room := rfl
      omega
set_option maxHeartbeats 1000000 in
theorem ml_X_crushLoads {w : aw_T} {h0 : ah_T} {d : Nat} (hd : 3 ≤ d) {P : ap_T} : ∀ (r k : Nat) (S : ms_T) (G : gh_T) (h : ah_T) (room : Int), k + r = 16 → iv_S S → br_ S G → (-1000 ≤ room ∧ room ≤ 100) → co_I h0 h S G → (∀ (h : ah_T) (G2 : gh_T), co_I h0 h (sp_mlN r S room) G2 → br_ (sp_mlN r S room) G2 → (∀ a b, (a ≠ 4 ∧ a ≠ 7 ∧ a ≠ 8 ∧ ¬ (a = 6 ∧ b = 1)) → G2 a b = G a b) → P none h) → aw_W w mm_X_crushLoads d P 7 [some (av_r 0), some (av_i (room)), some (av_i ((k : Int))), none, none] [] h ((sp_mlN r S room).1 36 - S.1 36).toNat (3 * ((sp_mlN r S room).1 36 - S.1 36).toNat) := by
  intro r
  induction r with
  | zero =>
    intro k S G h room hk hI hbr hrm hC hX
    refine ag_iload_n dd_X_crushLoads_7 rfl ?_
    refine ag_bipush dd_X_crushLoads_8 (by decide +kernel) ?_
    refine ag_icmp_ge (tgt := 75) dd_X_crushLoads_10 (by decide) (by omega) (by omega) (fun c1 => ?_) (fun c1 => ?_)
    · refine ag_vret dd_X_crushLoads_75 rfl ?_
      exact hX h G hC hbr (fun _ _ _ => rfl)
    · exfalso; omega
  | succ r ih =>
    intro k S G h room hk hI hbr hrm hC hX
    refine ag_iload_n dd_X_crushLoads_7 rfl ?_
    refine ag_bipush dd_X_crushLoads_8 (by decide +kernel) ?_
    refine ag_icmp_ge (tgt := 75) dd_X_crushLoads_10 (by decide) (by omega) (by omega) (fun c1 => ?_) (fun c1 => ?_)
    · exfalso; omega
    · refine ag_iload_n dd_X_crushLoads_13 rfl ?_
      refine ag_if_le (tgt := 75) dd_X_crushLoads_14 (by decide) (by omega) (fun c2 => ?_) (fun c2 => ?_)
      · refine ag_vret dd_X_crushLoads_75 rfl ?_
        have e9 : sp_mlN (r + 1) S room = S := by rw [sp_mlN, if_pos (by omega)]
        exact hX h G (by rw [e9]; exact hC) (by rw [e9]; exact hbr) (fun _ _ _ => rfl)
      · refine ag_aload_n dd_X_crushLoads_17 rfl ?_
        refine ag_rV dd_X_crushLoads_18 fi_X_303 (cr_0 hC) rfl (mc_X_nextToCrush (d := 1) (by omega) hC hI) rfl rfl (by omega) (Nat.le_of_ble_eq_true rfl) ?_
        by_cases hfd : 0 ≤ sp_fd S
        · obtain ⟨l, hl⟩ : ∃ l : Nat, sp_fd S = (l : Int) := ⟨(sp_fd S).toNat, by omega⟩
          have hle : (sp_fd S).toNat = l := by omega
          have h3 := hI.1.2.2.2.1
          have hb : -1 ≤ sp_fd S ∧ sp_fd S < (S.1 3).toNat := sp_fdN_b S (S.1 3).toNat
          have hw : S.2 62 (sp_fd S).toNat < 0 ∧ (0 ≤ S.2 59 (sp_fd S).toNat ∧ S.2 59 (sp_fd S).toNat ≤ S.1 0) ∧ 0 < sp_left S (sp_fd S).toNat := sp_fdN_w S (S.1 3).toNat (by show 0 ≤ sp_fd S; omega)
          rw [hle] at hw
          have hlb := sp_left_b hI (l := l) (by omega)
          have hsum := iv_sum hI
          rw [if_pos hfd, hle]
          refine ag_astore_n (L' := [some (av_r 0), some (av_i (room)), some (av_i ((k : Int))), some (av_r ((G 2 l))), none]) dd_X_crushLoads_21 rfl rfl (by decide) ?_
          refine ag_aload_n dd_X_crushLoads_22 rfl ?_
          refine ag_ifnonnull (tgt := 27) dd_X_crushLoads_23 (by decide) (fun _ _ => ?_) (fun q => by cases q)
          refine ag_iload_n dd_X_crushLoads_27 rfl ?_
          refine ag_aload_n dd_X_crushLoads_28 rfl ?_
          refine ag_rV dd_X_crushLoads_29 fi_X_307 (cr_L hC (by omega)) rfl (mc_Load_tonsLeft (d := 0) (by omega) hC (by omega) (by omega)) rfl rfl (by omega) (Nat.le_of_ble_eq_true rfl) ?_
          refine ag_min dd_X_crushLoads_32 fi_X_310 fo_mins fo_m fo_minc (by omega) (by omega) (by omega) (Nat.le_of_ble_eq_true rfl) ?_
          refine ag_istoreN (Lf := fun y => [some (av_r 0), some (av_i (room)), some (av_i ((k : Int))), some (av_r ((G 2 l))), some (av_i (y))]) dd_X_crushLoads_35 (fun _ => rfl) rfl (by decide) (fun y4 ey4 => ?_)
          have hmn : sp_mn S room = y4 := by
            rw [ey4]
            unfold sp_mn
            rw [hle]
            split <;> omega
          refine ag_aload_n dd_X_crushLoads_37 rfl ?_
          refine ag_dup dd_X_crushLoads_38 rfl ?_
          refine ag_get dd_X_crushLoads_39 fg_X_211 (cr_L hC (by omega)) rfl ?_
          refine ag_iload dd_X_crushLoads_42 rfl ?_
          refine ag_iadd dd_X_crushLoads_44 ?_
          refine hp_i dd_X_crushLoads_45 fp_X_211 (cr_L hC (by omega)) (Nat.le_of_ble_eq_true rfl) (fun h hu => ?_)
          have hC0 := hC
          clear hC
          have hC : co_I h0 h (sp_ml1 S l (sp_mn S room)) G := by
            refine co_uL hC0 (by omega) hu ?_ (fun j q _ => ai_up_n S.1 _ q) (fun a j q1 q2 q => ?_) (fun _ _ _ => rfl)
            · have e1 : (sp_ml1 S l (sp_mn S room)).2 60 l = S.2 60 l + sp_mn S room := ai_up_s (S.2 60) l _
              unfold cx_L
              rw [e1, hmn]
              rfl
            · show ai_up (ai_up S.2 65 _) 60 _ a j = _
              by_cases e : a = 60
              · rw [e, ai_up_s, ai_up_n _ _ (by omega)]
              · rw [ai_up_n _ _ e, ai_up_n _ _ q2]
          clear hu
          have z55 : (sp_ml1 S l (sp_mn S room)).2 55 l = S.2 55 l := rfl
          have z2 : (sp_ml1 S l (sp_mn S room)).1 2 = S.1 2 := rfl
          have z3 : (sp_ml1 S l (sp_mn S room)).1 3 = S.1 3 := rfl
          have z36 : (sp_ml1 S l (sp_mn S room)).1 36 = S.1 36 + sp_mn S room := rfl
          have hI2 := iv_ml1 hI (l := l) (by omega) (by omega) (n := sp_mn S room) (by omega)
          have eM : sp_mlN (r + 1) S room = sp_mlN r (sp_ml1 S l (sp_mn S room)) (room - sp_mn S room) := by rw [sp_mlN, if_neg (by omega), hle]
          have hmono := ml_mono r _ (room - sp_mn S room) hI2
          have hbs := br_same hbr (l := l) (n := sp_mn S room) (by omega)
          have hbn := fun a0 f => br_new hbr (l := l) (a0 := a0) (f := f) (n := sp_mn S room) (by omega) (by omega)
          generalize hS3 : sp_ml1 S l (sp_mn S room) = S3 at *
          refine ag_iload_n dd_X_crushLoads_48 rfl ?_
          refine ag_iload dd_X_crushLoads_49 rfl ?_
          refine ag_isub dd_X_crushLoads_51 ?_
          refine ag_istore_nN (Lf := fun y => [some (av_r 0), some (av_i (y)), some (av_i ((k : Int))), some (av_r ((G 2 l))), some (av_i (y4))]) dd_X_crushLoads_52 (fun _ => rfl) rfl (by decide) (fun y5 ey5 => ?_)
          refine ag_aload_n dd_X_crushLoads_53 rfl ?_
          refine ag_get dd_X_crushLoads_54 fg_X_42 (cr_0 hC) rfl ?_
          refine ag_aload_n dd_X_crushLoads_57 rfl ?_
          refine ag_get dd_X_crushLoads_58 fg_X_191 (cr_L hC (by omega)) rfl ?_
          refine ag_get dd_X_crushLoads_61 fg_X_196 (cr_F hC (by omega)) rfl ?_
          refine ag_iload dd_X_crushLoads_64 rfl ?_
          have hcn := br_cn hbr
          have hc16 := hI.1.2.2.1
          obtain ⟨f, hf⟩ : ∃ f : Nat, S.2 55 l = (f : Int) := ⟨(S.2 55 l).toNat, by omega⟩
          have hft : ((S3.2 55 l).toNat : Int) = (f : Int) := by omega
          rw [hft, ← hmn, eM]
          refine ag_callV (mc := 1) (ms := 3) (kc' := ((sp_mlN r S3 (room - sp_mn S room)).1 36 - S3.1 36).toNat) (ks' := 3 * ((sp_mlN r S3 (room - sp_mn S room)).1 36 - S3.1 36).toNat) dd_X_crushLoads_66 fi_X_316 (cr_5 hC) rfl (mc_Bundles_add (d := 2) (by omega) hC (f := f) (by omega) hbr.2.2.2.2 (t := sp_mn S room) (by omega) (by omega)) rfl rfl (by omega) (Nat.le_of_ble_eq_true rfl) (by omega) (by omega) (fun r1 h hP => ?_)
          obtain ⟨rfl, G2, hC, hg2⟩ := hP
          have hbr2 : br_ S3 G2 ∧ ∀ a b, a ≠ 4 → a ≠ 7 → a ≠ 8 → ¬ (a = 6 ∧ b = 1) → G2 a b = G a b := by
            rcases hg2 with ⟨q1, q2, q3⟩ | ⟨a0, q1, q3⟩
            · rw [q3, hcn]
              exact ⟨hbs q1 (by omega), fun a b p1 p2 p3 p4 => gi_n G (by omega)⟩
            · rw [q3, hcn]
              exact ⟨hbn a0 f (by omega) (by omega), fun a b p1 p2 p3 p4 => gb2_n G (by omega) (by omega) (by omega) (by omega)⟩
          refine ag_iincN (Lf := fun y => [some (av_r 0), some (av_i (y5)), some (av_i (y)), some (av_r ((G 2 l))), some (av_i ((sp_mn S room)))]) dd_X_crushLoads_69 rfl (fun _ => rfl) rfl (by decide) (fun y6 ey6 => ?_)
          refine ag_goto (tgt := 7) dd_X_crushLoads_72 (by decide) ?_
          have hrm : y5 = room - sp_mn S room := by omega
          obtain rfl : y6 = ((k + 1 : Nat) : Int) := by omega
          rw [hrm]
          refine ag_weak [some (av_r 0), some (av_i ((room - sp_mn S room))), some (av_i (((k + 1 : Nat) : Int))), none, none] (by simp [al_le]) ?_
          exact ih (k + 1) S3 G2 h (room - sp_mn S room) (by omega) hI2 hbr2.1 (by omega) hC (fun h G3 hC hb hg => hX h G3 (by rw [eM]; exact hC) (by rw [eM]; exact hb) (fun a b q => (hg a b q).trans (hbr2.2 a b (by omega) (by omega) (by omega) (by omega))))
        · rw [if_neg hfd]
          refine ag_astore_n (L' := [some (av_r 0), some (av_i (room)), some (av_i ((k : Int))), some (av_n), none]) dd_X_crushLoads_21 rfl rfl (by decide) ?_
          refine ag_aload_n dd_X_crushLoads_22 rfl ?_
          refine ag_ifnonnull (tgt := 27) dd_X_crushLoads_23 (by decide) (fun _ q => by cases q) (fun _ => ?_)
          refine ag_vret dd_X_crushLoads_26 rfl ?_
          have e9 : sp_mlN (r + 1) S room = S := by rw [sp_mlN, if_pos (by omega)]
          exact hX h G (by rw [e9]; exact hC) (by rw [e9]; exact hbr) (fun _ _ _ => rfl)
set_option maxHeartbeats 1000000 in
theorem mc_X_crushLoads {w : aw_T} {h0 h : ah_T} {S : ms_T} {G : gh_T} {d : Nat} (hd : 3 ≤ d) (hC : co_I h0 h S G) (hI : iv_S S) (hbr : br_ S G) : am_M w mm_X_crushLoads d [av_r 0] h ((sp_mill S).1 36 - S.1 36).toNat (3 * ((sp_mill S).1 36 - S.1 36).toNat) (fun r1 h1 => r1 = none ∧ ∃ G2 : gh_T, co_I h0 h1 (sp_mill S) G2 ∧ br_ (sp_mill S) G2 ∧ (∀ a b, (a ≠ 4 ∧ a ≠ 7 ∧ a ≠ 8 ∧ ¬ (a = 6 ∧ b = 1)) → G2 a b = G a b)) := by
  refine am_intro [some (av_r 0), none, none, none, none] (by decide +kernel) (Nat.le_of_ble_eq_true rfl) rfl ?_
  refine ag_aload_n dd_X_crushLoads_0 rfl ?_
  refine ag_get dd_X_crushLoads_1 fg_X_19 (cr_0 hC) rfl ?_
  refine ag_istore_nN (Lf := fun y => [some (av_r 0), some (av_i (y)), none, none, none]) dd_X_crushLoads_4 (fun _ => rfl) rfl (by decide) (fun y1 ey1 => ?_)
  refine ag_iconst dd_X_crushLoads_5 ?_
  refine ag_istore_n (L' := [some (av_r 0), some (av_i (y1)), some (av_i (0)), none, none]) dd_X_crushLoads_6 rfl rfl (by decide) ?_
  have h7 := hI.1.2.2.2.2.2.2.2.1
  subst ey1
  exact ml_X_crushLoads hd 16 0 S G h (S.1 7) rfl hI hbr (by omega) hC (fun h G2 hC hb hg => ⟨rfl, G2, hC, hb, hg⟩)
