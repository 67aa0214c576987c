theorem co_fr {h0 h h' : ah_T} {S : ms_T} {G : gh_T} {a : Nat} {c : ac_T} (hC : co_I h0 h S G) (h77 : 77 ≤ a) (hfr : ∀ k i, vl_ok S G k i → ad_ G k i ≠ a) (hu : hu_ h h' a c) : co_I h0 h' S G := by
  refine ⟨⟨by rw [hu.1]; exact hC.1.1, fun k i v => ?_, hC.1.2.2⟩, cf_hu hC.2 hu (by omega)⟩
  rw [hu.2.2 _ (hfr k i v)]
  exact hC.1.2.1 k i v
theorem co_hn {h0 h h1 : ah_T} {S : ms_T} {G : gh_T} {a : Nat} {c : ac_T} (hC : co_I h0 h S G) (hn : hn_ h h1 a c) : co_I h0 h1 S G ∧ (∀ k i, vl_ok S G k i → ad_ G k i ≠ a) ∧ 77 ≤ a := by
  have hlen := hC.1.1
  have ha := hn.1
  refine ⟨⟨⟨by rw [hn.2.1]; omega, fun k i v => ?_, hC.1.2.2⟩, cf_of hC.2 (fun x hx => hn.2.2.2 x (by omega))⟩, fun k i v => ?_, by omega⟩
  · rw [hn.2.2.2 _ (co_lt hC v)]
    exact hC.1.2.1 k i v
  · have := co_lt hC v
    omega
set_option maxHeartbeats 1000000 in
theorem mc_Load_init {w : aw_T} {h0 h : ah_T} {S : ms_T} {G : gh_T} {d : Nat} (hd : 2 ≤ d) (hC : co_I h0 h S G) {a : Nat} (h77 : 77 ≤ a) (hfr : ∀ k i, vl_ok S G k i → ad_ G k i ≠ a) {v0 v1 v2 v3 v4 v5 v6 v7 v8 v9 v10 v11 : av_T} (hc : h[a]? = some (ac_o 6 [v0, v1, v2, v3, v4, v5, v6, v7, v8, v9, v10, v11])) {i : Nat} (hi : (i : Int) < S.1 2) (hs : iv_sw S i) {x t : Int} (ht : 0 ≤ t ∧ t ≤ 100000) : am_M w mm_Load_init d [av_r a, av_i x, av_r (G 1 i), av_i t] h 0 0 (fun r1 h1 => r1 = none ∧ hu_ h h1 a (ac_o 6 [av_i x, av_r (G 1 i), av_i t, av_i (sp_swt S i t), av_i (t + (if 0 ≤ S.2 49 i then 12 else 24)), av_i (-1), v6, v7, v8, av_i (-1), av_i (-2000000000), v11])) := by
  refine am_intro [some (av_r (a)), some (av_i (x)), some (av_r ((G 1 i))), some (av_i (t))] (by decide +kernel) (Nat.le_of_ble_eq_true rfl) rfl ?_
  refine ag_aload_n dd_Load_init_0 rfl ?_
  refine ag_obj dd_Load_init_1 fi_Load_3 fo_i fo_c (by omega) (Nat.le_of_ble_eq_true rfl) ?_
  refine ag_aload_n dd_Load_init_4 rfl ?_
  refine ag_iconst dd_Load_init_5 ?_
  refine hp_i dd_Load_init_6 fp_Load_9 hc (Nat.le_of_ble_eq_true rfl) (fun h huN => ?_)
  have hu1 := huN
  have hC9 := hC
  clear hC
  have hC := co_fr hC9 h77 hfr huN
  clear huN hC9
  refine ag_aload_n dd_Load_init_9 rfl ?_
  refine ag_iconst dd_Load_init_10 ?_
  refine hp_i dd_Load_init_11 fp_Load_15 hu1.2.1 (Nat.le_of_ble_eq_true rfl) (fun h huN => ?_)
  replace hu1 := hu_tr hu1 huN
  have hC9 := hC
  clear hC
  have hC := co_fr hC9 h77 hfr huN
  clear huN hC9
  refine ag_aload_n dd_Load_init_14 rfl ?_
  refine ag_ldc (a := -2000000000) dd_Load_init_15 fc_Load_18 (by decide +kernel) ?_
  refine hp_i dd_Load_init_17 fp_Load_19 hu1.2.1 (Nat.le_of_ble_eq_true rfl) (fun h huN => ?_)
  replace hu1 := hu_tr hu1 huN
  have hC9 := hC
  clear hC
  have hC := co_fr hC9 h77 hfr huN
  clear huN hC9
  refine ag_aload_n dd_Load_init_20 rfl ?_
  refine ag_iload_n dd_Load_init_21 rfl ?_
  refine hp_i dd_Load_init_22 fp_Load_22 hu1.2.1 (Nat.le_of_ble_eq_true rfl) (fun h huN => ?_)
  replace hu1 := hu_tr hu1 huN
  have hC9 := hC
  clear hC
  have hC := co_fr hC9 h77 hfr huN
  clear huN hC9
  refine ag_aload_n dd_Load_init_25 rfl ?_
  refine ag_aload_n dd_Load_init_26 rfl ?_
  refine hp_o dd_Load_init_27 fp_Load_25 hu1.2.1 (Nat.le_of_ble_eq_true rfl) (fun h huN => ?_)
  replace hu1 := hu_tr hu1 huN
  have hC9 := hC
  clear hC
  have hC := co_fr hC9 h77 hfr huN
  clear huN hC9
  refine ag_aload_n dd_Load_init_30 rfl ?_
  refine ag_iload_n dd_Load_init_31 rfl ?_
  refine hp_i dd_Load_init_32 fp_Load_29 hu1.2.1 (Nat.le_of_ble_eq_true rfl) (fun h huN => ?_)
  replace hu1 := hu_tr hu1 huN
  have hC9 := hC
  clear hC
  have hC := co_fr hC9 h77 hfr huN
  clear huN hC9
  refine ag_aload_n dd_Load_init_35 rfl ?_
  refine ag_aload_n dd_Load_init_36 rfl ?_
  refine ag_iload_n dd_Load_init_37 rfl ?_
  refine ag_rV dd_Load_init_38 fi_Load_32 (cr_F hC hi) rfl (mc_Field_sweetAt (d := 1) (by omega) hC hi hs (by omega)) rfl rfl (by omega) (Nat.le_of_ble_eq_true rfl) ?_
  refine hp_i dd_Load_init_41 fp_Load_38 hu1.2.1 (Nat.le_of_ble_eq_true rfl) (fun h huN => ?_)
  replace hu1 := hu_tr hu1 huN
  have hC9 := hC
  clear hC
  have hC := co_fr hC9 h77 hfr huN
  clear huN hC9
  refine ag_aload_n dd_Load_init_44 rfl ?_
  refine ag_iload_n dd_Load_init_45 rfl ?_
  refine ag_aload_n dd_Load_init_46 rfl ?_
  refine ag_rV dd_Load_init_47 fi_Load_41 (cr_F hC hi) rfl (mc_Field_hoursToDeath (d := 0) (by omega) hC hi) rfl rfl (by omega) (Nat.le_of_ble_eq_true rfl) ?_
  refine ag_iadd dd_Load_init_50 ?_
  refine hp_i dd_Load_init_51 fp_Load_45 hu1.2.1 (Nat.le_of_ble_eq_true rfl) (fun h huN => ?_)
  replace hu1 := hu_tr hu1 huN
  have hC9 := hC
  clear hC
  have hC := co_fr hC9 h77 hfr huN
  clear huN hC9
  refine ag_vret dd_Load_init_54 rfl ?_
  exact ⟨rfl, hu1⟩
def sp_al (S : ms_T) (f : Nat) : ms_T := (ai_up S.1 3 (S.1 3 + 1), ai_up (ai_up (ai_up (ai_up (ai_up (ai_up (ai_up (ai_up S.2 51 (ai_up (S.2 51) f (S.1 3))) 55 (ai_up (S.2 55) (S.1 3).toNat f)) 56 (ai_up (S.2 56) (S.1 3).toNat (S.1 0 + 1))) 57 (ai_up (S.2 57) (S.1 3).toNat (sp_swt S f (S.1 0 + 1)))) 58 (ai_up (S.2 58) (S.1 3).toNat (S.1 0 + 1 + (if 0 ≤ S.2 49 f then 12 else 24)))) 59 (ai_up (S.2 59) (S.1 3).toNat (-1))) 62 (ai_up (S.2 62) (S.1 3).toNat (-1))) 63 (ai_up (S.2 63) (S.1 3).toNat (-2000000000)))
def gal_ (G : gh_T) (N a0 : Nat) : gh_T := gi_ (gi_ G 2 N a0) 5 N 0
theorem gal_n (G : gh_T) {N a0 a b : Nat} (h1 : ¬ (a = 2 ∧ b = N)) (h2 : ¬ (a = 5 ∧ b = N)) : gal_ G N a0 a b = G a b := by
  unfold gal_
  rw [gi_n _ h2, gi_n _ h1]
theorem gal_2 (G : gh_T) (N a0 : Nat) : gal_ G N a0 2 N = a0 := by
  unfold gal_
  rw [gi_n _ (by omega), gi_s]
theorem gal_5 (G : gh_T) (N a0 : Nat) : gal_ G N a0 5 N = 0 := gi_s _ _ _ _
theorem sp_al_f {S : ms_T} {f : Nat} {N : Nat} (hN : (S.1 3).toNat = N) : (∀ k, k ≠ 3 → (sp_al S f).1 k = S.1 k) ∧ (∀ a j, ¬ (a = 51 ∧ j = f) → ¬ (((55 ≤ a ∧ a ≤ 59) ∨ a = 62 ∨ a = 63) ∧ j = N) → (sp_al S f).2 a j = S.2 a j) := by
  refine ⟨fun k hk => ai_up_n S.1 _ hk, fun a j h1 h2 => ?_⟩
  unfold sp_al
  rw [hN]
  show ai_up (ai_up (ai_up (ai_up (ai_up (ai_up (ai_up (ai_up S.2 51 _) 55 _) 56 _) 57 _) 58 _) 59 _) 62 _) 63 _ a j = _
  by_cases e63 : a = 63
  · rw [e63, ai_up_s, ai_up_n _ _ (by omega)]
  rw [ai_up_n _ _ e63]
  by_cases e62 : a = 62
  · rw [e62, ai_up_s, ai_up_n _ _ (by omega)]
  rw [ai_up_n _ _ e62]
  by_cases e59 : a = 59
  · rw [e59, ai_up_s, ai_up_n _ _ (by omega)]
  rw [ai_up_n _ _ e59]
  by_cases e58 : a = 58
  · rw [e58, ai_up_s, ai_up_n _ _ (by omega)]
  rw [ai_up_n _ _ e58]
  by_cases e57 : a = 57
  · rw [e57, ai_up_s, ai_up_n _ _ (by omega)]
  rw [ai_up_n _ _ e57]
  by_cases e56 : a = 56
  · rw [e56, ai_up_s, ai_up_n _ _ (by omega)]
  rw [ai_up_n _ _ e56]
  by_cases e55 : a = 55
  · rw [e55, ai_up_s, ai_up_n _ _ (by omega)]
  rw [ai_up_n _ _ e55]
  by_cases e51 : a = 51
  · rw [e51, ai_up_s, ai_up_n _ _ (by omega)]
  rw [ai_up_n _ _ e51]
theorem co_addL {h0 h h2 h3 h4 h5 : ah_T} {S : ms_T} {G : gh_T} {a0 f N : Nat} {cn : ac_T} (hC : co_I h0 h S G) (hI : ∀ l : Nat, S.1 3 ≤ (l : Int) → S.2 60 l = 0 ∧ S.2 61 l = 0) (hN : S.1 3 = (N : Int)) (hf : (f : Int) < S.1 2) (hn : hn_ h h2 a0 cn)
    (hcn : cn = ac_o 6 [av_i (N : Int), av_r (G 1 f), av_i (S.1 0 + 1), av_i (sp_swt S f (S.1 0 + 1)), av_i (S.1 0 + 1 + (if 0 ≤ S.2 49 f then 12 else 24)), av_i (-1), av_i 0, av_i 0, av_i 0, av_i (-1), av_i (-2000000000), av_n])
    (h3a : ∀ x, (N ≠ 0 → x ≠ G 2 (N - 1)) → h3[x]? = h2[x]?) (h3l : h3.length = h2.length)
    (h3b : N ≠ 0 → h3[G 2 (N - 1)]? = some (cx_L (sp_al S f) (gal_ G N a0) (N - 1)))
    (hu : hu_ h3 h4 0 (cx_0 (sp_al S f) (gal_ G N a0))) (huF : hu_ h4 h5 (G 1 f) (cx_F (sp_al S f) (gal_ G N a0) f)) : co_I h0 h5 (sp_al S f) (gal_ G N a0) := by
  subst hcn
  have ha0 := hn.1
  have hlen := hC.1.1
  have hNt : (S.1 3).toNat = N := by omega
  have e3 : (sp_al S f).1 3 = ((N + 1 : Nat) : Int) := by
    show S.1 3 + 1 = _
    omega
  obtain ⟨hs1, hs2⟩ := sp_al_f (S := S) (f := f) hNt
  have prv : N ≠ 0 → vl_ok S G 2 (N - 1) := fun q => by
    show ((N - 1 : Nat) : Int) < S.1 3
    omega
  have vF : vl_ok S G 1 f := hf
  have old : ∀ k i, vl_ok S G k i → ¬ (k = 0 ∧ i = 0) → ¬ (k = 2 ∧ i = N - 1) → ¬ (k = 1 ∧ i = f) → h5[ad_ G k i]? = some (ce_ S G k i) := fun k i v q1 q2 q3 => by
    have c1 : ad_ G k i ≠ 0 := fun e => by
      have v0 : vl_ok S G 0 0 := Or.inl (Nat.zero_le 5)
      exact q1 (hC.1.2.2 k i 0 0 v v0 e)
    have c2 : N ≠ 0 → ad_ G k i ≠ G 2 (N - 1) := fun e1 e => q2 (hC.1.2.2 k i 2 (N - 1) v (prv e1) e)
    have c3 : ad_ G k i ≠ G 1 f := fun e => q3 (hC.1.2.2 k i 1 f v vF e)
    rw [huF.2.2 _ c3, hu.2.2 _ c1, h3a _ c2, hn.2.2.2 _ (co_lt hC v)]
    exact (hC.1.2.1 k i v).1
  have hF77 : 77 ≤ G 1 f := (hC.1.2.1 1 f hf).2 (by decide)
  have hFlt : G 1 f < h.length := co_lt hC vF
  have rfG : ∀ k n j, k ≠ 5 → k ≠ 2 → rf_ (gal_ G N a0) k n j = rf_ G k n j := fun k n j q1 q2 => by
    unfold rf_
    split
    · rw [gal_n G (by omega) (by omega)]
    · rfl
  have rlG : ∀ k n, k ≠ 5 → k ≠ 2 → rl_ (gal_ G N a0) k n = rl_ G k n := fun k n q1 q2 => by
    unfold rl_
    split
    · rfl
    · rw [gal_n G (by omega) (by omega)]
  have v5 : ∀ i, i ≤ 5 → vl_ok S G 0 i := fun i hi => Or.inl hi
  have g61 : gal_ G N a0 6 1 = G 6 1 := gal_n G (by omega) (by omega)
  refine ⟨co_gen (k0 := 2) (i0 := N) hC.1 (by rw [huF.1, hu.1, h3l, hn.2.1]; omega) (by decide) (co_K (Or.inl ⟨v5 0 (by decide), rfl, (huF.2.2 0 (by omega)).trans hu.2.1⟩) (Or.inl ⟨v5 1 (by decide), rfl, ?_⟩) (Or.inl ⟨v5 2 (by decide), rfl, ?_⟩) (Or.inl ⟨v5 3 (by decide), rfl, ?_⟩) (Or.inl ⟨v5 4 (by decide), rfl, ?_⟩) (Or.inl ⟨v5 5 (by decide), rfl, ?_⟩) (Or.inl ⟨Or.inr (Or.inl rfl), rfl, ?_⟩) (Or.inl ⟨Or.inr (Or.inr rfl), rfl, ?_⟩) (fun i hi => Or.inl ⟨?_, ?_, ?_⟩) (fun i hi => ?_) (fun i hi => Or.inl ⟨?_, ?_, ?_⟩) (fun i hi => Or.inl ⟨?_, ?_, ?_⟩)), ?_⟩
  · rw [old 0 1 (v5 1 (by decide)) (by omega) (by omega) (by omega)]
    show some (cx_1 S G) = some (cx_1 (sp_al S f) (gal_ G N a0))
    unfold cx_1
    rw [hs1 1 (by decide), hs1 39 (by decide), gal_n G (by omega) (by omega)]
  · exact old 0 2 (v5 2 (by decide)) (by omega) (by omega) (by omega)
  · exact old 0 3 (v5 3 (by decide)) (by omega) (by omega) (by omega)
  · rw [old 0 4 (v5 4 (by decide)) (by omega) (by omega) (by omega)]
    show some (cx_4 S G) = some (cx_4 (sp_al S f) (gal_ G N a0))
    unfold cx_4
    rw [hs1 21 (by decide), rlG 3 _ (by decide) (by decide)]
  · rw [old 0 5 (v5 5 (by decide)) (by omega) (by omega) (by omega)]
    show some (cx_5 G) = some (cx_5 (gal_ G N a0))
    unfold cx_5
    rw [g61, rfG 4 _ _ (by decide) (by decide), rlG 4 _ (by decide) (by decide)]
  · exact old 0 30 (Or.inr (Or.inl rfl)) (by omega) (by omega) (by omega)
  · exact old 0 31 (Or.inr (Or.inr rfl)) (by omega) (by omega) (by omega)
  · exact hi
  · exact gal_n G (a := 1) (b := i) (by omega) (by omega)
  · have hi2 : (i : Int) < S.1 2 := hi
    by_cases q : i = f
    · rw [q]
      exact huF.2.1
    · rw [old 1 i hi2 (by omega) (by omega) (by omega)]
      show some (cx_F S G i) = some (cx_F (sp_al S f) (gal_ G N a0) i)
      unfold cx_F
      rw [hs1 2 (by decide), rfG 1 _ _ (by decide) (by decide), hs2 40 i (by omega) (by omega), hs2 41 i (by omega) (by omega), hs2 42 i (by omega) (by omega), hs2 43 i (by omega) (by omega), hs2 44 i (by omega) (by omega), hs2 45 i (by omega) (by omega), hs2 46 i (by omega) (by omega), hs2 47 i (by omega) (by omega), hs2 48 i (by omega) (by omega), hs2 49 i (by omega) (by omega), hs2 50 i (by omega) (by omega), hs2 51 i (by omega) (by omega)]
  · rw [e3] at hi
    by_cases q : i = N
    · right
      subst q
      have ha1 : a0 ≠ 0 := by omega
      have c2 : i ≠ 0 → a0 ≠ G 2 (i - 1) := fun e1 e => by
        have := co_lt hC (prv e1)
        have e9 : ad_ G 2 (i - 1) = G 2 (i - 1) := rfl
        omega
      refine ⟨⟨rfl, rfl⟩, ?_, ?_⟩
      · show gal_ G i a0 2 i = _
        rw [gal_2, ha0]
      · rw [← ha0, huF.2.2 _ (by omega), hu.2.2 _ ha1, h3a _ c2, hn.2.2.1]
        show _ = some (cx_L (sp_al S f) (gal_ G i a0) i)
        have z := hI i (by omega)
        have up : ∀ (A : Nat → Int) (v : Int), ai_up A (S.1 3).toNat v i = v := fun A v => by rw [hNt, ai_up_s]
        have w55 : (sp_al S f).2 55 i = (f : Int) := up _ _
        have w56 : (sp_al S f).2 56 i = S.1 0 + 1 := up _ _
        have w57 : (sp_al S f).2 57 i = sp_swt S f (S.1 0 + 1) := up _ _
        have w58 : (sp_al S f).2 58 i = S.1 0 + 1 + (if 0 ≤ S.2 49 f then 12 else 24) := up _ _
        have w59 : (sp_al S f).2 59 i = -1 := up _ _
        have w60 : (sp_al S f).2 60 i = 0 := z.1
        have w61 : (sp_al S f).2 61 i = 0 := z.2
        have w62 : (if (sp_al S f).2 62 i < 0 then (-1 : Int) else (sp_al S f).2 62 i + 1) = -1 := by
          show (if ai_up (S.2 62) (S.1 3).toNat (-1) i < 0 then (-1 : Int) else ai_up (S.2 62) (S.1 3).toNat (-1) i + 1) = -1
          rw [up, if_pos (by decide)]
        have w63 : (sp_al S f).2 63 i = -2000000000 := up _ _
        unfold cx_L
        rw [w55, w56, w57, w58, w59, w60, w61, w62, w63, e3, gal_5, rf_e (by omega), Int.toNat_natCast, gal_n G (by omega) (by omega)]
        rfl
    · have hi2 : (i : Int) < S.1 3 := by omega
      left
      refine ⟨hi2, ?_, ?_⟩
      · show gal_ G N a0 2 i = G 2 i
        exact gal_n G (by omega) (by omega)
      · by_cases q3 : i = N - 1
        · subst q3
          have c1 : ad_ G 2 (N - 1) ≠ 0 := fun e => by
            have v0 : vl_ok S G 0 0 := Or.inl (Nat.zero_le 5)
            have := hC.1.2.2 2 (N - 1) 0 0 hi2 v0 e
            omega
          have c3 : ad_ G 2 (N - 1) ≠ G 1 f := fun e => by
            have := hC.1.2.2 2 (N - 1) 1 f hi2 vF e
            omega
          rw [huF.2.2 _ c3, hu.2.2 _ c1]
          exact h3b (by omega)
        · rw [old 2 i hi2 (by omega) (by omega) (by omega)]
          show some (cx_L S G i) = some (cx_L (sp_al S f) (gal_ G N a0) i)
          have en : rf_ (gal_ G N a0) 2 (N + 1) (i + 1) = rf_ G 2 N (i + 1) := by
            rw [rf_s (by omega), rf_s (by omega), gal_n G (by omega) (by omega)]
          unfold cx_L
          rw [hs2 55 i (by omega) (by omega), hs2 56 i (by omega) (by omega), hs2 57 i (by omega) (by omega), hs2 58 i (by omega) (by omega), hs2 59 i (by omega) (by omega), hs2 60 i (by omega) (by omega), hs2 61 i (by omega) (by omega), hs2 62 i (by omega) (by omega), hs2 63 i (by omega) (by omega), e3, Int.toNat_natCast, en, hNt, gal_n G (a := 5) (b := i) (by omega) (by omega), gal_n G (a := 1) (by omega) (by omega)]
  · exact hi
  · exact gal_n G (a := 3) (b := i) (by omega) (by omega)
  · have hi2 : (i : Int) < S.1 21 := hi
    rw [old 3 i hi2 (by omega) (by omega) (by omega)]
    show some (cx_S S G i) = some (cx_S (sp_al S f) (gal_ G N a0) i)
    unfold cx_S
    rw [hs2 52 i (by omega) (by omega), hs2 53 i (by omega) (by omega), hs2 54 i (by omega) (by omega), rlG 3 _ (by decide) (by decide)]
  · show i < G 6 1
    have : i < gal_ G N a0 6 1 := hi
    omega
  · exact gal_n G (a := 4) (b := i) (by omega) (by omega)
  · have hi2 : i < G 6 1 := by
      have : i < gal_ G N a0 6 1 := hi
      omega
    rw [old 4 i hi2 (by omega) (by omega) (by omega)]
    show some (cx_B G i) = some (cx_B (gal_ G N a0) i)
    unfold cx_B
    rw [g61, rfG 4 _ _ (by decide) (by decide), gal_n G (a := 7) (by omega) (by omega), gal_n G (a := 8) (by omega) (by omega)]
  · refine cf_of hC.2 (fun x hx => ?_)
    have c2 : N ≠ 0 → x ≠ G 2 (N - 1) := fun e1 e => by
      have h77 := (hC.1.2.1 2 (N - 1) (prv e1)).2 (by decide)
      have e9 : ad_ G 2 (N - 1) = G 2 (N - 1) := rfl
      omega
    rw [huF.2.2 x (by omega), hu.2.2 x (by omega), h3a x c2, hn.2.2.2 x (by omega)]
set_option maxHeartbeats 1000000 in
theorem mc_X_addLoad {w : aw_T} {h0 h : ah_T} {S : ms_T} {G : gh_T} {d : Nat} (hd : 3 ≤ d) (hC : co_I h0 h S G) {i : Nat} (hi : (i : Int) < S.1 2) (hs : iv_sw S i) (h3 : 0 ≤ S.1 3 ∧ S.1 3 ≤ 16) (h0c : 0 ≤ S.1 0 ∧ S.1 0 ≤ 4000) (hz60 : ∀ l : Nat, S.1 3 ≤ (l : Int) → S.2 60 l = 0 ∧ S.2 61 l = 0) : am_M w mm_X_addLoad d [av_r 0, av_r (G 1 i)] h 1 12 (fun r1 h1 => r1 = none ∧ ∃ a0 : Nat, co_I h0 h1 (sp_al S i) (gal_ G (S.1 3).toNat a0)) := by
  refine am_intro [some (av_r 0), some (av_r ((G 1 i))), none] (by decide +kernel) (Nat.le_of_ble_eq_true rfl) rfl ?_
  have hlen := hC.1.1
  obtain ⟨N, hN⟩ : ∃ N : Nat, S.1 3 = (N : Int) := ⟨(S.1 3).toNat, by omega⟩
  refine an_new (kc' := 0) (ks' := 0) dd_X_addLoad_0 fn_X_192 (by decide) (by decide) (fun a0 h hn => ?_)
  have hC0 := hC
  clear hC
  obtain ⟨hC, hfr, h77⟩ := co_hn hC0 hn
  refine ag_dup dd_X_addLoad_3 rfl ?_
  refine ag_aload_n dd_X_addLoad_4 rfl ?_
  refine ag_rV dd_X_addLoad_5 fi_X_241 (cr_0 hC) rfl (mc_X_loadCount (d := 0) (by omega) hC h3) rfl rfl (by omega) (Nat.le_of_ble_eq_true rfl) ?_
  refine ag_aload_n dd_X_addLoad_8 rfl ?_
  refine ag_aload_n dd_X_addLoad_9 rfl ?_
  refine ag_get dd_X_addLoad_10 fg_X_80 (cr_0 hC) rfl ?_
  refine ag_iconst dd_X_addLoad_13 ?_
  refine ag_iadd dd_X_addLoad_14 ?_
  refine ag_callI (mc := 0) (ms := 0) (kc' := 0) (ks' := 0) dd_X_addLoad_15 fi_X_297 (mc_Load_init (d := 2) (by omega) hC h77 hfr hn.2.2.1 hi hs (by omega)) rfl rfl (by omega) (Nat.le_of_ble_eq_true rfl) (by decide) (by decide) (fun r1 h hP => ?_)
  obtain ⟨rfl, huI⟩ := hP
  have hn2 := hn_hu hn huI
  clear hC
  obtain ⟨hC, -, -⟩ := co_hn hC0 hn2
  clear huI hn
  have hx2 := cr_0 hC
  have hF2 := cr_F hC hi
  have hNp : N ≠ 0 → h[G 2 (N - 1)]? = some (cx_L S G (N - 1)) := fun q => cr_L hC (by omega)
  have hNt : (S.1 3).toNat = N := by omega
  have hF77 : 77 ≤ G 1 i := (hC.1.2.1 1 i hi).2 (by decide)
  have hP77 : N ≠ 0 → 77 ≤ G 2 (N - 1) ∧ G 2 (N - 1) ≠ G 1 i := fun q => by
    have v : vl_ok S G 2 (N - 1) := show ((N - 1 : Nat) : Int) < S.1 3 by omega
    refine ⟨(hC.1.2.1 2 (N - 1) v).2 (by decide), fun e => ?_⟩
    have := hC.1.2.2 2 (N - 1) 1 i v hi e
    omega
  have ha77 : 77 ≤ a0 := h77
  unfold cx_0 at hx2
  rw [hNt] at hx2
  by_cases hz0 : N = 0
  · rw [rl_e hz0, rf_e (k := 2) (n := N) (j := 0) (by omega)] at hx2
    refine ag_astore_n (L' := [some (av_r 0), some (av_r ((G 1 i))), some (av_r (a0))]) dd_X_addLoad_18 rfl rfl (by decide) ?_
    refine ag_aload_n dd_X_addLoad_19 rfl ?_
    refine ag_get dd_X_addLoad_20 fg_X_255 hx2 rfl ?_
    refine ag_ifnonnull (tgt := 34) dd_X_addLoad_23 (by decide) (fun _ q => by cases q) (fun _ => ?_)
    refine ag_aload_n dd_X_addLoad_26 rfl ?_
    refine ag_aload_n dd_X_addLoad_27 rfl ?_
    refine hp_o dd_X_addLoad_28 fp_X_260 hx2 (Nat.le_of_ble_eq_true rfl) (fun h huN => ?_)
    have hu1 := huN
    clear huN
    refine ag_goto (tgt := 42) dd_X_addLoad_31 (by decide) ?_
    refine ag_aload_n dd_X_addLoad_42 rfl ?_
    refine ag_aload_n dd_X_addLoad_43 rfl ?_
    refine hp_o dd_X_addLoad_44 fp_X_255 hu1.2.1 (Nat.le_of_ble_eq_true rfl) (fun h huN => ?_)
    replace hu1 := hu_tr hu1 huN
    clear huN
    have hna := (hu1.2.2 a0 (by omega)).trans hn2.2.2.1
    have hFa := (hu1.2.2 (G 1 i) (by omega)).trans hF2
    refine ag_aload_n dd_X_addLoad_47 rfl ?_
    refine ag_aload_n dd_X_addLoad_48 rfl ?_
    refine ag_get dd_X_addLoad_49 fg_X_259 hna rfl ?_
    refine hp_i dd_X_addLoad_52 fp_X_184 hFa (Nat.le_of_ble_eq_true rfl) (fun h huN => ?_)
    have hu2 := huN
    clear huN
    refine ag_vret dd_X_addLoad_55 rfl ?_
    have e3 : (sp_al S i).1 3 = ((N + 1 : Nat) : Int) := by
      show S.1 3 + 1 = _
      omega
    have hx : cx_0 (sp_al S i) (gal_ G N a0) = ac_o 10 [av_i (S.1 4), av_i (S.1 5), av_i (S.1 6), av_i (S.1 7), av_i (S.1 0), av_i (S.1 38), av_q (rf_ G 1 (S.1 2).toNat 0), av_q (rl_ G 1 (S.1 2).toNat), av_r a0, av_r a0, av_r 1, av_r 4, av_r 5, av_r 6, av_r 30, av_r (G 9 0), av_r (67 - G 9 0), av_i (S.1 47), av_i (S.1 48)] := by
      have q1 : rf_ (gal_ G N a0) 1 (S.1 2).toNat 0 = rf_ G 1 (S.1 2).toNat 0 := rfl
      have q2 : rl_ (gal_ G N a0) 1 (S.1 2).toNat = rl_ G 1 (S.1 2).toNat := rfl
      have q3 : gal_ G N a0 9 0 = G 9 0 := rfl
      unfold cx_0
      have q4 : gal_ G N a0 2 0 = a0 := by rw [hz0]; exact gal_2 G 0 a0
      rw [e3, Int.toNat_natCast, rf_s (show 0 < N + 1 by omega), rl_s (show N + 1 ≠ 0 by omega), Nat.add_sub_cancel, gal_2, q3, q4]
      rfl
    have hF : cx_F (sp_al S i) (gal_ G N a0) i = ac_o 4 [av_i (i : Int), av_i (S.2 40 i), av_i (S.2 41 i), av_i (S.2 42 i), av_i (S.2 43 i), av_i (S.2 44 i), av_i (S.2 45 i), av_i (S.2 46 i), av_i (S.2 47 i), av_i (S.2 48 i), av_i (if 0 ≤ S.2 49 i then 1 else 0), av_i (max 0 (S.2 49 i)), av_i (S.2 50 i), av_i (S.1 3), av_q (rf_ G 1 (S.1 2).toNat (i + 1))] := by
      have w51 : (sp_al S i).2 51 i = S.1 3 := ai_up_s (S.2 51) i _
      unfold cx_F
      rw [w51]
      rfl
    refine ⟨rfl, a0, ?_⟩
    rw [hNt]
    exact co_addL (h3 := _) hC0 hz60 (by omega) hi hn2 (by rw [hN]) (fun x _ => rfl) rfl (fun q => absurd hz0 q) (by rw [hx]; exact hu1) (by rw [hF]; exact hu2)
  · have hP7 := hP77 hz0
    rw [rl_s hz0, rf_s (show 0 < N by omega)] at hx2
    have hpv := hNp hz0
    refine ag_astore_n (L' := [some (av_r 0), some (av_r ((G 1 i))), some (av_r (a0))]) dd_X_addLoad_18 rfl rfl (by decide) ?_
    refine ag_aload_n dd_X_addLoad_19 rfl ?_
    refine ag_get dd_X_addLoad_20 fg_X_255 hx2 rfl ?_
    refine ag_ifnonnull (tgt := 34) dd_X_addLoad_23 (by decide) (fun _ _ => ?_) (fun q => by cases q)
    refine ag_aload_n dd_X_addLoad_34 rfl ?_
    refine ag_get dd_X_addLoad_35 fg_X_255 hx2 rfl ?_
    refine ag_aload_n dd_X_addLoad_38 rfl ?_
    refine hp_o dd_X_addLoad_39 fp_X_263 hpv (Nat.le_of_ble_eq_true rfl) (fun h huN => ?_)
    have hu1 := huN
    clear huN
    have hx3 := (hu1.2.2 0 (by omega)).trans hx2
    refine ag_aload_n dd_X_addLoad_42 rfl ?_
    refine ag_aload_n dd_X_addLoad_43 rfl ?_
    refine hp_o dd_X_addLoad_44 fp_X_255 hx3 (Nat.le_of_ble_eq_true rfl) (fun h huN => ?_)
    have hu2 := huN
    clear huN
    have hna := (hu2.2.2 a0 (by omega)).trans ((hu1.2.2 a0 (by have := co_lt hC0 (show vl_ok S G 2 (N - 1) from (show ((N - 1 : Nat) : Int) < S.1 3 by omega)); have e9 : ad_ G 2 (N - 1) = G 2 (N - 1) := rfl; have := hn2.1; omega)).trans hn2.2.2.1)
    have hFa := (hu2.2.2 (G 1 i) (by omega)).trans ((hu1.2.2 (G 1 i) (by omega)).trans hF2)
    refine ag_aload_n dd_X_addLoad_47 rfl ?_
    refine ag_aload_n dd_X_addLoad_48 rfl ?_
    refine ag_get dd_X_addLoad_49 fg_X_259 hna rfl ?_
    refine hp_i dd_X_addLoad_52 fp_X_184 hFa (Nat.le_of_ble_eq_true rfl) (fun h huN => ?_)
    have hu3 := huN
    clear huN
    refine ag_vret dd_X_addLoad_55 rfl ?_
    have e3 : (sp_al S i).1 3 = ((N + 1 : Nat) : Int) := by
      show S.1 3 + 1 = _
      omega
    have hx : cx_0 (sp_al S i) (gal_ G N a0) = ac_o 10 [av_i (S.1 4), av_i (S.1 5), av_i (S.1 6), av_i (S.1 7), av_i (S.1 0), av_i (S.1 38), av_q (rf_ G 1 (S.1 2).toNat 0), av_q (rl_ G 1 (S.1 2).toNat), av_r (G 2 0), av_r a0, av_r 1, av_r 4, av_r 5, av_r 6, av_r 30, av_r (G 9 0), av_r (67 - G 9 0), av_i (S.1 47), av_i (S.1 48)] := by
      have q1 : rf_ (gal_ G N a0) 1 (S.1 2).toNat 0 = rf_ G 1 (S.1 2).toNat 0 := rfl
      have q2 : rl_ (gal_ G N a0) 1 (S.1 2).toNat = rl_ G 1 (S.1 2).toNat := rfl
      have q3 : gal_ G N a0 9 0 = G 9 0 := rfl
      unfold cx_0
      rw [e3, Int.toNat_natCast, rf_s (show 0 < N + 1 by omega), rl_s (show N + 1 ≠ 0 by omega), Nat.add_sub_cancel, gal_2, q3, gal_n G (a := 2) (b := 0) (by omega) (by omega)]
      rfl
    have hF : cx_F (sp_al S i) (gal_ G N a0) i = ac_o 4 [av_i (i : Int), av_i (S.2 40 i), av_i (S.2 41 i), av_i (S.2 42 i), av_i (S.2 43 i), av_i (S.2 44 i), av_i (S.2 45 i), av_i (S.2 46 i), av_i (S.2 47 i), av_i (S.2 48 i), av_i (if 0 ≤ S.2 49 i then 1 else 0), av_i (max 0 (S.2 49 i)), av_i (S.2 50 i), av_i (S.1 3), av_q (rf_ G 1 (S.1 2).toNat (i + 1))] := by
      have w51 : (sp_al S i).2 51 i = S.1 3 := ai_up_s (S.2 51) i _
      unfold cx_F
      rw [w51]
      rfl
    have hp : cx_L (sp_al S i) (gal_ G N a0) (N - 1) = ac_o 6 [av_i ((N - 1 : Nat) : Int), av_r (G 1 (S.2 55 (N - 1)).toNat), av_i (S.2 56 (N - 1)), av_i (S.2 57 (N - 1)), av_i (S.2 58 (N - 1)), av_i (S.2 59 (N - 1)), av_i ((G 5 (N - 1) : Nat) : Int), av_i (S.2 60 (N - 1)), av_i (S.2 61 (N - 1)), av_i (if S.2 62 (N - 1) < 0 then -1 else S.2 62 (N - 1) + 1), av_i (S.2 63 (N - 1)), av_r a0] := by
      have hs2 := (sp_al_f (S := S) (f := i) hNt).2
      unfold cx_L
      rw [hs2 55 _ (by omega) (by omega), hs2 56 _ (by omega) (by omega), hs2 57 _ (by omega) (by omega), hs2 58 _ (by omega) (by omega), hs2 59 _ (by omega) (by omega), hs2 60 _ (by omega) (by omega), hs2 61 _ (by omega) (by omega), hs2 62 _ (by omega) (by omega), hs2 63 _ (by omega) (by omega), e3, Int.toNat_natCast, show N - 1 + 1 = N by omega, rf_s (by omega), gal_2, gal_n G (a := 5) (by omega) (by omega), gal_n G (a := 1) (by omega) (by omega)]
    refine ⟨rfl, a0, ?_⟩
    rw [hNt]
    exact co_addL (h3 := _) hC0 hz60 (by omega) hi hn2 (by rw [hN]) (fun x hx => hu1.2.2 x (hx hz0)) hu1.1 (fun _ => by rw [hp]; exact hu1.2.1) (by rw [hx]; exact hu2) (by rw [hF]; exact hu3)
