def sp_o (S : ms_T) (g : Nat → Int) : ms_T := (S.1, ai_up S.2 66 g)
theorem sp_o_66 (S : ms_T) (g : Nat → Int) : (sp_o S g).2 66 = g := ai_up_s S.2 66 g
theorem sp_o_o (S : ms_T) (g g2 : Nat → Int) : ((S.1, ai_up (sp_o S g).2 66 g2) : ms_T) = sp_o S g2 := by
  refine Prod.ext rfl (funext fun a => ?_)
  show ai_up (ai_up S.2 66 g) 66 g2 a = ai_up S.2 66 g2 a
  by_cases e : a = 66
  · subst e; rw [ai_up_s, ai_up_s]
  · rw [ai_up_n _ _ e, ai_up_n _ _ e, ai_up_n _ _ e]
theorem sp_o_self (S : ms_T) : sp_o S (S.2 66) = S := by
  refine Prod.ext rfl (funext fun a => ?_)
  show ai_up S.2 66 (S.2 66) a = S.2 a
  by_cases e : a = 66
  · subst e; rw [ai_up_s]
  · rw [ai_up_n _ _ e]
set_option maxHeartbeats 1000000 in
theorem ml_Farms_lots1 {w : aw_T} {h0 : ah_T} {S : ms_T} {G : gh_T} {d : Nat} (hf : 0 ≤ S.1 39 ∧ S.1 39 ≤ 10) {s0 : Int} {P : ap_T} (hX : ∀ h, co_I h0 h (sp_o S (sp_id (S.2 66) (S.1 39).toNat)) G → aw_W w mm_Farms_drawLots d P 36 [some (av_r 1), some (av_i (s0)), none, none, none, none] [] h 0 0) : ∀ (r k : Nat) (h : ah_T), (k : Int) + r = S.1 39 → co_I h0 h (sp_o S (sp_id (S.2 66) k)) G → aw_W w mm_Farms_drawLots d P 15 [some (av_r 1), some (av_i (s0)), some (av_i ((k : Int))), none, none, none] [] h 0 0 := by
  intro r
  induction r with
  | zero =>
    intro k h hk hC
    have e1 : (sp_o S (sp_id (S.2 66) k)).1 39 = S.1 39 := rfl
    refine ag_iload_n dd_Farms_drawLots_15 rfl ?_
    refine ag_aload_n dd_Farms_drawLots_16 rfl ?_
    refine ag_get dd_Farms_drawLots_17 fg_Farms_23 (cr_1 hC) rfl ?_
    refine ag_icmp_ge (tgt := 36) dd_Farms_drawLots_20 (by decide) (by omega) (by omega) (fun c1 => ?_) (fun c1 => ?_)
    · obtain rfl : k = (S.1 39).toNat := by omega
      exact ag_weak [some (av_r 1), some (av_i (s0)), none, none, none, none] (by simp [al_le]) (hX h hC)
    · exfalso; omega
  | succ r ih =>
    intro k h hk hC
    have e1 : (sp_o S (sp_id (S.2 66) k)).1 39 = S.1 39 := rfl
    refine ag_iload_n dd_Farms_drawLots_15 rfl ?_
    refine ag_aload_n dd_Farms_drawLots_16 rfl ?_
    refine ag_get dd_Farms_drawLots_17 fg_Farms_23 (cr_1 hC) rfl ?_
    refine ag_icmp_ge (tgt := 36) dd_Farms_drawLots_20 (by decide) (by omega) (by omega) (fun c1 => ?_) (fun c1 => ?_)
    · exfalso; omega
    · refine ag_aload_n dd_Farms_drawLots_23 rfl ?_
      refine ag_get dd_Farms_drawLots_24 fg_Farms_15 (cr_1 hC) rfl ?_
      refine ag_iload_n dd_Farms_drawLots_27 rfl ?_
      refine ag_iload_n dd_Farms_drawLots_28 rfl ?_
      refine cs_66N dd_Farms_drawLots_29 hC (by omega) (fun h S2 eS2 hC => ?_)
      refine ag_iincN (Lf := fun y => [some (av_r 1), some (av_i (s0)), some (av_i (y)), none, none, none]) dd_Farms_drawLots_30 rfl (fun _ => rfl) rfl (by decide) (fun y3 ey3 => ?_)
      refine ag_goto (tgt := 15) dd_Farms_drawLots_33 (by decide) ?_
      obtain rfl : y3 = ((k + 1 : Nat) : Int) := by omega
      have eS : S2 = sp_o S (sp_id (S.2 66) (k + 1)) := by rw [eS2, sp_o_66]; exact sp_o_o S _ _
      rw [eS] at hC
      exact ih (k + 1) h (by omega) hC
set_option maxHeartbeats 1000000 in
theorem ml_Farms_lots2 {w : aw_T} {h0 : ah_T} {S : ms_T} {G : gh_T} {d : Nat} (hf : 0 ≤ S.1 39 ∧ S.1 39 ≤ 10) {s0 : Int} {P : ap_T} {gE : Nat → Int} (hX : ∀ h, co_I h0 h (sp_o S gE) G → P none h) : ∀ (r k : Nat) (s : Int) (g : Nat → Int) (h : ah_T), (k : Int) + r = S.1 39 - 1 ∨ (r = 0 ∧ k = 0 ∧ S.1 39 = 0) → co_I h0 h (sp_o S g) G → sp_lot (S.1 39) r k g s = gE → aw_W w mm_Farms_drawLots d P 40 [some (av_r 1), some (av_i (s0)), some (av_i (s)), some (av_i ((k : Int))), none, none] [] h 0 0 := by
  intro r
  induction r with
  | zero =>
    intro k s g h hk hC hg
    have e1 : (sp_o S g).1 39 = S.1 39 := rfl
    have e66 := sp_o_66 S g
    refine ag_iload_n dd_Farms_drawLots_40 rfl ?_
    refine ag_aload_n dd_Farms_drawLots_41 rfl ?_
    refine ag_get dd_Farms_drawLots_42 fg_Farms_23 (cr_1 hC) rfl ?_
    refine ag_iconst dd_Farms_drawLots_45 ?_
    refine ag_isub dd_Farms_drawLots_46 ?_
    refine ag_icmp_ge (tgt := 110) dd_Farms_drawLots_47 (by decide) (by omega) (by omega) (fun c1 => ?_) (fun c1 => ?_)
    · refine ag_vret dd_Farms_drawLots_110 rfl ?_
      rw [sp_lot] at hg
      rw [← hg] at hX
      exact hX h hC
    · exfalso; omega
  | succ r ih =>
    intro k s g h hk hC hg
    have e1 : (sp_o S g).1 39 = S.1 39 := rfl
    have e66 := sp_o_66 S g
    refine ag_iload_n dd_Farms_drawLots_40 rfl ?_
    refine ag_aload_n dd_Farms_drawLots_41 rfl ?_
    refine ag_get dd_Farms_drawLots_42 fg_Farms_23 (cr_1 hC) rfl ?_
    refine ag_iconst dd_Farms_drawLots_45 ?_
    refine ag_isub dd_Farms_drawLots_46 ?_
    refine ag_icmp_ge (tgt := 110) dd_Farms_drawLots_47 (by decide) (by omega) (by omega) (fun c1 => ?_) (fun c1 => ?_)
    · exfalso; omega
    · refine ag_iload_n dd_Farms_drawLots_50 rfl ?_
      refine ag_ldc (a := 1103515245) dd_Farms_drawLots_51 fc_Farms_29 (by decide +kernel) ?_
      refine ag_imul dd_Farms_drawLots_53 ?_
      refine ag_sipush dd_Farms_drawLots_54 (by decide +kernel) ?_
      refine ag_iadd dd_Farms_drawLots_57 ?_
      refine ag_istore_nN (Lf := fun y => [some (av_r 1), some (av_i (s0)), some (av_i (y)), some (av_i ((k : Int))), none, none]) dd_Farms_drawLots_58 (fun _ => rfl) rfl (by decide) (fun y2 ey2 => ?_)
      have hlk := sp_lk_b (m := S.1 39) (i := k) (by omega) y2
      have hu := sp_u16_b y2
      refine ag_iload_n dd_Farms_drawLots_59 rfl ?_
      refine ag_iload_n dd_Farms_drawLots_60 rfl ?_
      refine ag_bipush dd_Farms_drawLots_61 (by decide +kernel) ?_
      refine ag_iushr dd_Farms_drawLots_63 ?_
      refine ag_aload_n dd_Farms_drawLots_64 rfl ?_
      refine ag_get dd_Farms_drawLots_65 fg_Farms_23 (cr_1 hC) rfl ?_
      refine ag_iload_n dd_Farms_drawLots_68 rfl ?_
      refine ag_isub dd_Farms_drawLots_69 ?_
      refine ag_irem dd_Farms_drawLots_70 (by first | exact ⟨by have := hu; unfold sp_u16 at this; omega, by have := hu; unfold sp_u16 at this; omega⟩ | omega) (by first | exact ⟨by have := hu; unfold sp_u16 at this; omega, by have := hu; unfold sp_u16 at this; omega⟩ | omega) (by omega) ?_
      refine ag_iadd dd_Farms_drawLots_71 ?_
      refine ag_istoreN (Lf := fun y => [some (av_r 1), some (av_i (s0)), some (av_i (y2)), some (av_i ((k : Int))), some (av_i (y)), none]) dd_Farms_drawLots_72 (fun _ => rfl) rfl (by decide) (fun y3 ey3 => ?_)
      obtain rfl : y3 = ((sp_lk (S.1 39) k y2 : Nat) : Int) := by rw [hlk.2.2, ey3]; rfl
      refine ag_aload_n dd_Farms_drawLots_74 rfl ?_
      refine ag_get dd_Farms_drawLots_75 fg_Farms_15 (cr_1 hC) rfl ?_
      refine ag_iload_n dd_Farms_drawLots_78 rfl ?_
      refine ag_ialdN dd_Farms_drawLots_79 (cr_3 hC) (by decide) (by omega) ?_
      refine ag_istoreN (Lf := fun y => [some (av_r 1), some (av_i (s0)), some (av_i (y2)), some (av_i ((k : Int))), some (av_i ((sp_lk (S.1 39) k y2 : Int))), some (av_i (y))]) dd_Farms_drawLots_80 (fun _ => rfl) rfl (by decide) (fun y4 ey4 => ?_)
      refine ag_aload_n dd_Farms_drawLots_82 rfl ?_
      refine ag_get dd_Farms_drawLots_83 fg_Farms_15 (cr_1 hC) rfl ?_
      refine ag_iload_n dd_Farms_drawLots_86 rfl ?_
      refine ag_aload_n dd_Farms_drawLots_87 rfl ?_
      refine ag_get dd_Farms_drawLots_88 fg_Farms_15 (cr_1 hC) rfl ?_
      refine ag_iload dd_Farms_drawLots_91 rfl ?_
      refine ag_ialdN dd_Farms_drawLots_93 (cr_3 hC) (by decide) (by omega) ?_
      refine cs_66N dd_Farms_drawLots_94 hC (by omega) (fun h S5 eS5 hC => ?_)
      have eA : S5 = sp_o S (ai_up g k (g (sp_lk (S.1 39) k y2))) := by rw [eS5, e66]; exact sp_o_o S _ _
      refine ag_aload_n dd_Farms_drawLots_95 rfl ?_
      refine ag_get dd_Farms_drawLots_96 fg_Farms_15 (cr_1 hC) rfl ?_
      refine ag_iload dd_Farms_drawLots_99 rfl ?_
      refine ag_iload dd_Farms_drawLots_101 rfl ?_
      refine cs_66N dd_Farms_drawLots_103 hC (by omega) (fun h S6 eS6 hC => ?_)
      refine ag_iincN (Lf := fun y => [some (av_r 1), some (av_i (s0)), some (av_i (y2)), some (av_i (y)), some (av_i ((sp_lk (S.1 39) k y2 : Int))), some (av_i (y4))]) dd_Farms_drawLots_104 rfl (fun _ => rfl) rfl (by decide) (fun y7 ey7 => ?_)
      refine ag_goto (tgt := 40) dd_Farms_drawLots_107 (by decide) ?_
      obtain rfl : y7 = ((k + 1 : Nat) : Int) := by omega
      have eS : S6 = sp_o S (ai_up (ai_up g k (g (sp_lk (S.1 39) k y2))) (sp_lk (S.1 39) k y2) (g k)) := by
        rw [eS6, eA]
        have ev : y4 = g k := by rw [ey4, e66]
        rw [ev, sp_o_66]
        exact sp_o_o S _ _
      rw [eS] at hC
      refine ag_weak [some (av_r 1), some (av_i (s0)), some (av_i (y2)), some (av_i (((k + 1 : Nat) : Int))), none, none] (by simp [al_le]) ?_
      exact ih (k + 1) y2 _ h (by omega) hC (by rw [← hg, sp_lot]; subst_vars; rfl)
set_option maxHeartbeats 1000000 in
theorem mc_Farms_drawLots {w : aw_T} {h0 h : ah_T} {S : ms_T} {G : gh_T} {d : Nat} (hd : 0 ≤ d) (hC : co_I h0 h S G) {s : Int} (hf : 0 ≤ S.1 1 ∧ S.1 1 ≤ 10) : am_M w mm_Farms_drawLots d [av_r 1, av_i s] h 0 0 (cq_ h0 (gi_ G 6 0 0) (none, sp_o (ai_up S.1 39 (S.1 1), S.2) (sp_lot (S.1 1) (S.1 1 - 1).toNat 0 (sp_id (S.2 66) (S.1 1).toNat) s))) := by
  refine am_intro [some (av_r 1), some (av_i (s)), none, none, none, none] (by decide +kernel) (Nat.le_of_ble_eq_true rfl) rfl ?_
  refine ag_aload_n dd_Farms_drawLots_0 rfl ?_
  refine ag_aload_n dd_Farms_drawLots_1 rfl ?_
  refine ag_get dd_Farms_drawLots_2 fg_Farms_19 (cr_1 hC) rfl ?_
  refine cp_39 dd_Farms_drawLots_5 fp_Farms_23 hC (fun h S1 eS1 hC => ?_)
  refine ag_aload_n dd_Farms_drawLots_8 rfl ?_
  refine ag_iconst dd_Farms_drawLots_9 ?_
  refine cp_s (g := 0) rfl dd_Farms_drawLots_10 fp_Farms_26 hC (fun h hC => ?_)
  refine ag_iconst dd_Farms_drawLots_13 ?_
  refine ag_istore_n (L' := [some (av_r 1), some (av_i (s)), some (av_i (0)), none, none, none]) dd_Farms_drawLots_14 rfl rfl (by decide) ?_
  have e39 : S1.1 39 = S.1 1 := by rw [eS1]; rfl
  have e66 : S1.2 66 = S.2 66 := by rw [eS1]
  have hC0 : co_I h0 h (sp_o S1 (sp_id (S1.2 66) 0)) (gi_ G 6 0 0) := by
    rw [sp_id, sp_o_self]
    exact hC
  rw [← eS1, ← e66]
  refine ml_Farms_lots1 (by omega) (s0 := s) (fun h hC => ?_) (S1.1 39).toNat 0 h (by omega) hC0
  refine ag_iload_n dd_Farms_drawLots_36 rfl ?_
  refine ag_istore_n (L' := [some (av_r 1), some (av_i (s)), some (av_i (s)), none, none, none]) dd_Farms_drawLots_37 rfl rfl (by decide) ?_
  refine ag_iconst dd_Farms_drawLots_38 ?_
  refine ag_istore_n (L' := [some (av_r 1), some (av_i (s)), some (av_i (s)), some (av_i (0)), none, none]) dd_Farms_drawLots_39 rfl rfl (by decide) ?_
  refine ag_weak [some (av_r 1), some (av_i (s)), some (av_i (s)), some (av_i (0)), none, none] (by simp [al_le]) ?_
  exact ml_Farms_lots2 (by omega) (s0 := s) (fun h hC => ⟨rfl, by rw [← e39]; exact hC⟩) (S1.1 39 - 1).toNat 0 s _ h (by omega) hC rfl
theorem sr_rnd {S : ms_T} {G : gh_T} (h1 : 1 ≤ S.1 1 ∧ S.1 1 ≤ 10) (s : Int) : sr_ (sp_rnd S s) (gi_ G 6 0 0) := by
  have hp := sp_rnd_perm h1.1 s
  have e39 : (sp_rnd S s).1 39 = S.1 1 := ai_up_s S.1 39 _
  refine ⟨by rw [gi_s, e39]; omega, by rw [e39]; omega, by rw [e39]; exact hp, fun i hi => ?_⟩
  rw [e39] at hi
  rw [gi_s, if_neg (by omega)]
  have hb := hp.1 i hi
  have e67 : (sp_rnd S s).2 67 = sp_zr (S.2 67) (S.1 1).toNat := by simp [sp_rnd, ai_up]
  rw [e67, sp_zr_at _ _ _ (by omega)]
theorem co_rnd {h0 h : ah_T} {S : ms_T} {G : gh_T} {s : Int} (hC : co_I h0 h (sp_o (ai_up S.1 39 (S.1 1), S.2) (sp_lot (S.1 1) (S.1 1 - 1).toNat 0 (sp_id (S.2 66) (S.1 1).toNat) s)) G) : co_I h0 h (sp_rnd S s) G := ⟨co_cg hC.1 (co_K ⟨(Or.inl (Nat.le_of_ble_eq_true rfl)), rfl, rfl⟩ ⟨(Or.inl (Nat.le_of_ble_eq_true rfl)), rfl, rfl⟩ ⟨(Or.inl (Nat.le_of_ble_eq_true rfl)), rfl, rfl⟩ ⟨(Or.inl (Nat.le_of_ble_eq_true rfl)), rfl, rfl⟩ ⟨(Or.inl (Nat.le_of_ble_eq_true rfl)), rfl, rfl⟩ ⟨(Or.inl (Nat.le_of_ble_eq_true rfl)), rfl, rfl⟩ ⟨(Or.inr (Or.inl rfl)), rfl, rfl⟩ ⟨(Or.inr (Or.inr rfl)), rfl, rfl⟩ (fun i h => ⟨h, rfl, rfl⟩) (fun i h => ⟨h, rfl, rfl⟩) (fun i h => ⟨h, rfl, rfl⟩) (fun i h => ⟨h, rfl, rfl⟩)), hC.2⟩
set_option maxHeartbeats 1000000 in
theorem mc_X_round {w : aw_T} {h0 h : ah_T} {S : ms_T} {G : gh_T} {d : Nat} (hd : 3 ≤ d) (hC : co_I h0 h S G) {s : Int} (h1 : 0 ≤ S.1 1 ∧ S.1 1 ≤ 10) (h39 : S.1 39 ≤ S.1 1) (hs : sr_ S G) : am_M w mm_X_round d [av_r 0, av_i s] h 0 0 (fun r1 h1 => r1 = (sp_round S s).1 ∧ ∃ G2 : gh_T, co_I h0 h1 (sp_round S s).2 G2 ∧ (∀ a b, ¬ (a = 6 ∧ b = 0) → G2 a b = G a b) ∧ sr_ (sp_round S s).2 G2) := by
  refine am_intro [some (av_r 0), some (av_i (s))] (by decide +kernel) (Nat.le_of_ble_eq_true rfl) rfl ?_
  refine ag_aload_n dd_X_round_0 rfl ?_
  refine ag_get dd_X_round_1 fg_X_28 (cr_0 hC) rfl ?_
  refine ag_iload_n dd_X_round_4 rfl ?_
  refine ag_wV dd_X_round_5 fi_X_111 (cr_1 hC) rfl (mc_Farms_drawLots (d := 0) (s := s) (by omega) hC h1) rfl rfl (by omega) (Nat.le_of_ble_eq_true rfl) (fun r1 h hP => ?_)
  obtain ⟨rfl, hC⟩ := hP
  have hpost : ∃ S1, co_I h0 h S1 (gi_ G 6 0 0) ∧ sr_ S1 (gi_ G 6 0 0) ∧ (sp_round S s).2 = S1 ∧ (sp_round S s).1 = some (av_i (tn_ S1 (gi_ G 6 0 0))) := by
    by_cases q : S.1 1 = 0
    · have e9 : S.1 39 = 0 := by have := hs.2.1; omega
      have eS : sp_o (ai_up S.1 39 (S.1 1), S.2) (sp_lot (S.1 1) (S.1 1 - 1).toNat 0 (sp_id (S.2 66) (S.1 1).toNat) s) = S := by
        rw [q]
        show sp_o (ai_up S.1 39 0, S.2) (S.2 66) = S
        have : ai_up S.1 39 0 = S.1 := funext (fun j => by
          by_cases e : j = 39
          · rw [e, ai_up_s, e9]
          · rw [ai_up_n _ _ e])
        rw [this]
        exact sp_o_self S
      have hC2 : co_I h0 h S (gi_ G 6 0 0) := by
        have := hC
        dsimp only at this
        rw [eS] at this
        exact this
      refine ⟨S, hC2, ⟨by rw [gi_s]; omega, hs.2.1, hs.2.2.1, fun i hi => by omega⟩, by unfold sp_round; rw [if_pos q], ?_⟩
      unfold sp_round tn_
      rw [if_pos q, gi_s, if_neg (by omega)]
    · have hs2 := sr_rnd (S := S) (G := G) (by omega) s
      refine ⟨sp_rnd S s, co_rnd hC, hs2, by unfold sp_round; rw [if_neg q], ?_⟩
      unfold sp_round
      rw [if_neg q, sr_turn hs2]
  clear hC
  obtain ⟨S1, hC, hs1, hp1, hp2⟩ := hpost
  refine ag_aload_n dd_X_round_8 rfl ?_
  refine ag_get dd_X_round_9 fg_X_28 (cr_0 hC) rfl ?_
  refine ag_rV dd_X_round_12 fi_X_115 (cr_1 hC) rfl (mc_Farms_turn (d := 2) (by omega) hC hs1.2.1 hs1.1) rfl rfl (by omega) (Nat.le_of_ble_eq_true rfl) ?_
  refine ag_iret dd_X_round_15 rfl ?_
  refine ⟨hp2.symm, gi_ G 6 0 0, by rw [hp1]; exact hC, fun a b hab => gi_n G hab, by rw [hp1]; exact hs1⟩
set_option maxHeartbeats 1000000 in
theorem mc_X_sweet {w : aw_T} {h0 h : ah_T} {S : ms_T} {G : gh_T} {d : Nat} (hd : 2 ≤ d) (hC : co_I h0 h S G) {f : Int} (hf : -2147483648 ≤ f ∧ f < 2147483648) {t : Int} (ht : -2147483648 ≤ t ∧ t < 2147483648) (hfs : iv_fs S) : am_M w mm_X_sweet d [av_r 0, av_i f, av_i t] h 0 0 (fun r h' => r = some (av_i (sp_sweet S f t)) ∧ h' = h) := by
  refine am_intro [some (av_r 0), some (av_i (f)), some (av_i (t)), none] (by decide +kernel) (Nat.le_of_ble_eq_true rfl) rfl ?_
  have h2 := hfs.1
  by_cases hf : 0 ≤ f ∧ f < S.1 2
  · obtain ⟨i, rfl⟩ : ∃ i : Nat, f = (i : Int) := ⟨f.toNat, by omega⟩
    have hi : (i : Int) < S.1 2 := hf.2
    refine ag_aload_n dd_X_sweet_0 rfl ?_
    refine ag_iload_n dd_X_sweet_1 rfl ?_
    refine ag_rV dd_X_sweet_2 fi_X_121 (cr_0 hC) rfl (mc_X_findField (d := 0) (by omega) hC (by omega) (by omega)) rfl rfl (by omega) (Nat.le_of_ble_eq_true rfl) ?_
    rw [if_pos hf, Int.toNat_natCast]
    refine ag_astore_n (L' := [some (av_r 0), some (av_i ((i : Int))), some (av_i (t)), some (av_r ((G 1 i)))]) dd_X_sweet_5 rfl rfl (by decide) ?_
    refine ag_aload_n dd_X_sweet_6 rfl ?_
    refine ag_ifnull (tgt := 21) dd_X_sweet_7 (by decide) (fun q => by cases q) (fun _ _ => ?_)
    refine ag_iload_n dd_X_sweet_10 rfl ?_
    refine ag_iconst dd_X_sweet_11 ?_
    refine ag_sipush dd_X_sweet_12 (by decide +kernel) ?_
    refine ag_rS dd_X_sweet_15 fi_X_76 (mc_X_isWithin (d := 0) (by omega) (by omega) (by omega)) rfl rfl (by omega) (Nat.le_of_ble_eq_true rfl) ?_
    refine ag_if_neB (tgt := 23) dd_X_sweet_18 (by decide) (fun c2 => ?_) (fun c2 => ?_)
    · refine ag_aload_n dd_X_sweet_23 rfl ?_
      refine ag_iload_n dd_X_sweet_24 rfl ?_
      refine ag_rV dd_X_sweet_25 fi_X_174 (cr_F hC hi) rfl (mc_Field_sweetAt (d := 1) (by omega) hC hi (hfs.2 i hi).sw (by omega)) rfl rfl (by omega) (Nat.le_of_ble_eq_true rfl) ?_
      refine ag_iret dd_X_sweet_28 rfl ?_
      refine ⟨congrArg (fun z => some (av_i z)) ?_, rfl⟩
      unfold sp_sweet
      first | (rw [if_pos (by omega), Int.toNat_natCast]) | rw [if_neg (by omega)]
    · refine ag_iconst dd_X_sweet_21 ?_
      refine ag_iret dd_X_sweet_22 rfl ?_
      refine ⟨congrArg (fun z => some (av_i z)) ?_, rfl⟩
      unfold sp_sweet
      first | (rw [if_pos (by omega), Int.toNat_natCast]) | rw [if_neg (by omega)]
  · refine ag_aload_n dd_X_sweet_0 rfl ?_
    refine ag_iload_n dd_X_sweet_1 rfl ?_
    refine ag_rV dd_X_sweet_2 fi_X_121 (cr_0 hC) rfl (mc_X_findField (d := 0) (by omega) hC (by omega) (by omega)) rfl rfl (by omega) (Nat.le_of_ble_eq_true rfl) ?_
    rw [if_neg hf]
    refine ag_astore_n (L' := [some (av_r 0), some (av_i (f)), some (av_i (t)), some (av_n)]) dd_X_sweet_5 rfl rfl (by decide) ?_
    refine ag_aload_n dd_X_sweet_6 rfl ?_
    refine ag_ifnull (tgt := 21) dd_X_sweet_7 (by decide) (fun _ => ?_) (fun _ q => by cases q)
    refine ag_iconst dd_X_sweet_21 ?_
    refine ag_iret dd_X_sweet_22 rfl ?_
    refine ⟨congrArg (fun z => some (av_i z)) ?_, rfl⟩
    unfold sp_sweet
    rw [if_neg (by omega)]
set_option maxHeartbeats 1000000 in
theorem mc_X_fieldOf {w : aw_T} {h0 h : ah_T} {S : ms_T} {G : gh_T} {d : Nat} (hd : 1 ≤ d) (hC : co_I h0 h S G) {f : Int} (hf : -2147483648 ≤ f ∧ f < 2147483648) {a : Int} (ha : -2147483648 ≤ a ∧ a < 2147483648) (hfs : iv_fs S) : am_M w mm_X_fieldOf d [av_r 0, av_i f, av_i a] h 0 0 (fun r h' => r = some (av_i (sp_fieldOf S f a)) ∧ h' = h) := by
  refine am_intro [some (av_r 0), some (av_i (f)), some (av_i (a)), none] (by decide +kernel) (Nat.le_of_ble_eq_true rfl) rfl ?_
  have h2 := hfs.1
  by_cases hf : 0 ≤ f ∧ f < S.1 2
  · obtain ⟨i, rfl⟩ : ∃ i : Nat, f = (i : Int) := ⟨f.toNat, by omega⟩
    have hi : (i : Int) < S.1 2 := hf.2
    refine ag_aload_n dd_X_fieldOf_0 rfl ?_
    refine ag_iload_n dd_X_fieldOf_1 rfl ?_
    refine ag_rV dd_X_fieldOf_2 fi_X_121 (cr_0 hC) rfl (mc_X_findField (d := 0) (by omega) hC (by omega) (by omega)) rfl rfl (by omega) (Nat.le_of_ble_eq_true rfl) ?_
    rw [if_pos hf, Int.toNat_natCast]
    refine ag_astore_n (L' := [some (av_r 0), some (av_i ((i : Int))), some (av_i (a)), some (av_r ((G 1 i)))]) dd_X_fieldOf_5 rfl rfl (by decide) ?_
    refine ag_aload_n dd_X_fieldOf_6 rfl ?_
    refine ag_ifnonnull (tgt := 12) dd_X_fieldOf_7 (by decide) (fun _ _ => ?_) (fun q => by cases q)
    refine ag_iload_n dd_X_fieldOf_12 rfl ?_
    rcases (show (a < 0 ∨ 6 < a) ∨ a = 0 ∨ a = 1 ∨ a = 2 ∨ a = 3 ∨ a = 4 ∨ a = 5 ∨ a = 6 by omega) with c2 | c2 | c2 | c2 | c2 | c2 | c2 | c2
    · refine ag_tabOut (tgt := 99) dd_X_fieldOf_13 (by omega) c2 (by decide) ?_
      refine ag_iconst dd_X_fieldOf_99 ?_
      refine ag_iret dd_X_fieldOf_100 rfl ?_
      refine ⟨congrArg (fun z => some (av_i z)) ?_, rfl⟩
      unfold sp_fieldOf
      rw [Int.toNat_natCast]
      repeat (first | rw [if_pos (by omega)] | rw [if_neg (by omega)])
    · refine ag_tabIn (tgt := 56) (off := 43) dd_X_fieldOf_13 (by omega) (by omega) (by omega) (by rw [c2]; rfl) (by decide) ?_
      refine ag_aload_n dd_X_fieldOf_56 rfl ?_
      refine ag_get dd_X_fieldOf_57 fg_X_131 (cr_F hC hi) rfl ?_
      refine ag_iret dd_X_fieldOf_60 rfl ?_
      have hv0 := c2
      refine ⟨congrArg (fun z => some (av_i z)) ?_, rfl⟩
      unfold sp_fieldOf
      rw [if_neg (by omega), hv0]
      rfl
    · refine ag_tabIn (tgt := 61) (off := 48) dd_X_fieldOf_13 (by omega) (by omega) (by omega) (by rw [c2]; rfl) (by decide) ?_
      refine ag_aload_n dd_X_fieldOf_61 rfl ?_
      refine ag_get dd_X_fieldOf_62 fg_X_178 (cr_F hC hi) rfl ?_
      refine ag_iret dd_X_fieldOf_65 rfl ?_
      have hv0 := c2
      refine ⟨congrArg (fun z => some (av_i z)) ?_, rfl⟩
      unfold sp_fieldOf
      rw [if_neg (by omega), hv0]
      rfl
    · refine ag_tabIn (tgt := 66) (off := 53) dd_X_fieldOf_13 (by omega) (by omega) (by omega) (by rw [c2]; rfl) (by decide) ?_
      refine ag_aload_n dd_X_fieldOf_66 rfl ?_
      refine ag_get dd_X_fieldOf_67 fg_X_125 (cr_F hC hi) rfl ?_
      refine ag_iret dd_X_fieldOf_70 rfl ?_
      have hv0 := c2
      refine ⟨congrArg (fun z => some (av_i z)) ?_, rfl⟩
      unfold sp_fieldOf
      rw [if_neg (by omega), hv0]
      rfl
    · refine ag_tabIn (tgt := 71) (off := 58) dd_X_fieldOf_13 (by omega) (by omega) (by omega) (by rw [c2]; rfl) (by decide) ?_
      refine ag_aload_n dd_X_fieldOf_71 rfl ?_
      refine ag_get dd_X_fieldOf_72 fg_X_181 (cr_F hC hi) rfl ?_
      refine ag_iret dd_X_fieldOf_75 rfl ?_
      have hv0 := c2
      refine ⟨congrArg (fun z => some (av_i z)) ?_, rfl⟩
      unfold sp_fieldOf
      rw [if_neg (by omega), hv0]
      rfl
    · refine ag_tabIn (tgt := 76) (off := 63) dd_X_fieldOf_13 (by omega) (by omega) (by omega) (by rw [c2]; rfl) (by decide) ?_
      refine ag_aload_n dd_X_fieldOf_76 rfl ?_
      refine ag_get dd_X_fieldOf_77 fg_X_134 (cr_F hC hi) rfl ?_
      refine ag_if_eqB (tgt := 87) dd_X_fieldOf_80 (by decide) (fun c3 => ?_) (fun c3 => ?_)
      · refine ag_iconst dd_X_fieldOf_87 ?_
        refine ag_iret dd_X_fieldOf_88 rfl ?_
        have hv0 := c2
        refine ⟨congrArg (fun z => some (av_i z)) ?_, rfl⟩
        unfold sp_fieldOf
        rw [if_neg (by omega), hv0]
        show _ = if 0 ≤ S.2 49 i then (1 : Int) else 0
        first | rw [if_pos (by omega)] | rw [if_neg (by omega)]
      · refine ag_iconst dd_X_fieldOf_83 ?_
        refine ag_goto (tgt := 88) dd_X_fieldOf_84 (by decide) ?_
        refine ag_iret dd_X_fieldOf_88 rfl ?_
        have hv0 := c2
        refine ⟨congrArg (fun z => some (av_i z)) ?_, rfl⟩
        unfold sp_fieldOf
        rw [if_neg (by omega), hv0]
        show _ = if 0 ≤ S.2 49 i then (1 : Int) else 0
        first | rw [if_pos (by omega)] | rw [if_neg (by omega)]
    · refine ag_tabIn (tgt := 89) (off := 76) dd_X_fieldOf_13 (by omega) (by omega) (by omega) (by rw [c2]; rfl) (by decide) ?_
      refine ag_aload_n dd_X_fieldOf_89 rfl ?_
      refine ag_get dd_X_fieldOf_90 fg_X_138 (cr_F hC hi) rfl ?_
      refine ag_iret dd_X_fieldOf_93 rfl ?_
      have hv0 := c2
      refine ⟨congrArg (fun z => some (av_i z)) ?_, rfl⟩
      unfold sp_fieldOf
      rw [if_neg (by omega), hv0]
      rfl
    · refine ag_tabIn (tgt := 94) (off := 81) dd_X_fieldOf_13 (by omega) (by omega) (by omega) (by rw [c2]; rfl) (by decide) ?_
      refine ag_aload_n dd_X_fieldOf_94 rfl ?_
      refine ag_get dd_X_fieldOf_95 fg_X_184 (cr_F hC hi) rfl ?_
      refine ag_iret dd_X_fieldOf_98 rfl ?_
      have hv0 := c2
      refine ⟨congrArg (fun z => some (av_i z)) ?_, rfl⟩
      unfold sp_fieldOf
      rw [if_neg (by omega), hv0]
      rfl
  · refine ag_aload_n dd_X_fieldOf_0 rfl ?_
    refine ag_iload_n dd_X_fieldOf_1 rfl ?_
    refine ag_rV dd_X_fieldOf_2 fi_X_121 (cr_0 hC) rfl (mc_X_findField (d := 0) (by omega) hC (by omega) (by omega)) rfl rfl (by omega) (Nat.le_of_ble_eq_true rfl) ?_
    rw [if_neg hf]
    refine ag_astore_n (L' := [some (av_r 0), some (av_i (f)), some (av_i (a)), some (av_n)]) dd_X_fieldOf_5 rfl rfl (by decide) ?_
    refine ag_aload_n dd_X_fieldOf_6 rfl ?_
    refine ag_ifnonnull (tgt := 12) dd_X_fieldOf_7 (by decide) (fun _ q => by cases q) (fun _ => ?_)
    refine ag_iconst dd_X_fieldOf_10 ?_
    refine ag_iret dd_X_fieldOf_11 rfl ?_
    refine ⟨congrArg (fun z => some (av_i z)) ?_, rfl⟩
    unfold sp_fieldOf
    rw [if_pos (by omega)]
set_option maxHeartbeats 1000000 in
theorem mc_Load_isOver {w : aw_T} {h0 h : ah_T} {S : ms_T} {G : gh_T} {d : Nat} (hd : 0 ≤ d) (hC : co_I h0 h S G) {i : Nat} (hi : (i : Int) < S.1 3) (ho : -1 ≤ S.2 62 i ∧ S.2 62 i ≤ 4000) : am_M w mm_Load_isOver d [av_r (G 2 i)] h 0 0 (fun r h' => r = some (av_i (if 0 ≤ S.2 62 i then 1 else 0)) ∧ h' = h) := by
  refine am_intro [some (av_r ((G 2 i)))] (by decide +kernel) (Nat.le_of_ble_eq_true rfl) rfl ?_
  refine ag_aload_n dd_Load_isOver_0 rfl ?_
  refine ag_get dd_Load_isOver_1 fg_Load_15 (cr_L hC hi) rfl ?_
  refine ag_iconst dd_Load_isOver_4 ?_
  generalize hov : (if S.2 62 i < 0 then (-1 : Int) else S.2 62 i + 1) = ov
  have hov2 : (S.2 62 i < 0 ∧ ov = -1) ∨ (0 ≤ S.2 62 i ∧ ov = S.2 62 i + 1) := by rw [← hov]; split <;> omega
  refine ag_icmp_eq (tgt := 12) dd_Load_isOver_5 (by decide) (by omega) (by omega) (fun c1 => ?_) (fun c1 => ?_)
  · refine ag_iconst dd_Load_isOver_12 ?_
    refine ag_zret dd_Load_isOver_13 rfl (by first | exact Or.inl rfl | exact Or.inr rfl | omega) ?_
    refine ⟨congrArg (fun z => some (av_i z)) ?_, rfl⟩
    first | rw [if_pos (by omega)] | rw [if_neg (by omega)]
  · refine ag_iconst dd_Load_isOver_8 ?_
    refine ag_goto (tgt := 13) dd_Load_isOver_9 (by decide) ?_
    refine ag_zret dd_Load_isOver_13 rfl (by first | exact Or.inl rfl | exact Or.inr rfl | omega) ?_
    refine ⟨congrArg (fun z => some (av_i z)) ?_, rfl⟩
    first | rw [if_pos (by omega)] | rw [if_neg (by omega)]
set_option maxHeartbeats 1000000 in
theorem mc_X_load {w : aw_T} {h0 h : ah_T} {S : ms_T} {G : gh_T} {d : Nat} (hd : 1 ≤ d) (hC : co_I h0 h S G) {f : Int} (hf : -2147483648 ≤ f ∧ f < 2147483648) {a : Int} (ha : -2147483648 ≤ a ∧ a < 2147483648) (hI : iv_S S) : am_M w mm_X_load d [av_r 0, av_i f, av_i a] h 0 0 (fun r h' => r = some (av_i (sp_load S f a)) ∧ h' = h) := by
  refine am_intro [some (av_r 0), some (av_i (f)), some (av_i (a)), none] (by decide +kernel) (Nat.le_of_ble_eq_true rfl) rfl ?_
  have h2 := hI.1.2.2.2.1
  by_cases hf : 0 ≤ f ∧ f < S.1 3
  · obtain ⟨i, rfl⟩ : ∃ i : Nat, f = (i : Int) := ⟨f.toNat, by omega⟩
    have hi : (i : Int) < S.1 3 := hf.2
    refine ag_aload_n dd_X_load_0 rfl ?_
    refine ag_iload_n dd_X_load_1 rfl ?_
    refine ag_rV dd_X_load_2 fi_X_187 (cr_0 hC) rfl (mc_X_findLoad (d := 0) (by omega) hC (by omega) (by omega)) rfl rfl (by omega) (Nat.le_of_ble_eq_true rfl) ?_
    rw [if_pos hf, Int.toNat_natCast]
    refine ag_astore_n (L' := [some (av_r 0), some (av_i ((i : Int))), some (av_i (a)), some (av_r ((G 2 i)))]) dd_X_load_5 rfl rfl (by decide) ?_
    refine ag_aload_n dd_X_load_6 rfl ?_
    refine ag_ifnonnull (tgt := 12) dd_X_load_7 (by decide) (fun _ _ => ?_) (fun q => by cases q)
    obtain ⟨q1, q2, q3, q4, q5, q6, q7, q8, q9, q10, q11⟩ := hI.2.2.2.1 i hi
    refine ag_iload_n dd_X_load_12 rfl ?_
    rcases (show (a < 0 ∨ 8 < a) ∨ a = 0 ∨ a = 1 ∨ a = 2 ∨ a = 3 ∨ a = 4 ∨ a = 5 ∨ a = 6 ∨ a = 7 ∨ a = 8 by omega) with c2 | c2 | c2 | c2 | c2 | c2 | c2 | c2 | c2 | c2
    · refine ag_tabOut (tgt := 120) dd_X_load_13 (by omega) c2 (by decide) ?_
      refine ag_iconst dd_X_load_120 ?_
      refine ag_iret dd_X_load_121 rfl ?_
      refine ⟨congrArg (fun z => some (av_i z)) ?_, rfl⟩
      unfold sp_load
      rw [Int.toNat_natCast]
      repeat (first | rw [if_pos (by omega)] | rw [if_neg (by omega)])
    · refine ag_tabIn (tgt := 64) (off := 51) dd_X_load_13 (by omega) (by omega) (by omega) (by rw [c2]; rfl) (by decide) ?_
      refine ag_aload_n dd_X_load_64 rfl ?_
      refine ag_get dd_X_load_65 fg_X_191 (cr_L hC hi) rfl ?_
      refine ag_get dd_X_load_68 fg_X_196 (cr_F hC (by omega)) rfl ?_
      refine ag_iret dd_X_load_71 rfl ?_
      have hv0 := c2
      refine ⟨congrArg (fun z => some (av_i z)) ?_, rfl⟩
      unfold sp_load
      rw [if_neg (by omega), hv0]
      show _ = S.2 55 i
      omega
    · refine ag_tabIn (tgt := 72) (off := 59) dd_X_load_13 (by omega) (by omega) (by omega) (by rw [c2]; rfl) (by decide) ?_
      refine ag_aload_n dd_X_load_72 rfl ?_
      refine ag_get dd_X_load_73 fg_X_199 (cr_L hC hi) rfl ?_
      refine ag_iret dd_X_load_76 rfl ?_
      have hv0 := c2
      refine ⟨congrArg (fun z => some (av_i z)) ?_, rfl⟩
      unfold sp_load
      rw [if_neg (by omega), hv0]
      rfl
    · refine ag_tabIn (tgt := 77) (off := 64) dd_X_load_13 (by omega) (by omega) (by omega) (by rw [c2]; rfl) (by decide) ?_
      refine ag_aload_n dd_X_load_77 rfl ?_
      refine ag_get dd_X_load_78 fg_X_202 (cr_L hC hi) rfl ?_
      refine ag_iret dd_X_load_81 rfl ?_
      have hv0 := c2
      refine ⟨congrArg (fun z => some (av_i z)) ?_, rfl⟩
      unfold sp_load
      rw [if_neg (by omega), hv0]
      rfl
    · refine ag_tabIn (tgt := 82) (off := 69) dd_X_load_13 (by omega) (by omega) (by omega) (by rw [c2]; rfl) (by decide) ?_
      refine ag_aload_n dd_X_load_82 rfl ?_
      refine ag_get dd_X_load_83 fg_X_205 (cr_L hC hi) rfl ?_
      refine ag_iret dd_X_load_86 rfl ?_
      have hv0 := c2
      refine ⟨congrArg (fun z => some (av_i z)) ?_, rfl⟩
      unfold sp_load
      rw [if_neg (by omega), hv0]
      rfl
    · refine ag_tabIn (tgt := 87) (off := 74) dd_X_load_13 (by omega) (by omega) (by omega) (by rw [c2]; rfl) (by decide) ?_
      refine ag_aload_n dd_X_load_87 rfl ?_
      refine ag_get dd_X_load_88 fg_X_208 (cr_L hC hi) rfl ?_
      refine ag_iret dd_X_load_91 rfl ?_
      have hv0 := c2
      refine ⟨congrArg (fun z => some (av_i z)) ?_, rfl⟩
      unfold sp_load
      rw [if_neg (by omega), hv0]
      rfl
    · refine ag_tabIn (tgt := 92) (off := 79) dd_X_load_13 (by omega) (by omega) (by omega) (by rw [c2]; rfl) (by decide) ?_
      refine ag_aload_n dd_X_load_92 rfl ?_
      refine ag_get dd_X_load_93 fg_X_211 (cr_L hC hi) rfl ?_
      refine ag_iret dd_X_load_96 rfl ?_
      have hv0 := c2
      refine ⟨congrArg (fun z => some (av_i z)) ?_, rfl⟩
      unfold sp_load
      rw [if_neg (by omega), hv0]
      rfl
    · refine ag_tabIn (tgt := 97) (off := 84) dd_X_load_13 (by omega) (by omega) (by omega) (by rw [c2]; rfl) (by decide) ?_
      refine ag_aload_n dd_X_load_97 rfl ?_
      refine ag_get dd_X_load_98 fg_X_214 (cr_L hC hi) rfl ?_
      refine ag_iret dd_X_load_101 rfl ?_
      have hv0 := c2
      refine ⟨congrArg (fun z => some (av_i z)) ?_, rfl⟩
      unfold sp_load
      rw [if_neg (by omega), hv0]
      rfl
    · refine ag_tabIn (tgt := 102) (off := 89) dd_X_load_13 (by omega) (by omega) (by omega) (by rw [c2]; rfl) (by decide) ?_
      refine ag_aload_n dd_X_load_102 rfl ?_
      refine ag_rV dd_X_load_103 fi_X_217 (cr_L hC hi) rfl (mc_Load_isOver (d := 0) (by omega) hC hi (by omega)) rfl rfl (by omega) (Nat.le_of_ble_eq_true rfl) ?_
      refine ag_if_eqB (tgt := 113) dd_X_load_106 (by decide) (fun c3 => ?_) (fun c3 => ?_)
      · refine ag_iconst dd_X_load_113 ?_
        refine ag_iret dd_X_load_114 rfl ?_
        have hv0 := c2
        refine ⟨congrArg (fun z => some (av_i z)) ?_, rfl⟩
        unfold sp_load
        rw [if_neg (by omega), hv0]
        show _ = if 0 ≤ S.2 62 i then (1 : Int) else 0
        first | rw [if_pos (by omega)] | rw [if_neg (by omega)]
      · refine ag_iconst dd_X_load_109 ?_
        refine ag_goto (tgt := 114) dd_X_load_110 (by decide) ?_
        refine ag_iret dd_X_load_114 rfl ?_
        have hv0 := c2
        refine ⟨congrArg (fun z => some (av_i z)) ?_, rfl⟩
        unfold sp_load
        rw [if_neg (by omega), hv0]
        show _ = if 0 ≤ S.2 62 i then (1 : Int) else 0
        first | rw [if_pos (by omega)] | rw [if_neg (by omega)]
    · refine ag_tabIn (tgt := 115) (off := 102) dd_X_load_13 (by omega) (by omega) (by omega) (by rw [c2]; rfl) (by decide) ?_
      refine ag_aload_n dd_X_load_115 rfl ?_
      refine ag_get dd_X_load_116 fg_X_221 (cr_L hC hi) rfl ?_
      refine ag_iret dd_X_load_119 rfl ?_
      have hv0 := c2
      refine ⟨congrArg (fun z => some (av_i z)) ?_, rfl⟩
      unfold sp_load
      rw [if_neg (by omega), hv0]
      rfl
  · refine ag_aload_n dd_X_load_0 rfl ?_
    refine ag_iload_n dd_X_load_1 rfl ?_
    refine ag_rV dd_X_load_2 fi_X_187 (cr_0 hC) rfl (mc_X_findLoad (d := 0) (by omega) hC (by omega) (by omega)) rfl rfl (by omega) (Nat.le_of_ble_eq_true rfl) ?_
    rw [if_neg hf]
    refine ag_astore_n (L' := [some (av_r 0), some (av_i (f)), some (av_i (a)), some (av_n)]) dd_X_load_5 rfl rfl (by decide) ?_
    refine ag_aload_n dd_X_load_6 rfl ?_
    refine ag_ifnonnull (tgt := 12) dd_X_load_7 (by decide) (fun _ q => by cases q) (fun _ => ?_)
    refine ag_iconst dd_X_load_10 ?_
    refine ag_iret dd_X_load_11 rfl ?_
    refine ⟨congrArg (fun z => some (av_i z)) ?_, rfl⟩
    unfold sp_load
    rw [if_pos (by omega)]
set_option maxHeartbeats 1000000 in
theorem mc_X_fire {w : aw_T} {h0 h : ah_T} {S : ms_T} {G : gh_T} {d : Nat} (hd : 3 ≤ d) (hC : co_I h0 h S G) {f : Int} (hf : -2147483648 ≤ f ∧ f < 2147483648) (hfs : iv_fs S) (h0c : 0 ≤ S.1 0 ∧ S.1 0 ≤ 4000) : am_M w mm_X_fire d [av_r 0, av_i f] h 0 0 (cq_ h0 G (sp_fire S f)) := by
  refine am_intro [some (av_r 0), some (av_i (f)), none] (by decide +kernel) (Nat.le_of_ble_eq_true rfl) rfl ?_
  have h2 := hfs.1
  by_cases hf : 0 ≤ f ∧ f < S.1 2
  · obtain ⟨i, rfl⟩ : ∃ i : Nat, f = (i : Int) := ⟨f.toNat, by omega⟩
    have hi : (i : Int) < S.1 2 := hf.2
    refine ag_aload_n dd_X_fire_0 rfl ?_
    refine ag_iload_n dd_X_fire_1 rfl ?_
    refine ag_rV dd_X_fire_2 fi_X_121 (cr_0 hC) rfl (mc_X_findField (d := 0) (by omega) hC (by omega) (by omega)) rfl rfl (by omega) (Nat.le_of_ble_eq_true rfl) ?_
    rw [if_pos hf, Int.toNat_natCast]
    refine ag_astore_n (L' := [some (av_r 0), some (av_i ((i : Int))), some (av_r ((G 1 i)))]) dd_X_fire_5 rfl rfl (by decide) ?_
    have hsw := (hfs.2 i hi).sw
    have h49 := hsw.2.2.2.1
    obtain ⟨-, -, -, -, -, -, h46, -⟩ := hfs.2 i hi
    refine ag_aload_n dd_X_fire_6 rfl ?_
    refine ag_ifnull (tgt := 24) dd_X_fire_7 (by decide) (fun q => by cases q) (fun _ _ => ?_)
    refine ag_aload_n dd_X_fire_10 rfl ?_
    refine ag_get dd_X_fire_11 fg_X_134 (cr_F hC hi) rfl ?_
    refine ag_if_neB (tgt := 24) dd_X_fire_14 (by decide) (fun c2 => ?_) (fun c2 => ?_)
    · refine ag_iconst dd_X_fire_24 ?_
      refine ag_zret dd_X_fire_25 rfl (by first | exact Or.inl rfl | exact Or.inr rfl | omega) ?_
      unfold sp_fire
      rw [if_neg (by rw [Int.toNat_natCast]; omega)]
      exact ⟨rfl, hC⟩
    · refine ag_aload_n dd_X_fire_17 rfl ?_
      refine ag_get dd_X_fire_18 fg_X_125 (cr_F hC hi) rfl ?_
      refine ag_if_eq (tgt := 26) dd_X_fire_21 (by decide) (by omega) (fun c3 => ?_) (fun c3 => ?_)
      · refine ag_aload_n dd_X_fire_26 rfl ?_
        refine ag_aload_n dd_X_fire_27 rfl ?_
        refine ag_get dd_X_fire_28 fg_X_80 (cr_0 hC) rfl ?_
        refine ag_wV dd_X_fire_31 fi_X_139 (cr_F hC hi) rfl (mc_Field_burn (d := 2) (by omega) hC hi hsw (by omega)) rfl rfl (by omega) (Nat.le_of_ble_eq_true rfl) (fun r1 h hP => ?_)
        obtain ⟨rfl, hC⟩ := hP
        refine ag_iconst dd_X_fire_34 ?_
        refine ag_zret dd_X_fire_35 rfl (by first | exact Or.inl rfl | exact Or.inr rfl | omega) ?_
        unfold sp_fire
        rw [if_pos ⟨hf, by rw [Int.toNat_natCast]; omega, by rw [Int.toNat_natCast]; omega⟩, Int.toNat_natCast]
        exact ⟨rfl, hC⟩
      · refine ag_iconst dd_X_fire_24 ?_
        refine ag_zret dd_X_fire_25 rfl (by first | exact Or.inl rfl | exact Or.inr rfl | omega) ?_
        unfold sp_fire
        rw [if_neg (by rw [Int.toNat_natCast]; omega)]
        exact ⟨rfl, hC⟩
  · refine ag_aload_n dd_X_fire_0 rfl ?_
    refine ag_iload_n dd_X_fire_1 rfl ?_
    refine ag_rV dd_X_fire_2 fi_X_121 (cr_0 hC) rfl (mc_X_findField (d := 0) (by omega) hC (by omega) (by omega)) rfl rfl (by omega) (Nat.le_of_ble_eq_true rfl) ?_
    rw [if_neg hf]
    refine ag_astore_n (L' := [some (av_r 0), some (av_i (f)), some (av_n)]) dd_X_fire_5 rfl rfl (by decide) ?_
    refine ag_aload_n dd_X_fire_6 rfl ?_
    refine ag_ifnull (tgt := 24) dd_X_fire_7 (by decide) (fun _ => ?_) (fun _ q => by cases q)
    refine ag_iconst dd_X_fire_24 ?_
    refine ag_zret dd_X_fire_25 rfl (by first | exact Or.inl rfl | exact Or.inr rfl | omega) ?_
    unfold sp_fire
    rw [if_neg (fun q => hf q.1)]
    exact ⟨rfl, hC⟩
set_option maxHeartbeats 1000000 in
theorem mc_X_cut {w : aw_T} {h0 h : ah_T} {S : ms_T} {G : gh_T} {d : Nat} (hd : 3 ≤ d) (hC : co_I h0 h S G) {f : Int} (hf : -2147483648 ≤ f ∧ f < 2147483648) {g : Int} (hg : -2147483648 ≤ g ∧ g < 2147483648) (hI : iv_S S) (hs : sr_ S G) : am_M w mm_X_cut d [av_r 0, av_i f, av_i g] h 0 0 (fun r1 h1 => r1 = (sp_cut S f g).1 ∧ ∃ G2 : gh_T, co_I h0 h1 (sp_cut S f g).2 G2 ∧ (∀ a b, ¬ (a = 6 ∧ b = 0) → G2 a b = G a b) ∧ sr_ (sp_cut S f g).2 G2) := by
  refine am_intro [some (av_r 0), some (av_i (f)), some (av_i (g)), none, none] (by decide +kernel) (Nat.le_of_ble_eq_true rfl) rfl ?_
  have h2 := hI.1.2.2.1
  by_cases hf : 0 ≤ f ∧ f < S.1 2
  · obtain ⟨i, rfl⟩ : ∃ i : Nat, f = (i : Int) := ⟨f.toNat, by omega⟩
    have hi : (i : Int) < S.1 2 := hf.2
    refine ag_aload_n dd_X_cut_0 rfl ?_
    refine ag_iload_n dd_X_cut_1 rfl ?_
    refine ag_rV dd_X_cut_2 fi_X_121 (cr_0 hC) rfl (mc_X_findField (d := 0) (by omega) hC (by omega) (by omega)) rfl rfl (by omega) (Nat.le_of_ble_eq_true rfl) ?_
    rw [if_pos hf, Int.toNat_natCast]
    refine ag_astore_n (L' := [some (av_r 0), some (av_i ((i : Int))), some (av_i (g)), some (av_r ((G 1 i))), none]) dd_X_cut_5 rfl rfl (by decide) ?_
    have hfs := hI.2.1 i hi
    have h46 := hfs.1.2.2.2.2.2.2.1
    have h40 := hfs.1.1
    have hfgb := sp_fg_b (S := S) ⟨hI.1.2.2.1, fun f hf => (hI.2.1 f hf).1⟩ hI.1.2.2.2.2.1
    have ht := sr_turn hs
    have hcl := hI.1.2.1
    refine ag_aload_n dd_X_cut_6 rfl ?_
    refine ag_ifnull (tgt := 17) dd_X_cut_7 (by decide) (fun q => by cases q) (fun _ _ => ?_)
    refine ag_aload_n dd_X_cut_10 rfl ?_
    refine ag_get dd_X_cut_11 fg_X_125 (cr_F hC hi) rfl ?_
    refine ag_if_eq (tgt := 19) dd_X_cut_14 (by decide) (by omega) (fun c2 => ?_) (fun c2 => ?_)
    · refine ag_iload_n dd_X_cut_19 rfl ?_
      refine ag_iconst dd_X_cut_20 ?_
      refine ag_bipush dd_X_cut_21 (by decide +kernel) ?_
      refine ag_rS dd_X_cut_23 fi_X_76 (mc_X_isWithin (d := 0) (by omega) (by omega) (by omega)) rfl rfl (by omega) (Nat.le_of_ble_eq_true rfl) ?_
      refine ag_if_eqB (tgt := 37) dd_X_cut_26 (by decide) (fun c3 => ?_) (fun c3 => ?_)
      · refine ag_iconst dd_X_cut_37 ?_
        refine ag_zret dd_X_cut_38 rfl (by first | exact Or.inl rfl | exact Or.inr rfl | omega) ?_
        unfold sp_cut
        rw [if_neg (by rw [Int.toNat_natCast]; omega)]
        exact ⟨rfl, G, hC, fun _ _ _ => rfl, hs⟩
      · refine ag_iload_n dd_X_cut_29 rfl ?_
        refine ag_aload_n dd_X_cut_30 rfl ?_
        refine ag_rV dd_X_cut_31 fi_X_128 (cr_0 hC) rfl (mc_X_freeGangs (d := 0) (by omega) hC hI) rfl rfl (by omega) (Nat.le_of_ble_eq_true rfl) ?_
        refine ag_icmp_le (tgt := 39) dd_X_cut_34 (by decide) (by omega) (by omega) (fun c4 => ?_) (fun c4 => ?_)
        · have htb : -1 ≤ tn_ S G ∧ tn_ S G ≤ 10 := by
            have h3 := hs.2.1
            unfold tn_
            split
            · have := hs.2.2.1.1 (G 6 0) (by assumption)
              omega
            · omega
          refine ag_aload_n dd_X_cut_39 rfl ?_
          refine ag_get dd_X_cut_40 fg_X_28 (cr_0 hC) rfl ?_
          refine ag_rV dd_X_cut_43 fi_X_115 (cr_1 hC) rfl (mc_Farms_turn (d := 2) (by omega) hC hs.2.1 hs.1) rfl rfl (by omega) (Nat.le_of_ble_eq_true rfl) ?_
          refine ag_aload_n dd_X_cut_46 rfl ?_
          refine ag_get dd_X_cut_47 fg_X_131 (cr_F hC hi) rfl ?_
          refine ag_icmp_ne (tgt := 57) dd_X_cut_50 (by decide) (by omega) (by omega) (fun c5 => ?_) (fun c5 => ?_)
          · refine ag_iconst dd_X_cut_57 ?_
            refine ag_istore (L' := [some (av_r 0), some (av_i ((i : Int))), some (av_i (g)), some (av_r ((G 1 i))), some (av_i (0))]) dd_X_cut_58 rfl rfl (by decide) ?_
            refine ag_iload dd_X_cut_60 rfl ?_
            refine ag_if_ne (tgt := 74) dd_X_cut_62 (by decide) (by omega) (fun c6 => ?_) (fun c6 => ?_)
            · exfalso; omega
            · refine ag_aload_n dd_X_cut_65 rfl ?_
              refine ag_get dd_X_cut_66 fg_X_134 (cr_F hC hi) rfl ?_
              refine ag_if_neB (tgt := 74) dd_X_cut_69 (by decide) (fun c7 => ?_) (fun c7 => ?_)
              · refine ag_iload dd_X_cut_74 rfl ?_
                refine ag_if_eq (tgt := 86) dd_X_cut_76 (by decide) (by omega) (fun c8 => ?_) (fun c8 => ?_)
                · refine ag_aload_n dd_X_cut_86 rfl ?_
                  refine ag_iconst dd_X_cut_87 ?_
                  refine hp_i dd_X_cut_88 fp_X_125 (cr_F hC hi) (Nat.le_of_ble_eq_true rfl) (fun h huN => ?_)
                  have hu1 := huN
                  clear huN
                  refine ag_aload_n dd_X_cut_91 rfl ?_
                  refine ag_iload_n dd_X_cut_92 rfl ?_
                  refine hp_i dd_X_cut_93 fp_X_138 hu1.2.1 (Nat.le_of_ble_eq_true rfl) (fun h huN => ?_)
                  replace hu1 := hu_tr hu1 huN
                  clear huN
                  refine ag_iconst dd_X_cut_96 ?_
                  refine ag_zret dd_X_cut_97 rfl (by first | exact Or.inl rfl | exact Or.inr rfl | omega) ?_
                  have eS : sp_cut S (i : Int) g = (some (av_i 1), sp_ct S i g) := by
                    unfold sp_cut
                    rw [Int.toNat_natCast, if_pos ⟨hf, by omega, by omega, by omega, by omega⟩, if_neg (by omega)]
                  rw [eS]
                  refine ⟨rfl, G, co_uF (S := S) (S' := sp_ct S i g) hC hi hu1 ?_ rfl ?_, fun _ _ _ => rfl, ?_⟩
                  · have e1 : (sp_ct S i g).2 46 i = 1 := ai_up_s ((S).2 46) i 1
                    have e2 : (sp_ct S i g).2 48 i = g := ai_up_s ((S).2 48) i g
                    unfold cx_F
                    rw [e1, e2]
                    rfl
                  · intro a j hj
                    show ai_up (ai_up (S).2 46 _) 48 _ a j = _
                    by_cases q : a = 48
                    · subst q
                      rw [ai_up_s, ai_up_n _ _ (by omega)]
                    · rw [ai_up_n _ _ q]
                      by_cases q2 : a = 46
                      · subst q2
                        rw [ai_up_s, ai_up_n _ _ (by omega)]
                      · rw [ai_up_n _ _ q2]
                  · exact hs
                · exfalso; omega
              · refine ag_iconst dd_X_cut_72 ?_
                refine ag_zret dd_X_cut_73 rfl (by first | exact Or.inl rfl | exact Or.inr rfl | omega) ?_
                unfold sp_cut
                rw [if_neg (by rw [Int.toNat_natCast]; omega)]
                exact ⟨rfl, G, hC, fun _ _ _ => rfl, hs⟩
          · refine ag_iconst dd_X_cut_53 ?_
            refine ag_goto (tgt := 58) dd_X_cut_54 (by decide) ?_
            refine ag_istore (L' := [some (av_r 0), some (av_i ((i : Int))), some (av_i (g)), some (av_r ((G 1 i))), some (av_i (1))]) dd_X_cut_58 rfl rfl (by decide) ?_
            refine ag_iload dd_X_cut_60 rfl ?_
            refine ag_if_ne (tgt := 74) dd_X_cut_62 (by decide) (by omega) (fun c9 => ?_) (fun c9 => ?_)
            · refine ag_iload dd_X_cut_74 rfl ?_
              refine ag_if_eq (tgt := 86) dd_X_cut_76 (by decide) (by omega) (fun c10 => ?_) (fun c10 => ?_)
              · exfalso; omega
              · refine ag_aload_n dd_X_cut_79 rfl ?_
                refine ag_get dd_X_cut_80 fg_X_28 (cr_0 hC) rfl ?_
                have htn : (G 6 0 : Int) < S.1 39 ∧ S.2 66 (G 6 0) = S.2 40 i := by
                  have hc : tn_ S G = S.2 40 i := by omega
                  unfold tn_ at hc
                  by_cases q : (G 6 0 : Int) < S.1 39
                  · rw [if_pos q] at hc
                    exact ⟨q, hc⟩
                  · rw [if_neg q] at hc
                    exfalso; omega
                refine ag_wV dd_X_cut_83 fi_X_118 (cr_1 hC) rfl (mc_Farms_settleTurn (d := 0) (by omega) hC hs.2.1 hs.1) rfl rfl (by omega) (Nat.le_of_ble_eq_true rfl) (fun r1 h hP => ?_)
                obtain ⟨rfl, hC⟩ := hP
                rw [if_pos htn.1] at hC
                have hs2 := sr_settle hs htn.1
                rw [htn.2] at hs2
                replace hC := co_67 hC (S.2 40 i)
                refine ag_aload_n dd_X_cut_86 rfl ?_
                refine ag_iconst dd_X_cut_87 ?_
                refine hp_i dd_X_cut_88 fp_X_125 (cr_F hC hi) (Nat.le_of_ble_eq_true rfl) (fun h huN => ?_)
                have hu1 := huN
                clear huN
                refine ag_aload_n dd_X_cut_91 rfl ?_
                refine ag_iload_n dd_X_cut_92 rfl ?_
                refine hp_i dd_X_cut_93 fp_X_138 hu1.2.1 (Nat.le_of_ble_eq_true rfl) (fun h huN => ?_)
                replace hu1 := hu_tr hu1 huN
                clear huN
                refine ag_iconst dd_X_cut_96 ?_
                refine ag_zret dd_X_cut_97 rfl (by first | exact Or.inl rfl | exact Or.inr rfl | omega) ?_
                have eS : sp_cut S (i : Int) g = (some (av_i 1), sp_ct (sp_thr S (S.2 40 i)) i g) := by
                  unfold sp_cut
                  rw [Int.toNat_natCast, if_pos ⟨hf, by omega, by omega, by omega, by omega⟩, if_pos (by omega)]
                rw [eS]
                refine ⟨rfl, (gi_ G 6 0 (G 6 0 + 1)), co_uF (S := (sp_thr S (S.2 40 i))) (S' := sp_ct (sp_thr S (S.2 40 i)) i g) hC hi hu1 ?_ rfl ?_, fun a b hab => gi_n G hab, ?_⟩
                · have e1 : (sp_ct (sp_thr S (S.2 40 i)) i g).2 46 i = 1 := ai_up_s (((sp_thr S (S.2 40 i))).2 46) i 1
                  have e2 : (sp_ct (sp_thr S (S.2 40 i)) i g).2 48 i = g := ai_up_s (((sp_thr S (S.2 40 i))).2 48) i g
                  unfold cx_F
                  rw [e1, e2]
                  rfl
                · intro a j hj
                  show ai_up (ai_up ((sp_thr S (S.2 40 i))).2 46 _) 48 _ a j = _
                  by_cases q : a = 48
                  · subst q
                    rw [ai_up_s, ai_up_n _ _ (by omega)]
                  · rw [ai_up_n _ _ q]
                    by_cases q2 : a = 46
                    · subst q2
                      rw [ai_up_s, ai_up_n _ _ (by omega)]
                    · rw [ai_up_n _ _ q2]
                · exact hs2
            · exfalso; omega
        · refine ag_iconst dd_X_cut_37 ?_
          refine ag_zret dd_X_cut_38 rfl (by first | exact Or.inl rfl | exact Or.inr rfl | omega) ?_
          unfold sp_cut
          rw [if_neg (by rw [Int.toNat_natCast]; omega)]
          exact ⟨rfl, G, hC, fun _ _ _ => rfl, hs⟩
    · refine ag_iconst dd_X_cut_17 ?_
      refine ag_zret dd_X_cut_18 rfl (by first | exact Or.inl rfl | exact Or.inr rfl | omega) ?_
      unfold sp_cut
      rw [if_neg (by rw [Int.toNat_natCast]; omega)]
      exact ⟨rfl, G, hC, fun _ _ _ => rfl, hs⟩
  · refine ag_aload_n dd_X_cut_0 rfl ?_
    refine ag_iload_n dd_X_cut_1 rfl ?_
    refine ag_rV dd_X_cut_2 fi_X_121 (cr_0 hC) rfl (mc_X_findField (d := 0) (by omega) hC (by omega) (by omega)) rfl rfl (by omega) (Nat.le_of_ble_eq_true rfl) ?_
    rw [if_neg hf]
    refine ag_astore_n (L' := [some (av_r 0), some (av_i (f)), some (av_i (g)), some (av_n), none]) dd_X_cut_5 rfl rfl (by decide) ?_
    refine ag_aload_n dd_X_cut_6 rfl ?_
    refine ag_ifnull (tgt := 17) dd_X_cut_7 (by decide) (fun _ => ?_) (fun _ q => by cases q)
    refine ag_iconst dd_X_cut_17 ?_
    refine ag_zret dd_X_cut_18 rfl (by first | exact Or.inl rfl | exact Or.inr rfl | omega) ?_
    unfold sp_cut
    rw [if_neg (fun q => hf q.1)]
    exact ⟨rfl, G, hC, fun _ _ _ => rfl, hs⟩
