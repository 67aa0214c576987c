def sp_u16 (s : Int) : Int := ((Int32.ofInt s).toUInt32 >>> ((Int32.ofInt 16).toUInt32 &&& Int32.toUInt32 31)).toInt32.toInt
theorem sp_u16_b (s : Int) : 0 ≤ sp_u16 s ∧ sp_u16 s < 65536 := by
  have h := pk_ushr (Int32.ofInt s) (Int32.ofInt 16) 16 (by decide +kernel)
  have h2 : (Int32.ofInt s).toBitVec.toNat < 2 ^ 32 := (Int32.ofInt s).toBitVec.isLt
  unfold sp_u16
  generalize ((Int32.ofInt s).toUInt32 >>> ((Int32.ofInt 16).toUInt32 &&& Int32.toUInt32 31)).toInt32 = X at h ⊢
  have h3 : X.toBitVec.toNat < 65536 := by rw [h]; omega
  have h4 : X.toInt = (X.toBitVec.toNat : Int) := by
    show X.toBitVec.toInt = _
    rw [BitVec.toInt_eq_toNat_of_lt (by omega)]
  rw [h4]
  omega
/-- the lot: i changes places with one that comes not ahead of it -/
def sp_lk (m : Int) (i : Nat) (s : Int) : Nat := ((i : Int) + (sp_u16 s).tmod (m - i)).toNat
def sp_lot (m : Int) : Nat → Nat → (Nat → Int) → Int → (Nat → Int)
  | 0, _, g, _ => g
  | r + 1, i, g, s => sp_lot m r (i + 1) (ai_up (ai_up g i (g (sp_lk m i (s * 1103515245 + 12345)))) (sp_lk m i (s * 1103515245 + 12345)) (g i)) (s * 1103515245 + 12345)
def sp_id (g : Nat → Int) : Nat → (Nat → Int)
  | 0 => g
  | n + 1 => ai_up (sp_id g n) n n
def sp_zr (g : Nat → Int) : Nat → (Nat → Int)
  | 0 => g
  | n + 1 => ai_up (sp_zr g n) n 0
theorem sp_id_at (g : Nat → Int) : ∀ (n j : Nat), j < n → sp_id g n j = j
  | 0, j, h => absurd h (Nat.not_lt_zero j)
  | n + 1, j, h => by
    rw [sp_id]
    by_cases e : j = n
    · rw [e, ai_up_s]
    · rw [ai_up_n _ _ e]
      exact sp_id_at g n j (by omega)
theorem sp_zr_at (g : Nat → Int) : ∀ (n j : Nat), j < n → sp_zr g n j = 0
  | 0, j, h => absurd h (Nat.not_lt_zero j)
  | n + 1, j, h => by
    rw [sp_zr]
    by_cases e : j = n
    · rw [e, ai_up_s]
    · rw [ai_up_n _ _ e]
      exact sp_zr_at g n j (by omega)
theorem sp_zr_b (g : Nat → Int) (hg : ∀ i, 0 ≤ g i ∧ g i ≤ 1) : ∀ (n j : Nat), 0 ≤ sp_zr g n j ∧ sp_zr g n j ≤ 1
  | 0, j => hg j
  | n + 1, j => by
    rw [sp_zr]
    by_cases e : j = n
    · rw [e, ai_up_s]; omega
    · rw [ai_up_n _ _ e]
      exact sp_zr_b g hg n j
/-- an order of the m farms -/
def iv_perm (m : Int) (g : Nat → Int) : Prop := (∀ j : Nat, (j : Int) < m → 0 ≤ g j ∧ g j < m) ∧ ∀ a b : Nat, (a : Int) < m → (b : Int) < m → g a = g b → a = b
theorem sp_lk_b {m : Int} {i : Nat} (h : (i : Int) < m) (s : Int) : (i : Int) ≤ sp_lk m i s ∧ (sp_lk m i s : Int) < m ∧ ((sp_lk m i s : Nat) : Int) = (i : Int) + (sp_u16 s).tmod (m - i) := by
  have h1 := sp_u16_b s
  have h2 : 0 ≤ (sp_u16 s).tmod (m - i) ∧ (sp_u16 s).tmod (m - i) < m - i := by
    rw [Int.tmod_eq_emod_of_nonneg h1.1]
    exact ⟨Int.emod_nonneg _ (by omega), Int.emod_lt_of_pos _ (by omega)⟩
  unfold sp_lk
  omega
theorem iv_perm_swap {m : Int} {g : Nat → Int} (h : iv_perm m g) {i k : Nat} (hi : (i : Int) < m) (hk : (k : Int) < m) : iv_perm m (ai_up (ai_up g i (g k)) k (g i)) := by
  have at' : ∀ j : Nat, ai_up (ai_up g i (g k)) k (g i) j = if j = k then g i else if j = i then g k else g j := fun j => rfl
  refine ⟨fun j hj => ?_, fun a b ha hb hab => ?_⟩
  · rw [at']
    split
    · exact h.1 i hi
    · split
      · exact h.1 k hk
      · exact h.1 j hj
  · rw [at', at'] at hab
    by_cases a1 : a = k
    · by_cases b1 : b = k
      · omega
      · by_cases b2 : b = i
        · simp [a1, b2] at hab
          have := h.2 i k hi hk (hab (by omega))
          omega
        · simp [a1, b1, b2] at hab
          have := h.2 i b hi hb hab
          omega
    · by_cases b1 : b = k
      · by_cases a2 : a = i
        · simp [b1, a2] at hab
          have := h.2 k i hk hi (hab (by omega))
          omega
        · simp [a1, b1, a2] at hab
          have := h.2 a i ha hi hab
          omega
      · by_cases a2 : a = i
        · by_cases b2 : b = i
          · omega
          · simp [a1, b1, a2, b2] at hab
            rw [if_neg (by omega)] at hab
            have := h.2 k b hk hb hab
            omega
        · by_cases b2 : b = i
          · simp [a1, b1, a2, b2] at hab
            rw [if_neg (by omega)] at hab
            have := h.2 a k ha hk hab
            omega
          · simp [a1, b1, a2, b2] at hab
            exact h.2 a b ha hb hab
theorem sp_lot_perm {m : Int} : ∀ (r i : Nat) (g : Nat → Int) (s : Int), (i : Int) + r < m → iv_perm m g → iv_perm m (sp_lot m r i g s)
  | 0, _, _, _, _, h => h
  | r + 1, i, g, s, hi, h => by
    rw [sp_lot]
    have hk := sp_lk_b (m := m) (i := i) (by omega) (s * 1103515245 + 12345)
    exact sp_lot_perm r (i + 1) _ _ (by omega) (iv_perm_swap h (by omega) (by omega))
/-- the state that round leaves -/
def sp_rnd (S : ms_T) (s : Int) : ms_T := (ai_up S.1 39 (S.1 1), ai_up (ai_up S.2 66 (sp_lot (S.1 1) (S.1 1 - 1).toNat 0 (sp_id (S.2 66) (S.1 1).toNat) s)) 67 (sp_zr (S.2 67) (S.1 1).toNat))
def sp_round (S : ms_T) (s : Int) : Option av_T × ms_T := if S.1 1 = 0 then (some (av_i (-1)), S) else (some (av_i (sp_turn (sp_rnd S s))), sp_rnd S s)
theorem sp_rnd_perm {S : ms_T} (hf : 1 ≤ S.1 1) (s : Int) : iv_perm (S.1 1) ((sp_rnd S s).2 66) := by
  have e : (sp_rnd S s).2 66 = sp_lot (S.1 1) (S.1 1 - 1).toNat 0 (sp_id (S.2 66) (S.1 1).toNat) s := by simp [sp_rnd, ai_up]
  rw [e]
  refine sp_lot_perm _ _ _ _ (by omega) ⟨fun j hj => ?_, fun a b ha hb hab => ?_⟩
  · rw [sp_id_at _ _ _ (by omega)]; omega
  · rw [sp_id_at _ _ _ (by omega), sp_id_at _ _ _ (by omega)] at hab; omega
theorem sp_rnd_ord {S : ms_T} (hf : 1 ≤ S.1 1 ∧ S.1 1 ≤ 10) (ho : iv_ord S) (s : Int) : iv_ord (sp_rnd S s) := by
  have hp := sp_rnd_perm hf.1 s
  refine ⟨?_, fun i hi => ?_, fun i => ?_⟩
  · simp only [sp_rnd, ai_up_s]; omega
  · have : (i : Int) < S.1 1 := by simpa [sp_rnd, ai_up] using hi
    have := hp.1 i this
    omega
  · have e : (sp_rnd S s).2 67 = sp_zr (S.2 67) (S.1 1).toNat := by simp [sp_rnd, ai_up]
    rw [e]
    exact sp_zr_b _ ho.2.2 _ _
def sp_r1 (S : ms_T) (k : Nat) : ms_T := (S.1, ai_up (ai_up S.2 66 (sp_id (S.2 66) k)) 67 (sp_zr (S.2 67) k))
theorem sp_r1_s (S : ms_T) (k : Nat) : ((S.1, ai_up (ai_up (sp_r1 S k).2 66 (ai_up ((sp_r1 S k).2 66) k k)) 67 (ai_up ((ai_up (sp_r1 S k).2 66 (ai_up ((sp_r1 S k).2 66) k k)) 67) k 0)) : ms_T) = sp_r1 S (k + 1) := by
  refine Prod.ext rfl (funext fun a => ?_)
  simp only [sp_r1, sp_id, sp_zr]
  by_cases e : a = 67
  · subst e; simp [ai_up]
  · by_cases e2 : a = 66
    · subst e2; simp [ai_up]
    · simp [ai_up, e, e2]
set_option maxHeartbeats 1000000 in
theorem ml_M_round1 {w : aw_T} {h0 : ah_T} {S : ms_T} {d : Nat} (hf : 1 ≤ S.1 1 ∧ S.1 1 ≤ 10) {s0 s : Int} {P : ap_T} (hX : ∀ h, mo_I h0 h (sp_r1 S (S.1 1).toNat) → aw_W w mm_M_round d P 41 [some (av_r 38), some (av_i (s0)), some (av_i (s)), some (av_i (((S.1 1).toNat : Int))), none, none] [] h 0 0) : ∀ (r k : Nat) (h : ah_T), (k : Int) + r = S.1 1 → mo_I h0 h (sp_r1 S k) → aw_W w mm_M_round d P 13 [some (av_r 38), some (av_i (s0)), some (av_i (s)), some (av_i ((k : Int))), none, none] [] h 0 0 := by
  intro r
  induction r with
  | zero =>
    intro k h hk hM
    have e1 : (sp_r1 S k).1 1 = S.1 1 := rfl
    refine ag_iload_n dd_M_round_13 rfl ?_
    refine ag_aload_n dd_M_round_14 rfl ?_
    refine ag_get dd_M_round_15 fg_M_166 (mr_38 hM) rfl ?_
    refine ag_icmp_ge (tgt := 41) dd_M_round_18 (by decide) (by omega) (by omega) (fun c1 => ?_) (fun c1 => ?_)
    · obtain rfl : k = (S.1 1).toNat := by omega
      exact hX h hM
    · exfalso; omega
  | succ r ih =>
    intro k h hk hM
    have e1 : (sp_r1 S k).1 1 = S.1 1 := rfl
    refine ag_iload_n dd_M_round_13 rfl ?_
    refine ag_aload_n dd_M_round_14 rfl ?_
    refine ag_get dd_M_round_15 fg_M_166 (mr_38 hM) rfl ?_
    refine ag_icmp_ge (tgt := 41) dd_M_round_18 (by decide) (by omega) (by omega) (fun c1 => ?_) (fun c1 => ?_)
    · exfalso; omega
    · refine ag_aload_n dd_M_round_21 rfl ?_
      refine ag_get dd_M_round_22 fg_M_110 (mr_38 hM) rfl ?_
      refine ag_iload_n dd_M_round_25 rfl ?_
      refine ag_iload_n dd_M_round_26 rfl ?_
      refine ms_66N dd_M_round_27 hM (by omega) (fun h S2 eS2 hM => ?_)
      refine ag_aload_n dd_M_round_28 rfl ?_
      refine ag_get dd_M_round_29 fg_M_113 (mr_38 hM) rfl ?_
      refine ag_iload_n dd_M_round_32 rfl ?_
      refine ag_iconst dd_M_round_33 ?_
      refine ms_67N dd_M_round_34 hM (by omega) (by first | exact Or.inl rfl | exact Or.inr rfl | omega) (fun h S3 eS3 hM => ?_)
      refine ag_iincN (Lf := fun y => [some (av_r 38), some (av_i (s0)), some (av_i (s)), some (av_i (y)), none, none]) dd_M_round_35 rfl (fun _ => rfl) rfl (by decide) (fun y4 ey4 => ?_)
      refine ag_goto (tgt := 13) dd_M_round_38 (by decide) ?_
      obtain rfl : y4 = ((k + 1 : Nat) : Int) := by omega
      have eS : S3 = sp_r1 S (k + 1) := by subst_vars; exact sp_r1_s S k
      rw [eS] at hM
      exact ih (k + 1) h (by omega) hM
def sp_r2 (S : ms_T) (g : Nat → Int) : ms_T := (S.1, ai_up (ai_up S.2 66 g) 67 (sp_zr (S.2 67) (S.1 1).toNat))
theorem sp_r2_s (S : ms_T) (g : Nat → Int) (i k : Nat) (x y : Int) : ((S.1, ai_up (ai_up (sp_r2 S g).2 66 (ai_up ((sp_r2 S g).2 66) i x)) 66 (ai_up ((ai_up (sp_r2 S g).2 66 (ai_up ((sp_r2 S g).2 66) i x)) 66) k y)) : ms_T) = sp_r2 S (ai_up (ai_up g i x) k y) := by
  refine Prod.ext rfl (funext fun a => ?_)
  simp only [sp_r2]
  by_cases e : a = 67
  · subst e; simp [ai_up]
  · by_cases e2 : a = 66
    · subst e2
      simp [ai_up]
    · simp [ai_up, e, e2]
set_option maxHeartbeats 1000000 in
theorem ml_M_round2 {w : aw_T} {h0 : ah_T} {S : ms_T} {d : Nat} (hf : 1 ≤ S.1 1 ∧ S.1 1 ≤ 10) {s0 : Int} {P : ap_T} {gE : Nat → Int} (hX : ∀ h, mo_I h0 h (sp_r2 S gE) → aw_W w mm_M_round d P 113 [some (av_r 38), none, none, none, none, none] [] h 0 0) : ∀ (r k : Nat) (s : Int) (g : Nat → Int) (h : ah_T), (k : Int) + r = S.1 1 - 1 → mo_I h0 h (sp_r2 S g) → sp_lot (S.1 1) r k g s = gE → aw_W w mm_M_round d P 43 [some (av_r 38), some (av_i (s0)), some (av_i (s)), some (av_i ((k : Int))), none, none] [] h 0 0 := by
  intro r
  induction r with
  | zero =>
    intro k s g h hk hM hg
    have e1 : (sp_r2 S g).1 1 = S.1 1 := rfl
    have e66 : (sp_r2 S g).2 66 = g := by simp [sp_r2, ai_up]
    refine ag_iload_n dd_M_round_43 rfl ?_
    refine ag_aload_n dd_M_round_44 rfl ?_
    refine ag_get dd_M_round_45 fg_M_166 (mr_38 hM) rfl ?_
    refine ag_iconst dd_M_round_48 ?_
    refine ag_isub dd_M_round_49 ?_
    refine ag_icmp_ge (tgt := 113) dd_M_round_50 (by decide) (by omega) (by omega) (fun c1 => ?_) (fun c1 => ?_)
    · refine ag_weak [some (av_r 38), none, none, none, none, none] (by simp [al_le]) (hX h ?_)
      rw [sp_lot] at hg
      rw [← hg]
      exact hM
    · exfalso; omega
  | succ r ih =>
    intro k s g h hk hM hg
    have e1 : (sp_r2 S g).1 1 = S.1 1 := rfl
    have e66 : (sp_r2 S g).2 66 = g := by simp [sp_r2, ai_up]
    refine ag_iload_n dd_M_round_43 rfl ?_
    refine ag_aload_n dd_M_round_44 rfl ?_
    refine ag_get dd_M_round_45 fg_M_166 (mr_38 hM) rfl ?_
    refine ag_iconst dd_M_round_48 ?_
    refine ag_isub dd_M_round_49 ?_
    refine ag_icmp_ge (tgt := 113) dd_M_round_50 (by decide) (by omega) (by omega) (fun c1 => ?_) (fun c1 => ?_)
    · exfalso; omega
    · refine ag_iload_n dd_M_round_53 rfl ?_
      refine ag_ldc (a := 1103515245) dd_M_round_54 fc_M_175 (by decide +kernel) ?_
      refine ag_imul dd_M_round_56 ?_
      refine ag_sipush dd_M_round_57 (by decide +kernel) ?_
      refine ag_iadd dd_M_round_60 ?_
      refine ag_istore_nN (Lf := fun y => [some (av_r 38), some (av_i (s0)), some (av_i (y)), some (av_i ((k : Int))), none, none]) dd_M_round_61 (fun _ => rfl) rfl (by decide) (fun y2 ey2 => ?_)
      have hlk := sp_lk_b (m := S.1 1) (i := k) (by omega) y2
      have hu := sp_u16_b y2
      refine ag_iload_n dd_M_round_62 rfl ?_
      refine ag_iload_n dd_M_round_63 rfl ?_
      refine ag_bipush dd_M_round_64 (by decide +kernel) ?_
      refine ag_iushr dd_M_round_66 ?_
      refine ag_aload_n dd_M_round_67 rfl ?_
      refine ag_get dd_M_round_68 fg_M_166 (mr_38 hM) rfl ?_
      refine ag_iload_n dd_M_round_71 rfl ?_
      refine ag_isub dd_M_round_72 ?_
      refine ag_irem dd_M_round_73 (by first | exact ⟨by have := hu; unfold sp_u16 at this; omega, by have := hu; unfold sp_u16 at this; omega⟩ | omega) (by first | exact ⟨by have := hu; unfold sp_u16 at this; omega, by have := hu; unfold sp_u16 at this; omega⟩ | omega) (by omega) ?_
      refine ag_iadd dd_M_round_74 ?_
      refine ag_istoreN (Lf := fun y => [some (av_r 38), some (av_i (s0)), some (av_i (y2)), some (av_i ((k : Int))), some (av_i (y)), none]) dd_M_round_75 (fun _ => rfl) rfl (by decide) (fun y3 ey3 => ?_)
      obtain rfl : y3 = ((sp_lk (S.1 1) k y2 : Nat) : Int) := by rw [hlk.2.2, ey3]; rfl
      refine ag_aload_n dd_M_round_77 rfl ?_
      refine ag_get dd_M_round_78 fg_M_110 (mr_38 hM) rfl ?_
      refine ag_iload_n dd_M_round_81 rfl ?_
      refine ag_ialdN dd_M_round_82 (mr_66 hM) (by decide) (by omega) ?_
      refine ag_istoreN (Lf := fun y => [some (av_r 38), some (av_i (s0)), some (av_i (y2)), some (av_i ((k : Int))), some (av_i ((sp_lk (S.1 1) k y2 : Int))), some (av_i (y))]) dd_M_round_83 (fun _ => rfl) rfl (by decide) (fun y4 ey4 => ?_)
      refine ag_aload_n dd_M_round_85 rfl ?_
      refine ag_get dd_M_round_86 fg_M_110 (mr_38 hM) rfl ?_
      refine ag_iload_n dd_M_round_89 rfl ?_
      refine ag_aload_n dd_M_round_90 rfl ?_
      refine ag_get dd_M_round_91 fg_M_110 (mr_38 hM) rfl ?_
      refine ag_iload dd_M_round_94 rfl ?_
      refine ag_ialdN dd_M_round_96 (mr_66 hM) (by decide) (by omega) ?_
      refine ms_66N dd_M_round_97 hM (by omega) (fun h S5 eS5 hM => ?_)
      refine ag_aload_n dd_M_round_98 rfl ?_
      refine ag_get dd_M_round_99 fg_M_110 (mr_38 hM) rfl ?_
      refine ag_iload dd_M_round_102 rfl ?_
      refine ag_iload dd_M_round_104 rfl ?_
      refine ms_66N dd_M_round_106 hM (by omega) (fun h S6 eS6 hM => ?_)
      refine ag_iincN (Lf := fun y => [some (av_r 38), some (av_i (s0)), some (av_i (y2)), some (av_i (y)), some (av_i ((sp_lk (S.1 1) k y2 : Int))), some (av_i (y4))]) dd_M_round_107 rfl (fun _ => rfl) rfl (by decide) (fun y7 ey7 => ?_)
      refine ag_goto (tgt := 43) dd_M_round_110 (by decide) ?_
      obtain rfl : y7 = ((k + 1 : Nat) : Int) := by omega
      have eS : S6 = sp_r2 S (ai_up (ai_up g k (g (sp_lk (S.1 1) k y2))) (sp_lk (S.1 1) k y2) (g k)) := by
        subst_vars
        rw [← sp_r2_s]
        simp only [e66]
        rfl
      rw [eS] at hM
      refine ag_weak [some (av_r 38), some (av_i s0), some (av_i y2), some (av_i ((k + 1 : Nat) : Int)), none, none] (by simp [al_le]) ?_
      exact ih (k + 1) y2 _ h (by omega) hM (by rw [← hg, sp_lot]; subst_vars; rfl)
set_option maxHeartbeats 1000000 in
theorem mc_M_round {w : aw_T} {h0 h : ah_T} {S : ms_T} {d : Nat} (hd : 1 ≤ d) (hM : mo_I h0 h S) {s : Int} (hf : 0 ≤ S.1 1 ∧ S.1 1 ≤ 10) (ho : iv_ord S) : am_M w mm_M_round d [av_r 38, av_i s] h 0 0 (mo_P h0 (sp_round S s)) := by
  refine am_intro [some (av_r 38), some (av_i (s)), none, none, none, none] (by decide +kernel) (Nat.le_of_ble_eq_true rfl) rfl ?_
  refine ag_aload_n dd_M_round_0 rfl ?_
  refine ag_get dd_M_round_1 fg_M_166 (mr_38 hM) rfl ?_
  refine ag_if_ne (tgt := 9) dd_M_round_4 (by decide) (by omega) (fun c1 => ?_) (fun c1 => ?_)
  · refine ag_iload_n dd_M_round_9 rfl ?_
    refine ag_istore_n (L' := [some (av_r 38), some (av_i (s)), some (av_i (s)), none, none, none]) dd_M_round_10 rfl rfl (by decide) ?_
    refine ag_iconst dd_M_round_11 ?_
    refine ag_istore_n (L' := [some (av_r 38), some (av_i (s)), some (av_i (s)), some (av_i (0)), none, none]) dd_M_round_12 rfl rfl (by decide) ?_
    have hM0 : mo_I h0 h (sp_r1 S 0) := by
      have e0 : sp_r1 S 0 = S := by
        refine Prod.ext rfl (funext fun a => ?_)
        simp only [sp_r1, sp_id, sp_zr]
        by_cases e : a = 67
        · subst e; simp [ai_up]
        · by_cases e2 : a = 66
          · subst e2; simp [ai_up]
          · simp [ai_up, e, e2]
      rw [e0]; exact hM
    refine ml_M_round1 (s0 := s) (s := s) (by omega) (fun h hM => ?_) (S.1 1).toNat 0 h (by omega) hM0
    refine ag_iconst dd_M_round_41 ?_
    refine ag_istore_n (L' := [some (av_r 38), some (av_i (s)), some (av_i (s)), some (av_i (0)), none, none]) dd_M_round_42 rfl rfl (by decide) ?_
    have hM2 : mo_I h0 h (sp_r2 S (sp_id (S.2 66) (S.1 1).toNat)) := hM
    refine ag_weak [some (av_r 38), some (av_i (s)), some (av_i (s)), some (av_i (0)), none, none] (by simp [al_le]) (ml_M_round2 (by omega) (s0 := s) (fun h hM => ?_) (S.1 1 - 1).toNat 0 s (sp_id (S.2 66) (S.1 1).toNat) h (by omega) hM2 rfl)
    refine ag_aload_n dd_M_round_113 rfl ?_
    refine ag_aload_n dd_M_round_114 rfl ?_
    refine ag_get dd_M_round_115 fg_M_166 (mr_38 hM) rfl ?_
    refine mp_39 dd_M_round_118 fp_M_172 hM (fun h S1 eS1 hM => ?_)
    refine ag_aload_n dd_M_round_121 rfl ?_
    have eS : S1 = sp_rnd S s := by
      subst_vars
      rfl
    rw [eS] at hM
    refine ag_rV dd_M_round_122 fi_M_176 (mr_38 hM) rfl (mc_M_turn (d := 0) (by omega) hM (sp_rnd_ord (by omega) ho s)) rfl rfl (by omega) (Nat.le_of_ble_eq_true rfl) ?_
    refine ag_iret dd_M_round_125 rfl ?_
    unfold sp_round
    rw [if_neg (by omega)]
    exact ⟨rfl, hM⟩
  · refine ag_iconst dd_M_round_7 ?_
    refine ag_iret dd_M_round_8 rfl ?_
    unfold sp_round
    rw [if_pos (by omega)]
    exact ⟨rfl, hM⟩
