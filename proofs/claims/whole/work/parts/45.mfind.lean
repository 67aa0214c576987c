def sp_c (S : ms_T) (f : Nat) : Int := S.1 0 + (S.2 41 f + S.1 5 - 1).tdiv (S.1 5)
def sp_wa (S : ms_T) (f : Nat) : Int := sp_c S f + sp_trip (S.2 42 f)
def sp_wd (S : ms_T) (f : Nat) : Int := sp_c S f + (if 0 ≤ S.2 49 f then 12 else 24)
def sp_wb (S : ms_T) (f : Nat) : Int := S.2 41 f * sp_swt S f (sp_c S f)
/-- only the scratch rows 73 to 76 and the field 63 differ -/
def sp_scr (S S1 : ms_T) : Prop := (∀ k, k ≠ 63 → S1.1 k = S.1 k) ∧ ∀ a, a < 73 → S1.2 a = S.2 a
def sp_fw (S S1 : ms_T) (n : Nat) : Prop := sp_scr S S1 ∧ ∀ f : Nat, f < n → S1.2 73 f = sp_wa S f ∧ S1.2 74 f = sp_wd S f ∧ S1.2 75 f = sp_wb S f
/-- how many fields of p are below k, and what they are worth -/
def sp_pc (p : Nat) : Nat → Int
  | 0 => 0
  | k + 1 => sp_pc p k + (if p / 2 ^ k % 2 = 1 then 1 else 0)
def sp_pw (b : Nat → Int) (p : Nat) : Nat → Int
  | 0 => 0
  | k + 1 => sp_pw b p k + (if p / 2 ^ k % 2 = 1 then b k else 0)
/-- the best of the parts 1 .. k of the set p, and its worth -/
def sp_bst (S : ms_T) (p : Nat) (g : Int) : Nat → Nat × Int
  | 0 => (0, 0)
  | k + 1 => if (k + 1) &&& p = k + 1 ∧ sp_pc (k + 1) (S.1 2).toNat ≤ g ∧ (sp_bst S p g k).2 < sp_pw (sp_wb S) (k + 1) (S.1 2).toNat ∧ sp_can (sp_wa S) (sp_wd S) (S.2 41) (S.1 2).toNat (S.1 7) (k + 1) = true then (k + 1, sp_pw (sp_wb S) (k + 1) (S.1 2).toNat) else sp_bst S p g k
theorem sp_c_b {S : ms_T} {f : Nat} (h41 : 1 ≤ S.2 41 f ∧ S.2 41 f ≤ 200) (h5 : 1 ≤ S.1 5 ∧ S.1 5 ≤ 20) : S.1 0 ≤ sp_c S f ∧ sp_c S f ≤ S.1 0 + 219 := by
  have := sp_td (a := S.2 41 f + S.1 5 - 1) (b := S.1 5) (by omega) (by omega)
  unfold sp_c
  omega
theorem sp_wb_b {S : ms_T} {f : Nat} (h : iv_f S f) : 0 ≤ sp_wb S f ∧ sp_wb S f ≤ 6000 := by
  have hs := sp_swt_b (t := sp_c S f) h
  obtain ⟨-, h41, -⟩ := h
  unfold sp_wb
  have h1 : 0 ≤ S.2 41 f * sp_swt S f (sp_c S f) := Int.mul_nonneg (by omega) (by omega)
  have h2 : S.2 41 f * sp_swt S f (sp_c S f) ≤ 200 * 30 := Int.mul_le_mul (by omega) (by omega) (by omega) (by omega)
  omega
theorem sp_pc_b (p : Nat) : ∀ k, 0 ≤ sp_pc p k ∧ sp_pc p k ≤ k
  | 0 => by rw [sp_pc]; omega
  | k + 1 => by
    have := sp_pc_b p k
    rw [sp_pc]
    split <;> omega
theorem sp_pw_b {b : Nat → Int} (p : Nat) : ∀ k, (∀ f, f < k → 0 ≤ b f ∧ b f ≤ 6000) → 0 ≤ sp_pw b p k ∧ sp_pw b p k ≤ 6000 * k
  | 0, _ => by rw [sp_pw]; omega
  | k + 1, h => by
    have := sp_pw_b p k (fun f hf => h f (by omega))
    have := h k (by omega)
    rw [sp_pw]
    split <;> omega
theorem sp_bst_b {S : ms_T} {p : Nat} {g : Int} (h : ∀ f, f < (S.1 2).toNat → 0 ≤ sp_wb S f ∧ sp_wb S f ≤ 6000) (h2 : S.1 2 ≤ 16) : ∀ k, (sp_bst S p g k).1 ≤ k ∧ 0 ≤ (sp_bst S p g k).2 ∧ (sp_bst S p g k).2 ≤ 96000
  | 0 => by rw [sp_bst]; simp
  | k + 1 => by
    have := sp_bst_b (p := p) (g := g) h h2 k
    have := sp_pw_b (b := sp_wb S) (k + 1) (S.1 2).toNat h
    rw [sp_bst]
    split
    · exact ⟨Nat.le_refl _, by show 0 ≤ sp_pw _ _ _; omega, by show sp_pw _ _ _ ≤ 96000; omega⟩
    · omega
theorem sp_sub_z {x y : Nat} (hx : x < 65536) (hy : y < 65536) : (Int32.ofInt (x : Int) &&& Int32.ofInt (Int32.ofInt (y : Int) ^^^ Int32.ofInt (-1)).toInt).toInt = 0 ↔ x &&& y = x := by
  rw [Int32.ofInt_toInt]
  have hz : ∀ z : Int32, z.toInt = 0 ↔ z.toBitVec = 0#32 := fun z => by
    constructor
    · intro h
      have : z = Int32.ofInt 0 := by rw [← h, Int32.ofInt_toInt]
      rw [this]; rfl
    · intro h
      show z.toBitVec.toInt = 0
      rw [h]; rfl
  rw [hz]
  have e1 : (Int32.ofInt (x : Int)).toBitVec = BitVec.ofNat 32 x := by rw [sp_ofN]; rfl
  have e2 : (Int32.ofInt (y : Int)).toBitVec = BitVec.ofNat 32 y := by rw [sp_ofN]; rfl
  have e3 : (Int32.ofInt (x : Int) &&& (Int32.ofInt (y : Int) ^^^ Int32.ofInt (-1))).toBitVec = BitVec.ofNat 32 x &&& ~~~ BitVec.ofNat 32 y := by
    rw [Int32.toBitVec_and, Int32.toBitVec_xor, e1, e2]
    have : (Int32.ofInt (-1)).toBitVec = BitVec.allOnes 32 := by decide +kernel
    rw [this, BitVec.xor_allOnes]
  rw [e3]
  constructor
  · intro h
    refine Nat.eq_of_testBit_eq (fun i => ?_)
    rw [Nat.testBit_and]
    cases hxi : x.testBit i with
    | false => rfl
    | true =>
      have hi : i < 32 := by
        refine Nat.lt_of_not_le (fun q => ?_)
        have hlt : x < 2 ^ i := Nat.lt_of_lt_of_le (show x < 2 ^ 32 by omega) (Nat.pow_le_pow_right (by decide) q)
        rw [Nat.testBit_lt_two_pow hlt] at hxi
        cases hxi
      have := congrArg (fun z => BitVec.getLsbD z i) h
      simp only [BitVec.getLsbD_and, BitVec.getLsbD_not, BitVec.getLsbD_ofNat, BitVec.getLsbD_zero, hi, hxi, decide_true, Bool.true_and, Nat.zero_testBit] at this
      revert this
      cases y.testBit i <;> simp
  · intro h
    refine BitVec.eq_of_getLsbD_eq (fun i hi => ?_)
    have := congrArg (fun z => Nat.testBit z i) h
    simp only [Nat.testBit_and] at this
    simp only [BitVec.getLsbD_and, BitVec.getLsbD_not, BitVec.getLsbD_ofNat, BitVec.getLsbD_zero, hi, decide_true, Bool.true_and]
    revert this
    cases x.testBit i <;> cases y.testBit i <;> simp
theorem iv_sw_cg {S S1 : ms_T} {f : Nat} (h : ∀ a, a < 73 → S1.2 a = S.2 a) (hs : iv_sw S f) : iv_sw S1 f := by
  unfold iv_sw at *
  rw [h 43 (by decide), h 44 (by decide), h 45 (by decide), h 49 (by decide), h 50 (by decide)]
  exact hs
theorem sp_swt_cg {S S1 : ms_T} {f : Nat} {t : Int} (h : ∀ a, a < 73 → S1.2 a = S.2 a) : sp_swt S1 f t = sp_swt S f t := by
  unfold sp_swt
  rw [h 43 (by decide), h 44 (by decide), h 45 (by decide), h 49 (by decide), h 50 (by decide)]
/-- the three rows' next place -/
def sp_w3 (S1 : ms_T) (k : Nat) (x y z : Int) : ms_T := (S1.1, ai_up (ai_up (ai_up S1.2 73 (ai_up (S1.2 73) k x)) 74 (ai_up (S1.2 74) k y)) 75 (ai_up (S1.2 75) k z))
theorem sp_w3_fw {S S1 : ms_T} {k : Nat} {x y z : Int} (h : sp_fw S S1 k) (hx : x = sp_wa S k) (hy : y = sp_wd S k) (hz : z = sp_wb S k) : sp_fw S (sp_w3 S1 k x y z) (k + 1) := by
  refine ⟨⟨fun j hj => h.1.1 j hj, fun a ha => ?_⟩, fun f hf => ?_⟩
  · show ai_up (ai_up (ai_up S1.2 73 _) 74 _) 75 _ a = _
    rw [ai_up_n _ _ (by omega), ai_up_n _ _ (by omega), ai_up_n _ _ (by omega)]
    exact h.1.2 a ha
  · have e73 : (sp_w3 S1 k x y z).2 73 = ai_up (S1.2 73) k x := rfl
    have e74 : (sp_w3 S1 k x y z).2 74 = ai_up (S1.2 74) k y := rfl
    have e75 : (sp_w3 S1 k x y z).2 75 = ai_up (S1.2 75) k z := rfl
    rw [e73, e74, e75]
    by_cases q : f = k
    · subst q
      rw [ai_up_s, ai_up_s, ai_up_s]
      exact ⟨hx, hy, hz⟩
    · rw [ai_up_n _ _ q, ai_up_n _ _ q, ai_up_n _ _ q]
      exact h.2 f (by omega)
set_option maxHeartbeats 1000000 in
theorem ml_M_find1 {w : aw_T} {h0 : ah_T} {S : ms_T} {d : Nat} (hd : 1 ≤ d) (hI : iv_S S) {p : Nat} {g : Int} {P : ap_T} (hX : ∀ (S1 : ms_T) (h : ah_T), sp_fw S S1 (S.1 2).toNat → mo_I h0 h S1 → aw_W w mm_M_find d P 104 [some (av_r 38), some (av_i ((p : Int))), some (av_i (g)), none, none, none, none, none] [] h 0 0) : ∀ (r k : Nat) (S1 : ms_T) (h : ah_T), (k : Int) + r = S.1 2 → sp_fw S S1 k → mo_I h0 h S1 → aw_W w mm_M_find d P 2 [some (av_r 38), some (av_i ((p : Int))), some (av_i (g)), some (av_i ((k : Int))), none, none, none, none] [] h 0 0 := by
  intro r
  induction r with
  | zero =>
    intro k S1 h hk hS hM
    have a0 := hI.1.1
    have a2 := hI.1.2.2.1
    have a5 := hI.1.2.2.2.2.2.1
    have v0 : S1.1 0 = S.1 0 := hS.1.1 0 (by decide)
    have v2 : S1.1 2 = S.1 2 := hS.1.1 2 (by decide)
    have v5 : S1.1 5 = S.1 5 := hS.1.1 5 (by decide)
    refine ag_iload_n dd_M_find_2 rfl ?_
    refine ag_aload_n dd_M_find_3 rfl ?_
    refine ag_get dd_M_find_4 fg_M_152 (mr_38 hM) rfl ?_
    refine ag_icmp_ge (tgt := 104) dd_M_find_7 (by decide) (by omega) (by omega) (fun c1 => ?_) (fun c1 => ?_)
    · obtain rfl : k = (S.1 2).toNat := by omega
      exact ag_weak [some (av_r 38), some (av_i ((p : Int))), some (av_i (g)), none, none, none, none, none] (by simp [al_le]) (hX S1 h hS hM)
    · exfalso; omega
  | succ r ih =>
    intro k S1 h hk hS hM
    have a0 := hI.1.1
    have a2 := hI.1.2.2.1
    have a5 := hI.1.2.2.2.2.2.1
    have v0 : S1.1 0 = S.1 0 := hS.1.1 0 (by decide)
    have v2 : S1.1 2 = S.1 2 := hS.1.1 2 (by decide)
    have v5 : S1.1 5 = S.1 5 := hS.1.1 5 (by decide)
    refine ag_iload_n dd_M_find_2 rfl ?_
    refine ag_aload_n dd_M_find_3 rfl ?_
    refine ag_get dd_M_find_4 fg_M_152 (mr_38 hM) rfl ?_
    refine ag_icmp_ge (tgt := 104) dd_M_find_7 (by decide) (by omega) (by omega) (fun c1 => ?_) (fun c1 => ?_)
    · exfalso; omega
    · obtain ⟨hfk, hgk⟩ := hI.2.1 k (by omega)
      obtain ⟨-, h41, h42, h43, h44, h45, h46, h47, h48, h49, h50, h51⟩ := hfk
      have u41 : S1.2 41 k = S.2 41 k := by rw [hS.1.2 41 (by decide)]
      have u42 : S1.2 42 k = S.2 42 k := by rw [hS.1.2 42 (by decide)]
      have u49 : S1.2 49 k = S.2 49 k := by rw [hS.1.2 49 (by decide)]
      refine ag_aload_n dd_M_find_10 rfl ?_
      refine ag_get dd_M_find_11 fg_M_159 (mr_38 hM) rfl ?_
      refine ag_aload_n dd_M_find_14 rfl ?_
      refine ag_get dd_M_find_15 fg_M_30 (mr_38 hM) rfl ?_
      refine ag_iload_n dd_M_find_18 rfl ?_
      refine ag_ialdN dd_M_find_19 (mr_41 hM) (by decide) (by omega) ?_
      refine ag_aload_n dd_M_find_20 rfl ?_
      refine ag_get dd_M_find_21 fg_M_13 (mr_38 hM) rfl ?_
      refine ag_iadd dd_M_find_24 ?_
      refine ag_iconst dd_M_find_25 ?_
      refine ag_isub dd_M_find_26 ?_
      refine ag_aload_n dd_M_find_27 rfl ?_
      refine ag_get dd_M_find_28 fg_M_13 (mr_38 hM) rfl ?_
      refine ag_idiv dd_M_find_31 (by omega) (by omega) (by omega) ?_
      refine ag_iadd dd_M_find_32 ?_
      have hcb := sp_c_b (S := S) (f := k) (by omega) (by omega)
      have ec : ((S1.1 0) + (((((S1.2 41 k) + (S1.1 5)) - 1)).tdiv ((S1.1 5)))) = sp_c S k := by
        unfold sp_c
        rw [v0, u41, v5]
      refine ag_to ec ?_
      refine ag_istoreN (Lf := fun y => [some (av_r 38), some (av_i ((p : Int))), some (av_i (g)), some (av_i ((k : Int))), some (av_i (y)), none, none, none]) dd_M_find_33 (fun _ => rfl) rfl (by decide) (fun y2 ey2 => ?_)
      refine ag_aload_n dd_M_find_35 rfl ?_
      refine ag_get dd_M_find_36 fg_M_137 (mr_38 hM) rfl ?_
      refine ag_iload_n dd_M_find_39 rfl ?_
      refine ag_iload dd_M_find_40 rfl ?_
      refine ag_aload_n dd_M_find_42 rfl ?_
      refine ag_get dd_M_find_43 fg_M_33 (mr_38 hM) rfl ?_
      refine ag_iload_n dd_M_find_46 rfl ?_
      refine ag_ialdN dd_M_find_47 (mr_42 hM) (by decide) (by omega) ?_
      refine ag_rS dd_M_find_48 fi_M_195 (mc_M_trip (d := 0) (by rw [show (S1.2 42 k) = S.2 42 k from by subst_vars; first | exact u42 | (show S1.2 42 k = _; exact u42)]; omega)) rfl rfl (by omega) (Nat.le_of_ble_eq_true rfl) ?_
      refine ag_iadd dd_M_find_51 ?_
      refine ms_73N dd_M_find_52 hM (by omega) (fun h S3 eS3 hM => ?_)
      refine ag_aload_n dd_M_find_53 rfl ?_
      refine ag_get dd_M_find_54 fg_M_140 (mr_38 hM) rfl ?_
      refine ag_iload_n dd_M_find_57 rfl ?_
      refine ag_iload dd_M_find_58 rfl ?_
      refine ag_aload_n dd_M_find_60 rfl ?_
      refine ag_get dd_M_find_61 fg_M_54 (mr_38 hM) rfl ?_
      refine ag_iload_n dd_M_find_64 rfl ?_
      refine ag_ialdN dd_M_find_65 (mr_49 hM) (by decide) (by omega) ?_
      have w49 : (S3.2 49 k) = S.2 49 k := by
        subst_vars
        exact u49
      refine ag_if_lt (tgt := 74) dd_M_find_66 (by decide) (by omega) (fun c4 => ?_) (fun c4 => ?_)
      · refine ag_bipush dd_M_find_74 (by decide +kernel) ?_
        refine ag_iadd dd_M_find_76 ?_
        refine ms_74N dd_M_find_77 hM (by omega) (fun h S5 eS5 hM => ?_)
        refine ag_aload_n dd_M_find_78 rfl ?_
        refine ag_get dd_M_find_79 fg_M_143 (mr_38 hM) rfl ?_
        refine ag_iload_n dd_M_find_82 rfl ?_
        have hS2 : ∀ a, a < 73 → S5.2 a = S.2 a := fun a ha => by
          rw [show S5 = (S1.1, ai_up (ai_up S1.2 73 _) 74 _) from by subst_vars; rfl]
          show ai_up (ai_up S1.2 73 _) 74 _ a = _
          rw [ai_up_n _ _ (by omega), ai_up_n _ _ (by omega)]
          exact hS.1.2 a ha
        refine ag_aload_n dd_M_find_83 rfl ?_
        refine ag_get dd_M_find_84 fg_M_30 (mr_38 hM) rfl ?_
        refine ag_iload_n dd_M_find_87 rfl ?_
        refine ag_ialdN dd_M_find_88 (mr_41 hM) (by decide) (by omega) ?_
        refine ag_aload_n dd_M_find_89 rfl ?_
        refine ag_iload_n dd_M_find_90 rfl ?_
        refine ag_iload dd_M_find_91 rfl ?_
        have hsw := iv_sw_cg hS2 (hI.2.1 k (by omega)).1.sw
        refine ag_rV dd_M_find_93 fi_M_187 (mr_38 hM) rfl (mc_M_sweetAt (d := 0) (by omega) hM (by omega) hsw (t := y2) (by omega)) rfl rfl (by omega) (Nat.le_of_ble_eq_true rfl) ?_
        refine ag_imul dd_M_find_96 ?_
        refine ms_75N dd_M_find_97 hM (by omega) (fun h S6 eS6 hM => ?_)
        refine ag_iincN (Lf := fun y => [some (av_r 38), some (av_i ((p : Int))), some (av_i (g)), some (av_i (y)), some (av_i (y2)), none, none, none]) dd_M_find_98 rfl (fun _ => rfl) rfl (by decide) (fun y7 ey7 => ?_)
        refine ag_goto (tgt := 2) dd_M_find_101 (by decide) ?_
        obtain rfl : y7 = ((k + 1 : Nat) : Int) := by omega
        have htr : sp_trip (S1.2 42 k) = sp_trip (S.2 42 k) := by rw [u42]
        have hsx := sp_swt_cg (S := S) (f := k) (t := sp_c S k) hS2
        refine ag_weak [some (av_r 38), some (av_i ((p : Int))), some (av_i (g)), some (av_i (((k + 1 : Nat) : Int))), none, none, none, none] (by simp [al_le]) (ih (k + 1) S6 h (by omega) ?_ hM)
        subst_vars
        refine sp_w3_fw hS ?_ ?_ ?_
        · rw [htr]; rfl
        · unfold sp_wd
          first | rw [if_pos (by omega)] | rw [if_neg (by omega)]
        · unfold sp_wb
          rw [hsx, ← u41]
          rfl
      · refine ag_bipush dd_M_find_69 (by decide +kernel) ?_
        refine ag_goto (tgt := 76) dd_M_find_71 (by decide) ?_
        refine ag_iadd dd_M_find_76 ?_
        refine ms_74N dd_M_find_77 hM (by omega) (fun h S8 eS8 hM => ?_)
        refine ag_aload_n dd_M_find_78 rfl ?_
        refine ag_get dd_M_find_79 fg_M_143 (mr_38 hM) rfl ?_
        refine ag_iload_n dd_M_find_82 rfl ?_
        have hS2 : ∀ a, a < 73 → S8.2 a = S.2 a := fun a ha => by
          rw [show S8 = (S1.1, ai_up (ai_up S1.2 73 _) 74 _) from by subst_vars; rfl]
          show ai_up (ai_up S1.2 73 _) 74 _ a = _
          rw [ai_up_n _ _ (by omega), ai_up_n _ _ (by omega)]
          exact hS.1.2 a ha
        refine ag_aload_n dd_M_find_83 rfl ?_
        refine ag_get dd_M_find_84 fg_M_30 (mr_38 hM) rfl ?_
        refine ag_iload_n dd_M_find_87 rfl ?_
        refine ag_ialdN dd_M_find_88 (mr_41 hM) (by decide) (by omega) ?_
        refine ag_aload_n dd_M_find_89 rfl ?_
        refine ag_iload_n dd_M_find_90 rfl ?_
        refine ag_iload dd_M_find_91 rfl ?_
        have hsw := iv_sw_cg hS2 (hI.2.1 k (by omega)).1.sw
        refine ag_rV dd_M_find_93 fi_M_187 (mr_38 hM) rfl (mc_M_sweetAt (d := 0) (by omega) hM (by omega) hsw (t := y2) (by omega)) rfl rfl (by omega) (Nat.le_of_ble_eq_true rfl) ?_
        refine ag_imul dd_M_find_96 ?_
        refine ms_75N dd_M_find_97 hM (by omega) (fun h S9 eS9 hM => ?_)
        refine ag_iincN (Lf := fun y => [some (av_r 38), some (av_i ((p : Int))), some (av_i (g)), some (av_i (y)), some (av_i (y2)), none, none, none]) dd_M_find_98 rfl (fun _ => rfl) rfl (by decide) (fun y10 ey10 => ?_)
        refine ag_goto (tgt := 2) dd_M_find_101 (by decide) ?_
        obtain rfl : y10 = ((k + 1 : Nat) : Int) := by omega
        have htr : sp_trip (S1.2 42 k) = sp_trip (S.2 42 k) := by rw [u42]
        have hsx := sp_swt_cg (S := S) (f := k) (t := sp_c S k) hS2
        refine ag_weak [some (av_r 38), some (av_i ((p : Int))), some (av_i (g)), some (av_i (((k + 1 : Nat) : Int))), none, none, none, none] (by simp [al_le]) (ih (k + 1) S9 h (by omega) ?_ hM)
        subst_vars
        refine sp_w3_fw hS ?_ ?_ ?_
        · rw [htr]; rfl
        · unfold sp_wd
          first | rw [if_pos (by omega)] | rw [if_neg (by omega)]
        · unfold sp_wb
          rw [hsx, ← u41]
          rfl
set_option maxHeartbeats 1000000 in
theorem ml_M_find3 {w : aw_T} {h0 h : ah_T} {S S1 : ms_T} {d : Nat} (hd : 2 ≤ d) (hI : iv_S S) (hS : sp_fw S S1 (S.1 2).toNat) (hM : mo_I h0 h S1) {p j : Nat} (hj : j < 65536) {g bb : Int} {P : ap_T} (hX : aw_W w mm_M_find d P 184 [some (av_r 38), some (av_i ((p : Int))), some (av_i (g)), some (av_i (bb)), some (av_i ((j : Int))), some (av_i ((sp_pc j (S.1 2).toNat))), some (av_i ((sp_pw (sp_wb S) j (S.1 2).toNat))), none] [] h 0 0) : ∀ (r k : Nat), (k : Int) + r = S.1 2 → aw_W w mm_M_find d P 141 [some (av_r 38), some (av_i ((p : Int))), some (av_i (g)), some (av_i (bb)), some (av_i ((j : Int))), some (av_i ((sp_pc j k))), some (av_i ((sp_pw (sp_wb S) j k))), some (av_i ((k : Int)))] [] h 0 0 := by
  intro r
  induction r with
  | zero =>
    intro k hk
    have a2 := hI.1.2.2.1
    have v2 : S1.1 2 = S.1 2 := hS.1.1 2 (by decide)
    have hpc := sp_pc_b j k
    have hpw := sp_pw_b (b := sp_wb S) j k (fun f hf => sp_wb_b (hI.2.1 f (by omega)).1)
    refine ag_iload dd_M_find_141 rfl ?_
    refine ag_aload_n dd_M_find_143 rfl ?_
    refine ag_get dd_M_find_144 fg_M_152 (mr_38 hM) rfl ?_
    refine ag_icmp_ge (tgt := 184) dd_M_find_147 (by decide) (by omega) (by omega) (fun c1 => ?_) (fun c1 => ?_)
    · obtain rfl : k = (S.1 2).toNat := by omega
      exact ag_weak [some (av_r 38), some (av_i ((p : Int))), some (av_i (g)), some (av_i (bb)), some (av_i ((j : Int))), some (av_i ((sp_pc j (S.1 2).toNat))), some (av_i ((sp_pw (sp_wb S) j (S.1 2).toNat))), none] (by simp [al_le]) hX
    · exfalso; omega
  | succ r ih =>
    intro k hk
    have a2 := hI.1.2.2.1
    have v2 : S1.1 2 = S.1 2 := hS.1.1 2 (by decide)
    have hpc := sp_pc_b j k
    have hpw := sp_pw_b (b := sp_wb S) j k (fun f hf => sp_wb_b (hI.2.1 f (by omega)).1)
    refine ag_iload dd_M_find_141 rfl ?_
    refine ag_aload_n dd_M_find_143 rfl ?_
    refine ag_get dd_M_find_144 fg_M_152 (mr_38 hM) rfl ?_
    refine ag_icmp_ge (tgt := 184) dd_M_find_147 (by decide) (by omega) (by omega) (fun c1 => ?_) (fun c1 => ?_)
    · exfalso; omega
    · have hbt := sp_bt_nat (p := j) (f := k) (by omega) (by omega)
      unfold sp_bt at hbt
      have hwb := sp_wb_b (hI.2.1 k (by omega)).1
      have e75 : S1.2 75 k = sp_wb S k := (hS.2 k (by omega)).2.2
      refine ag_iload dd_M_find_150 rfl ?_
      refine ag_iload dd_M_find_152 rfl ?_
      refine ag_ishr dd_M_find_154 ?_
      refine ag_iconst dd_M_find_155 ?_
      refine ag_iand dd_M_find_156 ?_
      refine ag_to hbt ?_
      refine ag_if_ne (tgt := 163) dd_M_find_157 (by decide) (by omega) (fun c2 => ?_) (fun c2 => ?_)
      · refine ag_iincN (Lf := fun y => [some (av_r 38), some (av_i ((p : Int))), some (av_i (g)), some (av_i (bb)), some (av_i ((j : Int))), some (av_i (y)), some (av_i ((sp_pw (sp_wb S) j k))), some (av_i ((k : Int)))]) dd_M_find_163 rfl (fun _ => rfl) rfl (by decide) (fun y3 ey3 => ?_)
        refine ag_iload dd_M_find_166 rfl ?_
        refine ag_aload_n dd_M_find_168 rfl ?_
        refine ag_get dd_M_find_169 fg_M_143 (mr_38 hM) rfl ?_
        refine ag_iload dd_M_find_172 rfl ?_
        refine ag_ialdN dd_M_find_174 (mr_75 hM) (by decide) (by omega) ?_
        refine ag_iadd dd_M_find_175 ?_
        refine ag_istoreN (Lf := fun y => [some (av_r 38), some (av_i ((p : Int))), some (av_i (g)), some (av_i (bb)), some (av_i ((j : Int))), some (av_i (y3)), some (av_i (y)), some (av_i ((k : Int)))]) dd_M_find_176 (fun _ => rfl) rfl (by decide) (fun y4 ey4 => ?_)
        refine ag_iincN (Lf := fun y => [some (av_r 38), some (av_i ((p : Int))), some (av_i (g)), some (av_i (bb)), some (av_i ((j : Int))), some (av_i (y3)), some (av_i (y4)), some (av_i (y))]) dd_M_find_178 rfl (fun _ => rfl) rfl (by decide) (fun y5 ey5 => ?_)
        refine ag_goto (tgt := 141) dd_M_find_181 (by decide) ?_
        have e5 : y3 = sp_pc j (k + 1) := by
          rw [sp_pc]
          split <;> omega
        have e6 : y4 = sp_pw (sp_wb S) j (k + 1) := by
          rw [sp_pw]
          split <;> omega
        obtain rfl : y5 = ((k + 1 : Nat) : Int) := by omega
        rw [e5, e6]
        exact ih (k + 1) (by omega)
      · refine ag_goto (tgt := 178) dd_M_find_160 (by decide) ?_
        refine ag_iincN (Lf := fun y => [some (av_r 38), some (av_i ((p : Int))), some (av_i (g)), some (av_i (bb)), some (av_i ((j : Int))), some (av_i ((sp_pc j k))), some (av_i ((sp_pw (sp_wb S) j k))), some (av_i (y))]) dd_M_find_178 rfl (fun _ => rfl) rfl (by decide) (fun y6 ey6 => ?_)
        refine ag_goto (tgt := 141) dd_M_find_181 (by decide) ?_
        have e5 : (sp_pc j k) = sp_pc j (k + 1) := by
          rw [sp_pc]
          split <;> omega
        have e6 : (sp_pw (sp_wb S) j k) = sp_pw (sp_wb S) j (k + 1) := by
          rw [sp_pw]
          split <;> omega
        obtain rfl : y6 = ((k + 1 : Nat) : Int) := by omega
        rw [e5, e6]
        exact ih (k + 1) (by omega)
theorem sp_fw_wr {S S1 : ms_T} {n : Nat} (h : sp_fw S S1 n) (r : Nat → Int) : sp_fw S (sp_wr S1 r) n := by
  refine ⟨⟨h.1.1, fun a ha => ?_⟩, h.2⟩
  show ai_up S1.2 76 r a = _
  rw [ai_up_n _ _ (by omega)]
  exact h.1.2 a ha
theorem sp_fw_63 {S S1 : ms_T} {n : Nat} (h : sp_fw S S1 n) (v : Int) : sp_fw S (ai_up S1.1 63 v, S1.2) n := by
  refine ⟨⟨fun k hk => ?_, h.1.2⟩, h.2⟩
  show ai_up S1.1 63 v k = _
  rw [ai_up_n _ _ hk]
  exact h.1.1 k hk
theorem sp_u63 (S : ms_T) (v : Int) : ((ai_up S.1 63 v, S.2) : ms_T).1 63 = v := ai_up_s S.1 63 v
theorem iv_w_fw {S S1 : ms_T} (hI : iv_S S) (h : sp_fw S S1 (S.1 2).toNat) : iv_w S1 := by
  have a0 := hI.1.1
  have a2 := hI.1.2.2.1
  have a5 := hI.1.2.2.2.2.2.1
  have a7 := hI.1.2.2.2.2.2.2.2.1
  have v2 := h.1.1 2 (by decide)
  refine ⟨by rw [v2]; exact a2, by rw [h.1.1 7 (by decide)]; exact a7, fun f hf => ?_⟩
  obtain ⟨e73, e74, -⟩ := h.2 f (by omega)
  obtain ⟨-, h41, h42, -⟩ := (hI.2.1 f (by omega)).1
  have hc := sp_c_b (S := S) (f := f) h41 a5
  have ht := sp_trip_b h42
  rw [h.1.2 41 (by decide), e73, e74]
  unfold sp_wa sp_wd
  refine ⟨h41, by omega, ?_⟩
  split <;> omega
theorem sp_can_fw {S S1 : ms_T} (h : sp_fw S S1 (S.1 2).toNat) (p : Nat) : sp_can (S1.2 73) (S1.2 74) (S1.2 41) (S1.1 2).toNat (S1.1 7) p = sp_can (sp_wa S) (sp_wd S) (S.2 41) (S.1 2).toNat (S.1 7) p := by
  rw [h.1.1 2 (by decide), h.1.1 7 (by decide)]
  exact sp_can_cg (fun f hf => ⟨(h.2 f hf).1, (h.2 f hf).2.1, by rw [h.1.2 41 (by decide)]⟩)
set_option maxHeartbeats 1000000 in
theorem ml_M_find2 {w : aw_T} {h0 : ah_T} {S : ms_T} {d : Nat} (hd : 2 ≤ d) (hI : iv_S S) {p : Nat} (hp : p < 65535 + 1) {g : Int} (hg : 1 ≤ g ∧ g ≤ 9) {P : ap_T} (hP : ∀ (S1 : ms_T) (h : ah_T), sp_fw S S1 (S.1 2).toNat → S1.1 63 = (sp_bst S p g p).2 → mo_I h0 h S1 → P (some (av_i ((sp_bst S p g p).1 : Int))) h) : ∀ (r j : Nat) (S1 : ms_T) (h : ah_T), j + r = p + 1 → 1 ≤ j → sp_fw S S1 (S.1 2).toNat → S1.1 63 = (sp_bst S p g (j - 1)).2 → mo_I h0 h S1 → aw_W w mm_M_find d P 114 [some (av_r 38), some (av_i ((p : Int))), some (av_i (g)), some (av_i (((sp_bst S p g (j - 1)).1 : Int))), some (av_i ((j : Int))), none, none, none] [] h 0 0 := by
  intro r
  induction r with
  | zero =>
    intro j S1 h hj hj1 hS h63 hM
    have a2 := hI.1.2.2.1
    have hbb := sp_bst_b (S := S) (p := p) (g := g) (fun f hf => sp_wb_b (hI.2.1 f (by omega)).1) (by omega) (j - 1)
    refine ag_iload dd_M_find_114 rfl ?_
    refine ag_iload_n dd_M_find_116 rfl ?_
    refine ag_icmp_gt (tgt := 226) dd_M_find_117 (by decide) (by omega) (by omega) (fun c1 => ?_) (fun c1 => ?_)
    · refine ag_iload_n dd_M_find_226 rfl ?_
      refine ag_iret dd_M_find_227 rfl ?_
      obtain rfl : j = p + 1 := by omega
      exact hP S1 h hS h63 hM
    · exfalso; omega
  | succ r ih =>
    intro j S1 h hj hj1 hS h63 hM
    have a2 := hI.1.2.2.1
    have hbb := sp_bst_b (S := S) (p := p) (g := g) (fun f hf => sp_wb_b (hI.2.1 f (by omega)).1) (by omega) (j - 1)
    refine ag_iload dd_M_find_114 rfl ?_
    refine ag_iload_n dd_M_find_116 rfl ?_
    refine ag_icmp_gt (tgt := 226) dd_M_find_117 (by decide) (by omega) (by omega) (fun c1 => ?_) (fun c1 => ?_)
    · exfalso; omega
    · refine ag_iload dd_M_find_120 rfl ?_
      refine ag_iload_n dd_M_find_122 rfl ?_
      refine ag_iconst dd_M_find_123 ?_
      refine ag_ixor dd_M_find_124 ?_
      refine ag_iand dd_M_find_125 ?_
      have hz := sp_sub_z (x := j) (y := p) (by omega) (by omega)
      have hzb : -2147483648 ≤ ((Int32.ofInt ((j : Int)) &&& Int32.ofInt (((Int32.ofInt ((p : Int)) ^^^ Int32.ofInt (-1)).toInt))).toInt) ∧ ((Int32.ofInt ((j : Int)) &&& Int32.ofInt (((Int32.ofInt ((p : Int)) ^^^ Int32.ofInt (-1)).toInt))).toInt) < 2147483648 := ⟨Int32.le_toInt _, Int32.toInt_lt _⟩
      generalize ((Int32.ofInt ((j : Int)) &&& Int32.ofInt (((Int32.ofInt ((p : Int)) ^^^ Int32.ofInt (-1)).toInt))).toInt) = z at hz hzb ⊢
      refine ag_if_eq (tgt := 132) dd_M_find_126 (by decide) (by omega) (fun c2 => ?_) (fun c2 => ?_)
      · refine ag_iconst dd_M_find_132 ?_
        refine ag_istore (L' := [some (av_r 38), some (av_i ((p : Int))), some (av_i (g)), some (av_i (((sp_bst S p g (j - 1)).1 : Int))), some (av_i ((j : Int))), some (av_i (0)), none, none]) dd_M_find_133 rfl rfl (by decide) ?_
        refine ag_iconst dd_M_find_135 ?_
        refine ag_istore (L' := [some (av_r 38), some (av_i ((p : Int))), some (av_i (g)), some (av_i (((sp_bst S p g (j - 1)).1 : Int))), some (av_i ((j : Int))), some (av_i (0)), some (av_i (0)), none]) dd_M_find_136 rfl rfl (by decide) ?_
        refine ag_iconst dd_M_find_138 ?_
        refine ag_istore (L' := [some (av_r 38), some (av_i ((p : Int))), some (av_i (g)), some (av_i (((sp_bst S p g (j - 1)).1 : Int))), some (av_i ((j : Int))), some (av_i (0)), some (av_i (0)), some (av_i (0))]) dd_M_find_139 rfl rfl (by decide) ?_
        refine ag_weak [some (av_r 38), some (av_i ((p : Int))), some (av_i (g)), some (av_i (((sp_bst S p g (j - 1)).1 : Int))), some (av_i ((j : Int))), some (av_i ((sp_pc j 0))), some (av_i ((sp_pw (sp_wb S) j 0))), some (av_i (((0 : Nat) : Int)))] (by simp [al_le, sp_pc, sp_pw]) ?_
        refine ml_M_find3 (S := S) (by omega) hI hS hM (by omega) ?_ (S.1 2).toNat 0 (by omega)
        have v2 := hS.1.1 2 (by decide)
        have hpc := sp_pc_b j (S.1 2).toNat
        have hpw := sp_pw_b (b := sp_wb S) j (S.1 2).toNat (fun f hf => sp_wb_b (hI.2.1 f (by omega)).1)
        refine ag_iload dd_M_find_184 rfl ?_
        refine ag_iload_n dd_M_find_186 rfl ?_
        refine ag_icmp_gt (tgt := 220) dd_M_find_187 (by decide) (by omega) (by omega) (fun c3 => ?_) (fun c3 => ?_)
        · refine ag_iincN (Lf := fun y => [some (av_r 38), some (av_i ((p : Int))), some (av_i (g)), some (av_i (((sp_bst S p g (j - 1)).1 : Int))), some (av_i (y)), some (av_i ((sp_pc j (S.1 2).toNat))), some (av_i ((sp_pw (sp_wb S) j (S.1 2).toNat))), none]) dd_M_find_220 rfl (fun _ => rfl) rfl (by decide) (fun y4 ey4 => ?_)
          refine ag_goto (tgt := 114) dd_M_find_223 (by decide) ?_
          have ebst : sp_bst S p g j = sp_bst S p g (j - 1) := by
            obtain ⟨k, rfl⟩ : ∃ k, j = k + 1 := ⟨j - 1, by omega⟩
            rw [Nat.add_sub_cancel] at *
            rw [sp_bst, if_neg]
            intro q
            first | exact absurd q.1 (by omega) | exact absurd q.2.1 (by omega) | exact absurd q.2.2.1 (by omega) | exact absurd q.2.2.2 (by assumption)
          have h63b : S1.1 63 = (sp_bst S p g j).2 := by
            rw [ebst]
            exact h63
          have hSb := hS
          obtain rfl : y4 = ((j + 1 : Nat) : Int) := by omega
          have ebb : (((sp_bst S p g (j - 1)).1 : Nat) : Int) = ((sp_bst S p g (j + 1 - 1)).1 : Int) := by rw [Nat.add_sub_cancel, ebst]
          refine ag_weak [some (av_r 38), some (av_i ((p : Int))), some (av_i (g)), some (av_i ((((sp_bst S p g (j - 1)).1 : Nat) : Int))), some (av_i (((j + 1 : Nat) : Int))), none, none, none] (by simp [al_le]) ?_
          rw [ebb]
          exact ih (j + 1) S1 h (by omega) (by omega) hSb (by rw [Nat.add_sub_cancel]; exact h63b) hM
        · refine ag_iload dd_M_find_190 rfl ?_
          refine ag_aload_n dd_M_find_192 rfl ?_
          refine ag_get dd_M_find_193 fg_M_326 (mr_38 hM) rfl ?_
          refine ag_icmp_le (tgt := 220) dd_M_find_196 (by decide) (by omega) (by omega) (fun c5 => ?_) (fun c5 => ?_)
          · refine ag_iincN (Lf := fun y => [some (av_r 38), some (av_i ((p : Int))), some (av_i (g)), some (av_i (((sp_bst S p g (j - 1)).1 : Int))), some (av_i (y)), some (av_i ((sp_pc j (S.1 2).toNat))), some (av_i ((sp_pw (sp_wb S) j (S.1 2).toNat))), none]) dd_M_find_220 rfl (fun _ => rfl) rfl (by decide) (fun y6 ey6 => ?_)
            refine ag_goto (tgt := 114) dd_M_find_223 (by decide) ?_
            have ebst : sp_bst S p g j = sp_bst S p g (j - 1) := by
              obtain ⟨k, rfl⟩ : ∃ k, j = k + 1 := ⟨j - 1, by omega⟩
              rw [Nat.add_sub_cancel] at *
              rw [sp_bst, if_neg]
              intro q
              first | exact absurd q.1 (by omega) | exact absurd q.2.1 (by omega) | exact absurd q.2.2.1 (by omega) | exact absurd q.2.2.2 (by assumption)
            have h63b : S1.1 63 = (sp_bst S p g j).2 := by
              rw [ebst]
              exact h63
            have hSb := hS
            obtain rfl : y6 = ((j + 1 : Nat) : Int) := by omega
            have ebb : (((sp_bst S p g (j - 1)).1 : Nat) : Int) = ((sp_bst S p g (j + 1 - 1)).1 : Int) := by rw [Nat.add_sub_cancel, ebst]
            refine ag_weak [some (av_r 38), some (av_i ((p : Int))), some (av_i (g)), some (av_i ((((sp_bst S p g (j - 1)).1 : Nat) : Int))), some (av_i (((j + 1 : Nat) : Int))), none, none, none] (by simp [al_le]) ?_
            rw [ebb]
            exact ih (j + 1) S1 h (by omega) (by omega) hSb (by rw [Nat.add_sub_cancel]; exact h63b) hM
          · refine ag_aload_n dd_M_find_199 rfl ?_
            refine ag_iload dd_M_find_200 rfl ?_
            have hbw := iv_w_fw hI hS
            refine ag_wV dd_M_find_202 fi_M_329 (mr_38 hM) rfl (mc_M_could (d := d - 1) (by omega) hM hbw (by omega)) rfl rfl (by omega) (Nat.le_of_ble_eq_true rfl) (fun q h hP1 => ?_)
            obtain ⟨rfl, r1, hM⟩ := hP1
            rw [sp_can_fw hS]
            have hS : sp_fw S (sp_wr S1 r1) (S.1 2).toNat := sp_fw_wr hS r1
            have h63 : (sp_wr S1 r1).1 63 = (sp_bst S p g (j - 1)).2 := h63
            clear v2
            generalize sp_wr S1 r1 = S2 at hM hS h63
            refine ag_if_neB (tgt := 211) dd_M_find_205 (by decide) (fun c8 => ?_) (fun c8 => ?_)
            · refine ag_iload dd_M_find_211 rfl ?_
              refine ag_istore_n (L' := [some (av_r 38), some (av_i ((p : Int))), some (av_i (g)), some (av_i ((j : Int))), some (av_i ((j : Int))), some (av_i ((sp_pc j (S.1 2).toNat))), some (av_i ((sp_pw (sp_wb S) j (S.1 2).toNat))), none]) dd_M_find_213 rfl rfl (by decide) ?_
              refine ag_aload_n dd_M_find_214 rfl ?_
              refine ag_iload dd_M_find_215 rfl ?_
              refine mp_63 dd_M_find_217 fp_M_326 hM (fun h S9 eS9 hM => ?_)
              refine ag_iincN (Lf := fun y => [some (av_r 38), some (av_i ((p : Int))), some (av_i (g)), some (av_i ((j : Int))), some (av_i (y)), some (av_i ((sp_pc j (S.1 2).toNat))), some (av_i ((sp_pw (sp_wb S) j (S.1 2).toNat))), none]) dd_M_find_220 rfl (fun _ => rfl) rfl (by decide) (fun y10 ey10 => ?_)
              refine ag_goto (tgt := 114) dd_M_find_223 (by decide) ?_
              have ebst : sp_bst S p g j = (j, sp_pw (sp_wb S) j (S.1 2).toNat) := by
                obtain ⟨k, rfl⟩ : ∃ k, j = k + 1 := ⟨j - 1, by omega⟩
                rw [Nat.add_sub_cancel] at *
                rw [sp_bst, if_pos ⟨by omega, by omega, by omega, by assumption⟩]
              have h63b : S9.1 63 = (sp_bst S p g j).2 := by
                rw [ebst, eS9]
                exact sp_u63 _ _
              have hSb : sp_fw S S9 (S.1 2).toNat := by
                rw [eS9]
                exact sp_fw_63 hS _
              obtain rfl : y10 = ((j + 1 : Nat) : Int) := by omega
              have ebb : ((j : Nat) : Int) = ((sp_bst S p g (j + 1 - 1)).1 : Int) := by rw [Nat.add_sub_cancel, ebst]
              refine ag_weak [some (av_r 38), some (av_i ((p : Int))), some (av_i (g)), some (av_i (((j : Nat) : Int))), some (av_i (((j + 1 : Nat) : Int))), none, none, none] (by simp [al_le]) ?_
              rw [ebb]
              exact ih (j + 1) S9 h (by omega) (by omega) hSb (by rw [Nat.add_sub_cancel]; exact h63b) hM
            · refine ag_goto (tgt := 220) dd_M_find_208 (by decide) ?_
              refine ag_iincN (Lf := fun y => [some (av_r 38), some (av_i ((p : Int))), some (av_i (g)), some (av_i (((sp_bst S p g (j - 1)).1 : Int))), some (av_i (y)), some (av_i ((sp_pc j (S.1 2).toNat))), some (av_i ((sp_pw (sp_wb S) j (S.1 2).toNat))), none]) dd_M_find_220 rfl (fun _ => rfl) rfl (by decide) (fun y11 ey11 => ?_)
              refine ag_goto (tgt := 114) dd_M_find_223 (by decide) ?_
              have ebst : sp_bst S p g j = sp_bst S p g (j - 1) := by
                obtain ⟨k, rfl⟩ : ∃ k, j = k + 1 := ⟨j - 1, by omega⟩
                rw [Nat.add_sub_cancel] at *
                rw [sp_bst, if_neg]
                intro q
                first | exact absurd q.1 (by omega) | exact absurd q.2.1 (by omega) | exact absurd q.2.2.1 (by omega) | exact absurd q.2.2.2 (by assumption)
              have h63b : S2.1 63 = (sp_bst S p g j).2 := by
                rw [ebst]
                exact h63
              have hSb := hS
              obtain rfl : y11 = ((j + 1 : Nat) : Int) := by omega
              have ebb : (((sp_bst S p g (j - 1)).1 : Nat) : Int) = ((sp_bst S p g (j + 1 - 1)).1 : Int) := by rw [Nat.add_sub_cancel, ebst]
              refine ag_weak [some (av_r 38), some (av_i ((p : Int))), some (av_i (g)), some (av_i ((((sp_bst S p g (j - 1)).1 : Nat) : Int))), some (av_i (((j + 1 : Nat) : Int))), none, none, none] (by simp [al_le]) ?_
              rw [ebb]
              exact ih (j + 1) S2 h (by omega) (by omega) hSb (by rw [Nat.add_sub_cancel]; exact h63b) hM
      · refine ag_goto (tgt := 220) dd_M_find_129 (by decide) ?_
        refine ag_iincN (Lf := fun y => [some (av_r 38), some (av_i ((p : Int))), some (av_i (g)), some (av_i (((sp_bst S p g (j - 1)).1 : Int))), some (av_i (y)), none, none, none]) dd_M_find_220 rfl (fun _ => rfl) rfl (by decide) (fun y12 ey12 => ?_)
        refine ag_goto (tgt := 114) dd_M_find_223 (by decide) ?_
        have ebst : sp_bst S p g j = sp_bst S p g (j - 1) := by
          obtain ⟨k, rfl⟩ : ∃ k, j = k + 1 := ⟨j - 1, by omega⟩
          rw [Nat.add_sub_cancel] at *
          rw [sp_bst, if_neg]
          intro q
          first | exact absurd q.1 (by omega) | exact absurd q.2.1 (by omega) | exact absurd q.2.2.1 (by omega) | exact absurd q.2.2.2 (by assumption)
        have h63b : S1.1 63 = (sp_bst S p g j).2 := by
          rw [ebst]
          exact h63
        have hSb := hS
        obtain rfl : y12 = ((j + 1 : Nat) : Int) := by omega
        have ebb : (((sp_bst S p g (j - 1)).1 : Nat) : Int) = ((sp_bst S p g (j + 1 - 1)).1 : Int) := by rw [Nat.add_sub_cancel, ebst]
        refine ag_weak [some (av_r 38), some (av_i ((p : Int))), some (av_i (g)), some (av_i ((((sp_bst S p g (j - 1)).1 : Nat) : Int))), some (av_i (((j + 1 : Nat) : Int))), none, none, none] (by simp [al_le]) ?_
        rw [ebb]
        exact ih (j + 1) S1 h (by omega) (by omega) hSb (by rw [Nat.add_sub_cancel]; exact h63b) hM
set_option maxHeartbeats 1000000 in
theorem mc_M_find {w : aw_T} {h0 h : ah_T} {S : ms_T} {d : Nat} (hd : 2 ≤ d) (hM : mo_I h0 h S) (hI : iv_S S) {p : Nat} (hp : p < 65535 + 1) {g : Int} (hg : 1 ≤ g ∧ g ≤ 9) : am_M w mm_M_find d [av_r 38, av_i (p : Int), av_i g] h 0 0 (fun q h' => ∃ S2, q = some (av_i (((sp_bst S p g p).1 : Int))) ∧ sp_scr S S2 ∧ S2.1 63 = (sp_bst S p g p).2 ∧ mo_I h0 h' S2) := by
  refine am_intro [some (av_r 38), some (av_i ((p : Int))), some (av_i (g)), none, none, none, none, none] (by decide +kernel) (Nat.le_of_ble_eq_true rfl) rfl ?_
  refine ag_iconst dd_M_find_0 ?_
  refine ag_istore_n (L' := [some (av_r 38), some (av_i ((p : Int))), some (av_i (g)), some (av_i (0)), none, none, none, none]) dd_M_find_1 rfl rfl (by decide) ?_
  refine ml_M_find1 (S := S) (by omega) hI (fun S1 h hS hM => ?_) (S.1 2).toNat 0 S h (by have := hI.1.2.2.1; omega) ⟨⟨fun _ _ => rfl, fun _ _ => rfl⟩, fun f hf => absurd hf (Nat.not_lt_zero f)⟩ hM
  refine ag_iconst dd_M_find_104 ?_
  refine ag_istore_n (L' := [some (av_r 38), some (av_i ((p : Int))), some (av_i (g)), some (av_i (0)), none, none, none, none]) dd_M_find_105 rfl rfl (by decide) ?_
  refine ag_aload_n dd_M_find_106 rfl ?_
  refine ag_iconst dd_M_find_107 ?_
  refine mp_63 dd_M_find_108 fp_M_326 hM (fun h S1 eS1 hM => ?_)
  refine ag_iconst dd_M_find_111 ?_
  refine ag_istore (L' := [some (av_r 38), some (av_i ((p : Int))), some (av_i (g)), some (av_i (0)), some (av_i (1)), none, none, none]) dd_M_find_112 rfl rfl (by decide) ?_
  refine ag_weak [some (av_r 38), some (av_i ((p : Int))), some (av_i (g)), some (av_i (((sp_bst S p g (1 - 1)).1 : Int))), some (av_i (((1 : Nat) : Int))), none, none, none] (by simp [al_le, sp_bst]) ?_
  exact ml_M_find2 hd hI hp hg (fun S2 h hS h63 hM => ⟨S2, rfl, hS.1, h63, hM⟩) p 1 S1 h (by omega) (Nat.le_refl 1) (by rw [eS1]; exact sp_fw_63 hS 0) (by rw [eS1]; exact sp_u63 _ _) hM
def sp_best (S : ms_T) (p g : Int) : Int := if sp_isSet S p g = true then (sp_bst S p.toNat g p.toNat).2 else -1
def sp_bestSet (S : ms_T) (p g : Int) : Int := if sp_isSet S p g = true then ((sp_bst S p.toNat g p.toNat).1 : Int) else -1
theorem sp_scr.rf (S : ms_T) : sp_scr S S := ⟨fun _ _ => rfl, fun _ _ => rfl⟩
theorem iv_S.fs {S : ms_T} (h : iv_S S) : iv_fs S := ⟨h.1.2.2.1, fun f hf => (h.2.1 f hf).1⟩
theorem sp_isSet_b {S : ms_T} (hI : iv_S S) {p g : Int} (h : sp_isSet S p g = true) : (0 ≤ p ∧ p < 65536) ∧ (1 ≤ g ∧ g ≤ 9) := by
  unfold sp_isSet at h
  simp only [Bool.and_eq_true, decide_eq_true_eq] at h
  have a2 := hI.1.2.2.1
  have := sp_2b (n := (S.1 2).toNat) (by omega)
  omega
set_option maxHeartbeats 1000000 in
theorem mc_M_best {w : aw_T} {h0 h : ah_T} {S : ms_T} {d : Nat} (hd : 3 ≤ d) (hM : mo_I h0 h S) (hI : iv_S S) {p : Int} (hp : -2147483648 ≤ p ∧ p < 2147483648) {g : Int} (hg : -2147483648 ≤ g ∧ g < 2147483648) : am_M w mm_M_best d [av_r 38, av_i p, av_i g] h 0 0 (fun q h' => q = some (av_i (sp_best S p g)) ∧ ∃ S2, sp_scr S S2 ∧ mo_I h0 h' S2) := by
  refine am_intro [some (av_r 38), some (av_i (p)), some (av_i (g))] (by decide +kernel) (Nat.le_of_ble_eq_true rfl) rfl ?_
  refine ag_aload_n dd_M_best_0 rfl ?_
  refine ag_iload_n dd_M_best_1 rfl ?_
  refine ag_iload_n dd_M_best_2 rfl ?_
  refine ag_rV dd_M_best_3 fi_M_332 (mr_38 hM) rfl (mc_M_isSet (d := 1) (by omega) hM hp hg hI.fs) rfl rfl (by omega) (Nat.le_of_ble_eq_true rfl) ?_
  refine ag_if_neB (tgt := 11) dd_M_best_6 (by decide) (fun c1 => ?_) (fun c1 => ?_)
  · refine ag_aload_n dd_M_best_11 rfl ?_
    refine ag_iload_n dd_M_best_12 rfl ?_
    refine ag_iload_n dd_M_best_13 rfl ?_
    have hb := sp_isSet_b hI (by assumption)
    refine ag_wV dd_M_best_14 fi_M_336 (mr_38 hM) rfl (mc_M_find (d := d - 1) (by omega) hM hI (p := p.toNat) (by omega) hb.2) (by rw [show ((p.toNat : Nat) : Int) = p by omega]; rfl) rfl (by omega) (Nat.le_of_ble_eq_true rfl) (fun q h hP1 => ?_)
    obtain ⟨S2, rfl, hsc, h63, hM⟩ := hP1
    refine ag_pop dd_M_best_17 rfl ?_
    refine ag_aload_n dd_M_best_18 rfl ?_
    refine ag_get dd_M_best_19 fg_M_326 (mr_38 hM) rfl ?_
    refine ag_iret dd_M_best_22 rfl ?_
    refine ⟨?_, S2, hsc, hM⟩
    unfold sp_best
    rw [if_pos (by assumption)]
    rw [h63]
  · refine ag_iconst dd_M_best_9 ?_
    refine ag_iret dd_M_best_10 rfl ?_
    refine ⟨?_, S, sp_scr.rf S, hM⟩
    unfold sp_best
    rw [if_neg (by assumption)]
set_option maxHeartbeats 1000000 in
theorem mc_M_bestSet {w : aw_T} {h0 h : ah_T} {S : ms_T} {d : Nat} (hd : 3 ≤ d) (hM : mo_I h0 h S) (hI : iv_S S) {p : Int} (hp : -2147483648 ≤ p ∧ p < 2147483648) {g : Int} (hg : -2147483648 ≤ g ∧ g < 2147483648) : am_M w mm_M_bestSet d [av_r 38, av_i p, av_i g] h 0 0 (fun q h' => q = some (av_i (sp_bestSet S p g)) ∧ ∃ S2, sp_scr S S2 ∧ mo_I h0 h' S2) := by
  refine am_intro [some (av_r 38), some (av_i (p)), some (av_i (g))] (by decide +kernel) (Nat.le_of_ble_eq_true rfl) rfl ?_
  refine ag_aload_n dd_M_bestSet_0 rfl ?_
  refine ag_iload_n dd_M_bestSet_1 rfl ?_
  refine ag_iload_n dd_M_bestSet_2 rfl ?_
  refine ag_rV dd_M_bestSet_3 fi_M_332 (mr_38 hM) rfl (mc_M_isSet (d := 1) (by omega) hM hp hg hI.fs) rfl rfl (by omega) (Nat.le_of_ble_eq_true rfl) ?_
  refine ag_if_eqB (tgt := 18) dd_M_bestSet_6 (by decide) (fun c1 => ?_) (fun c1 => ?_)
  · refine ag_iconst dd_M_bestSet_18 ?_
    refine ag_iret dd_M_bestSet_19 rfl ?_
    refine ⟨?_, S, sp_scr.rf S, hM⟩
    unfold sp_bestSet
    rw [if_neg (by assumption)]
  · refine ag_aload_n dd_M_bestSet_9 rfl ?_
    refine ag_iload_n dd_M_bestSet_10 rfl ?_
    refine ag_iload_n dd_M_bestSet_11 rfl ?_
    have hb := sp_isSet_b hI (by assumption)
    refine ag_wV dd_M_bestSet_12 fi_M_336 (mr_38 hM) rfl (mc_M_find (d := d - 1) (by omega) hM hI (p := p.toNat) (by omega) hb.2) (by rw [show ((p.toNat : Nat) : Int) = p by omega]; rfl) rfl (by omega) (Nat.le_of_ble_eq_true rfl) (fun q h hP1 => ?_)
    obtain ⟨S2, rfl, hsc, h63, hM⟩ := hP1
    refine ag_goto (tgt := 19) dd_M_bestSet_15 (by decide) ?_
    refine ag_iret dd_M_bestSet_19 rfl ?_
    refine ⟨?_, S2, hsc, hM⟩
    unfold sp_bestSet
    rw [if_pos (by assumption)]
