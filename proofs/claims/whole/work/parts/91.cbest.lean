theorem sub_z2 {p : Int} {y : Nat} (hp : -2147483648 ≤ p ∧ p < 2147483648) (hy : y < 65536) : (Int32.ofInt p &&& Int32.ofInt (Int32.ofInt (y : Int) ^^^ Int32.ofInt (-1)).toInt).toInt = 0 ↔ (0 ≤ p ∧ p < 65536) ∧ p.toNat &&& y = p.toNat := by
  constructor
  · intro h
    have hb : 0 ≤ p ∧ p < 65536 := by
      have h2 : (Int32.ofInt p &&& (Int32.ofInt (y : Int) ^^^ Int32.ofInt (-1))).toBitVec = 0#32 := by
        rw [Int32.ofInt_toInt] at h
        have : (Int32.ofInt p &&& (Int32.ofInt (y : Int) ^^^ Int32.ofInt (-1))) = Int32.ofInt 0 := by rw [← h, Int32.ofInt_toInt]
        rw [this]; rfl
      have e2 : (Int32.ofInt (y : Int)).toBitVec = BitVec.ofNat 32 y := by rw [sp_ofN]; rfl
      have e3 : (Int32.ofInt (-1)).toBitVec = BitVec.allOnes 32 := by decide +kernel
      rw [Int32.toBitVec_and, Int32.toBitVec_xor, e2, e3, BitVec.xor_allOnes] at h2
      have hx : (Int32.ofInt p).toBitVec = (Int32.ofInt p).toBitVec &&& BitVec.ofNat 32 y := by
        refine BitVec.eq_of_getLsbD_eq (fun i hi => ?_)
        have := congrArg (fun z => BitVec.getLsbD z i) h2
        simp only [BitVec.getLsbD_and, BitVec.getLsbD_not, BitVec.getLsbD_ofNat, BitVec.getLsbD_zero, hi, decide_true, Bool.true_and] at this ⊢
        revert this
        cases (Int32.ofInt p).toBitVec.getLsbD i <;> cases y.testBit i <;> simp
      have hn := congrArg BitVec.toNat hx
      rw [BitVec.toNat_and, BitVec.toNat_ofNat, Nat.mod_eq_of_lt (by omega)] at hn
      have hle : (Int32.ofInt p).toBitVec.toNat ≤ y := by
        rw [hn]
        exact Nat.and_le_right
      have ht : (Int32.ofInt p).toInt = p := Int32.toInt_ofInt_of_le hp.1 hp.2
      have ht2 : (Int32.ofInt p).toInt = ((Int32.ofInt p).toBitVec.toNat : Int) := by
        show (Int32.ofInt p).toBitVec.toInt = _
        exact BitVec.toInt_eq_toNat_of_lt (by omega)
      omega
    obtain ⟨n, rfl⟩ : ∃ n : Nat, p = (n : Int) := ⟨p.toNat, by omega⟩
    exact ⟨hb, by rw [Int.toNat_natCast]; exact (sp_sub_z (by omega) hy).mp h⟩
  · rintro ⟨hb, h⟩
    obtain ⟨n, rfl⟩ : ∃ n : Nat, p = (n : Int) := ⟨p.toNat, by omega⟩
    rw [Int.toNat_natCast] at h
    exact (sp_sub_z (by omega) hy).mpr h
/-- the standing fields of the first n -/
def sf_ (S : ms_T) : Nat → Nat
  | 0 => 0
  | n + 1 => if S.2 46 n = 0 then sf_ S n ||| 2 ^ n else sf_ S n
theorem sf_lt (S : ms_T) : ∀ n, n ≤ 16 → sf_ S n < 65536
  | 0, _ => by rw [sf_]; omega
  | n + 1, h => by
    have := sf_lt S n (by omega)
    rw [sf_]
    split
    · exact or_lt this (by omega)
    · exact this
theorem sf_b (S : ms_T) : ∀ n i, sf_ S n / 2 ^ i % 2 = 1 ↔ i < n ∧ S.2 46 i = 0
  | 0, i => by
    rw [sf_]
    exact ⟨fun h => absurd h (bt_0 i), fun h => by omega⟩
  | n + 1, i => by
    rw [sf_]
    have ih := sf_b S n i
    by_cases c : S.2 46 n = 0
    · rw [if_pos c, bt_or, ih]
      constructor
      · rintro (z | z)
        · exact ⟨by omega, z.2⟩
        · rw [z]; exact ⟨by omega, c⟩
      · rintro ⟨z1, z2⟩
        by_cases e : i = n
        · exact Or.inr e
        · exact Or.inl ⟨by omega, z2⟩
    · rw [if_neg c, ih]
      constructor
      · rintro ⟨z1, z2⟩
        exact ⟨by omega, z2⟩
      · rintro ⟨z1, z2⟩
        refine ⟨?_, z2⟩
        by_cases e : i = n
        · rw [e] at z2; exact absurd z2 c
        · omega
theorem stN_iff (S : ms_T) (p : Nat) : ∀ n, sp_stN S p n = true ↔ ∀ i, i < n → p / 2 ^ i % 2 = 1 → S.2 46 i = 0
  | 0 => ⟨fun _ i hi => by omega, fun _ => rfl⟩
  | n + 1 => by
    rw [sp_stN, Bool.and_eq_true, stN_iff S p n, Bool.or_eq_true, decide_eq_true_iff, decide_eq_true_iff]
    constructor
    · rintro ⟨h1, h2⟩ i hi hb
      by_cases e : i = n
      · rw [e] at hb ⊢
        rcases h2 with z | z
        · omega
        · exact z
      · exact h1 i (by omega) hb
    · intro h
      refine ⟨fun i hi hb => h i (by omega) hb, ?_⟩
      by_cases c : p / 2 ^ n % 2 = 1
      · exact Or.inr (h n (by omega) c)
      · exact Or.inl (by omega)
theorem lt_2p {p n : Nat} (h : ∀ i, p / 2 ^ i % 2 = 1 → i < n) : p < 2 ^ n := by
  refine Nat.lt_pow_two_of_testBit p (fun i hi => ?_)
  cases e : p.testBit i
  · rfl
  · have := h i ((bt_t p i).mp e)
    omega
theorem set_iff {S : ms_T} {p g : Int} (h2 : 0 ≤ S.1 2 ∧ S.1 2 ≤ 16) (hg : 1 ≤ g ∧ g ≤ 9) : sp_isSet S p g = true ↔ (0 ≤ p ∧ p < 65536) ∧ p.toNat &&& sf_ S (S.1 2).toNat = p.toNat := by
  unfold sp_isSet
  rw [decide_eq_true hg, Bool.and_true, Bool.and_eq_true, decide_eq_true_iff, stN_iff, bt_sub]
  have hb := sp_2b (n := (S.1 2).toNat) (by omega)
  constructor
  · rintro ⟨⟨h1, h3⟩, h4⟩
    refine ⟨⟨h1, by omega⟩, fun i hi => (sf_b _ _ _).mpr ?_⟩
    have hlt : i < (S.1 2).toNat := by
      by_cases c : i < (S.1 2).toNat
      · exact c
      · exfalso
        have := Nat.pow_le_pow_right (n := 2) (by decide) (show (S.1 2).toNat ≤ i by omega)
        rw [Nat.div_eq_of_lt (by omega)] at hi
        omega
    exact ⟨hlt, h4 i hlt hi⟩
  · rintro ⟨h1, h3⟩
    have := lt_2p (fun i hi => ((sf_b _ _ _).mp (h3 i hi)).1)
    exact ⟨⟨h1.1, by omega⟩, fun i hi hb => ((sf_b _ _ _).mp (h3 i hb)).2⟩
/-- what the chooser keeps between calls -/
def ch_ (K : ms_T) : Prop := (∀ i : Nat, i < 16 → (0 ≤ K.2 7 i ∧ K.2 7 i ≤ 200) ∧ (0 ≤ K.2 8 i ∧ K.2 8 i ≤ 6000) ∧ (0 ≤ K.2 9 i ∧ K.2 9 i ≤ 5000)) ∧ (∀ i, i < 17 → K.2 (13 + i) 0 = 0) ∧ ∀ k, K.2 13 k = 0
def cd_ (S : ms_T) (P i : Nat) : Prop := P / 2 ^ i % 2 = 1 ∧ sp_wb S i ≠ 0 ∧ S.2 41 i ≤ S.1 7 * (sp_wd S i - sp_wa S i)
/-- the fields below j of the set P are offered -/
def oi_ (S K : ms_T) (P j : Nat) : Prop := ch_ K ∧ (0 ≤ K.1 7 ∧ K.1 7 ≤ (j : Int)) ∧ K.1 8 = S.1 7 ∧ ∃ cm : Nat, cm < 65536 ∧ kcd_ K (sp_wa S) (sp_wd S) (S.2 41) (sp_wb S) (S.1 2).toNat cm ∧ ∀ i, cm / 2 ^ i % 2 = 1 ↔ i < j ∧ cd_ S P i
theorem wab {S : ms_T} {i : Nat} (h0c : 0 ≤ S.1 0 ∧ S.1 0 ≤ 4000) (h5 : 1 ≤ S.1 5 ∧ S.1 5 ≤ 20) (hf : iv_f S i) : (0 ≤ sp_wa S i ∧ sp_wa S i ≤ 5000) ∧ (0 ≤ sp_wd S i ∧ sp_wd S i ≤ 5000) ∧ sp_wa S i < sp_wd S i := by
  have hcb := sp_c_b hf.2.1 h5
  have htr := sp_trip_b hf.2.2.1
  have e1 : sp_wa S i = sp_c S i + sp_trip (S.2 42 i) := rfl
  have e2 : sp_wd S i = sp_c S i + (if 0 ≤ S.2 49 i then 12 else 24) := rfl
  split at e2 <;> omega
theorem oi_kv {S K : ms_T} {P j : Nat} (hj : j ≤ 16) (hI : iv_S S) (h : oi_ S K P j) : kv_ K := by
  obtain ⟨h1, h2, h3, cm, h4, h5, h6⟩ := h
  have ha := hI.1
  refine ⟨by omega, by have := ha.2.2.2.2.2.2.2.1; omega, fun k hk => ?_, h1.1⟩
  have r10 := h5.2.2.1.1 k (by omega)
  have r11 := h5.2.2.2.1 k (by omega)
  have b10 := ix_lt (K.2 10 k)
  have b11 := ix_lt (K.2 11 k)
  have i10 := (h5.2.1 _ r10.1).1
  have i11 := (h5.2.1 _ r11.1).1
  have w := (wab ha.1 ha.2.2.2.2.2.1 (hI.2.1 (ix_ (K.2 10 k)) (by omega)).1).2.1
  have w2 := sp_wb_b (hI.2.1 (ix_ (K.2 11 k)) (by omega)).1
  have r10 := r10.2
  have r11 := r11.2
  generalize ix_ (K.2 10 k) = x at *
  generalize ix_ (K.2 11 k) = y at *
  omega
theorem oi_no {S K : ms_T} {P j : Nat} (h : oi_ S K P j) (hn : ¬ cd_ S P j) : oi_ S K P (j + 1) := by
  obtain ⟨h1, h2, h3, cm, h4, h5, h6⟩ := h
  refine ⟨h1, by omega, h3, cm, h4, h5, fun i => ?_⟩
  rw [h6 i]
  constructor
  · rintro ⟨z1, z2⟩
    exact ⟨by omega, z2⟩
  · rintro ⟨z1, z2⟩
    refine ⟨?_, z2⟩
    by_cases e : i = j
    · rw [e] at z2; exact absurd z2 hn
    · omega
theorem oi_of {S K K2 : ms_T} {P j : Nat} (hj : (j : Int) < S.1 2) (hI : iv_S S) (hP : P / 2 ^ j % 2 = 1) (h : oi_ S K P j) (ho : of_ S K K2 j) : oi_ S K2 P (j + 1) := by
  have ha := hI.1
  have h2b := ha.2.2.1
  have hfj := (hI.2.1 j hj).1
  have hw := wab ha.1 ha.2.2.2.2.2.1 hfj
  have hwb := sp_wb_b hfj
  have h41 := hfj.2.1
  rcases ho with ⟨o1, rfl⟩ | ⟨o1, f10, f11, q10, q11, s10, s11, rfl⟩
  · refine oi_no h (fun z => ?_)
    have h8 := h.2.2.1
    rcases o1 with o | o
    · exact z.2.1 o
    · rw [h8] at o
      have := z.2.2
      omega
  · obtain ⟨h1, h2, h3, cm, h4, h5, h6⟩ := h
    have hnb : ¬ cm / 2 ^ j % 2 = 1 := fun z => by
      have := ((h6 j).mp z).1
      omega
    have e6 : (K.1 6).toNat = cm := by rw [h5.1]; omega
    have hcd : cd_ S P j := by
      refine ⟨hP, fun z => o1 (Or.inl z), ?_⟩
      have : ¬ K.1 8 * (sp_wd S j - sp_wa S j) < S.2 41 j := fun z => o1 (Or.inr z)
      rw [h3] at this
      omega
    have g7 : (ok_ S K j f10 f11).2 7 = ai_up (K.2 7) j (S.2 41 j) := rfl
    have g8 : (ok_ S K j f10 f11).2 8 = ai_up (K.2 8) j (sp_wb S j) := rfl
    have g9 : (ok_ S K j f10 f11).2 9 = ai_up (K.2 9) j (sp_wa S j) := rfl
    have gm : ∀ m, 13 ≤ m → (ok_ S K j f10 f11).2 m = K.2 m := fun m hm => by
      show ai_up (ai_up (ai_up (ai_up (ai_up K.2 7 _) 8 _) 9 _) 10 _) 11 _ m = _
      rw [ai_up_n _ _ (by omega), ai_up_n _ _ (by omega), ai_up_n _ _ (by omega), ai_up_n _ _ (by omega), ai_up_n _ _ (by omega)]
    have e7 : ((ok_ S K j f10 f11).1 7).toNat = (K.1 7).toNat + 1 := by
      show (K.1 7 + 1).toNat = _
      omega
    refine ⟨⟨fun i hi => ?_, fun i hi => ?_, fun k => ?_⟩, ?_, h3, cm ||| 2 ^ j, or_lt h4 (by omega), ⟨?_, fun i hi => ?_, ?_, ?_⟩, fun i => ?_⟩
    · rw [g7, g8, g9]
      by_cases e : i = j
      · rw [e, ai_up_s, ai_up_s, ai_up_s]
        omega
      · rw [ai_up_n _ _ e, ai_up_n _ _ e, ai_up_n _ _ e]
        exact h1.1 i hi
    · rw [gm _ (by omega)]
      exact h1.2.1 i hi
    · rw [gm _ (by omega)]
      exact h1.2.2 k
    · show 0 ≤ K.1 7 + 1 ∧ K.1 7 + 1 ≤ ((j + 1 : Nat) : Int)
      omega
    · show (((K.1 6).toNat ||| 2 ^ j : Nat) : Int) = _
      rw [e6]
    · rw [g7, g8, g9]
      by_cases e : i = j
      · rw [e, ai_up_s, ai_up_s, ai_up_s]
        exact ⟨by omega, rfl, rfl, rfl, hw.2.2, by omega, by omega⟩
      · rw [ai_up_n _ _ e, ai_up_n _ _ e, ai_up_n _ _ e]
        rcases (bt_or _ _ _).mp hi with z | z
        · exact h5.2.1 i z
        · exact absurd z e
    · rw [e7]
      exact ro_ins h5.2.2.1 s10 hnb (by omega) (by omega)
    · rw [e7]
      exact ro_ins h5.2.2.2 s11 hnb (by omega) (by omega)
    · rw [bt_or, h6 i]
      constructor
      · rintro (z | z)
        · exact ⟨by omega, z.2⟩
        · rw [z]; exact ⟨by omega, hcd⟩
      · rintro ⟨z1, z2⟩
        by_cases e : i = j
        · exact Or.inr e
        · exact Or.inl ⟨by omega, z2⟩
theorem oi_0 {S K : ms_T} {P : Nat} (h : ch_ K) (h6 : K.1 6 = 0) (h7 : K.1 7 = 0) (h8 : K.1 8 = S.1 7) : oi_ S K P 0 := by
  refine ⟨h, by omega, h8, 0, by omega, ⟨h6, fun i hi => absurd hi (bt_0 i), ?_, ?_⟩, fun i => ⟨fun z => absurd z (bt_0 i), fun z => by omega⟩⟩
  · rw [h7]
    exact ⟨fun j hj => absurd hj (by omega), fun j k _ hk => absurd hk (by omega), fun i hi => absurd hi (bt_0 i)⟩
  · rw [h7]
    exact ⟨fun j hj => absurd hj (by omega), fun j k _ hk => absurd hk (by omega), fun i hi => absurd hi (bt_0 i)⟩
/-- what the chooser has decided -/
def dc_ (S : ms_T) (P g : Nat) (K : ms_T) : Prop := ch_ K ∧ K.1 9 = (sp_bst S P (g : Int) P).2 ∧ K.1 10 = ((sp_bst S P (g : Int) P).1 : Int)
theorem dc_ok {S K K2 : ms_T} {P g : Nat} (hg : g ≤ 9) (hI : iv_S S) (h : oi_ S K P (S.1 2).toNat) (hk : kd_ K K2 16) : dc_ S P g (kb_ K2 (se_ K2 16 g 0 0 (gw_ K2 (K2.1 7).toNat g 0 0 - 1, 0))) := by
  have ha := hI.1
  have h2b := ha.2.2.1
  have hv := oi_kv (by omega) hI h
  obtain ⟨h1, h2, h3, cm, h4, h5, h6⟩ := h
  have hM : ∀ m k, m ≤ 16 → k ≤ 9 → K2.2 (13 + m) k = tp_ K2 m (K2.1 7).toNat k := fun m k hm hk2 => by
    rw [tp_kd hk, hk.1]
    by_cases e : m = 0
    · rw [e, tp_z, hk.2.1 _ (by omega)]
      exact h1.2.2 k
    · exact hk.2.2 m (by omega) hm k hk2
  have hr : kcd_ K2 (sp_wa S) (sp_wd S) (S.2 41) (sp_wb S) (S.1 2).toNat cm := by
    unfold kcd_
    rw [hk.1, hk.2.1 7 (by omega), hk.2.1 8 (by omega), hk.2.1 9 (by omega), hk.2.1 10 (by omega), hk.2.1 11 (by omega)]
    exact h5
  have hb := best_eq (S := S) (P := P) hg (by omega) (by rw [hk.1]; exact h3) hr (kv_kd hk hv) (fun i hi => by
    have hf := (hI.2.1 i (by omega)).1
    have := hf.2.1
    have := (wab ha.1 ha.2.2.2.2.2.1 hf).2.2
    omega) h6 hM
  refine ⟨⟨?_, fun i hi => ?_, fun k => ?_⟩, hb.1.symm, ?_⟩
  · show ∀ i : Nat, i < 16 → (0 ≤ K2.2 7 i ∧ K2.2 7 i ≤ 200) ∧ (0 ≤ K2.2 8 i ∧ K2.2 8 i ≤ 6000) ∧ (0 ≤ K2.2 9 i ∧ K2.2 9 i ≤ 5000)
    rw [hk.2.1 7 (by omega), hk.2.1 8 (by omega), hk.2.1 9 (by omega)]
    exact h1.1
  · show K2.2 (13 + i) 0 = 0
    rw [hM i 0 (by omega) (by omega), tp_0]
  · show K2.2 (13 + 0) k = 0
    rw [hk.2.1 _ (by omega)]
    exact h1.2.2 k
  · rw [hb.2]
    rfl
set_option maxHeartbeats 1000000 in
theorem ml_X_standing {w : aw_T} {h0 h : ah_T} {S : ms_T} {G : gh_T} {d : Nat} (hd : 0 ≤ d) (hC : co_I h0 h S G) (hI : iv_S S) {P : ap_T} (hP : P (some (av_i ((sf_ S (S.1 2).toNat : Nat) : Int))) h) : ∀ (m j : Nat), (j : Int) + m = S.1 2 → aw_W w mm_X_standingFields d P 7 [some (av_r 0), some (av_i (((sf_ S j : Nat) : Int))), some (av_q (rf_ G 1 (S.1 2).toNat j))] [] h 0 0 := by
  intro m
  have h2 := hI.1.2.2.1
  induction m with
  | zero =>
    intro j hj
    rw [rf_e (by omega)]
    refine ag_aload_n dd_X_standingFields_7 rfl ?_
    refine ag_ifnull (tgt := 35) dd_X_standingFields_8 (by decide) (fun _ => ?_) (fun _ q => by cases q)
    refine ag_iload_n dd_X_standingFields_35 rfl ?_
    refine ag_iret dd_X_standingFields_36 rfl ?_
    obtain rfl : j = (S.1 2).toNat := by omega
    exact hP
  | succ m ih =>
    intro j hj
    rw [rf_s (by omega)]
    have h46 := (hI.2.1 j (by omega)).1.2.2.2.2.2.2.1
    refine ag_aload_n dd_X_standingFields_7 rfl ?_
    refine ag_ifnull (tgt := 35) dd_X_standingFields_8 (by decide) (fun q => by cases q) (fun _ _ => ?_)
    refine ag_aload_n dd_X_standingFields_11 rfl ?_
    refine ag_get dd_X_standingFields_12 fg_X_125 (cr_F hC (by omega)) rfl ?_
    refine ag_if_ne (tgt := 27) dd_X_standingFields_15 (by decide) (by omega) (fun c2 => ?_) (fun c2 => ?_)
    · refine ag_aload_n dd_X_standingFields_27 rfl ?_
      refine ag_get dd_X_standingFields_28 fg_X_105 (cr_F hC (by omega)) rfl ?_
      refine ag_astore_n (L' := [some (av_r 0), some (av_i (((sf_ S j : Nat) : Int))), some (av_q (rf_ G 1 (S.1 2).toNat (j + 1)))]) dd_X_standingFields_31 rfl rfl (by decide) ?_
      refine ag_goto (tgt := 7) dd_X_standingFields_32 (by decide) ?_
      have ek : (((sf_ S j : Nat) : Int)) = ((sf_ S (j + 1) : Nat) : Int) := by
        rw [sf_, if_neg (by assumption)]
      rw [ek]
      exact ih (j + 1) (by omega)
    · refine ag_iload_n dd_X_standingFields_18 rfl ?_
      refine ag_iconst dd_X_standingFields_19 ?_
      refine ag_aload_n dd_X_standingFields_20 rfl ?_
      refine ag_get dd_X_standingFields_21 fg_X_196 (cr_F hC (by omega)) rfl ?_
      refine ag_ishl dd_X_standingFields_24 ?_
      refine ag_ior dd_X_standingFields_25 ?_
      refine ag_to (or_bit (sf_lt S j (by omega)) (by omega)) ?_
      refine ag_istore_n (L' := [some (av_r 0), some (av_i (((sf_ S j ||| 2 ^ j : Nat) : Int))), some (av_r ((G 1 j)))]) dd_X_standingFields_26 rfl rfl (by decide) ?_
      refine ag_aload_n dd_X_standingFields_27 rfl ?_
      refine ag_get dd_X_standingFields_28 fg_X_105 (cr_F hC (by omega)) rfl ?_
      refine ag_astore_n (L' := [some (av_r 0), some (av_i (((sf_ S j ||| 2 ^ j : Nat) : Int))), some (av_q (rf_ G 1 (S.1 2).toNat (j + 1)))]) dd_X_standingFields_31 rfl rfl (by decide) ?_
      refine ag_goto (tgt := 7) dd_X_standingFields_32 (by decide) ?_
      have ek : (((sf_ S j ||| 2 ^ j : Nat) : Int)) = ((sf_ S (j + 1) : Nat) : Int) := by
        rw [sf_, if_pos (by assumption)]
      rw [ek]
      exact ih (j + 1) (by omega)
set_option maxHeartbeats 1000000 in
theorem mc_X_standingFields {w : aw_T} {h0 h : ah_T} {S : ms_T} {G : gh_T} {d : Nat} (hd : 0 ≤ d) (hC : co_I h0 h S G) (hI : iv_S S) : am_M w mm_X_standingFields d [av_r 0] h 0 0 (fun r h' => r = some (av_i ((sf_ S (S.1 2).toNat : Nat) : Int)) ∧ h' = h) := by
  refine am_intro [some (av_r 0), none, none] (by decide +kernel) (Nat.le_of_ble_eq_true rfl) rfl ?_
  refine ag_iconst dd_X_standingFields_0 ?_
  refine ag_istore_n (L' := [some (av_r 0), some (av_i (0)), none]) dd_X_standingFields_1 rfl rfl (by decide) ?_
  refine ag_aload_n dd_X_standingFields_2 rfl ?_
  refine ag_get dd_X_standingFields_3 fg_X_102 (cr_0 hC) rfl ?_
  refine ag_astore_n (L' := [some (av_r 0), some (av_i (0)), some (av_q (rf_ G 1 (S.1 2).toNat 0))]) dd_X_standingFields_6 rfl rfl (by decide) ?_
  exact ml_X_standing hd hC hI ⟨rfl, rfl⟩ (S.1 2).toNat 0 (by have := hI.1.2.2.1; omega)
set_option maxHeartbeats 1000000 in
theorem ml_X_choose {w : aw_T} {h0 : ah_T} {S : ms_T} {G : gh_T} {d P g : Nat} (hd : 21 ≤ d) (hR : co_R h0 S G) (hI : iv_S S) (hP : P < 65536) (hg : g ≤ 9) {Q : ap_T} (hX : ∀ (h : ah_T) (K : ms_T), kc_I h0 h K → dc_ S P g K → Q (some (av_i 1)) h) : ∀ (m j : Nat) (K : ms_T) (h : ah_T), (j : Int) + m = S.1 2 → kc_I h0 h K → oi_ S K P j → aw_W w mm_X_choose d Q 39 [some (av_r 0), some (av_i ((P : Int))), some (av_i ((g : Int))), some (av_q (rf_ G 1 (S.1 2).toNat j)), none] [] h 0 0 := by
  intro m
  have ha := hI.1
  have h2b := ha.2.2.1
  induction m with
  | zero =>
    intro j K h hj hK ho
    rw [rf_e (by omega)]
    have hC : co_I h h S G := ⟨co_kf hR hK.2, cf_rf h⟩
    refine ag_aload_n dd_X_choose_39 rfl ?_
    refine ag_ifnull (tgt := 97) dd_X_choose_40 (by decide) (fun _ => ?_) (fun _ q => by cases q)
    obtain rfl : j = (S.1 2).toNat := by omega
    have hv := oi_kv (by omega) hI ho
    obtain ⟨h1, h2, h3, cm, h4, h5, h6⟩ := id ho
    refine ag_aload_n dd_X_choose_97 rfl ?_
    refine ag_get dd_X_choose_98 fg_X_49 (cr_0 hC) rfl ?_
    refine ag_iload_n dd_X_choose_101 rfl ?_
    refine ag_wV dd_X_choose_102 fi_X_353 (kx_6 hK) rfl (mc_Chooser_decide (d := 20) (by omega) hK hv (by rw [h5.1]; omega) h1.2.1 h1.2.2 (g := g) (by omega)) rfl rfl (by omega) (Nat.le_of_ble_eq_true rfl) (fun r1 h hP => ?_)
    obtain ⟨rfl, Kd, hkd, hK1⟩ := hP
    refine ag_iconst dd_X_choose_105 ?_
    refine ag_zret dd_X_choose_106 rfl (by first | exact Or.inl rfl | exact Or.inr rfl | omega) ?_
    exact hX h _ hK1 (dc_ok hg hI ho hkd)
  | succ m ih =>
    intro j K h hj hK ho
    rw [rf_s (by omega)]
    have hC : co_I h h S G := ⟨co_kf hR hK.2, cf_rf h⟩
    have hfj := (hI.2.1 j (by omega)).1
    have h41 := hfj.2.1
    have h5r := ha.2.2.2.2.2.1
    have h7r := ha.2.2.2.2.2.2.2.1
    have hv := oi_kv (by omega) hI ho
    obtain ⟨h1, h2, h3, cm, h4, h5, h6⟩ := id ho
    refine ag_aload_n dd_X_choose_39 rfl ?_
    refine ag_ifnull (tgt := 97) dd_X_choose_40 (by decide) (fun q => by cases q) (fun _ _ => ?_)
    refine ag_iload_n dd_X_choose_43 rfl ?_
    refine ag_aload_n dd_X_choose_44 rfl ?_
    refine ag_get dd_X_choose_45 fg_X_196 (cr_F hC (by omega)) rfl ?_
    refine ag_rS dd_X_choose_48 fi_X_346 (mc_X_holdsBit (d := 0) (by omega) (by omega)) rfl rfl (by omega) (Nat.le_of_ble_eq_true rfl) ?_
    refine ag_if_eqB (tgt := 89) dd_X_choose_51 (by decide) (fun c2 => ?_) (fun c2 => ?_)
    · refine ag_aload_n dd_X_choose_89 rfl ?_
      refine ag_get dd_X_choose_90 fg_X_105 (cr_F hC (by omega)) rfl ?_
      refine ag_astore_n (L' := [some (av_r 0), some (av_i ((P : Int))), some (av_i ((g : Int))), some (av_q (rf_ G 1 (S.1 2).toNat (j + 1))), none]) dd_X_choose_93 rfl rfl (by decide) ?_
      refine ag_goto (tgt := 39) dd_X_choose_94 (by decide) ?_
      exact ih (j + 1) K h (by omega) hK (oi_no ho (fun z => absurd z.1 (by assumption)))
    · refine ag_aload_n dd_X_choose_54 rfl ?_
      refine ag_get dd_X_choose_55 fg_X_178 (cr_F hC (by omega)) rfl ?_
      refine ag_aload_n dd_X_choose_58 rfl ?_
      refine ag_get dd_X_choose_59 fg_X_13 (cr_0 hC) rfl ?_
      refine ag_iadd dd_X_choose_62 ?_
      refine ag_iconst dd_X_choose_63 ?_
      refine ag_isub dd_X_choose_64 ?_
      refine ag_aload_n dd_X_choose_65 rfl ?_
      refine ag_get dd_X_choose_66 fg_X_13 (cr_0 hC) rfl ?_
      refine ag_rS dd_X_choose_69 fi_X_337 (mc_X_quotient (by omega) (by omega)) rfl rfl (by omega) (Nat.le_of_ble_eq_true rfl) ?_
      refine ag_istoreN (Lf := fun y => [some (av_r 0), some (av_i ((P : Int))), some (av_i ((g : Int))), some (av_r ((G 1 j))), some (av_i (y))]) dd_X_choose_72 (fun _ => rfl) rfl (by decide) (fun y3 ey3 => ?_)
      refine ag_aload_n dd_X_choose_74 rfl ?_
      refine ag_get dd_X_choose_75 fg_X_49 (cr_0 hC) rfl ?_
      refine ag_aload_n dd_X_choose_78 rfl ?_
      refine ag_aload_n dd_X_choose_79 rfl ?_
      refine ag_get dd_X_choose_80 fg_X_80 (cr_0 hC) rfl ?_
      refine ag_iload dd_X_choose_83 rfl ?_
      refine ag_iadd dd_X_choose_85 ?_
      rw [show S.1 0 + y3 = sp_c S j by rw [ey3, if_neg (by omega)]; rfl]
      refine ag_wV dd_X_choose_86 fi_X_349 (kx_6 hK) rfl (mc_Chooser_offer (d := 3) (by omega) hK hC (i := j) (by omega) (by omega) ha.1 ha.2.2.2.2.2.1 hfj (by omega) (by omega) (by rw [h5.1]; omega) hv.2.2.1) rfl rfl (by omega) (Nat.le_of_ble_eq_true rfl) (fun r1 h hP => ?_)
      obtain ⟨rfl, Kd, hK1, hof⟩ := hP
      have hC : co_I h h S G := ⟨co_kf hR hK1.2, cf_rf h⟩
      refine ag_aload_n dd_X_choose_89 rfl ?_
      refine ag_get dd_X_choose_90 fg_X_105 (cr_F hC (by omega)) rfl ?_
      refine ag_astore_n (L' := [some (av_r 0), some (av_i ((P : Int))), some (av_i ((g : Int))), some (av_q (rf_ G 1 (S.1 2).toNat (j + 1))), some (av_i (y3))]) dd_X_choose_93 rfl rfl (by decide) ?_
      refine ag_goto (tgt := 39) dd_X_choose_94 (by decide) ?_
      exact ag_weak [some (av_r 0), some (av_i ((P : Int))), some (av_i ((g : Int))), some (av_q (rf_ G 1 (S.1 2).toNat (j + 1))), none] (by simp [al_le]) (ih (j + 1) Kd h (by omega) hK1 (oi_of (by omega) hI (by assumption) ho hof))
set_option maxHeartbeats 1000000 in
theorem mc_X_choose {w : aw_T} {h : ah_T} {S K : ms_T} {G : gh_T} {d : Nat} (hd : 21 ≤ d) (hR : co_R h S G) (hKR : kc_R h K) (hch : ch_ K) (hI : iv_S S) {p : Int} (hp : -2147483648 ≤ p ∧ p < 2147483648) {g : Int} (hg : -2147483648 ≤ g ∧ g < 2147483648) : am_M w mm_X_choose d [av_r 0, av_i p, av_i g] h 0 0 (fun r1 h1 => r1 = some (av_i (if sp_isSet S p g = true then 1 else 0)) ∧ ∃ K2 : ms_T, kc_I h h1 K2 ∧ ch_ K2 ∧ (sp_isSet S p g = true → K2.1 9 = sp_best S p g ∧ K2.1 10 = sp_bestSet S p g)) := by
  refine am_intro [some (av_r 0), some (av_i (p)), some (av_i (g)), none, none] (by decide +kernel) (Nat.le_of_ble_eq_true rfl) rfl ?_
  have ha := hI.1
  have h2b := ha.2.2.1
  have hK : kc_I h h K := ⟨hKR, kf_rf h⟩
  have hC : co_I h h S G := ⟨hR, cf_rf h⟩
  refine ag_iload_n dd_X_choose_0 rfl ?_
  refine ag_iconst dd_X_choose_1 ?_
  refine ag_bipush dd_X_choose_2 (by decide +kernel) ?_
  refine ag_rS dd_X_choose_4 fi_X_76 (mc_X_isWithin (d := 0) (by omega) (by omega) (by omega)) rfl rfl (by omega) (Nat.le_of_ble_eq_true rfl) ?_
  refine ag_if_eqB (tgt := 21) dd_X_choose_7 (by decide) (fun c1 => ?_) (fun c1 => ?_)
  · refine ag_iconst dd_X_choose_21 ?_
    refine ag_zret dd_X_choose_22 rfl (by first | exact Or.inl rfl | exact Or.inr rfl | omega) ?_
    refine ⟨?_, K, hK, hch, fun z => ?_⟩
    · have hs : ¬ sp_isSet S p g = true := fun z => by
        first
        | exact absurd (sp_isSet_b hI z).2 (by omega)
        | exact absurd ((sub_z2 hp (sf_lt S _ (by omega))).mpr ((set_iff ha.2.2.1 (by assumption)).mp z)) (by assumption)
      rw [if_neg hs]
    · exfalso
      first
      | exact absurd (sp_isSet_b hI z).2 (by omega)
      | exact absurd ((sub_z2 hp (sf_lt S _ (by omega))).mpr ((set_iff ha.2.2.1 (by assumption)).mp z)) (by assumption)
  · refine ag_iload_n dd_X_choose_10 rfl ?_
    refine ag_aload_n dd_X_choose_11 rfl ?_
    refine ag_rV dd_X_choose_12 fi_X_340 (cr_0 hC) rfl (mc_X_standingFields (d := 0) (by omega) hC hI) rfl rfl (by omega) (Nat.le_of_ble_eq_true rfl) ?_
    refine ag_iconst dd_X_choose_15 ?_
    refine ag_ixor dd_X_choose_16 ?_
    refine ag_iand dd_X_choose_17 ?_
    have hz1 := Int32.le_toInt (Int32.ofInt p &&& Int32.ofInt (Int32.ofInt ((sf_ S (S.1 2).toNat : Nat) : Int) ^^^ Int32.ofInt (-1)).toInt)
    have hz2 := Int32.toInt_lt (Int32.ofInt p &&& Int32.ofInt (Int32.ofInt ((sf_ S (S.1 2).toNat : Nat) : Int) ^^^ Int32.ofInt (-1)).toInt)
    refine ag_if_eq (tgt := 23) dd_X_choose_18 (by decide) (by omega) (fun c2 => ?_) (fun c2 => ?_)
    · refine ag_aload_n dd_X_choose_23 rfl ?_
      refine ag_get dd_X_choose_24 fg_X_49 (cr_0 hC) rfl ?_
      refine ag_aload_n dd_X_choose_27 rfl ?_
      refine ag_get dd_X_choose_28 fg_X_19 (cr_0 hC) rfl ?_
      refine ag_wV dd_X_choose_31 fi_X_343 (kx_6 hK) rfl (mc_Chooser_clear (d := 0) (by omega) hK (c := S.1 7)) rfl rfl (by omega) (Nat.le_of_ble_eq_true rfl) (fun r1 h hP => ?_)
      obtain ⟨rfl, hK1⟩ := hP
      have hC : co_I h h S G := ⟨co_kf hR hK1.2, cf_rf h⟩
      refine ag_aload_n dd_X_choose_34 rfl ?_
      refine ag_get dd_X_choose_35 fg_X_102 (cr_0 hC) rfl ?_
      refine ag_astore_n (L' := [some (av_r 0), some (av_i (p)), some (av_i (g)), some (av_q (rf_ G 1 (S.1 2).toNat 0)), none]) dd_X_choose_38 rfl rfl (by decide) ?_
      have hs : sp_isSet S p g = true := (set_iff ha.2.2.1 (by assumption)).mpr ((sub_z2 hp (sf_lt S _ (by omega))).mp (by assumption))
      obtain ⟨P, rfl⟩ : ∃ P : Nat, p = (P : Int) := ⟨p.toNat, by have := sp_isSet_b hI hs; omega⟩
      obtain ⟨n, rfl⟩ : ∃ n : Nat, g = (n : Int) := ⟨g.toNat, by omega⟩
      refine ml_X_choose hd hR hI (by have := sp_isSet_b hI hs; omega) (by omega) (fun h K hK hdc => ?_) (S.1 2).toNat 0 _ h (by omega) hK1 (oi_0 hch rfl rfl rfl)
      refine ⟨by rw [if_pos hs], K, hK, hdc.1, fun _ => ?_⟩
      unfold sp_best sp_bestSet
      rw [if_pos hs, if_pos hs, Int.toNat_natCast]
      exact hdc.2
    · refine ag_iconst dd_X_choose_21 ?_
      refine ag_zret dd_X_choose_22 rfl (by first | exact Or.inl rfl | exact Or.inr rfl | omega) ?_
      refine ⟨?_, K, hK, hch, fun z => ?_⟩
      · have hs : ¬ sp_isSet S p g = true := fun z => by
          first
          | exact absurd (sp_isSet_b hI z).2 (by omega)
          | exact absurd ((sub_z2 hp (sf_lt S _ (by omega))).mpr ((set_iff ha.2.2.1 (by assumption)).mp z)) (by assumption)
        rw [if_neg hs]
      · exfalso
        first
        | exact absurd (sp_isSet_b hI z).2 (by omega)
        | exact absurd ((sub_z2 hp (sf_lt S _ (by omega))).mpr ((set_iff ha.2.2.1 (by assumption)).mp z)) (by assumption)
set_option maxHeartbeats 1000000 in
theorem mc_X_best {w : aw_T} {h : ah_T} {S K : ms_T} {G : gh_T} {d : Nat} (hd : 22 ≤ d) (hR : co_R h S G) (hKR : kc_R h K) (hch : ch_ K) (hI : iv_S S) {p : Int} (hp : -2147483648 ≤ p ∧ p < 2147483648) {g : Int} (hg : -2147483648 ≤ g ∧ g < 2147483648) : am_M w mm_X_best d [av_r 0, av_i p, av_i g] h 0 0 (fun r1 h1 => r1 = some (av_i (sp_best S p g)) ∧ ∃ K2 : ms_T, kc_I h h1 K2 ∧ ch_ K2) := by
  refine am_intro [some (av_r 0), some (av_i (p)), some (av_i (g))] (by decide +kernel) (Nat.le_of_ble_eq_true rfl) rfl ?_
  have hC : co_I h h S G := ⟨hR, cf_rf h⟩
  refine ag_aload_n dd_X_best_0 rfl ?_
  refine ag_iload_n dd_X_best_1 rfl ?_
  refine ag_iload_n dd_X_best_2 rfl ?_
  refine ag_wV dd_X_best_3 fi_X_227 (cr_0 hC) rfl (mc_X_choose (d := 21) (by omega) hR hKR hch hI hp hg) rfl rfl (by omega) (Nat.le_of_ble_eq_true rfl) (fun r1 h1 hP => ?_)
  obtain ⟨rfl, K2, hK, hc2, hb⟩ := hP
  have hC : co_I h1 h1 S G := ⟨co_kf hR hK.2, cf_rf h1⟩
  generalize h = hq at *
  generalize h1 = h at *
  refine ag_if_eqB (tgt := 19) dd_X_best_6 (by decide) (fun c1 => ?_) (fun c1 => ?_)
  · refine ag_iconst dd_X_best_19 ?_
    refine ag_iret dd_X_best_20 rfl ?_
    refine ⟨?_, K2, hK, hc2⟩
    unfold sp_best
    rw [if_neg (by assumption)]
  · refine ag_aload_n dd_X_best_9 rfl ?_
    refine ag_get dd_X_best_10 fg_X_49 (cr_0 hC) rfl ?_
    refine ag_get dd_X_best_13 fg_X_231 (kx_6 hK) rfl ?_
    refine ag_goto (tgt := 20) dd_X_best_16 (by decide) ?_
    refine ag_iret dd_X_best_20 rfl ?_
    refine ⟨?_, K2, hK, hc2⟩
    rw [(hb (by assumption)).1]
set_option maxHeartbeats 1000000 in
theorem mc_X_bestSet {w : aw_T} {h : ah_T} {S K : ms_T} {G : gh_T} {d : Nat} (hd : 22 ≤ d) (hR : co_R h S G) (hKR : kc_R h K) (hch : ch_ K) (hI : iv_S S) {p : Int} (hp : -2147483648 ≤ p ∧ p < 2147483648) {g : Int} (hg : -2147483648 ≤ g ∧ g < 2147483648) : am_M w mm_X_bestSet d [av_r 0, av_i p, av_i g] h 0 0 (fun r1 h1 => r1 = some (av_i (sp_bestSet S p g)) ∧ ∃ K2 : ms_T, kc_I h h1 K2 ∧ ch_ K2) := by
  refine am_intro [some (av_r 0), some (av_i (p)), some (av_i (g))] (by decide +kernel) (Nat.le_of_ble_eq_true rfl) rfl ?_
  have hC : co_I h h S G := ⟨hR, cf_rf h⟩
  refine ag_aload_n dd_X_bestSet_0 rfl ?_
  refine ag_iload_n dd_X_bestSet_1 rfl ?_
  refine ag_iload_n dd_X_bestSet_2 rfl ?_
  refine ag_wV dd_X_bestSet_3 fi_X_227 (cr_0 hC) rfl (mc_X_choose (d := 21) (by omega) hR hKR hch hI hp hg) rfl rfl (by omega) (Nat.le_of_ble_eq_true rfl) (fun r1 h1 hP => ?_)
  obtain ⟨rfl, K2, hK, hc2, hb⟩ := hP
  have hC : co_I h1 h1 S G := ⟨co_kf hR hK.2, cf_rf h1⟩
  generalize h = hq at *
  generalize h1 = h at *
  refine ag_if_eqB (tgt := 19) dd_X_bestSet_6 (by decide) (fun c1 => ?_) (fun c1 => ?_)
  · refine ag_iconst dd_X_bestSet_19 ?_
    refine ag_iret dd_X_bestSet_20 rfl ?_
    refine ⟨?_, K2, hK, hc2⟩
    unfold sp_bestSet
    rw [if_neg (by assumption)]
  · refine ag_aload_n dd_X_bestSet_9 rfl ?_
    refine ag_get dd_X_bestSet_10 fg_X_49 (cr_0 hC) rfl ?_
    refine ag_get dd_X_bestSet_13 fg_X_234 (kx_6 hK) rfl ?_
    refine ag_goto (tgt := 20) dd_X_bestSet_16 (by decide) ?_
    refine ag_iret dd_X_bestSet_20 rfl ?_
    refine ⟨?_, K2, hK, hc2⟩
    rw [(hb (by assumption)).2]
