theorem an15 {x : Nat} (h : x < 2147483648) : (Int32.ofInt (x : Int) &&& Int32.ofInt 15).toInt = ((x % 16 : Nat) : Int) := by
  rw [sp_ofN x]
  have h2 := pk_andN (show x < 2 ^ 32 by omega) (m := Int32.ofInt 15) 4 (by decide +kernel)
  rw [h2, nI_toInt (by omega)]
theorem sh4 {x : Nat} (h : x < 2147483648) : (Int32.ofInt (x : Int) >>> (Int32.ofInt 4 &&& 31)).toInt = ((x / 16 : Nat) : Int) := by
  have h2 := pk_shrN (n := x) (by omega) (Int32.ofInt 4 &&& 31) 4 (by decide +kernel)
  rw [sp_ofN x, h2, nI_toInt (by omega)]
def ix_ (x : Int) : Nat := x.toNat % 16
/-- the chooser's rows hold what they may -/
def kv_ (K : ms_T) : Prop := (0 ≤ K.1 7 ∧ K.1 7 ≤ 16) ∧ (1 ≤ K.1 8 ∧ K.1 8 ≤ 100) ∧ (∀ j : Nat, (j : Int) < K.1 7 → (0 ≤ K.2 10 j ∧ K.2 10 j ≤ 200000) ∧ (0 ≤ K.2 11 j ∧ K.2 11 j ≤ 200000)) ∧ ∀ i : Nat, i < 16 → (0 ≤ K.2 7 i ∧ K.2 7 i ≤ 200) ∧ (0 ≤ K.2 8 i ∧ K.2 8 i ≤ 6000) ∧ (0 ≤ K.2 9 i ∧ K.2 9 i ≤ 5000)
/-- the windows from hour t on, as the chooser reads them -/
def ff_ (K : ms_T) (t : Int) (p : Nat) : Nat → Nat → Int → Bool
  | 0, _, _ => true
  | m + 1, j, u => if p / 2 ^ (ix_ (K.2 10 j)) % 2 = 1 ∧ t ≤ K.2 9 (ix_ (K.2 10 j)) then (if K.1 8 * (K.2 10 j / 16 - t) < u + K.2 7 (ix_ (K.2 10 j)) then false else ff_ K t p m (j + 1) (u + K.2 7 (ix_ (K.2 10 j)))) else ff_ K t p m (j + 1) u
/-- the windows that a new one may break -/
def fi_w (K : ms_T) (p : Nat) (t : Int) : Nat → Nat → Bool
  | 0, _ => true
  | m + 1, j => if p / 2 ^ (ix_ (K.2 10 j)) % 2 = 1 ∧ K.2 9 (ix_ (K.2 10 j)) ≤ t ∧ ff_ K (K.2 9 (ix_ (K.2 10 j))) p (K.1 7).toNat 0 0 = false then false else fi_w K p t m (j + 1)
def ft_ (K : ms_T) (p i : Nat) : Bool := fi_w K p (K.2 9 i) (K.1 7).toNat 0
set_option maxHeartbeats 1000000 in
theorem ml_Chooser_fitsFrom {w : aw_T} {h0 h : ah_T} {K : ms_T} {d : Nat} (hd : 1 ≤ d) (hK : kc_I h0 h K) (hv : kv_ K) {t : Int} (ht : 0 ≤ t ∧ t ≤ 5000) {p : Nat} (hp : p < 65536) {P : ap_T} : ∀ (m j : Nat) (u : Int), (j : Int) + m = K.1 7 → (0 ≤ u ∧ u ≤ 200 * (j : Int)) → P (some (av_i (if ff_ K t p m j u = true then 1 else 0))) h → aw_W w mm_Chooser_fitsFrom d P 5 [some (av_r 6), some (av_i (t)), some (av_i ((p : Int))), some (av_i (u)), some (av_i ((j : Int))), none, none] [] h 0 0 := by
  intro m
  induction m with
  | zero =>
    intro j u hj hu hP
    have hv1 := hv.1
    refine ag_iload dd_Chooser_fitsFrom_5 rfl ?_
    refine ag_aload_n dd_Chooser_fitsFrom_7 rfl ?_
    refine ag_get dd_Chooser_fitsFrom_8 fg_Chooser_39 (kx_6 hK) rfl ?_
    refine ag_icmp_ge (tgt := 88) dd_Chooser_fitsFrom_11 (by decide) (by omega) (by omega) (fun c1 => ?_) (fun c1 => ?_)
    · refine ag_iconst dd_Chooser_fitsFrom_88 ?_
      refine ag_zret dd_Chooser_fitsFrom_89 rfl (by first | exact Or.inl rfl | exact Or.inr rfl | omega) ?_
      rw [ff_] at hP
      exact hP
    · exfalso; omega
  | succ m ih =>
    intro j u hj hu hP
    have hv1 := hv.1
    have hv8 := hv.2.1
    have hvj := (hv.2.2.1 j (by omega)).1
    obtain ⟨x, hx⟩ : ∃ x : Nat, K.2 10 j = (x : Int) := ⟨(K.2 10 j).toNat, by omega⟩
    have hix : ix_ (K.2 10 j) = x % 16 := by rw [hx]; rfl
    obtain ⟨b7, b8, b9⟩ := hv.2.2.2 (x % 16) (by omega)
    have hdv : K.2 10 j / 16 = ((x / 16 : Nat) : Int) := by rw [hx]; omega
    refine ag_iload dd_Chooser_fitsFrom_5 rfl ?_
    refine ag_aload_n dd_Chooser_fitsFrom_7 rfl ?_
    refine ag_get dd_Chooser_fitsFrom_8 fg_Chooser_39 (kx_6 hK) rfl ?_
    refine ag_icmp_ge (tgt := 88) dd_Chooser_fitsFrom_11 (by decide) (by omega) (by omega) (fun c1 => ?_) (fun c1 => ?_)
    · exfalso; omega
    · refine ag_aload_n dd_Chooser_fitsFrom_14 rfl ?_
      refine ag_get dd_Chooser_fitsFrom_15 fg_Chooser_21 (kx_6 hK) rfl ?_
      refine ag_iload dd_Chooser_fitsFrom_18 rfl ?_
      refine ag_ialdN dd_Chooser_fitsFrom_20 (kx_a hK (by decide) (by decide)) (by decide) (by omega) ?_
      rw [hx]
      refine ag_bipush dd_Chooser_fitsFrom_21 (by decide +kernel) ?_
      refine ag_iand dd_Chooser_fitsFrom_23 ?_
      refine ag_to (an15 (x := x) (by omega)) ?_
      refine ag_istore (L' := [some (av_r 6), some (av_i (t)), some (av_i ((p : Int))), some (av_i (u)), some (av_i ((j : Int))), some (av_i (((x % 16 : Nat) : Int))), none]) dd_Chooser_fitsFrom_24 rfl rfl (by decide) ?_
      refine ag_iload_n dd_Chooser_fitsFrom_26 rfl ?_
      refine ag_iload dd_Chooser_fitsFrom_27 rfl ?_
      refine ag_rS dd_Chooser_fitsFrom_29 fi_Chooser_95 (mc_X_holdsBit (d := 0) (by omega) (by omega)) rfl rfl (by omega) (Nat.le_of_ble_eq_true rfl) ?_
      refine ag_if_eqB (tgt := 82) dd_Chooser_fitsFrom_32 (by decide) (fun c2 => ?_) (fun c2 => ?_)
      · refine ag_iincN (Lf := fun y => [some (av_r 6), some (av_i (t)), some (av_i ((p : Int))), some (av_i (u)), some (av_i (y)), some (av_i (((x % 16 : Nat) : Int))), none]) dd_Chooser_fitsFrom_82 rfl (fun _ => rfl) rfl (by decide) (fun y3 ey3 => ?_)
        refine ag_goto (tgt := 5) dd_Chooser_fitsFrom_85 (by decide) ?_
        obtain rfl : y3 = ((j + 1 : Nat) : Int) := by omega
        have e9 : ff_ K t p (m + 1) j u = ff_ K t p m (j + 1) u := by
          rw [ff_, hix, if_neg]
          intro z
          first
          | exact (by assumption : ¬ p / 2 ^ (x % 16) % 2 = 1) z.1
          | (have := z.2; omega)
        rw [e9] at hP
        refine ag_weak [some (av_r 6), some (av_i (t)), some (av_i ((p : Int))), some (av_i (u)), some (av_i (((j + 1 : Nat) : Int))), none, none] (by simp [al_le]) ?_
        exact ih (j + 1) u (by omega) (by omega) hP
      · refine ag_aload_n dd_Chooser_fitsFrom_35 rfl ?_
        refine ag_get dd_Chooser_fitsFrom_36 fg_Chooser_18 (kx_6 hK) rfl ?_
        refine ag_iload dd_Chooser_fitsFrom_39 rfl ?_
        refine ag_ialdN dd_Chooser_fitsFrom_41 (kx_a hK (by decide) (by decide)) (by decide) (by omega) ?_
        refine ag_iload_n dd_Chooser_fitsFrom_42 rfl ?_
        refine ag_icmp_lt (tgt := 82) dd_Chooser_fitsFrom_43 (by decide) (by omega) (by omega) (fun c4 => ?_) (fun c4 => ?_)
        · refine ag_iincN (Lf := fun y => [some (av_r 6), some (av_i (t)), some (av_i ((p : Int))), some (av_i (u)), some (av_i (y)), some (av_i (((x % 16 : Nat) : Int))), none]) dd_Chooser_fitsFrom_82 rfl (fun _ => rfl) rfl (by decide) (fun y5 ey5 => ?_)
          refine ag_goto (tgt := 5) dd_Chooser_fitsFrom_85 (by decide) ?_
          obtain rfl : y5 = ((j + 1 : Nat) : Int) := by omega
          have e9 : ff_ K t p (m + 1) j u = ff_ K t p m (j + 1) u := by
            rw [ff_, hix, if_neg]
            intro z
            first
            | exact (by assumption : ¬ p / 2 ^ (x % 16) % 2 = 1) z.1
            | (have := z.2; omega)
          rw [e9] at hP
          refine ag_weak [some (av_r 6), some (av_i (t)), some (av_i ((p : Int))), some (av_i (u)), some (av_i (((j + 1 : Nat) : Int))), none, none] (by simp [al_le]) ?_
          exact ih (j + 1) u (by omega) (by omega) hP
        · refine ag_iload_n dd_Chooser_fitsFrom_46 rfl ?_
          refine ag_aload_n dd_Chooser_fitsFrom_47 rfl ?_
          refine ag_get dd_Chooser_fitsFrom_48 fg_Chooser_9 (kx_6 hK) rfl ?_
          refine ag_iload dd_Chooser_fitsFrom_51 rfl ?_
          refine ag_ialdN dd_Chooser_fitsFrom_53 (kx_a hK (by decide) (by decide)) (by decide) (by omega) ?_
          refine ag_iadd dd_Chooser_fitsFrom_54 ?_
          refine ag_istore_nN (Lf := fun y => [some (av_r 6), some (av_i (t)), some (av_i ((p : Int))), some (av_i (y)), some (av_i ((j : Int))), some (av_i (((x % 16 : Nat) : Int))), none]) dd_Chooser_fitsFrom_55 (fun _ => rfl) rfl (by decide) (fun y6 ey6 => ?_)
          refine ag_aload_n dd_Chooser_fitsFrom_56 rfl ?_
          refine ag_get dd_Chooser_fitsFrom_57 fg_Chooser_21 (kx_6 hK) rfl ?_
          refine ag_iload dd_Chooser_fitsFrom_60 rfl ?_
          refine ag_ialdN dd_Chooser_fitsFrom_62 (kx_a hK (by decide) (by decide)) (by decide) (by omega) ?_
          rw [hx]
          refine ag_iconst dd_Chooser_fitsFrom_63 ?_
          refine ag_ishr dd_Chooser_fitsFrom_64 ?_
          refine ag_to (sh4 (x := x) (by omega)) ?_
          refine ag_istore (L' := [some (av_r 6), some (av_i (t)), some (av_i ((p : Int))), some (av_i (y6)), some (av_i ((j : Int))), some (av_i (((x % 16 : Nat) : Int))), some (av_i (((x / 16 : Nat) : Int)))]) dd_Chooser_fitsFrom_65 rfl rfl (by decide) ?_
          have hmu : -1000000 ≤ K.1 8 * (((x / 16 : Nat) : Int) - t) ∧ K.1 8 * (((x / 16 : Nat) : Int) - t) ≤ 10000000 := by
            have hd1 : -5000 ≤ ((x / 16 : Nat) : Int) - t ∧ ((x / 16 : Nat) : Int) - t ≤ 20000 := by omega
            generalize ((x / 16 : Nat) : Int) - t = z at hd1
            constructor
            · have := Int.mul_le_mul_of_nonneg_left hd1.1 (show 0 ≤ K.1 8 by omega)
              omega
            · have := Int.mul_le_mul_of_nonneg_left hd1.2 (show 0 ≤ K.1 8 by omega)
              omega
          refine ag_iload_n dd_Chooser_fitsFrom_67 rfl ?_
          refine ag_aload_n dd_Chooser_fitsFrom_68 rfl ?_
          refine ag_get dd_Chooser_fitsFrom_69 fg_Chooser_32 (kx_6 hK) rfl ?_
          refine ag_iload dd_Chooser_fitsFrom_72 rfl ?_
          refine ag_iload_n dd_Chooser_fitsFrom_74 rfl ?_
          refine ag_isub dd_Chooser_fitsFrom_75 ?_
          refine ag_imul dd_Chooser_fitsFrom_76 ?_
          refine ag_icmp_le (tgt := 82) dd_Chooser_fitsFrom_77 (by decide) (by omega) (by omega) (fun c7 => ?_) (fun c7 => ?_)
          · refine ag_iincN (Lf := fun y => [some (av_r 6), some (av_i (t)), some (av_i ((p : Int))), some (av_i (y6)), some (av_i (y)), some (av_i (((x % 16 : Nat) : Int))), some (av_i (((x / 16 : Nat) : Int)))]) dd_Chooser_fitsFrom_82 rfl (fun _ => rfl) rfl (by decide) (fun y8 ey8 => ?_)
            refine ag_goto (tgt := 5) dd_Chooser_fitsFrom_85 (by decide) ?_
            have eu : y6 = u + K.2 7 (x % 16) := ey6
            obtain rfl : y8 = ((j + 1 : Nat) : Int) := by omega
            have e9 : ff_ K t p (m + 1) j u = ff_ K t p m (j + 1) (u + K.2 7 (x % 16)) := by
              rw [ff_, hix, hdv, if_pos ⟨by assumption, by assumption⟩, if_neg (by omega)]
            rw [e9] at hP
            rw [eu]
            refine ag_weak [some (av_r 6), some (av_i (t)), some (av_i ((p : Int))), some (av_i ((u + K.2 7 (x % 16)))), some (av_i (((j + 1 : Nat) : Int))), none, none] (by simp [al_le]) ?_
            exact ih (j + 1) (u + K.2 7 (x % 16)) (by omega) (by omega) hP
          · refine ag_iconst dd_Chooser_fitsFrom_80 ?_
            refine ag_zret dd_Chooser_fitsFrom_81 rfl (by first | exact Or.inl rfl | exact Or.inr rfl | omega) ?_
            have e9 : ff_ K t p (m + 1) j u = false := by
              rw [ff_, hix, hdv, if_pos ⟨by assumption, by assumption⟩, if_pos (by omega)]
            rw [e9] at hP
            exact hP
set_option maxHeartbeats 1000000 in
theorem mc_Chooser_fitsFrom {w : aw_T} {h0 h : ah_T} {K : ms_T} {d : Nat} (hd : 1 ≤ d) (hK : kc_I h0 h K) (hv : kv_ K) {t : Int} (ht : 0 ≤ t ∧ t ≤ 5000) {p : Nat} (hp : p < 65536) : am_M w mm_Chooser_fitsFrom d [av_r 6, av_i t, av_i (p : Int)] h 0 0 (fun r h' => r = some (av_i (if ff_ K t p (K.1 7).toNat 0 0 = true then 1 else 0)) ∧ h' = h) := by
  refine am_intro [some (av_r 6), some (av_i (t)), some (av_i ((p : Int))), none, none, none, none] (by decide +kernel) (Nat.le_of_ble_eq_true rfl) rfl ?_
  refine ag_iconst dd_Chooser_fitsFrom_0 ?_
  refine ag_istore_n (L' := [some (av_r 6), some (av_i (t)), some (av_i ((p : Int))), some (av_i (0)), none, none, none]) dd_Chooser_fitsFrom_1 rfl rfl (by decide) ?_
  refine ag_iconst dd_Chooser_fitsFrom_2 ?_
  refine ag_istore (L' := [some (av_r 6), some (av_i (t)), some (av_i ((p : Int))), some (av_i (0)), some (av_i (0)), none, none]) dd_Chooser_fitsFrom_3 rfl rfl (by decide) ?_
  exact ml_Chooser_fitsFrom hd hK hv ht hp (K.1 7).toNat 0 0 (by have := hv.1; omega) (by omega) ⟨rfl, rfl⟩
set_option maxHeartbeats 1000000 in
theorem ml_Chooser_fits {w : aw_T} {h0 h : ah_T} {K : ms_T} {d : Nat} (hd : 2 ≤ d) (hK : kc_I h0 h K) (hv : kv_ K) {t : Int} (ht : 0 ≤ t ∧ t ≤ 5000) {p : Nat} (hp : p < 65536) {i : Nat} {P : ap_T} : ∀ (m j : Nat), (j : Int) + m = K.1 7 → P (some (av_i (if fi_w K p t m j = true then 1 else 0))) h → aw_W w mm_Chooser_fits d P 13 [some (av_r 6), some (av_i ((p : Int))), some (av_i ((i : Int))), some (av_i (t)), some (av_i ((j : Int))), none] [] h 0 0 := by
  intro m
  induction m with
  | zero =>
    intro j hj hP
    have hv1 := hv.1
    refine ag_iload dd_Chooser_fits_13 rfl ?_
    refine ag_aload_n dd_Chooser_fits_15 rfl ?_
    refine ag_get dd_Chooser_fits_16 fg_Chooser_39 (kx_6 hK) rfl ?_
    refine ag_icmp_ge (tgt := 77) dd_Chooser_fits_19 (by decide) (by omega) (by omega) (fun c1 => ?_) (fun c1 => ?_)
    · refine ag_iconst dd_Chooser_fits_77 ?_
      refine ag_zret dd_Chooser_fits_78 rfl (by first | exact Or.inl rfl | exact Or.inr rfl | omega) ?_
      rw [fi_w] at hP
      exact hP
    · exfalso; omega
  | succ m ih =>
    intro j hj hP
    have hv1 := hv.1
    have hv8 := hv.2.1
    have hvj := (hv.2.2.1 j (by omega)).1
    obtain ⟨x, hx⟩ : ∃ x : Nat, K.2 10 j = (x : Int) := ⟨(K.2 10 j).toNat, by omega⟩
    have hix : ix_ (K.2 10 j) = x % 16 := by rw [hx]; rfl
    obtain ⟨b7, b8, b9⟩ := hv.2.2.2 (x % 16) (by omega)
    have hdv : K.2 10 j / 16 = ((x / 16 : Nat) : Int) := by rw [hx]; omega
    refine ag_iload dd_Chooser_fits_13 rfl ?_
    refine ag_aload_n dd_Chooser_fits_15 rfl ?_
    refine ag_get dd_Chooser_fits_16 fg_Chooser_39 (kx_6 hK) rfl ?_
    refine ag_icmp_ge (tgt := 77) dd_Chooser_fits_19 (by decide) (by omega) (by omega) (fun c1 => ?_) (fun c1 => ?_)
    · exfalso; omega
    · refine ag_aload_n dd_Chooser_fits_22 rfl ?_
      refine ag_get dd_Chooser_fits_23 fg_Chooser_21 (kx_6 hK) rfl ?_
      refine ag_iload dd_Chooser_fits_26 rfl ?_
      refine ag_ialdN dd_Chooser_fits_28 (kx_a hK (by decide) (by decide)) (by decide) (by omega) ?_
      rw [hx]
      refine ag_bipush dd_Chooser_fits_29 (by decide +kernel) ?_
      refine ag_iand dd_Chooser_fits_31 ?_
      refine ag_to (an15 (x := x) (by omega)) ?_
      refine ag_istore (L' := [some (av_r 6), some (av_i ((p : Int))), some (av_i ((i : Int))), some (av_i (t)), some (av_i ((j : Int))), some (av_i (((x % 16 : Nat) : Int)))]) dd_Chooser_fits_32 rfl rfl (by decide) ?_
      refine ag_iload_n dd_Chooser_fits_34 rfl ?_
      refine ag_iload dd_Chooser_fits_35 rfl ?_
      refine ag_rS dd_Chooser_fits_37 fi_Chooser_95 (mc_X_holdsBit (d := 0) (by omega) (by omega)) rfl rfl (by omega) (Nat.le_of_ble_eq_true rfl) ?_
      refine ag_if_eqB (tgt := 71) dd_Chooser_fits_40 (by decide) (fun c2 => ?_) (fun c2 => ?_)
      · refine ag_iincN (Lf := fun y => [some (av_r 6), some (av_i ((p : Int))), some (av_i ((i : Int))), some (av_i (t)), some (av_i (y)), some (av_i (((x % 16 : Nat) : Int)))]) dd_Chooser_fits_71 rfl (fun _ => rfl) rfl (by decide) (fun y3 ey3 => ?_)
        refine ag_goto (tgt := 13) dd_Chooser_fits_74 (by decide) ?_
        obtain rfl : y3 = ((j + 1 : Nat) : Int) := by omega
        have e9 : fi_w K p t (m + 1) j = fi_w K p t m (j + 1) := by
          rw [fi_w, hix, if_neg]
          intro z
          first
          | exact (by assumption : ¬ p / 2 ^ (x % 16) % 2 = 1) z.1
          | (have := z.2.1; omega)
          | (have h1 := (by assumption : ff_ K (K.2 9 (x % 16)) p (K.1 7).toNat 0 0 = true); rw [h1] at z; exact absurd z.2.2 (by decide))
        rw [e9] at hP
        refine ag_weak [some (av_r 6), some (av_i ((p : Int))), some (av_i ((i : Int))), some (av_i (t)), some (av_i (((j + 1 : Nat) : Int))), none] (by simp [al_le]) ?_
        exact ih (j + 1) (by omega) hP
      · refine ag_aload_n dd_Chooser_fits_43 rfl ?_
        refine ag_get dd_Chooser_fits_44 fg_Chooser_18 (kx_6 hK) rfl ?_
        refine ag_iload dd_Chooser_fits_47 rfl ?_
        refine ag_ialdN dd_Chooser_fits_49 (kx_a hK (by decide) (by decide)) (by decide) (by omega) ?_
        refine ag_iload_n dd_Chooser_fits_50 rfl ?_
        refine ag_icmp_gt (tgt := 71) dd_Chooser_fits_51 (by decide) (by omega) (by omega) (fun c4 => ?_) (fun c4 => ?_)
        · refine ag_iincN (Lf := fun y => [some (av_r 6), some (av_i ((p : Int))), some (av_i ((i : Int))), some (av_i (t)), some (av_i (y)), some (av_i (((x % 16 : Nat) : Int)))]) dd_Chooser_fits_71 rfl (fun _ => rfl) rfl (by decide) (fun y5 ey5 => ?_)
          refine ag_goto (tgt := 13) dd_Chooser_fits_74 (by decide) ?_
          obtain rfl : y5 = ((j + 1 : Nat) : Int) := by omega
          have e9 : fi_w K p t (m + 1) j = fi_w K p t m (j + 1) := by
            rw [fi_w, hix, if_neg]
            intro z
            first
            | exact (by assumption : ¬ p / 2 ^ (x % 16) % 2 = 1) z.1
            | (have := z.2.1; omega)
            | (have h1 := (by assumption : ff_ K (K.2 9 (x % 16)) p (K.1 7).toNat 0 0 = true); rw [h1] at z; exact absurd z.2.2 (by decide))
          rw [e9] at hP
          refine ag_weak [some (av_r 6), some (av_i ((p : Int))), some (av_i ((i : Int))), some (av_i (t)), some (av_i (((j + 1 : Nat) : Int))), none] (by simp [al_le]) ?_
          exact ih (j + 1) (by omega) hP
        · refine ag_aload_n dd_Chooser_fits_54 rfl ?_
          refine ag_aload_n dd_Chooser_fits_55 rfl ?_
          refine ag_get dd_Chooser_fits_56 fg_Chooser_18 (kx_6 hK) rfl ?_
          refine ag_iload dd_Chooser_fits_59 rfl ?_
          refine ag_ialdN dd_Chooser_fits_61 (kx_a hK (by decide) (by decide)) (by decide) (by omega) ?_
          refine ag_iload_n dd_Chooser_fits_62 rfl ?_
          refine ag_rV dd_Chooser_fits_63 fi_Chooser_98 (kx_6 hK) rfl (mc_Chooser_fitsFrom (d := 1) (by omega) hK hv (t := K.2 9 (x % 16)) (by omega) hp) rfl rfl (by omega) (Nat.le_of_ble_eq_true rfl) ?_
          refine ag_if_neB (tgt := 71) dd_Chooser_fits_66 (by decide) (fun c6 => ?_) (fun c6 => ?_)
          · refine ag_iincN (Lf := fun y => [some (av_r 6), some (av_i ((p : Int))), some (av_i ((i : Int))), some (av_i (t)), some (av_i (y)), some (av_i (((x % 16 : Nat) : Int)))]) dd_Chooser_fits_71 rfl (fun _ => rfl) rfl (by decide) (fun y7 ey7 => ?_)
            refine ag_goto (tgt := 13) dd_Chooser_fits_74 (by decide) ?_
            obtain rfl : y7 = ((j + 1 : Nat) : Int) := by omega
            have e9 : fi_w K p t (m + 1) j = fi_w K p t m (j + 1) := by
              rw [fi_w, hix, if_neg]
              intro z
              first
              | exact (by assumption : ¬ p / 2 ^ (x % 16) % 2 = 1) z.1
              | (have := z.2.1; omega)
              | (have h1 := (by assumption : ff_ K (K.2 9 (x % 16)) p (K.1 7).toNat 0 0 = true); rw [h1] at z; exact absurd z.2.2 (by decide))
            rw [e9] at hP
            refine ag_weak [some (av_r 6), some (av_i ((p : Int))), some (av_i ((i : Int))), some (av_i (t)), some (av_i (((j + 1 : Nat) : Int))), none] (by simp [al_le]) ?_
            exact ih (j + 1) (by omega) hP
          · refine ag_iconst dd_Chooser_fits_69 ?_
            refine ag_zret dd_Chooser_fits_70 rfl (by first | exact Or.inl rfl | exact Or.inr rfl | omega) ?_
            have hff : ff_ K (K.2 9 (x % 16)) p (K.1 7).toNat 0 0 = false := by
              have := (by assumption : ¬ ff_ K (K.2 9 (x % 16)) p (K.1 7).toNat 0 0 = true)
              simpa using this
            have e9 : fi_w K p t (m + 1) j = false := by
              rw [fi_w, hix, if_pos ⟨by assumption, by assumption, hff⟩]
            rw [e9] at hP
            exact hP
set_option maxHeartbeats 1000000 in
theorem mc_Chooser_fits {w : aw_T} {h0 h : ah_T} {K : ms_T} {d : Nat} (hd : 2 ≤ d) (hK : kc_I h0 h K) (hv : kv_ K) {p i : Nat} (hp : p < 65536) (hi : i < 16) : am_M w mm_Chooser_fits d [av_r 6, av_i (p : Int), av_i (i : Int)] h 0 0 (fun r h' => r = some (av_i (if ft_ K p i = true then 1 else 0)) ∧ h' = h) := by
  refine am_intro [some (av_r 6), some (av_i ((p : Int))), some (av_i ((i : Int))), none, none, none] (by decide +kernel) (Nat.le_of_ble_eq_true rfl) rfl ?_
  have b9 := (hv.2.2.2 i hi).2.2
  have him : i % 16 = i := by omega
  refine ag_aload_n dd_Chooser_fits_0 rfl ?_
  refine ag_get dd_Chooser_fits_1 fg_Chooser_18 (kx_6 hK) rfl ?_
  refine ag_iload_n dd_Chooser_fits_4 rfl ?_
  refine ag_bipush dd_Chooser_fits_5 (by decide +kernel) ?_
  refine ag_iand dd_Chooser_fits_7 ?_
  refine ag_to (an15 (x := i) (by omega)) ?_
  refine ag_ialdN dd_Chooser_fits_8 (kx_a hK (by decide) (by decide)) (by decide) (by omega) ?_
  refine ag_istore_nN (Lf := fun y => [some (av_r 6), some (av_i ((p : Int))), some (av_i ((i : Int))), some (av_i (y)), none, none]) dd_Chooser_fits_9 (fun _ => rfl) rfl (by decide) (fun y1 ey1 => ?_)
  refine ag_iconst dd_Chooser_fits_10 ?_
  refine ag_istore (L' := [some (av_r 6), some (av_i ((p : Int))), some (av_i ((i : Int))), some (av_i (y1)), some (av_i (0)), none]) dd_Chooser_fits_11 rfl rfl (by decide) ?_
  have ey : y1 = K.2 9 i := by rw [ey1, him]
  rw [ey]
  exact ml_Chooser_fits hd hK hv (by omega) hp (K.1 7).toNat 0 (by have := hv.1; omega) ⟨rfl, rfl⟩
