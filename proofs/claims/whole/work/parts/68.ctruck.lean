def ct_ (A : Nat → Int) (t : Int) : Nat → Int
  | 0 => 0
  | k + 1 => ct_ A t k + (if t < A k then 1 else 0)
theorem ct_b (A : Nat → Int) (t : Int) : ∀ n : Nat, 0 ≤ ct_ A t n ∧ ct_ A t n ≤ n
  | 0 => by rw [ct_]; omega
  | n + 1 => by
    have := ct_b A t n
    rw [ct_]
    split <;> omega
theorem ct_out (A : Nat → Int) (t v : Int) (k : Nat) : ∀ n : Nat, n ≤ k → ct_ (ai_up A k v) t n = ct_ A t n
  | 0, _ => rfl
  | n + 1, h => by rw [ct_, ct_, ct_out A t v k n (by omega), ai_up_n _ _ (by omega)]
theorem ct_up (A : Nat → Int) (t v : Int) (k : Nat) : ∀ n : Nat, k < n → ct_ (ai_up A k v) t n = ct_ A t n - (if t < A k then 1 else 0) + (if t < v then 1 else 0)
  | 0, h => by omega
  | n + 1, h => by
    rw [ct_, ct_]
    by_cases e : k = n
    · subst e
      rw [ct_out A t v k k (Nat.le_refl k), ai_up_s]
      omega
    · rw [ct_up A t v k n (by omega), ai_up_n _ _ (by omega)]
      omega
theorem cl_ct (G : gh_T) (t : Int) : ∀ n : Nat, cl_ G t n = ct_ (fun j => ((G 5 j : Nat) : Int)) t n
  | 0 => rfl
  | n + 1 => by rw [cl_, ct_, cl_ct G t n]
theorem fr_ct (S : ms_T) : ∀ n : Nat, sp_frN S n = (n : Int) - ct_ (S.2 64) (S.1 0) n
  | 0 => rfl
  | n + 1 => by
    rw [sp_frN, ct_, fr_ct S n]
    by_cases h : S.2 64 n ≤ S.1 0
    · rw [if_pos h, if_neg (by omega)]
      omega
    · rw [if_neg h, if_pos (by omega)]
      omega
theorem ft_lt (S : ms_T) : ∀ r k : Nat, sp_ftN S r k < k + r → S.2 64 (sp_ftN S r k) ≤ S.1 0
  | 0, k, h => by rw [sp_ftN] at h; omega
  | r + 1, k, h => by
    rw [sp_ftN] at h ⊢
    by_cases q : S.2 64 k ≤ S.1 0
    · rw [if_pos q]; exact q
    · rw [if_neg q] at h ⊢
      exact ft_lt S r (k + 1) (by omega)
theorem ft_eq (S : ms_T) : ∀ r k : Nat, sp_ftN S r k = k + r → ∀ j, k ≤ j → j < k + r → S.1 0 < S.2 64 j
  | 0, k, h, j, h1, h2 => by omega
  | r + 1, k, h, j, h1, h2 => by
    rw [sp_ftN] at h
    by_cases q : S.2 64 k ≤ S.1 0
    · rw [if_pos q] at h
      omega
    · rw [if_neg q] at h
      by_cases e : j = k
      · rw [e]; omega
      · exact ft_eq S r (k + 1) (by omega) j (by omega) (by omega)
theorem ct_all (A : Nat → Int) (t : Int) : ∀ n : Nat, (∀ j, j < n → t < A j) → ct_ A t n = n
  | 0, _ => rfl
  | n + 1, h => by
    rw [ct_, ct_all A t n (fun j hj => h j (by omega)), if_pos (h n (by omega))]
    omega
theorem ct_one (A : Nat → Int) (t : Int) {k : Nat} (hk : A k ≤ t) : ∀ n : Nat, k < n → ct_ A t n < n
  | 0, h => by omega
  | n + 1, h => by
    rw [ct_]
    by_cases e : k = n
    · have := ct_b A t n
      rw [← e, if_neg (by omega)]
      rw [← e] at this
      omega
    · have := ct_one A t hk n (by omega)
      split <;> omega
/-- a truck is free just if one is found -/
theorem fr_ft {S : ms_T} (h6 : 0 ≤ S.1 6) : 0 < sp_frN S (S.1 6).toNat ↔ (sp_ft S : Int) ≠ S.1 6 := by
  have hb := sp_ftN_b S (S.1 6).toNat 0
  have e0 : sp_ft S = sp_ftN S (S.1 6).toNat 0 := rfl
  rw [fr_ct]
  constructor
  · intro h e
    have hall := ct_all (S.2 64) (S.1 0) (S.1 6).toNat (fun j hj => ft_eq S (S.1 6).toNat 0 (by omega) j (by omega) (by omega))
    omega
  · intro h
    have h1 := ft_lt S (S.1 6).toNat 0 (by omega)
    have := ct_one (S.2 64) (S.1 0) h1 (S.1 6).toNat (by omega)
    omega
/-- the class counts its trucks as the model does -/
def tr_ (S : ms_T) (G : gh_T) : Prop := (∀ t, S.1 0 ≤ t → ct_ (S.2 64) t (S.1 6).toNat = cl_ G t (S.1 3).toNat) ∧ (∀ l : Nat, (l : Int) < S.1 3 → (S.2 59 l < 0 → G 5 l = 0) ∧ (G 5 l : Int) ≤ 5000) ∧ (∀ k : Nat, S.1 6 ≤ (k : Int) → S.2 64 k ≤ 0)
theorem tr_free {S : ms_T} {G : gh_T} (h : tr_ S G) (h6 : 0 ≤ S.1 6) : S.1 6 - cl_ G (S.1 0) (S.1 3).toNat = sp_frN S (S.1 6).toNat := by
  rw [fr_ct, h.1 (S.1 0) (Int.le_refl _)]
  omega
def tf_ (S : ms_T) (l : Nat) : Int := S.1 0 + 1 + sp_trip (S.2 42 (S.2 55 l).toNat) + sp_trip (S.2 42 (S.2 55 l).toNat)
theorem tr_go {S : ms_T} {G : gh_T} (h : tr_ S G) (hI : iv_S S) {l : Nat} (hl : (l : Int) < S.1 3) (h59 : S.2 59 l < 0) (hf : (sp_ft S : Int) ≠ S.1 6) : tr_ (sp_go S l) (gi_ G 5 l (tf_ S l).toNat) ∧ sp_frN (sp_go S l) ((sp_go S l).1 6).toNat = sp_frN S (S.1 6).toNat - 1 := by
  obtain ⟨h1, h2, h3⟩ := h
  have h6 := hI.1.2.2.2.2.2.2.1
  have h0 := hI.1.1
  have hkm := sp_trip_b (iv_km hI hl)
  have hb := sp_ftN_b S (S.1 6).toNat 0
  have e0 : sp_ft S = sp_ftN S (S.1 6).toNat 0 := rfl
  have hlt : sp_ft S < (S.1 6).toNat := by omega
  have hle := ft_lt S (S.1 6).toNat 0 (by omega)
  rw [← e0] at hle
  have e64 : (sp_go S l).2 64 = ai_up (S.2 64) (sp_ft S) (tf_ S l) := rfl
  have htf : 0 ≤ tf_ S l ∧ tf_ S l ≤ 4100 ∧ S.1 0 < tf_ S l := by unfold tf_; omega
  have g0 := (h2 l hl).1 h59
  have eG : (fun j => ((gi_ G 5 l (tf_ S l).toNat 5 j : Nat) : Int)) = ai_up (fun j => ((G 5 j : Nat) : Int)) l (tf_ S l) := funext (fun j => by
    by_cases e : j = l
    · rw [e, gi_s, ai_up_s]
      omega
    · rw [gi_n G (by omega), ai_up_n _ _ e])
  have key : ∀ t, S.1 0 ≤ t → ct_ (ai_up (S.2 64) (sp_ft S) (tf_ S l)) t (S.1 6).toNat = ct_ (S.2 64) t (S.1 6).toNat + (if t < tf_ S l then 1 else 0) := fun t ht => by
    rw [ct_up _ _ _ _ _ hlt, if_neg (show ¬ t < S.2 64 (sp_ft S) by omega)]
    omega
  refine ⟨⟨fun t ht => ?_, fun j hj => ?_, fun k hk => ?_⟩, ?_⟩
  · have ht2 : S.1 0 ≤ t := ht
    show ct_ ((sp_go S l).2 64) t (S.1 6).toNat = cl_ (gi_ G 5 l (tf_ S l).toNat) t (S.1 3).toNat
    rw [cl_ct, eG, e64, key t ht2, ct_up _ _ _ _ _ (show l < (S.1 3).toNat by omega), h1 t ht2, cl_ct, if_neg (show ¬ t < ((G 5 l : Nat) : Int) by omega)]
    omega
  · have hj2 : (j : Int) < S.1 3 := hj
    by_cases e : j = l
    · subst e
      have e59 : (sp_go S j).2 59 j = S.1 0 + 1 + sp_trip (S.2 42 (S.2 55 j).toNat) := ai_up_s (S.2 59) j _
      rw [gi_s, e59]
      exact ⟨fun q => by omega, by omega⟩
    · have e59 : (sp_go S l).2 59 j = S.2 59 j := ai_up_n (S.2 59) _ e
      rw [gi_n G (by omega), e59]
      exact h2 j hj2
  · have hk2 : S.1 6 ≤ (k : Int) := hk
    rw [e64, ai_up_n _ _ (by omega)]
    exact h3 k hk2
  · rw [fr_ct, fr_ct]
    show ((S.1 6).toNat : Int) - ct_ ((sp_go S l).2 64) (S.1 0) (S.1 6).toNat = _
    rw [e64, key (S.1 0) (Int.le_refl _), if_pos htf.2.2]
    omega
theorem it2_none {S : ms_T} (h6 : 0 ≤ S.1 6) (h : sp_frN S (S.1 6).toNat ≤ 0) : ∀ m k, it2 sp_send S k m = S
  | 0, k => rfl
  | m + 1, k => by
    have e : sp_send S k = S := by
      unfold sp_send
      rw [if_pos]
      right; right
      by_cases q : (sp_ft S : Int) = S.1 6
      · exact q
      · have := (fr_ft h6).mpr q
        omega
    rw [it2, e]
    exact it2_none h6 h m (k + 1)
set_option maxHeartbeats 1000000 in
theorem ml_X_sendTrucks {w : aw_T} {h0 : ah_T} {d : Nat} (hd : 3 ≤ d) {n : Nat} {P : ap_T} : ∀ (m k : Nat) (S : ms_T) (G : gh_T) (h : ah_T) (free : Int), k + m = n → S.1 3 = (n : Int) → iv_S S → tr_ S G → free = sp_frN S (S.1 6).toNat → co_I h0 h S G → (∀ (h : ah_T) (G2 : gh_T), co_I h0 h (it2 sp_send S k m) G2 → tr_ (it2 sp_send S k m) G2 → (∀ a b, a ≠ 5 → G2 a b = G a b) → P none h) → aw_W w mm_X_sendTrucks d P 10 [some (av_r 0), some (av_i (free)), some (av_q (rf_ G 2 n k))] [] h 0 0 := by
  intro m
  induction m with
  | zero =>
    intro k S G h free hk h3 hI htr hfr hC hX
    rw [rf_e (by omega)]
    refine ag_aload_n dd_X_sendTrucks_10 rfl ?_
    refine ag_ifnull (tgt := 54) dd_X_sendTrucks_11 (by decide) (fun _ => ?_) (fun _ q => by cases q)
    refine ag_vret dd_X_sendTrucks_54 rfl ?_
    exact hX h G hC htr (fun _ _ _ => rfl)
  | succ m ih =>
    intro k S G h free hk h3 hI htr hfr hC hX
    rw [rf_s (by omega)]
    have h6 := hI.1.2.2.2.2.2.2.1
    have h0c := hI.1.1
    have hfb : 0 ≤ free ∧ free ≤ 9 := by
      rw [hfr, fr_ct]
      have := ct_b (S.2 64) (S.1 0) (S.1 6).toNat
      omega
    obtain ⟨l55, -, -, -, -, l58, l59, -, l62, l62b, -⟩ := hI.2.2.2.1 k (by omega)
    refine ag_aload_n dd_X_sendTrucks_10 rfl ?_
    refine ag_ifnull (tgt := 54) dd_X_sendTrucks_11 (by decide) (fun q => by cases q) (fun _ _ => ?_)
    refine ag_iload_n dd_X_sendTrucks_14 rfl ?_
    refine ag_if_le (tgt := 54) dd_X_sendTrucks_15 (by decide) (by omega) (fun c2 => ?_) (fun c2 => ?_)
    · refine ag_vret dd_X_sendTrucks_54 rfl ?_
      have e := it2_none (S := S) (by omega) (by omega) (m + 1) k
      exact hX h G (by rw [e]; exact hC) (by rw [e]; exact htr) (fun _ _ _ => rfl)
    · refine ag_aload_n dd_X_sendTrucks_18 rfl ?_
      refine ag_get dd_X_sendTrucks_19 fg_X_208 (cr_L hC (by omega)) rfl ?_
      refine ag_iconst dd_X_sendTrucks_22 ?_
      refine ag_icmp_ne (tgt := 46) dd_X_sendTrucks_23 (by decide) (by omega) (by omega) (fun c3 => ?_) (fun c3 => ?_)
      · refine ag_aload_n dd_X_sendTrucks_46 rfl ?_
        refine ag_get dd_X_sendTrucks_47 fg_X_263 (cr_L hC (by omega)) rfl ?_
        refine ag_astore_n (L' := [some (av_r 0), some (av_i (free)), some (av_q (rf_ G 2 (S.1 3).toNat (k + 1)))]) dd_X_sendTrucks_50 rfl rfl (by decide) ?_
        refine ag_goto (tgt := 10) dd_X_sendTrucks_51 (by decide) ?_
        have eS : sp_send S k = S := if_pos (by omega)
        rw [show (S.1 3).toNat = n by omega]
        refine ih (k + 1) S G h free (by omega) h3 hI htr hfr hC (fun h G2 hC ht hg => hX h G2 (by rw [it2, eS]; exact hC) (by rw [it2, eS]; exact ht) hg)
      · refine ag_aload_n dd_X_sendTrucks_26 rfl ?_
        refine ag_rV dd_X_sendTrucks_27 fi_X_217 (cr_L hC (by omega)) rfl (mc_Load_isOver (d := 0) (by omega) hC (by omega) (by omega)) rfl rfl (by omega) (Nat.le_of_ble_eq_true rfl) ?_
        refine ag_if_neB (tgt := 46) dd_X_sendTrucks_30 (by decide) (fun c4 => ?_) (fun c4 => ?_)
        · refine ag_aload_n dd_X_sendTrucks_46 rfl ?_
          refine ag_get dd_X_sendTrucks_47 fg_X_263 (cr_L hC (by omega)) rfl ?_
          refine ag_astore_n (L' := [some (av_r 0), some (av_i (free)), some (av_q (rf_ G 2 (S.1 3).toNat (k + 1)))]) dd_X_sendTrucks_50 rfl rfl (by decide) ?_
          refine ag_goto (tgt := 10) dd_X_sendTrucks_51 (by decide) ?_
          have eS : sp_send S k = S := if_pos (by omega)
          rw [show (S.1 3).toNat = n by omega]
          refine ih (k + 1) S G h free (by omega) h3 hI htr hfr hC (fun h G2 hC ht hg => hX h G2 (by rw [it2, eS]; exact hC) (by rw [it2, eS]; exact ht) hg)
        · refine ag_aload_n dd_X_sendTrucks_33 rfl ?_
          refine ag_aload_n dd_X_sendTrucks_34 rfl ?_
          refine ag_get dd_X_sendTrucks_35 fg_X_80 (cr_0 hC) rfl ?_
          refine ag_iconst dd_X_sendTrucks_38 ?_
          refine ag_iadd dd_X_sendTrucks_39 ?_
          refine ag_wV dd_X_sendTrucks_40 fi_X_300 (cr_L hC (by omega)) rfl (mc_Load_leave (d := 2) (by omega) hC (by omega) l55 (iv_km hI (by omega)) (t := S.1 0 + 1) rfl (by omega)) rfl rfl (by omega) (Nat.le_of_ble_eq_true rfl) (fun r1 h hP => ?_)
          obtain ⟨rfl, hC⟩ := hP
          replace hC : co_I h0 h (sp_go S k) (gi_ G 5 k (tf_ S k).toNat) := hC
          have hft := (fr_ft (S := S) (by omega)).mp (by omega)
          have hgo := tr_go htr hI (l := k) (by omega) (by omega) hft
          have eS : sp_send S k = sp_go S k := if_neg (by omega)
          have w3 : (sp_go S k).1 3 = S.1 3 := rfl
          refine ag_iincN (Lf := fun y => [some (av_r 0), some (av_i (y)), some (av_r ((G 2 k)))]) dd_X_sendTrucks_43 rfl (fun _ => rfl) rfl (by decide) (fun y5 ey5 => ?_)
          refine ag_aload_n dd_X_sendTrucks_46 rfl ?_
          refine ag_get dd_X_sendTrucks_47 fg_X_263 (cr_L hC (by omega)) rfl ?_
          refine ag_astore_n (L' := [some (av_r 0), some (av_i (y5)), some (av_q (rf_ (gi_ G 5 k (tf_ S k).toNat) 2 ((sp_go S k).1 3).toNat (k + 1)))]) dd_X_sendTrucks_50 rfl rfl (by decide) ?_
          refine ag_goto (tgt := 10) dd_X_sendTrucks_51 (by decide) ?_
          rw [show ((sp_go S k).1 3).toNat = n by omega]
          have hI2 := iv_send hI (l := k) (by omega)
          rw [eS] at hI2
          refine ih (k + 1) (sp_go S k) (gi_ G 5 k (tf_ S k).toNat) h y5 (by omega) (by omega) hI2 hgo.1 (by omega) hC (fun h G2 hC ht hg => hX h G2 (by rw [it2, eS]; exact hC) (by rw [it2, eS]; exact ht) (fun a b hab => (hg a b hab).trans (gi_n G (by omega))))
set_option maxHeartbeats 1000000 in
theorem mc_X_sendTrucks {w : aw_T} {h0 h : ah_T} {S : ms_T} {G : gh_T} {d : Nat} (hd : 3 ≤ d) (hC : co_I h0 h S G) (hI : iv_S S) (htr : tr_ S G) : am_M w mm_X_sendTrucks d [av_r 0] h 0 0 (fun r1 h1 => r1 = none ∧ ∃ G2 : gh_T, co_I h0 h1 (sp_h2 S) G2 ∧ tr_ (sp_h2 S) G2 ∧ ∀ a b, a ≠ 5 → G2 a b = G a b) := by
  refine am_intro [some (av_r 0), none, none] (by decide +kernel) (Nat.le_of_ble_eq_true rfl) rfl ?_
  refine ag_aload_n dd_X_sendTrucks_0 rfl ?_
  refine ag_rV dd_X_sendTrucks_1 fi_X_244 (cr_0 hC) rfl (mc_X_freeTrucks (d := 0) (by omega) hC hI.1 (fun l hl => (htr.2.1 l hl).2)) rfl rfl (by omega) (Nat.le_of_ble_eq_true rfl) ?_
  refine ag_istore_nN (Lf := fun y => [some (av_r 0), some (av_i (y)), none]) dd_X_sendTrucks_4 (fun _ => rfl) rfl (by decide) (fun y1 ey1 => ?_)
  refine ag_aload_n dd_X_sendTrucks_5 rfl ?_
  refine ag_get dd_X_sendTrucks_6 fg_X_260 (cr_0 hC) rfl ?_
  refine ag_astore_n (L' := [some (av_r 0), some (av_i (y1)), some (av_q (rf_ G 2 (S.1 3).toNat 0))]) dd_X_sendTrucks_9 rfl rfl (by decide) ?_
  have h3 := hI.1.2.2.2.1
  have h6 := hI.1.2.2.2.2.2.2.1
  have hfe : y1 = sp_frN S (S.1 6).toNat := by rw [ey1]; exact tr_free htr (by omega)
  obtain ⟨n, hn⟩ : ∃ n : Nat, S.1 3 = (n : Int) := ⟨(S.1 3).toNat, by omega⟩
  have hnt : (S.1 3).toNat = n := by omega
  have eH : sp_h2 S = it2 sp_send S 0 n := by rw [it2_0, ← hnt]; rfl
  rw [hnt, eH]
  exact ml_X_sendTrucks hd n 0 S G h _ (by omega) hn hI htr hfe hC (fun h G2 hC ht hg => ⟨rfl, G2, hC, ht, hg⟩)
