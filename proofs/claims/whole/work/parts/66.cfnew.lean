set_option maxHeartbeats 1000000 in
theorem mc_Field_init {w : aw_T} {h : ah_T} {d : Nat} (hd : 1 ≤ d) {q : Nat} {v0 v1 v2 v3 v4 v5 v6 v7 v8 v9 v10 v11 v12 v13 v14 : av_T} (hc : h[q]? = some (ac_o 4 [v0, v1, v2, v3, v4, v5, v6, v7, v8, v9, v10, v11, v12, v13, v14])) {x0 x1 x2 x3 x4 x5 x6 : Int} : am_M w mm_Field_init d [av_r q, av_i x0, av_i x1, av_i x2, av_i x3, av_i x4, av_i x5, av_i x6] h 0 0 (fun r1 h1 => r1 = none ∧ hu_ h h1 q (ac_o 4 [av_i x0, av_i x1, av_i x2, av_i x3, av_i x4, av_i x5, av_i x6, av_i 0, v8, v9, v10, v11, v12, av_i (-1), v14])) := by
  refine am_intro [some (av_r (q)), some (av_i (x0)), some (av_i (x1)), some (av_i (x2)), some (av_i (x3)), some (av_i (x4)), some (av_i (x5)), some (av_i (x6))] (by decide +kernel) (Nat.le_of_ble_eq_true rfl) rfl ?_
  refine ag_aload_n dd_Field_init_0 rfl ?_
  refine ag_obj dd_Field_init_1 fi_Field_3 fo_i fo_c (by omega) (Nat.le_of_ble_eq_true rfl) ?_
  refine ag_aload_n dd_Field_init_4 rfl ?_
  refine ag_iconst dd_Field_init_5 ?_
  refine hp_i dd_Field_init_6 fp_Field_11 hc (Nat.le_of_ble_eq_true rfl) (fun h huN => ?_)
  have hu1 := huN
  clear huN
  refine ag_aload_n dd_Field_init_9 rfl ?_
  refine ag_iconst dd_Field_init_10 ?_
  refine hp_i dd_Field_init_11 fp_Field_15 hu1.2.1 (Nat.le_of_ble_eq_true rfl) (fun h huN => ?_)
  replace hu1 := hu_tr hu1 huN
  clear huN
  refine ag_aload_n dd_Field_init_14 rfl ?_
  refine ag_iload_n dd_Field_init_15 rfl ?_
  refine hp_i dd_Field_init_16 fp_Field_18 hu1.2.1 (Nat.le_of_ble_eq_true rfl) (fun h huN => ?_)
  replace hu1 := hu_tr hu1 huN
  clear huN
  refine ag_aload_n dd_Field_init_19 rfl ?_
  refine ag_iload_n dd_Field_init_20 rfl ?_
  refine hp_i dd_Field_init_21 fp_Field_21 hu1.2.1 (Nat.le_of_ble_eq_true rfl) (fun h huN => ?_)
  replace hu1 := hu_tr hu1 huN
  clear huN
  refine ag_aload_n dd_Field_init_24 rfl ?_
  refine ag_iload_n dd_Field_init_25 rfl ?_
  refine hp_i dd_Field_init_26 fp_Field_24 hu1.2.1 (Nat.le_of_ble_eq_true rfl) (fun h huN => ?_)
  replace hu1 := hu_tr hu1 huN
  clear huN
  refine ag_aload_n dd_Field_init_29 rfl ?_
  refine ag_iload dd_Field_init_30 rfl ?_
  refine hp_i dd_Field_init_32 fp_Field_27 hu1.2.1 (Nat.le_of_ble_eq_true rfl) (fun h huN => ?_)
  replace hu1 := hu_tr hu1 huN
  clear huN
  refine ag_aload_n dd_Field_init_35 rfl ?_
  refine ag_iload dd_Field_init_36 rfl ?_
  refine hp_i dd_Field_init_38 fp_Field_30 hu1.2.1 (Nat.le_of_ble_eq_true rfl) (fun h huN => ?_)
  replace hu1 := hu_tr hu1 huN
  clear huN
  refine ag_aload_n dd_Field_init_41 rfl ?_
  refine ag_iload dd_Field_init_42 rfl ?_
  refine hp_i dd_Field_init_44 fp_Field_33 hu1.2.1 (Nat.le_of_ble_eq_true rfl) (fun h huN => ?_)
  replace hu1 := hu_tr hu1 huN
  clear huN
  refine ag_aload_n dd_Field_init_47 rfl ?_
  refine ag_iload dd_Field_init_48 rfl ?_
  refine hp_i dd_Field_init_50 fp_Field_36 hu1.2.1 (Nat.le_of_ble_eq_true rfl) (fun h huN => ?_)
  replace hu1 := hu_tr hu1 huN
  clear huN
  refine ag_vret dd_Field_init_53 rfl ?_
  exact ⟨rfl, hu1⟩
def sp_fn (S : ms_T) (a b c e f g : Int) : ms_T := (ai_up S.1 2 (S.1 2 + 1), ai_up (ai_up (ai_up (ai_up (ai_up (ai_up (ai_up (ai_up S.2 40 (ai_up (S.2 40) (S.1 2).toNat a)) 41 (ai_up (S.2 41) (S.1 2).toNat b)) 42 (ai_up (S.2 42) (S.1 2).toNat c)) 43 (ai_up (S.2 43) (S.1 2).toNat e)) 44 (ai_up (S.2 44) (S.1 2).toNat f)) 45 (ai_up (S.2 45) (S.1 2).toNat g)) 49 (ai_up (S.2 49) (S.1 2).toNat (-1))) 51 (ai_up (S.2 51) (S.1 2).toNat (-1)))
/-- what a class of fields keeps beside the model's numbers -/
def z5_ (S : ms_T) : Prop := ∀ f : Nat, S.1 2 ≤ (f : Int) → S.2 50 f = 0
theorem rf_gi {G : gh_T} {k n a0 j m : Nat} (h : m ≤ n) : rf_ (gi_ G k n a0) k m j = rf_ G k m j := by
  unfold rf_
  split
  · rw [gi_n G (by omega)]
  · rfl
theorem co_addF {h0 h h2 h3 h4 : ah_T} {S : ms_T} {G : gh_T} {a0 : Nat} {a b c e f g : Int} {cn : ac_T} (hC : co_I h0 h S G) (hI : iv_S S) (hz : z5_ S) (hn : hn_ h h2 a0 cn)
    (hcn : cn = ac_o 4 [av_i (S.1 2), av_i a, av_i b, av_i c, av_i e, av_i f, av_i g, av_i 0, av_i 0, av_i 0, av_i 0, av_i 0, av_i 0, av_i (-1), av_n])
    (h3a : ∀ x, ((S.1 2).toNat ≠ 0 → x ≠ G 1 ((S.1 2).toNat - 1)) → h3[x]? = h2[x]?) (h3l : h3.length = h2.length)
    (h3b : (S.1 2).toNat ≠ 0 → h3[G 1 ((S.1 2).toNat - 1)]? = some (cx_F (sp_fn S a b c e f g) (gi_ G 1 (S.1 2).toNat a0) ((S.1 2).toNat - 1)))
    (hu : hu_ h3 h4 0 (cx_0 (sp_fn S a b c e f g) (gi_ G 1 (S.1 2).toNat a0))) : co_I h0 h4 (sp_fn S a b c e f g) (gi_ G 1 (S.1 2).toNat a0) := by
  subst hcn
  have ha0 := hn.1
  have hlen := hC.1.1
  have h2b := hI.1.2.2.1
  obtain ⟨N, hN⟩ : ∃ N : Nat, S.1 2 = (N : Int) := ⟨(S.1 2).toNat, by omega⟩
  have hNt : (S.1 2).toNat = N := by omega
  rw [hNt] at h3a h3b hu ⊢
  have e2 : (sp_fn S a b c e f g).1 2 = ((N + 1 : Nat) : Int) := by
    show S.1 2 + 1 = _
    omega
  have prv : N ≠ 0 → vl_ok S G 1 (N - 1) := fun q => by
    show ((N - 1 : Nat) : Int) < S.1 2
    omega
  have old : ∀ k i, vl_ok S G k i → ¬ (k = 0 ∧ i = 0) → ¬ (k = 1 ∧ i = N - 1) → h4[ad_ G k i]? = some (ce_ S G k i) := fun k i v q1 q2 => by
    have c1 : ad_ G k i ≠ 0 := fun e => by
      have v0 : vl_ok S G 0 0 := Or.inl (Nat.zero_le 5)
      have := hC.1.2.2 k i 0 0 v v0 e
      exact q1 this
    have c2 : N ≠ 0 → ad_ G k i ≠ G 1 (N - 1) := fun e1 e => by
      have := hC.1.2.2 k i 1 (N - 1) v (prv e1) e
      exact q2 this
    rw [hu.2.2 _ c1, h3a _ c2, hn.2.2.2 _ (co_lt hC v)]
    exact (hC.1.2.1 k i v).1
  have v5 : ∀ i, i ≤ 5 → vl_ok S G 0 i := fun i hi => Or.inl hi
  refine ⟨co_gen (k0 := 1) (i0 := N) hC.1 (by rw [hu.1, h3l, hn.2.1]; omega) (by decide) (co_K (Or.inl ⟨v5 0 (by decide), rfl, hu.2.1⟩) (Or.inl ⟨v5 1 (by decide), rfl, old 0 1 (v5 1 (by decide)) (by omega) (by omega)⟩) (Or.inl ⟨v5 2 (by decide), rfl, old 0 2 (v5 2 (by decide)) (by omega) (by omega)⟩) (Or.inl ⟨v5 3 (by decide), rfl, old 0 3 (v5 3 (by decide)) (by omega) (by omega)⟩) (Or.inl ⟨v5 4 (by decide), rfl, old 0 4 (v5 4 (by decide)) (by omega) (by omega)⟩) (Or.inl ⟨v5 5 (by decide), rfl, old 0 5 (v5 5 (by decide)) (by omega) (by omega)⟩) (Or.inl ⟨Or.inr (Or.inl rfl), rfl, old 0 30 (Or.inr (Or.inl rfl)) (by omega) (by omega)⟩) (Or.inl ⟨Or.inr (Or.inr rfl), rfl, old 0 31 (Or.inr (Or.inr rfl)) (by omega) (by omega)⟩) (fun i hi => ?_) (fun i hi => Or.inl ⟨hi, rfl, ?_⟩) (fun i hi => Or.inl ⟨hi, rfl, old 3 i hi (by omega) (by omega)⟩) (fun i hi => Or.inl ⟨hi, rfl, old 4 i hi (by omega) (by omega)⟩)), ?_⟩
  · rw [e2] at hi
    by_cases q : i = N
    · right
      subst q
      have ha1 : a0 ≠ 0 := by omega
      have c2 : i ≠ 0 → a0 ≠ G 1 (i - 1) := fun e1 e => by
        have := co_lt hC (prv e1)
        have e3 : ad_ G 1 (i - 1) = G 1 (i - 1) := rfl
        omega
      refine ⟨⟨rfl, rfl⟩, ?_, ?_⟩
      · show gi_ G 1 i a0 1 i = _
        rw [gi_s, ha0]
      · rw [← ha0, hu.2.2 _ ha1, h3a _ c2, hn.2.2.1]
        show _ = some (cx_F (sp_fn S a b c e f g) (gi_ G 1 i a0) i)
        have z := hI.2.2.1 i (by omega)
        have z50 := hz i (by omega)
        have w40 : (sp_fn S a b c e f g).2 40 i = a := by show ai_up (S.2 40) (S.1 2).toNat a i = a; rw [hNt, ai_up_s]
        have w41 : (sp_fn S a b c e f g).2 41 i = b := by show ai_up (S.2 41) (S.1 2).toNat b i = b; rw [hNt, ai_up_s]
        have w42 : (sp_fn S a b c e f g).2 42 i = c := by show ai_up (S.2 42) (S.1 2).toNat c i = c; rw [hNt, ai_up_s]
        have w43 : (sp_fn S a b c e f g).2 43 i = e := by show ai_up (S.2 43) (S.1 2).toNat e i = e; rw [hNt, ai_up_s]
        have w44 : (sp_fn S a b c e f g).2 44 i = f := by show ai_up (S.2 44) (S.1 2).toNat f i = f; rw [hNt, ai_up_s]
        have w45 : (sp_fn S a b c e f g).2 45 i = g := by show ai_up (S.2 45) (S.1 2).toNat g i = g; rw [hNt, ai_up_s]
        have w46 : (sp_fn S a b c e f g).2 46 i = 0 := z.1
        have w47 : (sp_fn S a b c e f g).2 47 i = 0 := z.2.1
        have w48 : (sp_fn S a b c e f g).2 48 i = 0 := z.2.2
        have w49 : (sp_fn S a b c e f g).2 49 i = -1 := by show ai_up (S.2 49) (S.1 2).toNat (-1) i = -1; rw [hNt, ai_up_s]
        have w50 : (sp_fn S a b c e f g).2 50 i = 0 := z50
        have w51 : (sp_fn S a b c e f g).2 51 i = -1 := by show ai_up (S.2 51) (S.1 2).toNat (-1) i = -1; rw [hNt, ai_up_s]
        unfold cx_F
        rw [w40, w41, w42, w43, w44, w45, w46, w47, w48, w49, w50, w51, e2, rf_e (by omega), hN]
        rfl
    · have hi2 : (i : Int) < S.1 2 := by omega
      left
      refine ⟨hi2, ?_, ?_⟩
      · show gi_ G 1 N a0 1 i = G 1 i
        exact gi_n G (by omega)
      · by_cases q3 : i = N - 1
        · subst q3
          have c1 : ad_ G 1 (N - 1) ≠ 0 := fun e => by
            have v0 : vl_ok S G 0 0 := Or.inl (Nat.zero_le 5)
            have := hC.1.2.2 1 (N - 1) 0 0 hi2 v0 e
            omega
          rw [hu.2.2 _ c1]
          exact h3b (by omega)
        · rw [old 1 i hi2 (by omega) (by omega)]
          show some (cx_F S G i) = some (cx_F (sp_fn S a b c e f g) (gi_ G 1 N a0) i)
          have en : rf_ (gi_ G 1 N a0) 1 (N + 1) (i + 1) = rf_ G 1 N (i + 1) := by
            rw [rf_s (by omega), rf_s (by omega), gi_n G (by omega)]
          have up : ∀ (A : Nat → Int) (v : Int), ai_up A (S.1 2).toNat v i = A i := fun A v => ai_up_n A v (by omega)
          have w40 : (sp_fn S a b c e f g).2 40 i = S.2 40 i := up _ _
          have w41 : (sp_fn S a b c e f g).2 41 i = S.2 41 i := up _ _
          have w42 : (sp_fn S a b c e f g).2 42 i = S.2 42 i := up _ _
          have w43 : (sp_fn S a b c e f g).2 43 i = S.2 43 i := up _ _
          have w44 : (sp_fn S a b c e f g).2 44 i = S.2 44 i := up _ _
          have w45 : (sp_fn S a b c e f g).2 45 i = S.2 45 i := up _ _
          have w46 : (sp_fn S a b c e f g).2 46 i = S.2 46 i := rfl
          have w47 : (sp_fn S a b c e f g).2 47 i = S.2 47 i := rfl
          have w48 : (sp_fn S a b c e f g).2 48 i = S.2 48 i := rfl
          have w49 : (sp_fn S a b c e f g).2 49 i = S.2 49 i := up _ _
          have w50 : (sp_fn S a b c e f g).2 50 i = S.2 50 i := rfl
          have w51 : (sp_fn S a b c e f g).2 51 i = S.2 51 i := up _ _
          unfold cx_F
          rw [w40, w41, w42, w43, w44, w45, w46, w47, w48, w49, w50, w51, e2, Int.toNat_natCast, en, hNt]
  · have hi2 : (i : Int) < S.1 3 := hi
    rw [old 2 i hi2 (by omega) (by omega)]
    show some (cx_L S G i) = some (cx_L (sp_fn S a b c e f g) (gi_ G 1 N a0) i)
    have hl := (hI.2.2.2.1 i hi2).1
    have eg : gi_ G 1 N a0 1 (S.2 55 i).toNat = G 1 (S.2 55 i).toNat := gi_n G (by omega)
    have eg2 : gi_ G 1 N a0 1 ((sp_fn S a b c e f g).2 55 i).toNat = G 1 (S.2 55 i).toNat := eg
    unfold cx_L
    rw [eg2]
    rfl
  · refine cf_of hC.2 (fun x hx => ?_)
    have c2 : N ≠ 0 → x ≠ G 1 (N - 1) := fun e1 e => by
      have h77 := (hC.1.2.1 1 (N - 1) (prv e1)).2 (by decide)
      have e3 : ad_ G 1 (N - 1) = G 1 (N - 1) := rfl
      omega
    rw [hu.2.2 x (by omega), h3a x c2, hn.2.2.2 x (by omega)]
set_option maxHeartbeats 1000000 in
theorem mc_X_field {w : aw_T} {h0 h : ah_T} {S : ms_T} {G : gh_T} {d : Nat} (hd : 2 ≤ d) (hC : co_I h0 h S G) {a : Int} (ha : -2147483648 ≤ a ∧ a < 2147483648) {b : Int} (hb : -2147483648 ≤ b ∧ b < 2147483648) {c : Int} (hc : -2147483648 ≤ c ∧ c < 2147483648) {e : Int} (he : -2147483648 ≤ e ∧ e < 2147483648) {f : Int} (hf : -2147483648 ≤ f ∧ f < 2147483648) {g : Int} (hg : -2147483648 ≤ g ∧ g < 2147483648) (hI : iv_S S) (hz : z5_ S) : am_M w mm_X_field d [av_r 0, av_i a, av_i b, av_i c, av_i e, av_i f, av_i g] h 1 15 (fun r1 h1 => r1 = (sp_field S a b c e f g).1 ∧ ∃ G2 : gh_T, co_I h0 h1 (sp_field S a b c e f g).2 G2 ∧ ∀ a b, 5 ≤ a → G2 a b = G a b) := by
  refine am_intro [some (av_r 0), some (av_i (a)), some (av_i (b)), some (av_i (c)), some (av_i (e)), some (av_i (f)), some (av_i (g)), none, none, none] (by decide +kernel) (Nat.le_of_ble_eq_true rfl) rfl ?_
  have h2 := hI.1.2.2.1
  have h1 := hI.1.2.1
  have hlen := hC.1.1
  refine ag_iload_n dd_X_field_0 rfl ?_
  refine ag_iconst dd_X_field_1 ?_
  refine ag_aload_n dd_X_field_2 rfl ?_
  refine ag_get dd_X_field_3 fg_X_28 (cr_0 hC) rfl ?_
  refine ag_get dd_X_field_6 fg_X_87 (cr_1 hC) rfl ?_
  refine ag_iconst dd_X_field_9 ?_
  refine ag_isub dd_X_field_10 ?_
  refine ag_rS dd_X_field_11 fi_X_76 (mc_X_isWithin (d := 0) (by omega) (by omega) (by omega)) rfl rfl (by omega) (Nat.le_of_ble_eq_true rfl) ?_
  refine ag_if_eqB (tgt := 76) dd_X_field_14 (by decide) (fun c1 => ?_) (fun c1 => ?_)
  · refine ag_iconst dd_X_field_76 ?_
    refine ag_istore (L' := [some (av_r 0), some (av_i (a)), some (av_i (b)), some (av_i (c)), some (av_i (e)), some (av_i (f)), some (av_i (g)), some (av_i (0)), none, none]) dd_X_field_77 rfl rfl (by decide) ?_
    refine ag_aload_n dd_X_field_79 rfl ?_
    refine ag_rV dd_X_field_80 fi_X_90 (cr_0 hC) rfl (mc_X_fieldCount (d := 0) (by omega) hC h2) rfl rfl (by omega) (Nat.le_of_ble_eq_true rfl) ?_
    refine ag_istoreN (Lf := fun y => [some (av_r 0), some (av_i (a)), some (av_i (b)), some (av_i (c)), some (av_i (e)), some (av_i (f)), some (av_i (g)), some (av_i (0)), some (av_i (y)), none]) dd_X_field_83 (fun _ => rfl) rfl (by decide) (fun y2 ey2 => ?_)
    refine ag_iload dd_X_field_85 rfl ?_
    refine ag_if_eq (tgt := 97) dd_X_field_87 (by decide) (by omega) (fun c3 => ?_) (fun c3 => ?_)
    · refine ag_iconst dd_X_field_97 ?_
      refine ag_iret dd_X_field_98 rfl ?_
      unfold sp_field
      rw [if_neg (by omega)]
      exact ⟨rfl, G, hC, fun _ _ _ => rfl⟩
    · exfalso; omega
  · refine ag_iload_n dd_X_field_17 rfl ?_
    refine ag_iconst dd_X_field_18 ?_
    refine ag_sipush dd_X_field_19 (by decide +kernel) ?_
    refine ag_rS dd_X_field_22 fi_X_76 (mc_X_isWithin (d := 0) (by omega) (by omega) (by omega)) rfl rfl (by omega) (Nat.le_of_ble_eq_true rfl) ?_
    refine ag_if_eqB (tgt := 76) dd_X_field_25 (by decide) (fun c4 => ?_) (fun c4 => ?_)
    · refine ag_iconst dd_X_field_76 ?_
      refine ag_istore (L' := [some (av_r 0), some (av_i (a)), some (av_i (b)), some (av_i (c)), some (av_i (e)), some (av_i (f)), some (av_i (g)), some (av_i (0)), none, none]) dd_X_field_77 rfl rfl (by decide) ?_
      refine ag_aload_n dd_X_field_79 rfl ?_
      refine ag_rV dd_X_field_80 fi_X_90 (cr_0 hC) rfl (mc_X_fieldCount (d := 0) (by omega) hC h2) rfl rfl (by omega) (Nat.le_of_ble_eq_true rfl) ?_
      refine ag_istoreN (Lf := fun y => [some (av_r 0), some (av_i (a)), some (av_i (b)), some (av_i (c)), some (av_i (e)), some (av_i (f)), some (av_i (g)), some (av_i (0)), some (av_i (y)), none]) dd_X_field_83 (fun _ => rfl) rfl (by decide) (fun y5 ey5 => ?_)
      refine ag_iload dd_X_field_85 rfl ?_
      refine ag_if_eq (tgt := 97) dd_X_field_87 (by decide) (by omega) (fun c6 => ?_) (fun c6 => ?_)
      · refine ag_iconst dd_X_field_97 ?_
        refine ag_iret dd_X_field_98 rfl ?_
        unfold sp_field
        rw [if_neg (by omega)]
        exact ⟨rfl, G, hC, fun _ _ _ => rfl⟩
      · exfalso; omega
    · refine ag_iload_n dd_X_field_28 rfl ?_
      refine ag_iconst dd_X_field_29 ?_
      refine ag_bipush dd_X_field_30 (by decide +kernel) ?_
      refine ag_rS dd_X_field_32 fi_X_76 (mc_X_isWithin (d := 0) (by omega) (by omega) (by omega)) rfl rfl (by omega) (Nat.le_of_ble_eq_true rfl) ?_
      refine ag_if_eqB (tgt := 76) dd_X_field_35 (by decide) (fun c7 => ?_) (fun c7 => ?_)
      · refine ag_iconst dd_X_field_76 ?_
        refine ag_istore (L' := [some (av_r 0), some (av_i (a)), some (av_i (b)), some (av_i (c)), some (av_i (e)), some (av_i (f)), some (av_i (g)), some (av_i (0)), none, none]) dd_X_field_77 rfl rfl (by decide) ?_
        refine ag_aload_n dd_X_field_79 rfl ?_
        refine ag_rV dd_X_field_80 fi_X_90 (cr_0 hC) rfl (mc_X_fieldCount (d := 0) (by omega) hC h2) rfl rfl (by omega) (Nat.le_of_ble_eq_true rfl) ?_
        refine ag_istoreN (Lf := fun y => [some (av_r 0), some (av_i (a)), some (av_i (b)), some (av_i (c)), some (av_i (e)), some (av_i (f)), some (av_i (g)), some (av_i (0)), some (av_i (y)), none]) dd_X_field_83 (fun _ => rfl) rfl (by decide) (fun y8 ey8 => ?_)
        refine ag_iload dd_X_field_85 rfl ?_
        refine ag_if_eq (tgt := 97) dd_X_field_87 (by decide) (by omega) (fun c9 => ?_) (fun c9 => ?_)
        · refine ag_iconst dd_X_field_97 ?_
          refine ag_iret dd_X_field_98 rfl ?_
          unfold sp_field
          rw [if_neg (by omega)]
          exact ⟨rfl, G, hC, fun _ _ _ => rfl⟩
        · exfalso; omega
      · refine ag_iload dd_X_field_38 rfl ?_
        refine ag_iconst dd_X_field_40 ?_
        refine ag_bipush dd_X_field_41 (by decide +kernel) ?_
        refine ag_rS dd_X_field_43 fi_X_76 (mc_X_isWithin (d := 0) (by omega) (by omega) (by omega)) rfl rfl (by omega) (Nat.le_of_ble_eq_true rfl) ?_
        refine ag_if_eqB (tgt := 76) dd_X_field_46 (by decide) (fun c10 => ?_) (fun c10 => ?_)
        · refine ag_iconst dd_X_field_76 ?_
          refine ag_istore (L' := [some (av_r 0), some (av_i (a)), some (av_i (b)), some (av_i (c)), some (av_i (e)), some (av_i (f)), some (av_i (g)), some (av_i (0)), none, none]) dd_X_field_77 rfl rfl (by decide) ?_
          refine ag_aload_n dd_X_field_79 rfl ?_
          refine ag_rV dd_X_field_80 fi_X_90 (cr_0 hC) rfl (mc_X_fieldCount (d := 0) (by omega) hC h2) rfl rfl (by omega) (Nat.le_of_ble_eq_true rfl) ?_
          refine ag_istoreN (Lf := fun y => [some (av_r 0), some (av_i (a)), some (av_i (b)), some (av_i (c)), some (av_i (e)), some (av_i (f)), some (av_i (g)), some (av_i (0)), some (av_i (y)), none]) dd_X_field_83 (fun _ => rfl) rfl (by decide) (fun y11 ey11 => ?_)
          refine ag_iload dd_X_field_85 rfl ?_
          refine ag_if_eq (tgt := 97) dd_X_field_87 (by decide) (by omega) (fun c12 => ?_) (fun c12 => ?_)
          · refine ag_iconst dd_X_field_97 ?_
            refine ag_iret dd_X_field_98 rfl ?_
            unfold sp_field
            rw [if_neg (by omega)]
            exact ⟨rfl, G, hC, fun _ _ _ => rfl⟩
          · exfalso; omega
        · refine ag_iload dd_X_field_49 rfl ?_
          refine ag_iconst dd_X_field_51 ?_
          refine ag_sipush dd_X_field_52 (by decide +kernel) ?_
          refine ag_rS dd_X_field_55 fi_X_76 (mc_X_isWithin (d := 0) (by omega) (by omega) (by omega)) rfl rfl (by omega) (Nat.le_of_ble_eq_true rfl) ?_
          refine ag_if_eqB (tgt := 76) dd_X_field_58 (by decide) (fun c13 => ?_) (fun c13 => ?_)
          · refine ag_iconst dd_X_field_76 ?_
            refine ag_istore (L' := [some (av_r 0), some (av_i (a)), some (av_i (b)), some (av_i (c)), some (av_i (e)), some (av_i (f)), some (av_i (g)), some (av_i (0)), none, none]) dd_X_field_77 rfl rfl (by decide) ?_
            refine ag_aload_n dd_X_field_79 rfl ?_
            refine ag_rV dd_X_field_80 fi_X_90 (cr_0 hC) rfl (mc_X_fieldCount (d := 0) (by omega) hC h2) rfl rfl (by omega) (Nat.le_of_ble_eq_true rfl) ?_
            refine ag_istoreN (Lf := fun y => [some (av_r 0), some (av_i (a)), some (av_i (b)), some (av_i (c)), some (av_i (e)), some (av_i (f)), some (av_i (g)), some (av_i (0)), some (av_i (y)), none]) dd_X_field_83 (fun _ => rfl) rfl (by decide) (fun y14 ey14 => ?_)
            refine ag_iload dd_X_field_85 rfl ?_
            refine ag_if_eq (tgt := 97) dd_X_field_87 (by decide) (by omega) (fun c15 => ?_) (fun c15 => ?_)
            · refine ag_iconst dd_X_field_97 ?_
              refine ag_iret dd_X_field_98 rfl ?_
              unfold sp_field
              rw [if_neg (by omega)]
              exact ⟨rfl, G, hC, fun _ _ _ => rfl⟩
            · exfalso; omega
          · refine ag_iload dd_X_field_61 rfl ?_
            refine ag_iconst dd_X_field_63 ?_
            refine ag_bipush dd_X_field_64 (by decide +kernel) ?_
            refine ag_rS dd_X_field_66 fi_X_76 (mc_X_isWithin (d := 0) (by omega) (by omega) (by omega)) rfl rfl (by omega) (Nat.le_of_ble_eq_true rfl) ?_
            refine ag_if_eqB (tgt := 76) dd_X_field_69 (by decide) (fun c16 => ?_) (fun c16 => ?_)
            · refine ag_iconst dd_X_field_76 ?_
              refine ag_istore (L' := [some (av_r 0), some (av_i (a)), some (av_i (b)), some (av_i (c)), some (av_i (e)), some (av_i (f)), some (av_i (g)), some (av_i (0)), none, none]) dd_X_field_77 rfl rfl (by decide) ?_
              refine ag_aload_n dd_X_field_79 rfl ?_
              refine ag_rV dd_X_field_80 fi_X_90 (cr_0 hC) rfl (mc_X_fieldCount (d := 0) (by omega) hC h2) rfl rfl (by omega) (Nat.le_of_ble_eq_true rfl) ?_
              refine ag_istoreN (Lf := fun y => [some (av_r 0), some (av_i (a)), some (av_i (b)), some (av_i (c)), some (av_i (e)), some (av_i (f)), some (av_i (g)), some (av_i (0)), some (av_i (y)), none]) dd_X_field_83 (fun _ => rfl) rfl (by decide) (fun y17 ey17 => ?_)
              refine ag_iload dd_X_field_85 rfl ?_
              refine ag_if_eq (tgt := 97) dd_X_field_87 (by decide) (by omega) (fun c18 => ?_) (fun c18 => ?_)
              · refine ag_iconst dd_X_field_97 ?_
                refine ag_iret dd_X_field_98 rfl ?_
                unfold sp_field
                rw [if_neg (by omega)]
                exact ⟨rfl, G, hC, fun _ _ _ => rfl⟩
              · exfalso; omega
            · refine ag_iconst dd_X_field_72 ?_
              refine ag_goto (tgt := 77) dd_X_field_73 (by decide) ?_
              refine ag_istore (L' := [some (av_r 0), some (av_i (a)), some (av_i (b)), some (av_i (c)), some (av_i (e)), some (av_i (f)), some (av_i (g)), some (av_i (1)), none, none]) dd_X_field_77 rfl rfl (by decide) ?_
              refine ag_aload_n dd_X_field_79 rfl ?_
              refine ag_rV dd_X_field_80 fi_X_90 (cr_0 hC) rfl (mc_X_fieldCount (d := 0) (by omega) hC h2) rfl rfl (by omega) (Nat.le_of_ble_eq_true rfl) ?_
              refine ag_istoreN (Lf := fun y => [some (av_r 0), some (av_i (a)), some (av_i (b)), some (av_i (c)), some (av_i (e)), some (av_i (f)), some (av_i (g)), some (av_i (1)), some (av_i (y)), none]) dd_X_field_83 (fun _ => rfl) rfl (by decide) (fun y19 ey19 => ?_)
              refine ag_iload dd_X_field_85 rfl ?_
              refine ag_if_eq (tgt := 97) dd_X_field_87 (by decide) (by omega) (fun c20 => ?_) (fun c20 => ?_)
              · exfalso; omega
              · refine ag_iload dd_X_field_90 rfl ?_
                refine ag_bipush dd_X_field_92 (by decide +kernel) ?_
                refine ag_icmp_lt (tgt := 99) dd_X_field_94 (by decide) (by omega) (by omega) (fun c21 => ?_) (fun c21 => ?_)
                · refine an_new (kc' := 0) (ks' := 0) dd_X_field_99 fn_X_93 (by decide) (by decide) (fun a0 h hn => ?_)
                  refine ag_dup dd_X_field_102 rfl ?_
                  refine ag_iload dd_X_field_103 rfl ?_
                  refine ag_iload_n dd_X_field_105 rfl ?_
                  refine ag_iload_n dd_X_field_106 rfl ?_
                  refine ag_iload_n dd_X_field_107 rfl ?_
                  refine ag_iload dd_X_field_108 rfl ?_
                  refine ag_iload dd_X_field_110 rfl ?_
                  refine ag_iload dd_X_field_112 rfl ?_
                  refine ag_callI (mc := 0) (ms := 0) (kc' := 0) (ks' := 0) dd_X_field_114 fi_X_95 (mc_Field_init (d := 1) (by omega) hn.2.2.1) rfl rfl (by omega) (Nat.le_of_ble_eq_true rfl) (by decide) (by decide) (fun r1 h hP => ?_)
                  obtain ⟨rfl, huI⟩ := hP
                  have hn2 := hn_hu hn huI
                  have hx2 := (hn2.2.2.2 0 (by omega)).trans (cr_0 hC)
                  have hNp : (S.1 2).toNat ≠ 0 → h[G 1 ((S.1 2).toNat - 1)]? = some (cx_F S G ((S.1 2).toNat - 1)) := fun q => (hn2.2.2.2 _ (co_lt hC (k := 1) (show (((S.1 2).toNat - 1 : Nat) : Int) < S.1 2 by omega))).trans (cr_F hC (by omega))
                  generalize hN0 : (S.1 2).toNat = N at *
                  by_cases hz0 : N = 0
                  · unfold cx_0 at hx2
                    rw [hN0, rl_e hz0, rf_e (by omega)] at hx2
                    refine ag_astore (L' := [some (av_r 0), some (av_i (a)), some (av_i (b)), some (av_i (c)), some (av_i (e)), some (av_i (f)), some (av_i (g)), some (av_i (1)), some (av_i (y19)), some (av_r (a0))]) dd_X_field_117 rfl rfl (by decide) ?_
                    refine ag_aload_n dd_X_field_119 rfl ?_
                    refine ag_get dd_X_field_120 fg_X_98 hx2 rfl ?_
                    refine ag_ifnonnull (tgt := 135) dd_X_field_123 (by decide) (fun _ q => by cases q) (fun _ => ?_)
                    refine ag_aload_n dd_X_field_126 rfl ?_
                    refine ag_aload dd_X_field_127 rfl ?_
                    refine hp_o dd_X_field_129 fp_X_102 hx2 (Nat.le_of_ble_eq_true rfl) (fun h huN => ?_)
                    have hu1 := huN
                    clear huN
                    refine ag_goto (tgt := 144) dd_X_field_132 (by decide) ?_
                    refine ag_aload_n dd_X_field_144 rfl ?_
                    refine ag_aload dd_X_field_145 rfl ?_
                    refine hp_o dd_X_field_147 fp_X_98 hu1.2.1 (Nat.le_of_ble_eq_true rfl) (fun h huN => ?_)
                    replace hu1 := hu_tr hu1 huN
                    clear huN
                    refine ag_iload dd_X_field_150 rfl ?_
                    refine ag_iret dd_X_field_152 rfl ?_
                    have hf : sp_field S a b c e f g = (some (av_i (S.1 2)), sp_fn S a b c e f g) := by
                      unfold sp_field
                      rw [if_pos (by omega)]
                      rfl
                    rw [hf]
                    have e2 : (sp_fn S a b c e f g).1 2 = ((N + 1 : Nat) : Int) := by
                      show S.1 2 + 1 = _
                      omega
                    refine ⟨congrArg (fun z => some (av_i z)) (by omega), gi_ G 1 (S.1 2).toNat a0, co_addF (h3 := _) hC hI hz hn2 (by rw [ey19]) (fun x _ => rfl) rfl (fun q => absurd hz0 (by omega)) ?_, fun x y hxy => gi_n G (by omega)⟩
                    have hx : cx_0 (sp_fn S a b c e f g) (gi_ G 1 (S.1 2).toNat a0) = ac_o 10 [av_i (S.1 4), av_i (S.1 5), av_i (S.1 6), av_i (S.1 7), av_i (S.1 0), av_i (S.1 38), av_r a0, av_r a0, av_q (rf_ G 2 (S.1 3).toNat 0), av_q (rl_ G 2 (S.1 3).toNat), av_r 1, av_r 4, av_r 5, av_r 6, av_r 30, av_r (G 9 0), av_r (67 - G 9 0), av_i (S.1 47), av_i (S.1 48)] := by
                      unfold cx_0
                      rw [e2, Int.toNat_natCast, rf_s (by omega), rl_s (by omega), Nat.add_sub_cancel, hN0, hz0, gi_s]
                      rfl
                    rw [hx]
                    exact hu1
                  · unfold cx_0 at hx2
                    rw [hN0, rl_s hz0, rf_s (by omega)] at hx2
                    have hpv := hNp hz0
                    refine ag_astore (L' := [some (av_r 0), some (av_i (a)), some (av_i (b)), some (av_i (c)), some (av_i (e)), some (av_i (f)), some (av_i (g)), some (av_i (1)), some (av_i (y19)), some (av_r (a0))]) dd_X_field_117 rfl rfl (by decide) ?_
                    refine ag_aload_n dd_X_field_119 rfl ?_
                    refine ag_get dd_X_field_120 fg_X_98 hx2 rfl ?_
                    refine ag_ifnonnull (tgt := 135) dd_X_field_123 (by decide) (fun _ _ => ?_) (fun q => by cases q)
                    refine ag_aload_n dd_X_field_135 rfl ?_
                    refine ag_get dd_X_field_136 fg_X_98 hx2 rfl ?_
                    refine ag_aload dd_X_field_139 rfl ?_
                    refine hp_o dd_X_field_141 fp_X_105 hpv (Nat.le_of_ble_eq_true rfl) (fun h huN => ?_)
                    have hu1 := huN
                    clear huN
                    have h77 : 77 ≤ G 1 (N - 1) := (hC.1.2.1 1 (N - 1) (show ((N - 1 : Nat) : Int) < S.1 2 by omega)).2 (by decide)
                    have hx3 := (hu1.2.2 0 (by omega)).trans hx2
                    refine ag_aload_n dd_X_field_144 rfl ?_
                    refine ag_aload dd_X_field_145 rfl ?_
                    refine hp_o dd_X_field_147 fp_X_98 hx3 (Nat.le_of_ble_eq_true rfl) (fun h huN => ?_)
                    have hu2 := huN
                    clear huN
                    refine ag_iload dd_X_field_150 rfl ?_
                    refine ag_iret dd_X_field_152 rfl ?_
                    have hf : sp_field S a b c e f g = (some (av_i (S.1 2)), sp_fn S a b c e f g) := by
                      unfold sp_field
                      rw [if_pos (by omega)]
                      rfl
                    rw [hf]
                    have e2 : (sp_fn S a b c e f g).1 2 = ((N + 1 : Nat) : Int) := by
                      show S.1 2 + 1 = _
                      omega
                    refine ⟨congrArg (fun z => some (av_i z)) (by omega), gi_ G 1 (S.1 2).toNat a0, co_addF (h3 := _) hC hI hz hn2 (by rw [ey19]) (fun x hx => hu1.2.2 x (by rw [hN0] at hx; exact hx hz0)) hu1.1 ?_ ?_, fun x y hxy => gi_n G (by omega)⟩
                    · intro _
                      rw [hN0, hu1.2.1]
                      have hx : cx_F (sp_fn S a b c e f g) (gi_ G 1 N a0) (N - 1) = ac_o 4 [av_i ((N - 1 : Nat) : Int), av_i (S.2 40 (N - 1)), av_i (S.2 41 (N - 1)), av_i (S.2 42 (N - 1)), av_i (S.2 43 (N - 1)), av_i (S.2 44 (N - 1)), av_i (S.2 45 (N - 1)), av_i (S.2 46 (N - 1)), av_i (S.2 47 (N - 1)), av_i (S.2 48 (N - 1)), av_i (if 0 ≤ S.2 49 (N - 1) then 1 else 0), av_i (max 0 (S.2 49 (N - 1))), av_i (S.2 50 (N - 1)), av_i (S.2 51 (N - 1)), av_r a0] := by
                        have up : ∀ (A : Nat → Int) (v : Int), ai_up A (S.1 2).toNat v (N - 1) = A (N - 1) := fun A v => ai_up_n A v (by omega)
                        have w40 : (sp_fn S a b c e f g).2 40 (N - 1) = S.2 40 (N - 1) := up _ _
                        have w41 : (sp_fn S a b c e f g).2 41 (N - 1) = S.2 41 (N - 1) := up _ _
                        have w42 : (sp_fn S a b c e f g).2 42 (N - 1) = S.2 42 (N - 1) := up _ _
                        have w43 : (sp_fn S a b c e f g).2 43 (N - 1) = S.2 43 (N - 1) := up _ _
                        have w44 : (sp_fn S a b c e f g).2 44 (N - 1) = S.2 44 (N - 1) := up _ _
                        have w45 : (sp_fn S a b c e f g).2 45 (N - 1) = S.2 45 (N - 1) := up _ _
                        have w46 : (sp_fn S a b c e f g).2 46 (N - 1) = S.2 46 (N - 1) := rfl
                        have w47 : (sp_fn S a b c e f g).2 47 (N - 1) = S.2 47 (N - 1) := rfl
                        have w48 : (sp_fn S a b c e f g).2 48 (N - 1) = S.2 48 (N - 1) := rfl
                        have w49 : (sp_fn S a b c e f g).2 49 (N - 1) = S.2 49 (N - 1) := up _ _
                        have w50 : (sp_fn S a b c e f g).2 50 (N - 1) = S.2 50 (N - 1) := rfl
                        have w51 : (sp_fn S a b c e f g).2 51 (N - 1) = S.2 51 (N - 1) := up _ _
                        unfold cx_F
                        rw [w40, w41, w42, w43, w44, w45, w46, w47, w48, w49, w50, w51, e2, Int.toNat_natCast, show N - 1 + 1 = N by omega, rf_s (by omega), gi_s]
                      rw [hx]
                      rfl
                    · have hx : cx_0 (sp_fn S a b c e f g) (gi_ G 1 (S.1 2).toNat a0) = ac_o 10 [av_i (S.1 4), av_i (S.1 5), av_i (S.1 6), av_i (S.1 7), av_i (S.1 0), av_i (S.1 38), av_r (G 1 0), av_r a0, av_q (rf_ G 2 (S.1 3).toNat 0), av_q (rl_ G 2 (S.1 3).toNat), av_r 1, av_r 4, av_r 5, av_r 6, av_r 30, av_r (G 9 0), av_r (67 - G 9 0), av_i (S.1 47), av_i (S.1 48)] := by
                        unfold cx_0
                        rw [e2, Int.toNat_natCast, rf_s (by omega), rl_s (by omega), Nat.add_sub_cancel, hN0, gi_s, gi_n G (by omega)]
                        rfl
                      rw [hx]
                      exact hu2
                · refine ag_iconst dd_X_field_97 ?_
                  refine ag_iret dd_X_field_98 rfl ?_
                  unfold sp_field
                  rw [if_neg (by omega)]
                  exact ⟨rfl, G, hC, fun _ _ _ => rfl⟩
theorem sb_and (y : Int32) : sb_ (y &&& Int32.ofInt 255).toInt = y.toInt8.toInt := by
  have h1 : (y &&& Int32.ofInt 255).toInt = ((y.toBitVec.toNat % 256 : Nat) : Int) := by
    show (y.toBitVec &&& (Int32.ofInt 255).toBitVec).toInt = _
    rw [BitVec.toInt_eq_toNat_cond, BitVec.toNat_and, show (Int32.ofInt 255).toBitVec.toNat = 2 ^ 8 - 1 from by decide, Nat.and_two_pow_sub_one_eq_mod, if_pos (by omega)]
  have h2 : y.toInt8.toInt = y.toInt.bmod (2 ^ 8) := Int32.toInt_toInt8 y
  have h3 : y.toInt = if 2 * y.toBitVec.toNat < 2 ^ 32 then (y.toBitVec.toNat : Int) else (y.toBitVec.toNat : Int) - ((2 ^ 32 : Nat) : Int) := BitVec.toInt_eq_toNat_cond y.toBitVec
  rw [h1, h2, h3, Int.bmod_def]
  unfold sb_
  have e1 : ((2 ^ 8 : Nat) : Int) = 256 := by decide
  have e2 : ((2 ^ 32 : Nat) : Int) = 4294967296 := by decide
  rw [e1, e2]
  generalize y.toBitVec.toNat = z
  split <;> split <;> split <;> omega
theorem sb_by (v k : Int) : sb_ (sp_by v k) = ai_8 ((Int32.ofInt ((Int32.ofInt (v) >>> (Int32.ofInt (k) &&& 31)).toInt)).toInt8.toInt32.toInt) := by
  unfold sp_by ai_8
  rw [sb_and, Int32.ofInt_toInt, Int32.ofInt_toInt, Int8.toInt_toInt32]
  rw [Int8.toInt8_toInt32]
theorem cs_68 {w : aw_T} {M : am_T} {d : Nat} {P : ap_T} {pc n : Nat} {L : al_T} {st : List av_T} {h0 h : ah_T} {kc ks : Nat} {S : ms_T} {G : gh_T} {i v x : Int} (hd : ad_D M pc .bastore 1 n) (hC : co_I h0 h S G) (hi : 0 ≤ i ∧ i < 100) (hv : sb_ v = ai_8 x) (k : ∀ (h : ah_T) (S2 : ms_T), S2 = (S.1, ai_up S.2 68 (ai_up (S.2 68) i.toNat v)) → co_I h0 h S2 G → aw_W w M d P n L st h kc ks) : aw_W w M d P pc L (av_i x :: av_i i :: av_r 31 :: st) h kc ks := by
  have ec : (ac_a 1 100 (ai_up (fun j => sb_ (S.2 68 j)) i.toNat (ai_8 x)) : ac_T) = ac_a 1 100 (fun j => sb_ (ai_up (S.2 68) i.toNat v j)) := by
    have : (ai_up (fun j => sb_ (S.2 68 j)) i.toNat (ai_8 x)) = (fun j => sb_ (ai_up (S.2 68) i.toNat v j)) := funext (fun j => by
      by_cases e : j = i.toNat
      · rw [e, ai_up_s, ai_up_s, hv]
      · rw [ai_up_n _ _ e, ai_up_n _ _ e])
    rw [this]
  refine ag_bast hd (cr_31 hC) (by decide) hi ?_
  rw [ec]
  refine k _ (S.1, ai_up S.2 68 (ai_up (S.2 68) i.toNat v)) rfl ⟨?_, ?_⟩
  · exact co_up hC.1 (k0 := 0) (i0 := 31) (Or.inr (Or.inr rfl)) (hu_set (cr_31 hC)) (co_K ⟨(Or.inl (Nat.le_of_ble_eq_true rfl)), rfl, Or.inr rfl⟩ ⟨(Or.inl (Nat.le_of_ble_eq_true rfl)), rfl, Or.inr rfl⟩ ⟨(Or.inl (Nat.le_of_ble_eq_true rfl)), rfl, Or.inr rfl⟩ ⟨(Or.inl (Nat.le_of_ble_eq_true rfl)), rfl, Or.inr rfl⟩ ⟨(Or.inl (Nat.le_of_ble_eq_true rfl)), rfl, Or.inr rfl⟩ ⟨(Or.inl (Nat.le_of_ble_eq_true rfl)), rfl, Or.inr rfl⟩ ⟨(Or.inr (Or.inl rfl)), rfl, Or.inr rfl⟩ ⟨(Or.inr (Or.inr rfl)), rfl, Or.inl ⟨rfl, rfl⟩⟩ (fun i h => ⟨h, rfl, Or.inr rfl⟩) (fun i h => ⟨h, rfl, Or.inr rfl⟩) (fun i h => ⟨h, rfl, Or.inr rfl⟩) (fun i h => ⟨h, rfl, Or.inr rfl⟩))
  · exact cf_hu hC.2 (hu_set (c := ac_a 1 100 (fun j => sb_ (ai_up (S.2 68) i.toNat v j))) (cr_31 hC)) (by decide)
set_option maxHeartbeats 1000000 in
theorem mc_Tape_append {w : aw_T} {h0 h : ah_T} {S : ms_T} {G : gh_T} {d : Nat} (hd : 0 ≤ d) (hC : co_I h0 h S G) {v : Int} (h43 : 0 ≤ S.1 43 ∧ S.1 43 + 4 ≤ 100) : am_M w mm_Tape_append d [av_r 30, av_i v] h 0 0 (cq_ h0 G (none, sp_four S v)) := by
  refine am_intro [some (av_r 30), some (av_i (v)), none] (by decide +kernel) (Nat.le_of_ble_eq_true rfl) rfl ?_
  refine ag_bipush dd_Tape_append_0 (by decide +kernel) ?_
  refine ag_istore_n (L' := [some (av_r 30), some (av_i (v)), some (av_i (24))]) dd_Tape_append_2 rfl rfl (by decide) ?_
  refine ag_iload_n dd_Tape_append_3 rfl ?_
  refine ag_if_lt (tgt := 45) dd_Tape_append_4 (by decide) (by omega) (fun c1 => ?_) (fun c1 => ?_)
  · exfalso; omega
  · refine ag_aload_n dd_Tape_append_7 rfl ?_
    refine ag_get dd_Tape_append_8 fg_Tape_13 (cr_30 hC) rfl ?_
    refine ag_bipush dd_Tape_append_11 (by decide +kernel) ?_
    refine ag_icmp_ge (tgt := 45) dd_Tape_append_13 (by decide) (by omega) (by omega) (fun c2 => ?_) (fun c2 => ?_)
    · exfalso; omega
    · refine ag_aload_n dd_Tape_append_16 rfl ?_
      refine ag_get dd_Tape_append_17 fg_Tape_9 (cr_30 hC) rfl ?_
      refine ag_aload_n dd_Tape_append_20 rfl ?_
      refine ag_get dd_Tape_append_21 fg_Tape_13 (cr_30 hC) rfl ?_
      refine ag_iload_n dd_Tape_append_24 rfl ?_
      refine ag_iload_n dd_Tape_append_25 rfl ?_
      refine ag_ishr dd_Tape_append_26 ?_
      refine ag_i2b dd_Tape_append_27 ?_
      refine cs_68 dd_Tape_append_28 hC (by omega) (sb_by v 24) (fun h S3 eS3 hC => ?_)
      refine ag_aload_n dd_Tape_append_29 rfl ?_
      refine ag_dup dd_Tape_append_30 rfl ?_
      refine ag_get dd_Tape_append_31 fg_Tape_13 (cr_30 hC) rfl ?_
      refine ag_iconst dd_Tape_append_34 ?_
      refine ag_iadd dd_Tape_append_35 ?_
      refine cp_43 dd_Tape_append_36 fp_Tape_13 hC (fun h S4 eS4 hC => ?_)
      have etS4 : S4 = sp_tp S v 24 := by rw [eS4, eS3]; rfl
      have qlS4 : S4.1 43 = S.1 43 + 1 := by rw [etS4]; rfl
      clear eS4 eS3
      refine ag_iinc (L' := [some (av_r 30), some (av_i (v)), some (av_i (16))]) dd_Tape_append_39 rfl rfl rfl (by decide) ?_
      refine ag_goto (tgt := 3) dd_Tape_append_42 (by decide) ?_
      refine ag_iload_n dd_Tape_append_3 rfl ?_
      refine ag_if_lt (tgt := 45) dd_Tape_append_4 (by decide) (by omega) (fun c5 => ?_) (fun c5 => ?_)
      · exfalso; omega
      · refine ag_aload_n dd_Tape_append_7 rfl ?_
        refine ag_get dd_Tape_append_8 fg_Tape_13 (cr_30 hC) rfl ?_
        refine ag_bipush dd_Tape_append_11 (by decide +kernel) ?_
        refine ag_icmp_ge (tgt := 45) dd_Tape_append_13 (by decide) (by omega) (by omega) (fun c6 => ?_) (fun c6 => ?_)
        · exfalso; omega
        · refine ag_aload_n dd_Tape_append_16 rfl ?_
          refine ag_get dd_Tape_append_17 fg_Tape_9 (cr_30 hC) rfl ?_
          refine ag_aload_n dd_Tape_append_20 rfl ?_
          refine ag_get dd_Tape_append_21 fg_Tape_13 (cr_30 hC) rfl ?_
          refine ag_iload_n dd_Tape_append_24 rfl ?_
          refine ag_iload_n dd_Tape_append_25 rfl ?_
          refine ag_ishr dd_Tape_append_26 ?_
          refine ag_i2b dd_Tape_append_27 ?_
          refine cs_68 dd_Tape_append_28 hC (by omega) (sb_by v 16) (fun h S7 eS7 hC => ?_)
          refine ag_aload_n dd_Tape_append_29 rfl ?_
          refine ag_dup dd_Tape_append_30 rfl ?_
          refine ag_get dd_Tape_append_31 fg_Tape_13 (cr_30 hC) rfl ?_
          refine ag_iconst dd_Tape_append_34 ?_
          refine ag_iadd dd_Tape_append_35 ?_
          refine cp_43 dd_Tape_append_36 fp_Tape_13 hC (fun h S8 eS8 hC => ?_)
          have etS8 : S8 = sp_tp S4 v 16 := by rw [eS8, eS7]; rfl
          have qlS8 : S8.1 43 = S4.1 43 + 1 := by rw [etS8]; rfl
          clear eS8 eS7
          refine ag_iinc (L' := [some (av_r 30), some (av_i (v)), some (av_i (8))]) dd_Tape_append_39 rfl rfl rfl (by decide) ?_
          refine ag_goto (tgt := 3) dd_Tape_append_42 (by decide) ?_
          refine ag_iload_n dd_Tape_append_3 rfl ?_
          refine ag_if_lt (tgt := 45) dd_Tape_append_4 (by decide) (by omega) (fun c9 => ?_) (fun c9 => ?_)
          · exfalso; omega
          · refine ag_aload_n dd_Tape_append_7 rfl ?_
            refine ag_get dd_Tape_append_8 fg_Tape_13 (cr_30 hC) rfl ?_
            refine ag_bipush dd_Tape_append_11 (by decide +kernel) ?_
            refine ag_icmp_ge (tgt := 45) dd_Tape_append_13 (by decide) (by omega) (by omega) (fun c10 => ?_) (fun c10 => ?_)
            · exfalso; omega
            · refine ag_aload_n dd_Tape_append_16 rfl ?_
              refine ag_get dd_Tape_append_17 fg_Tape_9 (cr_30 hC) rfl ?_
              refine ag_aload_n dd_Tape_append_20 rfl ?_
              refine ag_get dd_Tape_append_21 fg_Tape_13 (cr_30 hC) rfl ?_
              refine ag_iload_n dd_Tape_append_24 rfl ?_
              refine ag_iload_n dd_Tape_append_25 rfl ?_
              refine ag_ishr dd_Tape_append_26 ?_
              refine ag_i2b dd_Tape_append_27 ?_
              refine cs_68 dd_Tape_append_28 hC (by omega) (sb_by v 8) (fun h S11 eS11 hC => ?_)
              refine ag_aload_n dd_Tape_append_29 rfl ?_
              refine ag_dup dd_Tape_append_30 rfl ?_
              refine ag_get dd_Tape_append_31 fg_Tape_13 (cr_30 hC) rfl ?_
              refine ag_iconst dd_Tape_append_34 ?_
              refine ag_iadd dd_Tape_append_35 ?_
              refine cp_43 dd_Tape_append_36 fp_Tape_13 hC (fun h S12 eS12 hC => ?_)
              have etS12 : S12 = sp_tp S8 v 8 := by rw [eS12, eS11]; rfl
              have qlS12 : S12.1 43 = S8.1 43 + 1 := by rw [etS12]; rfl
              clear eS12 eS11
              refine ag_iinc (L' := [some (av_r 30), some (av_i (v)), some (av_i (0))]) dd_Tape_append_39 rfl rfl rfl (by decide) ?_
              refine ag_goto (tgt := 3) dd_Tape_append_42 (by decide) ?_
              refine ag_iload_n dd_Tape_append_3 rfl ?_
              refine ag_if_lt (tgt := 45) dd_Tape_append_4 (by decide) (by omega) (fun c13 => ?_) (fun c13 => ?_)
              · exfalso; omega
              · refine ag_aload_n dd_Tape_append_7 rfl ?_
                refine ag_get dd_Tape_append_8 fg_Tape_13 (cr_30 hC) rfl ?_
                refine ag_bipush dd_Tape_append_11 (by decide +kernel) ?_
                refine ag_icmp_ge (tgt := 45) dd_Tape_append_13 (by decide) (by omega) (by omega) (fun c14 => ?_) (fun c14 => ?_)
                · exfalso; omega
                · refine ag_aload_n dd_Tape_append_16 rfl ?_
                  refine ag_get dd_Tape_append_17 fg_Tape_9 (cr_30 hC) rfl ?_
                  refine ag_aload_n dd_Tape_append_20 rfl ?_
                  refine ag_get dd_Tape_append_21 fg_Tape_13 (cr_30 hC) rfl ?_
                  refine ag_iload_n dd_Tape_append_24 rfl ?_
                  refine ag_iload_n dd_Tape_append_25 rfl ?_
                  refine ag_ishr dd_Tape_append_26 ?_
                  refine ag_i2b dd_Tape_append_27 ?_
                  refine cs_68 dd_Tape_append_28 hC (by omega) (sb_by v 0) (fun h S15 eS15 hC => ?_)
                  refine ag_aload_n dd_Tape_append_29 rfl ?_
                  refine ag_dup dd_Tape_append_30 rfl ?_
                  refine ag_get dd_Tape_append_31 fg_Tape_13 (cr_30 hC) rfl ?_
                  refine ag_iconst dd_Tape_append_34 ?_
                  refine ag_iadd dd_Tape_append_35 ?_
                  refine cp_43 dd_Tape_append_36 fp_Tape_13 hC (fun h S16 eS16 hC => ?_)
                  have etS16 : S16 = sp_tp S12 v 0 := by rw [eS16, eS15]; rfl
                  have qlS16 : S16.1 43 = S12.1 43 + 1 := by rw [etS16]; rfl
                  clear eS16 eS15
                  refine ag_iinc (L' := [some (av_r 30), some (av_i (v)), some (av_i (-8))]) dd_Tape_append_39 rfl rfl rfl (by decide) ?_
                  refine ag_goto (tgt := 3) dd_Tape_append_42 (by decide) ?_
                  refine ag_iload_n dd_Tape_append_3 rfl ?_
                  refine ag_if_lt (tgt := 45) dd_Tape_append_4 (by decide) (by omega) (fun c17 => ?_) (fun c17 => ?_)
                  · refine ag_vret dd_Tape_append_45 rfl ?_
                    refine ⟨rfl, ?_⟩
                    show co_I h0 h (sp_four S v) G
                    have e4 : S16 = sp_four S v := by subst_vars; rfl
                    rw [← e4]
                    exact hC
                  · exfalso; omega
set_option maxHeartbeats 1000000 in
theorem mc_X_feed {w : aw_T} {h0 h : ah_T} {S : ms_T} {G : gh_T} {d : Nat} (hd : 1 ≤ d) (hC : co_I h0 h S G) {a b c e f : Int} (h43 : 0 ≤ S.1 43 ∧ S.1 43 ≤ 100) : am_M w mm_X_feed d [av_r 0, av_i a, av_i b, av_i c, av_i e, av_i f] h 0 0 (cq_ h0 G (sp_feed S a b c e f)) := by
  refine am_intro [some (av_r 0), some (av_i (a)), some (av_i (b)), some (av_i (c)), some (av_i (e)), some (av_i (f))] (by decide +kernel) (Nat.le_of_ble_eq_true rfl) rfl ?_
  refine ag_aload_n dd_X_feed_0 rfl ?_
  refine ag_get dd_X_feed_1 fg_X_56 (cr_0 hC) rfl ?_
  refine ag_get dd_X_feed_4 fg_X_145 (cr_30 hC) rfl ?_
  refine ag_bipush dd_X_feed_7 (by decide +kernel) ?_
  refine ag_icmp_le (tgt := 14) dd_X_feed_9 (by decide) (by omega) (by omega) (fun c1 => ?_) (fun c1 => ?_)
  · refine ag_aload_n dd_X_feed_14 rfl ?_
    refine ag_get dd_X_feed_15 fg_X_56 (cr_0 hC) rfl ?_
    refine ag_iload_n dd_X_feed_18 rfl ?_
    refine ag_wV dd_X_feed_19 fi_X_148 (cr_30 hC) rfl (mc_Tape_append (d := 0) (by omega) hC (by omega)) rfl rfl (by omega) (Nat.le_of_ble_eq_true rfl) (fun r1 h hP => ?_)
    obtain ⟨rfl, hC⟩ := hP
    replace hC : co_I h0 h (sp_four S a) G := hC
    have q4S2 := sp_four43 S a
    generalize eS2 : sp_four S a = S2 at *
    refine ag_aload_n dd_X_feed_22 rfl ?_
    refine ag_get dd_X_feed_23 fg_X_56 (cr_0 hC) rfl ?_
    refine ag_iload_n dd_X_feed_26 rfl ?_
    refine ag_wV dd_X_feed_27 fi_X_148 (cr_30 hC) rfl (mc_Tape_append (d := 0) (by omega) hC (by omega)) rfl rfl (by omega) (Nat.le_of_ble_eq_true rfl) (fun r1 h hP => ?_)
    obtain ⟨rfl, hC⟩ := hP
    replace hC : co_I h0 h (sp_four S2 b) G := hC
    have q4S3 := sp_four43 S2 b
    generalize eS3 : sp_four S2 b = S3 at *
    refine ag_aload_n dd_X_feed_30 rfl ?_
    refine ag_get dd_X_feed_31 fg_X_56 (cr_0 hC) rfl ?_
    refine ag_iload_n dd_X_feed_34 rfl ?_
    refine ag_wV dd_X_feed_35 fi_X_148 (cr_30 hC) rfl (mc_Tape_append (d := 0) (by omega) hC (by omega)) rfl rfl (by omega) (Nat.le_of_ble_eq_true rfl) (fun r1 h hP => ?_)
    obtain ⟨rfl, hC⟩ := hP
    replace hC : co_I h0 h (sp_four S3 c) G := hC
    have q4S4 := sp_four43 S3 c
    generalize eS4 : sp_four S3 c = S4 at *
    refine ag_aload_n dd_X_feed_38 rfl ?_
    refine ag_get dd_X_feed_39 fg_X_56 (cr_0 hC) rfl ?_
    refine ag_iload dd_X_feed_42 rfl ?_
    refine ag_wV dd_X_feed_44 fi_X_148 (cr_30 hC) rfl (mc_Tape_append (d := 0) (by omega) hC (by omega)) rfl rfl (by omega) (Nat.le_of_ble_eq_true rfl) (fun r1 h hP => ?_)
    obtain ⟨rfl, hC⟩ := hP
    replace hC : co_I h0 h (sp_four S4 e) G := hC
    have q4S5 := sp_four43 S4 e
    generalize eS5 : sp_four S4 e = S5 at *
    refine ag_aload_n dd_X_feed_47 rfl ?_
    refine ag_get dd_X_feed_48 fg_X_56 (cr_0 hC) rfl ?_
    refine ag_iload dd_X_feed_51 rfl ?_
    refine ag_wV dd_X_feed_53 fi_X_148 (cr_30 hC) rfl (mc_Tape_append (d := 0) (by omega) hC (by omega)) rfl rfl (by omega) (Nat.le_of_ble_eq_true rfl) (fun r1 h hP => ?_)
    obtain ⟨rfl, hC⟩ := hP
    replace hC : co_I h0 h (sp_four S5 f) G := hC
    have q4S6 := sp_four43 S5 f
    generalize eS6 : sp_four S5 f = S6 at *
    refine ag_aload_n dd_X_feed_56 rfl ?_
    refine ag_get dd_X_feed_57 fg_X_56 (cr_0 hC) rfl ?_
    refine ag_get dd_X_feed_60 fg_X_145 (cr_30 hC) rfl ?_
    refine ag_iret dd_X_feed_63 rfl ?_
    unfold sp_feed
    rw [if_neg (by omega)]
    subst_vars
    refine ⟨congrArg (fun z => some (av_i z)) ?_, hC⟩
    omega
  · refine ag_iconst dd_X_feed_12 ?_
    refine ag_iret dd_X_feed_13 rfl ?_
    unfold sp_feed
    rw [if_pos (by omega)]
    exact ⟨rfl, hC⟩
set_option maxHeartbeats 1000000 in
theorem mc_X_end {w : aw_T} {h0 h : ah_T} {S : ms_T} {G : gh_T} {d : Nat} (hd : 1 ≤ d) (hC : co_I h0 h S G) {n : Int} (hn : -2147483648 ≤ n ∧ n < 2147483648) (h43 : 0 ≤ S.1 43 ∧ S.1 43 ≤ 100) : am_M w mm_X_end d [av_r 0, av_i n] h 0 0 (cq_ h0 G (sp_end S n)) := by
  refine am_intro [some (av_r 0), some (av_i (n))] (by decide +kernel) (Nat.le_of_ble_eq_true rfl) rfl ?_
  refine ag_iload_n dd_X_end_0 rfl ?_
  refine ag_iconst dd_X_end_1 ?_
  refine ag_aload_n dd_X_end_2 rfl ?_
  refine ag_get dd_X_end_3 fg_X_56 (cr_0 hC) rfl ?_
  refine ag_get dd_X_end_6 fg_X_145 (cr_30 hC) rfl ?_
  refine ag_rS dd_X_end_9 fi_X_76 (mc_X_isWithin (d := 0) (by omega) (by omega) (by omega)) rfl rfl (by omega) (Nat.le_of_ble_eq_true rfl) ?_
  refine ag_if_neB (tgt := 17) dd_X_end_12 (by decide) (fun c1 => ?_) (fun c1 => ?_)
  · refine ag_aload_n dd_X_end_17 rfl ?_
    refine ag_get dd_X_end_18 fg_X_56 (cr_0 hC) rfl ?_
    refine ag_iload_n dd_X_end_21 rfl ?_
    refine cp_43 dd_X_end_22 fp_X_145 hC (fun h S2 eS2 hC => ?_)
    refine ag_iload_n dd_X_end_25 rfl ?_
    refine ag_iret dd_X_end_26 rfl ?_
    unfold sp_end
    rw [if_pos (by omega)]
    subst_vars
    exact ⟨rfl, hC⟩
  · refine ag_iconst dd_X_end_15 ?_
    refine ag_iret dd_X_end_16 rfl ?_
    unfold sp_end
    rw [if_neg (by omega)]
    exact ⟨rfl, hC⟩
