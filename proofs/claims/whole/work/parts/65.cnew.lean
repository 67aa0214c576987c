/-- a heap with one more cell -/
def hn_ (h h' : ah_T) (a : Nat) (c : ac_T) : Prop := a = h.length ∧ h'.length = h.length + 1 ∧ h'[a]? = some c ∧ ∀ b, b < h.length → h'[b]? = h[b]?
theorem an_new {w : aw_T} {M : am_T} {d : Nat} {P : ap_T} {pc n : Nat} {L : al_T} {st : List av_T} {h : ah_T} {kc ks kc' ks' : Nat} {idx ci N : Nat} {fs : List av_T} (hd : ad_D M pc (.new idx) 3 n) (hw : an_ok M.1.cls idx ci N fs) (hkc : kc' + 1 ≤ kc) (hks : ks' + N ≤ ks) (kk : ∀ (a : Nat) (h' : ah_T), hn_ h h' a (ac_o ci fs) → aw_W w M d P n L (av_r a :: st) h' kc' ks') : aw_W w M d P pc L st h kc ks := by
  refine ag_new hd hw hkc hks (kk _ _ ⟨rfl, by rw [List.length_append, List.length_singleton], ?_, fun b hb => ?_⟩)
  · rw [List.getElem?_append_right (Nat.le_refl _), Nat.sub_self]
    rfl
  · rw [List.getElem?_append_left hb]
theorem hn_hu {h h1 h2 : ah_T} {a : Nat} {c c2 : ac_T} (g : hn_ h h1 a c) (u : hu_ h1 h2 a c2) : hn_ h h2 a c2 := ⟨g.1, u.1.trans g.2.1, u.2.1, fun b hb => (u.2.2 b (by have := g.1; omega)).trans (g.2.2.2 b hb)⟩
/-- a change of cells, one new object of kind k0 and number i0 at most -/
theorem co_gen {h h' : ah_T} {S S' : ms_T} {G G' : gh_T} {k0 i0 : Nat} (H : co_R h S G) (hl : h.length ≤ h'.length) (hk0 : k0 ≠ 0) (K : ∀ k i, vl_ok S' G' k i → (vl_ok S G k i ∧ ad_ G' k i = ad_ G k i ∧ h'[ad_ G k i]? = some (ce_ S' G' k i)) ∨ ((k = k0 ∧ i = i0) ∧ ad_ G' k i = h.length ∧ h'[h.length]? = some (ce_ S' G' k i))) : co_R h' S' G' := by
  obtain ⟨H1, H2, H3⟩ := H
  refine ⟨by omega, fun k i v => ?_, fun k i k2 i2 v v2 e => ?_⟩
  · rcases K k i v with ⟨a1, a2, a3⟩ | ⟨⟨rfl, rfl⟩, a2, a3⟩
    · rw [a2]
      exact ⟨a3, (H2 _ _ a1).2⟩
    · rw [a2]
      exact ⟨a3, fun _ => H1⟩
  · have lt : ∀ k i, vl_ok S G k i → ad_ G k i < h.length := fun k i v => (List.getElem?_eq_some_iff.mp (H2 k i v).1).1
    rcases K k i v with ⟨a1, a2, a3⟩ | ⟨⟨rfl, rfl⟩, a2, a3⟩
    · rcases K k2 i2 v2 with ⟨b1, b2, b3⟩ | ⟨⟨rfl, rfl⟩, b2, b3⟩
      · rw [a2, b2] at e
        exact H3 _ _ _ _ a1 b1 e
      · have := lt k i a1
        rw [a2, b2] at e
        omega
    · rcases K k2 i2 v2 with ⟨b1, b2, b3⟩ | ⟨⟨rfl, rfl⟩, b2, b3⟩
      · have := lt k2 i2 b1
        rw [a2, b2] at e
        omega
      · exact ⟨rfl, rfl⟩
theorem co_lt {h0 h : ah_T} {S : ms_T} {G : gh_T} (hC : co_I h0 h S G) {k i : Nat} (v : vl_ok S G k i) : ad_ G k i < h.length := (List.getElem?_eq_some_iff.mp (hC.1.2.1 k i v).1).1
def sp_ws (S : ms_T) (z a b : Int) : ms_T := (ai_up S.1 21 (S.1 21 + 1), ai_up (ai_up (ai_up S.2 52 (ai_up (S.2 52) (S.1 21).toNat z)) 53 (ai_up (S.2 53) (S.1 21).toNat a)) 54 (ai_up (S.2 54) (S.1 21).toNat b))
theorem co_addS {h0 h h2 h3 : ah_T} {S : ms_T} {G : gh_T} {a0 : Nat} {z a b : Int} {c c4 : ac_T} (hC : co_I h0 h S G) (hn0 : 0 ≤ S.1 21) (hn : hn_ h h2 a0 c) (hc : c = ac_o 7 [av_i z, av_i a, av_i b, av_q (rl_ G 3 (S.1 21).toNat)]) (hu : hu_ h2 h3 4 c4) (hc4 : c4 = ac_o 9 [av_r a0, av_i (S.1 21 + 1)]) : co_I h0 h3 (sp_ws S z a b) (gi_ G 3 (S.1 21).toNat a0) := by
  subst hc hc4
  have ha0 := hn.1
  have hlen := hC.1.1
  have e21 : (sp_ws S z a b).1 21 = S.1 21 + 1 := ai_up_s S.1 21 _
  have hN : (S.1 21 + 1).toNat = (S.1 21).toNat + 1 := by omega
  have old : ∀ x, x ≠ 4 → x < h.length → h3[x]? = h[x]? := fun x q1 q2 => (hu.2.2 x q1).trans (hn.2.2.2 x q2)
  have at0 : ∀ i, vl_ok S G 0 i → i ≠ 4 → h3[i]? = some (ce_ S G 0 i) := fun i v q => (old i q (co_lt hC v)).trans (hC.1.2.1 0 i v).1
  have atk : ∀ k i, vl_ok S G (k + 1) i → h3[G (k + 1) i]? = some (ce_ S G (k + 1) i) := fun k i v => by
    have h77 := (hC.1.2.1 (k + 1) i v).2 (by omega)
    have hq : ad_ G (k + 1) i = G (k + 1) i := rfl
    rw [hq] at h77
    exact (old _ (by omega) (co_lt hC v)).trans (hC.1.2.1 (k + 1) i v).1
  have v5 : ∀ i, i ≤ 5 → vl_ok S G 0 i := fun i hi => Or.inl hi
  refine ⟨co_gen (k0 := 3) (i0 := (S.1 21).toNat) hC.1 (by rw [hu.1, hn.2.1]; omega) (by decide) (co_K (Or.inl ⟨v5 0 (by decide), rfl, at0 0 (v5 0 (by decide)) (by decide)⟩) (Or.inl ⟨v5 1 (by decide), rfl, at0 1 (v5 1 (by decide)) (by decide)⟩) (Or.inl ⟨v5 2 (by decide), rfl, at0 2 (v5 2 (by decide)) (by decide)⟩) (Or.inl ⟨v5 3 (by decide), rfl, at0 3 (v5 3 (by decide)) (by decide)⟩) (Or.inl ⟨v5 4 (by decide), rfl, ?_⟩) (Or.inl ⟨v5 5 (by decide), rfl, at0 5 (v5 5 (by decide)) (by decide)⟩) (Or.inl ⟨Or.inr (Or.inl rfl), rfl, at0 30 (Or.inr (Or.inl rfl)) (by decide)⟩) (Or.inl ⟨Or.inr (Or.inr rfl), rfl, at0 31 (Or.inr (Or.inr rfl)) (by decide)⟩) (fun i hi => Or.inl ⟨hi, rfl, atk 0 i hi⟩) (fun i hi => Or.inl ⟨hi, rfl, atk 1 i hi⟩) (fun i hi => ?_) (fun i hi => Or.inl ⟨hi, rfl, atk 3 i hi⟩)), ?_⟩
  · show h3[4]? = some (cx_4 (sp_ws S z a b) (gi_ G 3 (S.1 21).toNat a0))
    rw [hu.2.1]
    unfold cx_4
    rw [e21, hN, rl_s (by omega), Nat.add_sub_cancel, gi_s]
  · rw [e21] at hi
    by_cases q : i = (S.1 21).toNat
    · right
      subst q
      refine ⟨⟨rfl, rfl⟩, ?_, ?_⟩
      · show gi_ G 3 (S.1 21).toNat a0 3 (S.1 21).toNat = _
        rw [gi_s, ha0]
      · rw [← ha0, hu.2.2 a0 (by omega), hn.2.2.1]
        show _ = some (cx_S (sp_ws S z a b) (gi_ G 3 (S.1 21).toNat a0) (S.1 21).toNat)
        have e1 : (sp_ws S z a b).2 52 (S.1 21).toNat = z := ai_up_s (S.2 52) _ z
        have e2 : (sp_ws S z a b).2 53 (S.1 21).toNat = a := ai_up_s (S.2 53) _ a
        have e3 : (sp_ws S z a b).2 54 (S.1 21).toNat = b := ai_up_s (S.2 54) _ b
        have e4 : rl_ (gi_ G 3 (S.1 21).toNat a0) 3 (S.1 21).toNat = rl_ G 3 (S.1 21).toNat := by
          unfold rl_
          split
          · rfl
          · rw [gi_n G (by omega)]
        unfold cx_S
        rw [e1, e2, e3, e4]
    · left
      have hi2 : (i : Int) < S.1 21 := by omega
      refine ⟨hi2, ?_, ?_⟩
      · show gi_ G 3 (S.1 21).toNat a0 3 i = G 3 i
        exact gi_n G (by omega)
      · refine (atk 2 i hi2).trans ?_
        show some (cx_S S G i) = some (cx_S (sp_ws S z a b) (gi_ G 3 (S.1 21).toNat a0) i)
        have e1 : (sp_ws S z a b).2 52 i = S.2 52 i := ai_up_n (S.2 52) z q
        have e2 : (sp_ws S z a b).2 53 i = S.2 53 i := ai_up_n (S.2 53) a q
        have e3 : (sp_ws S z a b).2 54 i = S.2 54 i := ai_up_n (S.2 54) b q
        have e4 : rl_ (gi_ G 3 (S.1 21).toNat a0) 3 i = rl_ G 3 i := by
          unfold rl_
          split
          · rfl
          · rw [gi_n G (by omega)]
        unfold cx_S
        rw [e1, e2, e3, e4]
  · refine cf_of hC.2 (fun x hx => ?_)
    rw [hu.2.2 x (by omega), hn.2.2.2 x (by omega)]
set_option maxHeartbeats 1000000 in
theorem mc_Span_init {w : aw_T} {h : ah_T} {d : Nat} (hd : 1 ≤ d) {a : Nat} {v0 v1 v2 v3 : av_T} (hc : h[a]? = some (ac_o 7 [v0, v1, v2, v3])) {z f t : Int} (hz : z = 0 ∨ z = 1) {e : Option Nat} : am_M w mm_Span_init d [av_r a, av_i z, av_i f, av_i t, av_q e] h 0 0 (fun r1 h1 => r1 = none ∧ hu_ h h1 a (ac_o 7 [av_i z, av_i f, av_i t, av_q e])) := by
  refine am_intro [some (av_r (a)), some (av_i (z)), some (av_i (f)), some (av_i (t)), some (av_q (e))] (by decide +kernel) (Nat.le_of_ble_eq_true rfl) rfl ?_
  refine ag_aload_n dd_Span_init_0 rfl ?_
  refine ag_obj dd_Span_init_1 fi_Span_1 fo_i fo_c (by omega) (Nat.le_of_ble_eq_true rfl) ?_
  refine ag_aload_n dd_Span_init_4 rfl ?_
  refine ag_iload_n dd_Span_init_5 rfl ?_
  refine hp_z dd_Span_init_6 fp_Span_7 hc (Nat.le_of_ble_eq_true rfl) (by exact hz) (fun h huN => ?_)
  have hu1 := huN
  clear huN
  refine ag_aload_n dd_Span_init_9 rfl ?_
  refine ag_iload_n dd_Span_init_10 rfl ?_
  refine hp_i dd_Span_init_11 fp_Span_13 hu1.2.1 (Nat.le_of_ble_eq_true rfl) (fun h huN => ?_)
  replace hu1 := hu_tr hu1 huN
  clear huN
  refine ag_aload_n dd_Span_init_14 rfl ?_
  refine ag_iload_n dd_Span_init_15 rfl ?_
  refine hp_i dd_Span_init_16 fp_Span_17 hu1.2.1 (Nat.le_of_ble_eq_true rfl) (fun h huN => ?_)
  replace hu1 := hu_tr hu1 huN
  clear huN
  refine ag_aload_n dd_Span_init_19 rfl ?_
  refine ag_aload dd_Span_init_20 rfl ?_
  refine hp_o dd_Span_init_22 fp_Span_20 hu1.2.1 (Nat.le_of_ble_eq_true rfl) (fun h huN => ?_)
  replace hu1 := hu_tr hu1 huN
  clear huN
  refine ag_vret dd_Span_init_25 rfl ?_
  exact ⟨rfl, hu1⟩
set_option maxHeartbeats 1000000 in
theorem mc_Weather_add {w : aw_T} {h0 h : ah_T} {S : ms_T} {G : gh_T} {d : Nat} (hd : 2 ≤ d) (hC : co_I h0 h S G) {z f t : Int} (hz : z = 0 ∨ z = 1) (h21 : 0 ≤ S.1 21 ∧ S.1 21 ≤ 20) : am_M w mm_Weather_add d [av_r 4, av_i z, av_i f, av_i t] h 1 4 (fun r1 h1 => r1 = some (av_i (if S.1 21 < 20 then 1 else 0)) ∧ ∃ G2 : gh_T, co_I h0 h1 (if S.1 21 < 20 then sp_ws S z f t else S) G2 ∧ ∀ a b, 5 ≤ a → G2 a b = G a b) := by
  refine am_intro [some (av_r 4), some (av_i (z)), some (av_i (f)), some (av_i (t))] (by decide +kernel) (Nat.le_of_ble_eq_true rfl) rfl ?_
  have hlen := hC.1.1
  refine ag_aload_n dd_Weather_add_0 rfl ?_
  refine ag_get dd_Weather_add_1 fg_Weather_7 (cr_4 hC) rfl ?_
  refine ag_bipush dd_Weather_add_4 (by decide +kernel) ?_
  refine ag_icmp_lt (tgt := 11) dd_Weather_add_6 (by decide) (by omega) (by omega) (fun c1 => ?_) (fun c1 => ?_)
  · refine ag_aload_n dd_Weather_add_11 rfl ?_
    refine an_new (kc' := 0) (ks' := 0) dd_Weather_add_12 fn_Weather_13 (by decide) (by decide) (fun a0 h hn => ?_)
    refine ag_dup dd_Weather_add_15 rfl ?_
    refine ag_iload_n dd_Weather_add_16 rfl ?_
    refine ag_iload_n dd_Weather_add_17 rfl ?_
    refine ag_iload_n dd_Weather_add_18 rfl ?_
    refine ag_aload_n dd_Weather_add_19 rfl ?_
    refine ag_get dd_Weather_add_20 fg_Weather_15 ((hn.2.2.2 4 (by omega)).trans (cr_4 hC)) rfl ?_
    refine ag_callI (mc := 0) (ms := 0) (kc' := 0) (ks' := 0) dd_Weather_add_23 fi_Weather_19 (mc_Span_init (d := 1) (by omega) hn.2.2.1 hz) rfl rfl (by omega) (Nat.le_of_ble_eq_true rfl) (by decide) (by decide) (fun r1 h hP => ?_)
    obtain ⟨rfl, huI⟩ := hP
    have hn2 := hn_hu hn huI
    refine hp_o dd_Weather_add_26 fp_Weather_15 ((hn2.2.2.2 4 (by omega)).trans (cr_4 hC)) (Nat.le_of_ble_eq_true rfl) (fun h huN => ?_)
    have hu1 := huN
    clear huN
    refine ag_aload_n dd_Weather_add_29 rfl ?_
    refine ag_dup dd_Weather_add_30 rfl ?_
    refine ag_get dd_Weather_add_31 fg_Weather_7 hu1.2.1 rfl ?_
    refine ag_iconst dd_Weather_add_34 ?_
    refine ag_iadd dd_Weather_add_35 ?_
    refine hp_i dd_Weather_add_36 fp_Weather_7 hu1.2.1 (Nat.le_of_ble_eq_true rfl) (fun h huN => ?_)
    replace hu1 := hu_tr hu1 huN
    clear huN
    refine ag_iconst dd_Weather_add_39 ?_
    refine ag_zret dd_Weather_add_40 rfl (by first | exact Or.inl rfl | exact Or.inr rfl | omega) ?_
    rw [if_pos (by omega), if_pos (by omega)]
    exact ⟨rfl, _, co_addS hC h21.1 hn2 rfl hu1 rfl, fun a b hab => gi_n G (by omega)⟩
  · refine ag_iconst dd_Weather_add_9 ?_
    refine ag_zret dd_Weather_add_10 rfl (by first | exact Or.inl rfl | exact Or.inr rfl | omega) ?_
    rw [if_neg (by omega), if_neg (by omega)]
    exact ⟨rfl, G, hC, fun _ _ _ => rfl⟩
set_option maxHeartbeats 1000000 in
theorem mc_X_weather {w : aw_T} {h0 h : ah_T} {S : ms_T} {G : gh_T} {d : Nat} (hd : 3 ≤ d) (hC : co_I h0 h S G) {z : Int} (hz : z = 0 ∨ z = 1) {a : Int} (ha : -2147483648 ≤ a ∧ a < 2147483648) {b : Int} (hb : -2147483648 ≤ b ∧ b < 2147483648) (ha0 : iv_a S) : am_M w mm_X_weather d [av_r 0, av_i z, av_i a, av_i b] h 1 4 (fun r1 h1 => r1 = (sp_weather S z a b).1 ∧ ∃ G2 : gh_T, co_I h0 h1 (sp_weather S z a b).2 G2 ∧ ∀ a b, 5 ≤ a → G2 a b = G a b) := by
  refine am_intro [some (av_r 0), some (av_i (z)), some (av_i (a)), some (av_i (b))] (by decide +kernel) (Nat.le_of_ble_eq_true rfl) rfl ?_
  have h21 := ha0.2.2.2.2.2.2.2.2
  have hc0 := ha0.1
  refine ag_iload_n dd_X_weather_0 rfl ?_
  refine ag_aload_n dd_X_weather_1 rfl ?_
  refine ag_get dd_X_weather_2 fg_X_80 (cr_0 hC) rfl ?_
  refine ag_icmp_lt (tgt := 20) dd_X_weather_5 (by decide) (by omega) (by omega) (fun c1 => ?_) (fun c1 => ?_)
  · refine ag_iconst dd_X_weather_20 ?_
    refine ag_zret dd_X_weather_21 rfl (by first | exact Or.inl rfl | exact Or.inr rfl | omega) ?_
    unfold sp_weather
    rw [if_neg (by omega)]
    exact ⟨rfl, G, hC, fun _ _ _ => rfl⟩
  · refine ag_iload_n dd_X_weather_8 rfl ?_
    refine ag_iload_n dd_X_weather_9 rfl ?_
    refine ag_icmp_le (tgt := 20) dd_X_weather_10 (by decide) (by omega) (by omega) (fun c2 => ?_) (fun c2 => ?_)
    · refine ag_iconst dd_X_weather_20 ?_
      refine ag_zret dd_X_weather_21 rfl (by first | exact Or.inl rfl | exact Or.inr rfl | omega) ?_
      unfold sp_weather
      rw [if_neg (by omega)]
      exact ⟨rfl, G, hC, fun _ _ _ => rfl⟩
    · refine ag_iload_n dd_X_weather_13 rfl ?_
      refine ag_sipush dd_X_weather_14 (by decide +kernel) ?_
      refine ag_icmp_le (tgt := 22) dd_X_weather_17 (by decide) (by omega) (by omega) (fun c3 => ?_) (fun c3 => ?_)
      · refine ag_aload_n dd_X_weather_22 rfl ?_
        refine ag_get dd_X_weather_23 fg_X_35 (cr_0 hC) rfl ?_
        refine ag_iload_n dd_X_weather_26 rfl ?_
        refine ag_iload_n dd_X_weather_27 rfl ?_
        refine ag_iload_n dd_X_weather_28 rfl ?_
        refine ag_callV (mc := 1) (ms := 4) (kc' := 0) (ks' := 0) dd_X_weather_29 fi_X_108 (cr_4 hC) rfl (mc_Weather_add (d := 2) (by omega) hC hz h21) rfl rfl (by omega) (Nat.le_of_ble_eq_true rfl) (by decide) (by decide) (fun r1 h hP => ?_)
        obtain ⟨rfl, G2, hC2, hg⟩ := hP
        refine ag_zret dd_X_weather_32 rfl (by split <;> omega) ?_
        by_cases q : S.1 21 < 20
        · rw [if_pos q] at hC2 ⊢
          have e : sp_weather S z a b = (some (av_i 1), sp_ws S z a b) := by
            unfold sp_weather
            rw [if_pos (by omega)]
            rfl
          rw [e]
          exact ⟨rfl, G2, hC2, hg⟩
        · rw [if_neg q] at hC2 ⊢
          have e : sp_weather S z a b = (some (av_i 0), S) := by
            unfold sp_weather
            rw [if_neg (by omega)]
          rw [e]
          exact ⟨rfl, G2, hC2, hg⟩
      · refine ag_iconst dd_X_weather_20 ?_
        refine ag_zret dd_X_weather_21 rfl (by first | exact Or.inl rfl | exact Or.inr rfl | omega) ?_
        unfold sp_weather
        rw [if_neg (by omega)]
        exact ⟨rfl, G, hC, fun _ _ _ => rfl⟩
/-- some span of the first n hinders -/
def hd_ (S : ms_T) (z t : Int) : Nat → Bool
  | 0 => false
  | n + 1 => if S.2 52 n = z ∧ S.2 53 n ≤ t ∧ t < S.2 54 n then true else hd_ S z t n
theorem hd_iff (S : ms_T) (z t : Int) : ∀ n, hd_ S z t n = true ↔ ∃ i, i < n ∧ (S.2 52 i = z ∧ S.2 53 i ≤ t ∧ t < S.2 54 i)
  | 0 => by
    rw [hd_]
    exact ⟨fun h => (by cases h), fun ⟨i, h, _⟩ => absurd h (Nat.not_lt_zero i)⟩
  | n + 1 => by
    rw [hd_]
    by_cases q : S.2 52 n = z ∧ S.2 53 n ≤ t ∧ t < S.2 54 n
    · rw [if_pos q]
      exact ⟨fun _ => ⟨n, Nat.lt_succ_self n, q⟩, fun _ => rfl⟩
    · rw [if_neg q, hd_iff S z t n]
      refine ⟨fun ⟨i, h1, h2⟩ => ⟨i, by omega, h2⟩, fun ⟨i, h1, h2⟩ => ⟨i, ?_, h2⟩⟩
      by_cases e : i = n
      · subst e
        exact absurd h2 q
      · omega
theorem hin_iff (S : ms_T) (z t : Int) : ∀ r i, sp_hinN S z t r i = true ↔ ∃ j, i ≤ j ∧ j < i + r ∧ (S.2 52 j = z ∧ S.2 53 j ≤ t ∧ t < S.2 54 j)
  | 0, i => by
    rw [sp_hinN]
    exact ⟨fun h => (by cases h), fun ⟨j, h1, h2, _⟩ => by omega⟩
  | r + 1, i => by
    rw [sp_hinN]
    by_cases q : S.2 52 i = z ∧ S.2 53 i ≤ t ∧ t < S.2 54 i
    · rw [if_pos q]
      exact ⟨fun _ => ⟨i, Nat.le_refl i, by omega, q⟩, fun _ => rfl⟩
    · rw [if_neg q, hin_iff S z t r (i + 1)]
      refine ⟨fun ⟨j, h1, h2, h3⟩ => ⟨j, by omega, by omega, h3⟩, fun ⟨j, h1, h2, h3⟩ => ⟨j, ?_, by omega, h3⟩⟩
      by_cases e : j = i
      · subst e
        exact absurd h3 q
      · omega
theorem hd_hin (S : ms_T) (z t : Int) : hd_ S z t (S.1 21).toNat = sp_hin S z t := by
  rw [Bool.eq_iff_iff, hd_iff]
  unfold sp_hin
  rw [hin_iff]
  exact ⟨fun ⟨i, h1, h2⟩ => ⟨i, Nat.zero_le _, by omega, h2⟩, fun ⟨i, _, h1, h2⟩ => ⟨i, by omega, h2⟩⟩
set_option maxHeartbeats 1000000 in
theorem ml_Weather_holds {w : aw_T} {h0 h : ah_T} {S : ms_T} {G : gh_T} {d : Nat} (hd : 0 ≤ d) (hC : co_I h0 h S G) (h21 : 0 ≤ S.1 21 ∧ S.1 21 ≤ 20) (hv : iv_W S) {z t : Int} (hz : 0 ≤ z ∧ z ≤ 1) (ht : 0 ≤ t ∧ t ≤ 4000) {P : ap_T} : ∀ n : Nat, (n : Int) ≤ S.1 21 → P (some (av_i (if hd_ S z t n = true then 1 else 0))) h → aw_W w mm_Weather_holds d P 5 [some (av_r 4), some (av_i (z)), some (av_i (t)), some (av_q (rl_ G 3 n))] [] h 0 0 := by
  intro n
  induction n with
  | zero =>
    intro hn hP
    rw [rl_e rfl]
    refine ag_aload_n dd_Weather_holds_5 rfl ?_
    refine ag_ifnull (tgt := 43) dd_Weather_holds_6 (by decide) (fun _ => ?_) (fun _ q => by cases q)
    refine ag_iconst dd_Weather_holds_43 ?_
    refine ag_zret dd_Weather_holds_44 rfl (by first | exact Or.inl rfl | exact Or.inr rfl | omega) ?_
    exact hP
  | succ n ih =>
    intro hn hP
    rw [rl_s (by omega), Nat.add_sub_cancel]
    obtain ⟨b52, b53, b54⟩ := hv n (by omega)
    refine ag_aload_n dd_Weather_holds_5 rfl ?_
    refine ag_ifnull (tgt := 43) dd_Weather_holds_6 (by decide) (fun q => by cases q) (fun _ _ => ?_)
    refine ag_aload_n dd_Weather_holds_9 rfl ?_
    refine ag_get dd_Weather_holds_10 fg_Weather_22 (cr_S hC (by omega)) rfl ?_
    refine ag_iload_n dd_Weather_holds_13 rfl ?_
    refine ag_icmp_ne (tgt := 35) dd_Weather_holds_14 (by decide) (by omega) (by omega) (fun c2 => ?_) (fun c2 => ?_)
    · refine ag_aload_n dd_Weather_holds_35 rfl ?_
      refine ag_get dd_Weather_holds_36 fg_Weather_32 (cr_S hC (by omega)) rfl ?_
      refine ag_astore_n (L' := [some (av_r 4), some (av_i (z)), some (av_i (t)), some (av_q (rl_ G 3 n))]) dd_Weather_holds_39 rfl rfl (by decide) ?_
      refine ag_goto (tgt := 5) dd_Weather_holds_40 (by decide) ?_
      refine ih (by omega) ?_
      have e9 : hd_ S z t (n + 1) = hd_ S z t n := by rw [hd_, if_neg (by omega)]
      rw [e9] at hP
      exact hP
    · refine ag_aload_n dd_Weather_holds_17 rfl ?_
      refine ag_get dd_Weather_holds_18 fg_Weather_26 (cr_S hC (by omega)) rfl ?_
      refine ag_iload_n dd_Weather_holds_21 rfl ?_
      refine ag_icmp_gt (tgt := 35) dd_Weather_holds_22 (by decide) (by omega) (by omega) (fun c3 => ?_) (fun c3 => ?_)
      · refine ag_aload_n dd_Weather_holds_35 rfl ?_
        refine ag_get dd_Weather_holds_36 fg_Weather_32 (cr_S hC (by omega)) rfl ?_
        refine ag_astore_n (L' := [some (av_r 4), some (av_i (z)), some (av_i (t)), some (av_q (rl_ G 3 n))]) dd_Weather_holds_39 rfl rfl (by decide) ?_
        refine ag_goto (tgt := 5) dd_Weather_holds_40 (by decide) ?_
        refine ih (by omega) ?_
        have e9 : hd_ S z t (n + 1) = hd_ S z t n := by rw [hd_, if_neg (by omega)]
        rw [e9] at hP
        exact hP
      · refine ag_iload_n dd_Weather_holds_25 rfl ?_
        refine ag_aload_n dd_Weather_holds_26 rfl ?_
        refine ag_get dd_Weather_holds_27 fg_Weather_29 (cr_S hC (by omega)) rfl ?_
        refine ag_icmp_ge (tgt := 35) dd_Weather_holds_30 (by decide) (by omega) (by omega) (fun c4 => ?_) (fun c4 => ?_)
        · refine ag_aload_n dd_Weather_holds_35 rfl ?_
          refine ag_get dd_Weather_holds_36 fg_Weather_32 (cr_S hC (by omega)) rfl ?_
          refine ag_astore_n (L' := [some (av_r 4), some (av_i (z)), some (av_i (t)), some (av_q (rl_ G 3 n))]) dd_Weather_holds_39 rfl rfl (by decide) ?_
          refine ag_goto (tgt := 5) dd_Weather_holds_40 (by decide) ?_
          refine ih (by omega) ?_
          have e9 : hd_ S z t (n + 1) = hd_ S z t n := by rw [hd_, if_neg (by omega)]
          rw [e9] at hP
          exact hP
        · refine ag_iconst dd_Weather_holds_33 ?_
          refine ag_zret dd_Weather_holds_34 rfl (by first | exact Or.inl rfl | exact Or.inr rfl | omega) ?_
          have e9 : hd_ S z t (n + 1) = true := by rw [hd_, if_pos (by omega)]
          rw [e9] at hP
          exact hP
set_option maxHeartbeats 1000000 in
theorem mc_Weather_holds {w : aw_T} {h0 h : ah_T} {S : ms_T} {G : gh_T} {d : Nat} (hd : 0 ≤ d) (hC : co_I h0 h S G) (h21 : 0 ≤ S.1 21 ∧ S.1 21 ≤ 20) (hv : iv_W S) {z t : Int} (hz : 0 ≤ z ∧ z ≤ 1) (ht : 0 ≤ t ∧ t ≤ 4000) : am_M w mm_Weather_holds d [av_r 4, av_i z, av_i t] h 0 0 (fun r h' => r = some (av_i (if sp_hin S z t = true then 1 else 0)) ∧ h' = h) := by
  refine am_intro [some (av_r 4), some (av_i (z)), some (av_i (t)), none] (by decide +kernel) (Nat.le_of_ble_eq_true rfl) rfl ?_
  refine ag_aload_n dd_Weather_holds_0 rfl ?_
  refine ag_get dd_Weather_holds_1 fg_Weather_15 (cr_4 hC) rfl ?_
  refine ag_astore_n (L' := [some (av_r 4), some (av_i (z)), some (av_i (t)), some (av_q (rl_ G 3 (S.1 21).toNat))]) dd_Weather_holds_4 rfl rfl (by decide) ?_
  exact ml_Weather_holds hd hC h21 hv hz ht (S.1 21).toNat (by omega) ⟨by rw [hd_hin], rfl⟩
