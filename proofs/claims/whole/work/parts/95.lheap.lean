theorem ag_icmp_same {w : aw_T} {M : am_T} {d : Nat} {P : ap_T} {pc n : Nat} {L : al_T} {st : List av_T} {h : ah_T} {kc ks : Nat} {a off : Int} {tgt : Nat} (hd : ad_D M pc (.if_icmp .eq off) 3 n) (ht : (pc : Int) + off = (tgt : Int)) (k : aw_W w M d P tgt L st h kc ks) : aw_W w M d P pc L (av_i a :: av_i a :: st) h kc ks := by
  intro p e R s m args below meth c Q hC hQ H locs cells slots ls hH hS hL hk1 hk2
  obtain ⟨hd, rfl⟩ := hd
  exact lv_icmp_eq hC.1 hC.2.1 hd ht (fun _ => k p e R s m args below meth c Q hC hQ H locs cells slots ls hH hS hL hk1 hk2) (fun hc => absurd rfl hc)
theorem mo_kp {h h' : ah_T} {S : ms_T} (H : mo_R h S) (e : ∀ a, 38 ≤ a → a < 77 → h'[a]? = h[a]?) : mo_R h' S := by
  refine ⟨fun k hk hk2 => ?_, ?_⟩
  · rw [e _ (by omega) (by omega)]
    exact H.1 k hk hk2
  · obtain ⟨g, hg⟩ := H.2
    exact ⟨g, by rw [e 72 (by omega) (by omega)]; exact hg⟩
theorem kc_kp {h h' : ah_T} {K : ms_T} (H : kc_R h K) (e : ∀ a, 6 ≤ a → a < 30 → h'[a]? = h[a]?) : kc_R h' K := by
  obtain ⟨a1, a2, a3, a4⟩ := H
  refine ⟨?_, fun a q1 q2 => ?_, ?_, fun m hm => ?_⟩
  · rw [e 6 (by omega) (by omega)]
    exact a1
  · rw [e a (by omega) (by omega)]
    exact a2 a q1 q2
  · rw [e 12 (by omega) (by omega)]
    exact a3
  · rw [e _ (by omega) (by omega)]
    exact a4 m hm
theorem co_mf {h h' : ah_T} {S : ms_T} {G : gh_T} (H : co_R h S G) (hf : mo_F h h') : co_R h' S G := by
  obtain ⟨H1, H2, H3⟩ := H
  refine ⟨by rw [hf.1]; exact H1, fun k i v => ?_, H3⟩
  have := H2 k i v
  refine ⟨?_, this.2⟩
  rw [hf.2 _ ?_]
  · exact this.1
  · cases k with
    | zero =>
      have v2 : i ≤ 5 ∨ i = 30 ∨ i = 31 := v
      show i < 38 ∨ 77 ≤ i
      omega
    | succ k =>
      have := this.2 (by omega)
      omega
theorem fm_mf {h h' : ah_T} {S S' : ms_T} {G : gh_T} (hf : fm_ h S G) (e : ∀ a, 32 ≤ a → a < 38 → h'[a]? = h[a]?) (hS : sp_code S' = sp_code S) : fm_ h' S' G := by
  obtain ⟨h1, ⟨ts, ⟨⟨q1, ⟨tk, q2, q3⟩, ⟨pk, q4, q5⟩, q6⟩, rest, q7, q8⟩, r, q9⟩, v2, rest2, tk2, pk2, p1, p2, p3, p4⟩ := hf
  have e1 := fun a (x : 32 ≤ a) y => e a x y
  unfold fm_
  rw [hS]
  exact ⟨h1, ⟨ts, ⟨⟨q1, ⟨tk, (e _ (by omega) (by omega)).trans q2, q3⟩, ⟨pk, (e _ (by omega) (by omega)).trans q4, q5⟩, q6⟩, rest, q7, (e _ (by omega) (by omega)).trans q8⟩, r, q9⟩, v2, rest2, tk2, pk2, p1, (e _ (by omega) (by omega)).trans p2, (e _ (by omega) (by omega)).trans p3, (e _ (by omega) (by omega)).trans p4⟩
theorem co_kr {J A : Nat → Prop} {h : ah_T} {S S' : ms_T} {G : gh_T} (H : co_R h S G) (k : kr_ J A S S') (hJ : ∀ j, j ≤ 7 ∨ j = 21 ∨ j = 38 ∨ j = 39 ∨ j = 43 ∨ j = 47 ∨ j = 48 → ¬ J j) (hA : ∀ a, 39 ≤ a ∧ a ≤ 68 → ¬ A a) : co_R h S' G := by
  have k1 := fun j hj => k.1 j (hJ j hj)
  have k2 := fun a ha => k.2 a (hA a ha)
  refine co_cg H (co_K ⟨Or.inl (by decide), rfl, ?_⟩ ⟨Or.inl (by decide), rfl, ?_⟩ ⟨Or.inl (by decide), rfl, ?_⟩ ⟨Or.inl (by decide), rfl, ?_⟩ ⟨Or.inl (by decide), rfl, ?_⟩ ⟨Or.inl (by decide), rfl, rfl⟩ ⟨Or.inr (Or.inl rfl), rfl, ?_⟩ ⟨Or.inr (Or.inr rfl), rfl, ?_⟩ (fun i hi => ⟨?_, rfl, ?_⟩) (fun i hi => ⟨?_, rfl, ?_⟩) (fun i hi => ⟨?_, rfl, ?_⟩) (fun i hi => ⟨hi, rfl, rfl⟩))
  · show cx_0 S' G = cx_0 S G
    unfold cx_0
    rw [k1 0 (by omega), k1 2 (by omega), k1 3 (by omega), k1 4 (by omega), k1 5 (by omega), k1 6 (by omega), k1 7 (by omega), k1 38 (by omega), k1 47 (by omega), k1 48 (by omega)]
  · show cx_1 S' G = cx_1 S G
    unfold cx_1
    rw [k1 1 (by omega), k1 39 (by omega)]
  · show ac_l 10 (S'.2 39) = ac_l 10 (S.2 39)
    rw [k2 39 (by omega)]
  · show ac_a 0 10 (S'.2 66) = ac_a 0 10 (S.2 66)
    rw [k2 66 (by omega)]
  · show cx_4 S' G = cx_4 S G
    unfold cx_4
    rw [k1 21 (by omega)]
  · show cx_30 S' = cx_30 S
    unfold cx_30
    rw [k1 43 (by omega)]
  · show ac_a 1 100 (fun j => sb_ (S'.2 68 j)) = ac_a 1 100 (fun j => sb_ (S.2 68 j))
    rw [k2 68 (by omega)]
  · show (i : Int) < S.1 2
    rw [← k1 2 (by omega)]
    exact hi
  · show cx_F S' G i = cx_F S G i
    unfold cx_F
    rw [k1 2 (by omega), k2 40 (by omega), k2 41 (by omega), k2 42 (by omega), k2 43 (by omega), k2 44 (by omega), k2 45 (by omega), k2 46 (by omega), k2 47 (by omega), k2 48 (by omega), k2 49 (by omega), k2 50 (by omega), k2 51 (by omega)]
  · show (i : Int) < S.1 3
    rw [← k1 3 (by omega)]
    exact hi
  · show cx_L S' G i = cx_L S G i
    unfold cx_L
    rw [k1 3 (by omega), k2 55 (by omega), k2 56 (by omega), k2 57 (by omega), k2 58 (by omega), k2 59 (by omega), k2 60 (by omega), k2 61 (by omega), k2 62 (by omega), k2 63 (by omega)]
  · show (i : Int) < S.1 21
    rw [← k1 21 (by omega)]
    exact hi
  · show cx_S S' G i = cx_S S G i
    unfold cx_S
    rw [k2 52 (by omega), k2 53 (by omega), k2 54 (by omega)]
/-- what holds of the heap between two calls -/
def LI_ (h : ah_T) (S : ms_T) (G : gh_T) (K : ms_T) : Prop := mo_R h S ∧ co_R h S G ∧ fm_ h S G ∧ kc_R h K ∧ ch_ K ∧ LP_ S G
theorem LI_mid {h h1 : ah_T} {S K : ms_T} {G : gh_T} (H : LI_ h S G K) (hc : cf_ h h1) : mo_I h1 h1 S := ⟨mo_kp H.1 (fun a x y => hc.1 a (by omega)), mo_F.rf h1⟩
theorem LI_step {h h1 h2 : ah_T} {S S1 K : ms_T} {G G2 : gh_T} (H : LI_ h S G K) (hC : co_I h h1 S1 G2) (hM : mo_I h1 h2 S1) (hG : G2 9 0 = G 9 0) (hcd : sp_code S1 = sp_code S) (hLP : LP_ S1 G2) : LI_ h2 S1 G2 K := by
  obtain ⟨i1, i2, i3, i4, i5, i6⟩ := H
  have f1 := fm_cf i3 hC.2 hcd hG
  exact ⟨hM.1, co_mf hC.1 hM.2, fm_mf f1 (fun a x y => hM.2.2 a (by omega)) rfl, kc_kp (kc_kp i4 (fun a x y => hC.2.1 a (by omega))) (fun a x y => hM.2.2 a (by omega)), i5, hLP⟩
theorem LI_bmid {h h1 : ah_T} {S K K2 : ms_T} {G : gh_T} (H : LI_ h S G K) (hK : kc_I h h1 K2) : mo_I h1 h1 S := ⟨mo_kp H.1 (fun a x y => hK.2.2 a (by omega)), mo_F.rf h1⟩
theorem LI_best {h h1 h2 : ah_T} {S S2 K K2 : ms_T} {G : gh_T} (H : LI_ h S G K) (hK : kc_I h h1 K2) (hch : ch_ K2) (hs : sp_scr S S2) (hM : mo_I h1 h2 S2) : LI_ h2 S2 G K2 := by
  obtain ⟨i1, i2, i3, i4, i5, i6⟩ := H
  have hcd : sp_code S2 = sp_code S := code_kr (kr_scr hs) (by decide) (by decide) (by decide)
  exact ⟨hM.1, co_mf (co_kr (co_kf i2 hK.2) (kr_scr hs) (fun j hj z => by omega) (fun a ha z => by omega)) hM.2, fm_mf (fm_mf i3 (fun a x y => hK.2.2 a (by omega)) hcd) (fun a x y => hM.2.2 a (by omega)) rfl, kc_kp hK.1 (fun a x y => hM.2.2 a (by omega)), hch, LP_scr i6 hs⟩
theorem LI_tmid {h h1 : ah_T} {S K : ms_T} {G : gh_T} {ts : List tk_T} {r1 : Option av_T} (H : LI_ h S G K) (hx : xt_ h S G ts r1 h1) : mo_I h1 h1 S ∧ ∃ v, r1 = some (av_i v) := by
  obtain ⟨ft, pl, G2, x1, x2, x3, x4, x5, x6⟩ := hx
  refine ⟨⟨mo_kp H.1 (fun a x y => x2 a (by omega)), mo_F.rf h1⟩, ?_⟩
  rcases x6 with ⟨c, r, e1, e2, -⟩ | ⟨e, e1, e2, -⟩
  · exact ⟨_, e2⟩
  · exact ⟨_, e2⟩
theorem LI_text {h h1 h2 : ah_T} {S K : ms_T} {G : gh_T} {ts : List tk_T} {r2 : Option av_T} {v : Int} (H : LI_ h S G K) (hx : xt_ h S G ts (some (av_i v)) h1) (ht : tx_P h1 S ts r2 h2) : r2 = some (av_i v) ∧ ∃ (S3 : ms_T) (G2 : gh_T), LI_ h2 S3 G2 K ∧ S3.1 3 = S.1 3 ∧ S3.1 36 = S.1 36 := by
  obtain ⟨i1, i2, i3, i4, i5, i6⟩ := H
  obtain ⟨ft, pl, G2, x1, x2, x3, x4, x5, x6⟩ := hx
  obtain ⟨S3, t1, t2, t3, t4⟩ := ht
  have k := kr_tx t1
  -- the two answers and what they leave agree
  have key : r2 = some (av_i v) ∧ S3.1 47 = ft ∧ S3.1 48 = pl ∧ iv_T S3 ∧ ∃ ts0, sg_ h1 (G2 9 0) ts0 ∧ ∃ r, pr_all ts0 = .inl (sp_code S3, r) := by
    rcases x6 with ⟨c, r, e1, e2, e3, e4, e5⟩ | ⟨e, e1, e2, e3, e4, e5⟩
    · rcases t4 with ⟨c2, r2', g1, g2, g3, g4, g5, g6, g7⟩ | ⟨e', g1, -⟩
      · rw [e1] at g1
        cases g1
        refine ⟨g2.trans e2.symm, g3.trans e3.symm, g4.trans e4.symm, ⟨by omega, by rw [g7]; exact pr_all_hv e1⟩, ts, e5, r, by rw [g7]; exact e1⟩
      · rw [e1] at g1
        cases g1
    · rcases t4 with ⟨c2, r2', g1, -⟩ | ⟨e', g1, g2, g3, g4, g5, g6, g7⟩
      · rw [e1] at g1
        cases g1
      · rw [e1] at g1
        cases g1
        obtain ⟨ts0, s1, r, s2⟩ := e5
        refine ⟨g2.trans e2.symm, g4.trans e3.symm, g5.trans e4.symm, ?_, ts0, s1, r, by rw [g7]; exact s2⟩
        have := i6.1.2.1
        unfold iv_T at this ⊢
        rw [g6, g7]
        exact this
  obtain ⟨y1, y2, y3, y4, ts0, y5, r, y6⟩ := key
  refine ⟨y1, S3, G2, ⟨t3.1, co_mf (co_kr (S' := S3) x1 (J := fun k => (49 ≤ k ∧ k ≤ 55) ∨ k = 57 ∨ k = 44) (A := fun a => a = 69 ∨ a = 70 ∨ a = 71) ⟨fun j hj => ?_, fun a ha => k.2 a ha⟩ (fun j hj z => by omega) (fun a ha z => by omega)) t3.2, fm_mf (h := h1) (S := S3) ⟨x4, ⟨ts0, y5, r, y6⟩, x5⟩ (fun a x y => t3.2.2 a (by omega)) rfl, kc_kp (kc_kp i4 (fun a x y => x2 a (by omega))) (fun a x y => t3.2.2 a (by omega)), i5, LP_text i6 t1 t2 y4 x3⟩, k.1 3 (by decide), k.1 36 (by decide)⟩
  show S3.1 j = ai_up (ai_up (ai_up S.1 43 0) 47 ft) 48 pl j
  by_cases c1 : j = 48
  · rw [c1, ai_up_s, y3]
  · rw [ai_up_n _ _ c1]
    by_cases c2 : j = 47
    · rw [c2, ai_up_s, y2]
    · rw [ai_up_n _ _ c2]
      by_cases c3 : j = 43
      · rw [c3, ai_up_s, t2]
      · rw [ai_up_n _ _ c3]
        exact k.1 j (by omega)
-- what each call's answer looks like
theorem sx_rules (S : ms_T) (a b c e : Int) : (sp_rules S a b c e).2.1 3 = S.1 3 ∧ (sp_rules S a b c e).2.1 36 = S.1 36 ∧ sp_code (sp_rules S a b c e).2 = sp_code S ∧ ∃ v, (sp_rules S a b c e).1 = some (av_i v) := by
  unfold sp_rules
  split <;> exact ⟨rfl, rfl, rfl, _, rfl⟩
theorem sx_farm (S : ms_T) : (sp_farm S).2.1 3 = S.1 3 ∧ (sp_farm S).2.1 36 = S.1 36 ∧ sp_code (sp_farm S).2 = sp_code S ∧ ∃ v, (sp_farm S).1 = some (av_i v) := by
  unfold sp_farm
  split <;> exact ⟨rfl, rfl, rfl, _, rfl⟩
theorem sx_field (S : ms_T) (a b c e f g : Int) : (sp_field S a b c e f g).2.1 3 = S.1 3 ∧ (sp_field S a b c e f g).2.1 36 = S.1 36 ∧ sp_code (sp_field S a b c e f g).2 = sp_code S ∧ ∃ v, (sp_field S a b c e f g).1 = some (av_i v) := by
  unfold sp_field
  split <;> exact ⟨rfl, rfl, rfl, _, rfl⟩
theorem sx_weather (S : ms_T) (a b c : Int) : (sp_weather S a b c).2.1 3 = S.1 3 ∧ (sp_weather S a b c).2.1 36 = S.1 36 ∧ sp_code (sp_weather S a b c).2 = sp_code S ∧ ∃ v, (sp_weather S a b c).1 = some (av_i v) := by
  unfold sp_weather
  split <;> exact ⟨rfl, rfl, rfl, _, rfl⟩
theorem sx_round (S : ms_T) (a : Int) : (sp_round S a).2.1 3 = S.1 3 ∧ (sp_round S a).2.1 36 = S.1 36 ∧ sp_code (sp_round S a).2 = sp_code S ∧ ∃ v, (sp_round S a).1 = some (av_i v) := by
  unfold sp_round
  split <;> exact ⟨rfl, rfl, rfl, _, rfl⟩
theorem sx_pass (S : ms_T) : (sp_pass S).2.1 3 = S.1 3 ∧ (sp_pass S).2.1 36 = S.1 36 ∧ sp_code (sp_pass S).2 = sp_code S ∧ ∃ v, (sp_pass S).1 = some (av_i v) := by
  unfold sp_pass
  split <;> exact ⟨rfl, rfl, rfl, _, rfl⟩
theorem sx_cut (S : ms_T) (a b : Int) : (sp_cut S a b).2.1 3 = S.1 3 ∧ (sp_cut S a b).2.1 36 = S.1 36 ∧ sp_code (sp_cut S a b).2 = sp_code S ∧ ∃ v, (sp_cut S a b).1 = some (av_i v) := by
  unfold sp_cut
  split
  · split <;> exact ⟨rfl, rfl, rfl, _, rfl⟩
  · exact ⟨rfl, rfl, rfl, _, rfl⟩
theorem sx_fire (S : ms_T) (a : Int) : (sp_fire S a).2.1 3 = S.1 3 ∧ (sp_fire S a).2.1 36 = S.1 36 ∧ sp_code (sp_fire S a).2 = sp_code S ∧ ∃ v, (sp_fire S a).1 = some (av_i v) := by
  unfold sp_fire
  split <;> exact ⟨rfl, rfl, rfl, _, rfl⟩
theorem sx_end (S : ms_T) (a : Int) : (sp_end S a).2.1 3 = S.1 3 ∧ (sp_end S a).2.1 36 = S.1 36 ∧ sp_code (sp_end S a).2 = sp_code S ∧ ∃ v, (sp_end S a).1 = some (av_i v) := by
  unfold sp_end
  split <;> exact ⟨rfl, rfl, rfl, _, rfl⟩
theorem sx_feed (S : ms_T) (a b c e f : Int) : (sp_feed S a b c e f).2.1 3 = S.1 3 ∧ (sp_feed S a b c e f).2.1 36 = S.1 36 ∧ sp_code (sp_feed S a b c e f).2 = sp_code S ∧ ∃ v, (sp_feed S a b c e f).1 = some (av_i v) := by
  unfold sp_feed
  split
  · exact ⟨rfl, rfl, rfl, _, rfl⟩
  · have k := kr_tr (kr_tr (kr_tr (kr_tr (kr_four S a) (kr_four _ b)) (kr_four _ c)) (kr_four _ e)) (kr_four _ f)
    exact ⟨k.1 3 (by decide), k.1 36 (by decide), code_kr k (by decide) (by decide) (by decide), _, rfl⟩
theorem sx_hours {S : ms_T} (hI : iv_S S) (hT : iv_T S) (hW : iv_W S) (n : Int) : (S.1 3 ≤ (sp_hours S n).2.1 3 ∧ S.1 36 ≤ (sp_hours S n).2.1 36) ∧ iv_S (sp_hours S n).2 ∧ sp_code (sp_hours S n).2 = sp_code S ∧ ∃ v, (sp_hours S n).1 = some (av_i v) := by
  have h0c := hI.1.1
  have hc := code_kr (kr_hours S n) (by decide) (by decide) (by decide)
  unfold sp_hours at hc ⊢
  by_cases q : (1 ≤ n ∧ n ≤ 100) ∧ S.1 0 + n ≤ 4000
  · rw [if_pos q] at hc ⊢
    exact ⟨hr_mono hI hT hW n.toNat (by omega) 0 (by omega), (iv_hrN hI hT hW n.toNat (by omega)).1, hc, _, rfl⟩
  · rw [if_neg q] at hc ⊢
    exact ⟨⟨Int.le_refl _, Int.le_refl _⟩, hI, hc, _, rfl⟩
