theorem lt_g {ts : List tk_T} {p : List Int} {u : List (Int × Int)} {o : Int} {q : mc_T} (hh : pr_h ts ≠ 0) (e : mb_g ts p u o = .inl q) : q.1.length < ts.length := by
  have hl := pr_h_len hh
  have ht : q.1 = ts.tail ∨ q.1 = ts.tail.tail := by
    unfold mb_g at e
    repeat' split at e
    all_goals first | (cases e; done) | (cases e; exact Or.inl rfl) | (cases e; exact Or.inr rfl)
  rcases ht with ht | ht
  · rw [ht]; omega
  · rw [ht, List.length_tail]; omega
theorem lt_h {ts : List tk_T} {p : List Int} {u : List (Int × Int)} {o : Int} {q : mc_T} (hh : pr_h ts ≠ 0) (e : mb_h ts p u o = .inl q) : q.1.length < ts.length := by
  have hl := pr_h_len hh
  have ht : q.1 = ts.tail := by
    unfold mb_h at e
    repeat' split at e
    all_goals first | (cases e; done) | (cases e; rfl)
  rw [ht]; omega
set_option maxHeartbeats 1000000 in
theorem ml_M_readText {w : aw_T} {h0 : ah_T} {S : ms_T} {d : Nat} (hd : 4 ≤ d) {T : Nat → Int} (hT : ∀ i, 0 ≤ T i ∧ T i ≤ 255) {n : Nat} (hn : n ≤ 100) {P : ap_T} : ∀ (k : Nat) (ts : List tk_T) (p : List Int) (u : List (Int × Int)) (o : Int) (b : Bool) (S1 : ms_T) (h : ah_T), ts.length + 1 ≤ k → bd_ ts p u o → md_ S1 p u o (if b = true then 1 else 0) → tk_R T n S1 ts → S1.1 43 = (n : Int) → S1.2 68 = T → fr_ S S1 → mo_I h0 h S1 → (∀ (c : List (Int × Int)) (S3 : ms_T) (h : ah_T), mb_r k (ts, p, u, o, b) = .inl c → (S3.1 53 = (c.length : Int) ∧ ou_ S3 c.length = c) → c.length ≤ 100 → fr_ S S3 → mo_I h0 h S3 → P (some (av_i 0)) h) → (∀ (e : Int × Int) (S3 : ms_T) (h : ah_T), mb_r k (ts, p, u, o, b) = .inr e → (1 ≤ e.1 ∧ e.1 ≤ 3) → S3.1 50 = e.2 → fr_ S S3 → mo_I h0 h S3 → P (some (av_i e.1)) h) → aw_W w mm_M_readText d P 29 [some (av_r 38), none] [] h 0 0 := by
  intro k
  induction k using Nat.strongRecOn with
  | _ k ih =>
    intro ts p u o b S1 h hk hb hmd htk h43 ht hfr hM hO hE
    cases b with
    | true =>
      rw [if_pos rfl] at hmd
      have fr_S1 := hfr
      have htc := htk.2.2.1
      unfold tc_ at htc
      have hb0 := hb
      unfold bd_ at hb0
      have hix := pr_ix_s (pr_h ts)
      have hne : 0 < ts.length := List.length_pos_iff.mpr htk.1
      have h57 : S1.1 57 = 1 := hmd.2.2.2
      refine ag_aload_n dd_M_readText_29 rfl ?_
      refine ag_get dd_M_readText_30 fg_M_250 (mr_38 hM) rfl ?_
      refine ag_if_eq (tgt := 64) dd_M_readText_33 (by decide) (by omega) (fun c1 => ?_) (fun c1 => ?_)
      · have hz : pr_h ts = 0 := by omega
        refine ag_aload_n dd_M_readText_64 rfl ?_
        refine ag_get dd_M_readText_65 fg_M_284 (mr_38 hM) rfl ?_
        refine ag_if_ne (tgt := 73) dd_M_readText_68 (by decide) (by omega) (fun c2 => ?_) (fun c2 => ?_)
        · refine ag_aload_n dd_M_readText_73 rfl ?_
          refine ag_iconst dd_M_readText_74 ?_
          refine ag_wV dd_M_readText_75 fi_M_294 (mr_38 hM) rfl (mc_M_settle (d := 1) (by omega) hM hmd (l := 3) (by omega) (by omega)) rfl rfl (by omega) (Nat.le_of_ble_eq_true rfl) (fun r1 h hP => ?_)
          obtain ⟨rfl, S2, hm2, g2, g3, hM⟩ := hP
          have hk3 := mt_len 3 p u
          obtain ⟨Q, U, hPU⟩ : ∃ Q U, mt_ 3 p u = (Q, U) := ⟨_, _, rfl⟩
          rw [hPU] at hm2 hk3
          dsimp only at hm2 hk3
          have h55 := hm2.1.1
          cases Q with
          | nil =>
            rw [List.length_nil] at h55
            refine ag_aload_n dd_M_readText_78 rfl ?_
            refine ag_get dd_M_readText_79 fg_M_271 (mr_38 hM) rfl ?_
            refine ag_if_le (tgt := 89) dd_M_readText_82 (by decide) (by omega) (fun c3 => ?_) (fun c3 => ?_)
            · refine ag_iconst dd_M_readText_89 ?_
              refine ag_iret dd_M_readText_90 rfl ?_
              refine hO U S2 h ?_ hm2.2.1 (by omega) (fr_tr hfr g2) hM
              obtain ⟨k, rfl⟩ : ∃ k2, k = k2 + 1 := ⟨k - 1, by omega⟩
              rw [mb_r, if_pos hz, mb_e]
              show (if true = true then (if (mt_ 3 p u).1 = [] then _ else _) else _) = _
              rw [hPU, if_pos rfl, if_pos rfl]
            · exfalso; omega
          | cons a Q =>
            rw [List.length_cons] at h55 hk3
            refine ag_aload_n dd_M_readText_78 rfl ?_
            refine ag_get dd_M_readText_79 fg_M_271 (mr_38 hM) rfl ?_
            refine ag_if_le (tgt := 89) dd_M_readText_82 (by decide) (by omega) (fun c4 => ?_) (fun c4 => ?_)
            · exfalso; omega
            · refine ag_iconst dd_M_readText_85 ?_
              refine ag_goto (tgt := 90) dd_M_readText_86 (by decide) ?_
              refine ag_iret dd_M_readText_90 rfl ?_
              refine hE (1, pr_p ts) S2 h ?_ (show (1 : Int) ≤ 1 ∧ (1 : Int) ≤ 3 by decide) ((g3 50 (by decide) (by decide)).trans htk.2.1) (fr_tr hfr g2) hM
              obtain ⟨k, rfl⟩ : ∃ k2, k = k2 + 1 := ⟨k - 1, by omega⟩
              rw [mb_r, if_pos hz, mb_e]
              show (if true = true then (if (mt_ 3 p u).1 = [] then _ else _) else _) = _
              rw [hPU, if_pos rfl, if_neg (by simp)]
        · exfalso; omega
      · have hh : pr_h ts ≠ 0 := by omega
        refine ag_aload_n dd_M_readText_36 rfl ?_
        refine ag_get dd_M_readText_37 fg_M_284 (mr_38 hM) rfl ?_
        refine ag_if_eq (tgt := 50) dd_M_readText_40 (by decide) (by omega) (fun c5 => ?_) (fun c5 => ?_)
        · exfalso; omega
        · refine ag_aload_n dd_M_readText_43 rfl ?_
          refine ag_wV dd_M_readText_44 fi_M_297 (mr_38 hM) rfl (mc_M_behind (d := 3) (by omega) hM hT hn h43 ht htk hh hb hmd) rfl rfl (by omega) (Nat.le_of_ble_eq_true rfl) (fun r1 h hP => ?_)
          have e1 : mb_1 (ts, p, u, o, true) = mb_h ts p u o := rfl
          cases hq : mb_h ts p u o with
          | inr e =>
            rw [hq] at hP e1
            obtain ⟨he, rfl, S2, g50, g2, hM⟩ := hP
            refine ag_goto (tgt := 54) dd_M_readText_47 (by decide) ?_
            refine ag_istore_nN (Lf := fun y => [some (av_r 38), some (av_i (y))]) dd_M_readText_54 (fun _ => rfl) rfl (by decide) (fun y7 ey7 => ?_)
            refine ag_iload_n dd_M_readText_55 rfl ?_
            refine ag_if_eq (tgt := 61) dd_M_readText_56 (by decide) (by omega) (fun c8 => ?_) (fun c8 => ?_)
            · exfalso; omega
            · refine ag_iload_n dd_M_readText_59 rfl ?_
              refine ag_iret dd_M_readText_60 rfl ?_
              rw [ey7]
              refine hE e S2 h ?_ he g50 (fr_tr hfr g2) hM
              obtain ⟨k, rfl⟩ : ∃ k2, k = k2 + 1 := ⟨k - 1, by omega⟩
              exact mb_r_r (q := (ts, p, u, o, true)) hh e1
          | inl q =>
            rw [hq] at hP e1
            obtain ⟨rfl, S2, gmd, gtk, g2, hM⟩ := hP
            obtain ⟨qts, qp, qu, qo, qb⟩ := q
            refine ag_goto (tgt := 54) dd_M_readText_47 (by decide) ?_
            refine ag_istore_n (L' := [some (av_r 38), some (av_i (0))]) dd_M_readText_54 rfl rfl (by decide) ?_
            refine ag_iload_n dd_M_readText_55 rfl ?_
            refine ag_if_eq (tgt := 61) dd_M_readText_56 (by decide) (by omega) (fun c9 => ?_) (fun c9 => ?_)
            · refine ag_goto (tgt := 29) dd_M_readText_61 (by decide) ?_
              obtain ⟨k, rfl⟩ : ∃ k2, k = k2 + 1 := ⟨k - 1, by omega⟩
              have hb2 := bd_h hb hh hq
              have hlt := lt_h hh hq
              dsimp only at hb2 hlt
              have hs : mb_r (k + 1) (ts, p, u, o, true) = mb_r k (qts, qp, qu, qo, qb) := mb_r_l (q := (ts, p, u, o, true)) hh e1
              have h43b : S2.1 43 = (n : Int) := (g2.1 43 (by decide) (by decide)).trans h43
              have htb : S2.2 68 = T := (g2.2.1 68 (by decide) (by decide) (by decide)).trans ht
              refine ag_weak [some (av_r 38), none] (by simp [al_le]) ?_
              refine ih k (by omega) qts qp qu qo qb S2 h (by omega) hb2 gmd gtk h43b htb (fr_tr hfr g2) hM (fun c S3 h z => hO c S3 h (hs.trans z)) (fun e S3 h z => hE e S3 h (hs.trans z))
            · exfalso; omega
    | false =>
      rw [if_neg (by decide)] at hmd
      have fr_S1 := hfr
      have htc := htk.2.2.1
      unfold tc_ at htc
      have hb0 := hb
      unfold bd_ at hb0
      have hix := pr_ix_s (pr_h ts)
      have hne : 0 < ts.length := List.length_pos_iff.mpr htk.1
      have h57 : S1.1 57 = 0 := hmd.2.2.2
      refine ag_aload_n dd_M_readText_29 rfl ?_
      refine ag_get dd_M_readText_30 fg_M_250 (mr_38 hM) rfl ?_
      refine ag_if_eq (tgt := 64) dd_M_readText_33 (by decide) (by omega) (fun c1 => ?_) (fun c1 => ?_)
      · have hz : pr_h ts = 0 := by omega
        refine ag_aload_n dd_M_readText_64 rfl ?_
        refine ag_get dd_M_readText_65 fg_M_284 (mr_38 hM) rfl ?_
        refine ag_if_ne (tgt := 73) dd_M_readText_68 (by decide) (by omega) (fun c2 => ?_) (fun c2 => ?_)
        · exfalso; omega
        · refine ag_iconst dd_M_readText_71 ?_
          refine ag_iret dd_M_readText_72 rfl ?_
          refine hE (1, pr_p ts) S1 h ?_ (show (1 : Int) ≤ 1 ∧ (1 : Int) ≤ 3 by decide) htk.2.1 hfr hM
          obtain ⟨k, rfl⟩ : ∃ k2, k = k2 + 1 := ⟨k - 1, by omega⟩
          rw [mb_r, if_pos hz, mb_e]
          rfl
      · have hh : pr_h ts ≠ 0 := by omega
        refine ag_aload_n dd_M_readText_36 rfl ?_
        refine ag_get dd_M_readText_37 fg_M_284 (mr_38 hM) rfl ?_
        refine ag_if_eq (tgt := 50) dd_M_readText_40 (by decide) (by omega) (fun c3 => ?_) (fun c3 => ?_)
        · refine ag_aload_n dd_M_readText_50 rfl ?_
          refine ag_wV dd_M_readText_51 fi_M_300 (mr_38 hM) rfl (mc_M_begin (d := 3) (by omega) hM hT hn h43 ht htk hh hb hmd) rfl rfl (by omega) (Nat.le_of_ble_eq_true rfl) (fun r1 h hP => ?_)
          have e1 : mb_1 (ts, p, u, o, false) = mb_g ts p u o := rfl
          cases hq : mb_g ts p u o with
          | inr e =>
            rw [hq] at hP e1
            obtain ⟨he, rfl, S2, g50, g2, hM⟩ := hP
            refine ag_istore_nN (Lf := fun y => [some (av_r 38), some (av_i (y))]) dd_M_readText_54 (fun _ => rfl) rfl (by decide) (fun y5 ey5 => ?_)
            refine ag_iload_n dd_M_readText_55 rfl ?_
            refine ag_if_eq (tgt := 61) dd_M_readText_56 (by decide) (by omega) (fun c6 => ?_) (fun c6 => ?_)
            · exfalso; omega
            · refine ag_iload_n dd_M_readText_59 rfl ?_
              refine ag_iret dd_M_readText_60 rfl ?_
              rw [ey5]
              refine hE e S2 h ?_ he g50 (fr_tr hfr g2) hM
              obtain ⟨k, rfl⟩ : ∃ k2, k = k2 + 1 := ⟨k - 1, by omega⟩
              exact mb_r_r (q := (ts, p, u, o, false)) hh e1
          | inl q =>
            rw [hq] at hP e1
            obtain ⟨rfl, S2, gmd, gtk, g2, hM⟩ := hP
            obtain ⟨qts, qp, qu, qo, qb⟩ := q
            refine ag_istore_n (L' := [some (av_r 38), some (av_i (0))]) dd_M_readText_54 rfl rfl (by decide) ?_
            refine ag_iload_n dd_M_readText_55 rfl ?_
            refine ag_if_eq (tgt := 61) dd_M_readText_56 (by decide) (by omega) (fun c7 => ?_) (fun c7 => ?_)
            · refine ag_goto (tgt := 29) dd_M_readText_61 (by decide) ?_
              obtain ⟨k, rfl⟩ : ∃ k2, k = k2 + 1 := ⟨k - 1, by omega⟩
              have hb2 := bd_g hb hh hq
              have hlt := lt_g hh hq
              dsimp only at hb2 hlt
              have hs : mb_r (k + 1) (ts, p, u, o, false) = mb_r k (qts, qp, qu, qo, qb) := mb_r_l (q := (ts, p, u, o, false)) hh e1
              have h43b : S2.1 43 = (n : Int) := (g2.1 43 (by decide) (by decide)).trans h43
              have htb : S2.2 68 = T := (g2.2.1 68 (by decide) (by decide) (by decide)).trans ht
              refine ag_weak [some (av_r 38), none] (by simp [al_le]) ?_
              refine ih k (by omega) qts qp qu qo qb S2 h (by omega) hb2 gmd gtk h43b htb (fr_tr hfr g2) hM (fun c S3 h z => hO c S3 h (hs.trans z)) (fun e S3 h z => hE e S3 h (hs.trans z))
            · exfalso; omega
        · exfalso; omega
set_option maxHeartbeats 1000000 in
theorem mc_M_readText {w : aw_T} {h0 h : ah_T} {S : ms_T} {d : Nat} (hd : 4 ≤ d) (hM : mo_I h0 h S) {T : Nat → Int} (hT : ∀ i, 0 ≤ T i ∧ T i ≤ 255) {n : Nat} (hn : n ≤ 100) (h43 : S.1 43 = (n : Int)) (ht : S.2 68 = T) : am_M w mm_M_readText d [av_r 38] h 0 0 (fun r1 h1 => ∃ S3, fr_ S S3 ∧ mo_I h0 h1 S3 ∧ ((∃ c : List (Int × Int), r1 = some (av_i 0) ∧ mb_r 102 (lx_ T n 100 0, [], [], 0, false) = .inl c ∧ (S3.1 53 = (c.length : Int) ∧ ou_ S3 c.length = c) ∧ c.length ≤ 100) ∨ ∃ e : Int × Int, r1 = some (av_i e.1) ∧ mb_r 102 (lx_ T n 100 0, [], [], 0, false) = .inr e ∧ (1 ≤ e.1 ∧ e.1 ≤ 3) ∧ S3.1 50 = e.2)) := by
  refine am_intro [some (av_r 38), none] (by decide +kernel) (Nat.le_of_ble_eq_true rfl) rfl ?_
  refine ag_aload_n dd_M_readText_0 rfl ?_
  refine ag_iconst dd_M_readText_1 ?_
  refine mp_49 dd_M_readText_2 fp_M_241 hM (fun h S1 eS1 hM => ?_)
  refine ag_aload_n dd_M_readText_5 rfl ?_
  refine ag_iconst dd_M_readText_6 ?_
  refine mp_53 dd_M_readText_7 fp_M_268 hM (fun h S2 eS2 hM => ?_)
  refine ag_aload_n dd_M_readText_10 rfl ?_
  refine ag_iconst dd_M_readText_11 ?_
  refine mp_54 dd_M_readText_12 fp_M_274 hM (fun h S3 eS3 hM => ?_)
  refine ag_aload_n dd_M_readText_15 rfl ?_
  refine ag_iconst dd_M_readText_16 ?_
  refine mp_55 dd_M_readText_17 fp_M_271 hM (fun h S4 eS4 hM => ?_)
  refine ag_aload_n dd_M_readText_20 rfl ?_
  refine ag_iconst dd_M_readText_21 ?_
  refine mp_57 dd_M_readText_22 fp_M_284 hM (by first | exact Or.inl rfl | exact Or.inr rfl | omega) (fun h S5 eS5 hM => ?_)
  refine ag_aload_n dd_M_readText_25 rfl ?_
  have md_S : md_ S5 [] [] 0 0 := by subst_vars; exact ⟨⟨rfl, rfl, fun q hq => by cases hq⟩, ⟨rfl, rfl⟩, rfl, rfl⟩
  have fr_S : fr_ S S5 := by
    subst_vars
    exact fr_tr (fr_put (k := 49) (v := 0) rfl (by decide)) (fr_tr (fr_put (k := 53) (v := 0) rfl (by decide)) (fr_tr (fr_put (k := 54) (v := 0) rfl (by decide)) (fr_tr (fr_put (k := 55) (v := 0) rfl (by decide)) (fr_put (k := 57) (v := 0) rfl (by decide)))))
  have h49 : S5.1 49 = ((0 : Nat) : Int) := by subst_vars; rfl
  have h43b : S5.1 43 = (n : Int) := (fr_S.1 43 (by decide) (by decide)).trans h43
  have htb : S5.2 68 = T := (fr_S.2.1 68 (by decide) (by decide) (by decide)).trans ht
  refine ag_wV dd_M_readText_26 fi_M_288 (mr_38 hM) rfl (mc_M_nextToken (d := 2) (by omega) hM hT hn (f := 100) (r := 0) h49 (Nat.zero_le _) (by omega) h43b htb) rfl rfl (by omega) (Nat.le_of_ble_eq_true rfl) (fun r1 h hP => ?_)
  obtain ⟨rfl, S9, nx9, tk9, hM⟩ := hP
  have hlen := lx_len T n 100 0
  generalize hts : lx_ T n 100 0 = ts at *
  exact ml_M_readText hd hT hn 102 ts [] [] 0 false S9 h (by omega) ⟨by show 0 + 0 + ts.length ≤ 101; omega, by decide, by show (ts.length : Int) ≤ 0 + ((0 : Nat) : Int) + 101; omega⟩ (md_nx md_S nx9) tk9 ((nx9.2 43 (by decide)).trans h43b) (by rw [nx9.1]; exact htb) (fr_tr fr_S (fr_nx nx9)) hM
    (fun c S3 h z1 z2 z3 z4 z5 => ⟨S3, z4, z5, Or.inl ⟨c, rfl, z1, z2, z3⟩⟩) (fun e S3 h z1 z2 z3 z4 z5 => ⟨S3, z4, z5, Or.inr ⟨e, rfl, z1, z2, z3⟩⟩)
/-- only what a text changes has changed -/
def tx_ (S S1 : ms_T) : Prop := (∀ k, ¬ (49 ≤ k ∧ k ≤ 55) → k ≠ 57 → k ≠ 43 → k ≠ 44 → k ≠ 47 → k ≠ 48 → S1.1 k = S.1 k) ∧ (∀ a, a ≠ 69 → a ≠ 70 → a ≠ 71 → S1.2 a = S.2 a)
theorem tx_rf (S : ms_T) : tx_ S S := ⟨fun _ _ _ _ _ _ _ => rfl, fun _ _ _ _ => rfl⟩
theorem tx_fr {S S1 : ms_T} (h : fr_ S S1) : tx_ S S1 := ⟨fun k a b _ _ _ _ => h.1 k a b, h.2.1⟩
theorem tx_tr {S S1 S2 : ms_T} (h : tx_ S S1) (g : tx_ S1 S2) : tx_ S S2 := ⟨fun k a b c d e f => (g.1 k a b c d e f).trans (h.1 k a b c d e f), fun k a b c => (g.2 k a b c).trans (h.2 k a b c)⟩
theorem tx_put {S S2 : ms_T} {k : Nat} {v : Int} (e : S2 = (ai_up S.1 k v, S.2)) (hk : k = 43 ∨ k = 44 ∨ k = 47 ∨ k = 48) : tx_ S S2 := by
  subst e
  refine ⟨fun j a b c d e f => ?_, fun _ _ _ _ => rfl⟩
  show ai_up S.1 k v j = _
  rw [ai_up_n _ _ (by omega)]
theorem tx_set {S S2 : ms_T} {a : Nat} {g : Nat → Int} (e : S2 = (S.1, ai_up S.2 a g)) (hk : a = 69 ∨ a = 70) : tx_ S S2 := by
  subst e
  refine ⟨fun j _ _ _ _ _ _ => rfl, fun j b c _ => ?_⟩
  show ai_up S.2 a g j = _
  rw [ai_up_n _ _ (by omega)]
/-- what a text answers and leaves behind, by the tokens ts -/
def tx_P (h0 : ah_T) (S : ms_T) (ts : List tk_T) : ap_T := fun r1 h1 => ∃ S3, tx_ S S3 ∧ S3.1 43 = 0 ∧ mo_I h0 h1 S3 ∧
  ((∃ c r, pr_all ts = .inl (c, r) ∧ r1 = some (av_i 1) ∧ S3.1 47 = 0 ∧ S3.1 48 = -1 ∧ S3.1 44 = (c.length : Int) ∧ c.length ≤ 100 ∧ sp_code S3 = c) ∨
   (∃ e, pr_all ts = .inr e ∧ r1 = some (av_i 0) ∧ (1 ≤ e.1 ∧ e.1 ≤ 3) ∧ S3.1 47 = e.1 ∧ S3.1 48 = e.2 ∧ S3.1 44 = S.1 44 ∧ sp_code S3 = sp_code S))
/-- so much of the text's code is copied -/
def cp_ (S : ms_T) (k : Nat) : Prop := ∀ i, i < k → S.2 69 i = S.2 69 (128 + i) ∧ S.2 70 i = S.2 70 (128 + i)
theorem cp_up {S S1 S2 : ms_T} {k : Nat} (hk : k < 128) (h : cp_ S k) (e1 : S1 = (S.1, ai_up S.2 69 (ai_up (S.2 69) k (S.2 69 (128 + k))))) (e2 : S2 = (S1.1, ai_up S1.2 70 (ai_up (S1.2 70) k (S1.2 70 (128 + k))))) : cp_ S2 (k + 1) ∧ ∀ n, ou_ S2 n = ou_ S n := by
  have e69 : S2.2 69 = ai_up (S.2 69) k (S.2 69 (128 + k)) := by
    rw [e2, e1]; rfl
  have e70 : S2.2 70 = ai_up (S.2 70) k (S.2 70 (128 + k)) := by
    rw [e2, e1]; rfl
  refine ⟨fun i hi => ?_, fun n => ?_⟩
  · rw [e69, e70]
    rw [ai_up_n _ _ (show 128 + i ≠ k by omega), ai_up_n _ _ (show 128 + i ≠ k by omega)]
    by_cases q : i = k
    · subst q
      rw [ai_up_s, ai_up_s]
      exact ⟨rfl, rfl⟩
    · rw [ai_up_n _ _ q, ai_up_n _ _ q]
      exact h i (by omega)
  · unfold ou_
    refine List.map_congr_left (fun j _ => ?_)
    rw [e69, e70, ai_up_n _ _ (by omega), ai_up_n _ _ (by omega)]
theorem cp_code {S : ms_T} {n : Nat} (h : cp_ S n) (h44 : S.1 44 = (n : Int)) : sp_code S = ou_ S n := by
  unfold sp_code ou_
  rw [h44, Int.toNat_natCast]
  refine List.map_congr_left (fun j hj => ?_)
  have := h j (List.mem_range.mp hj)
  rw [this.1, this.2]
set_option maxHeartbeats 1000000 in
theorem ml_M_text {w : aw_T} {h0 : ah_T} {d : Nat} {P : ap_T} {c : List (Int × Int)} (hlen : c.length ≤ 100) : ∀ (m k : Nat) (S1 : ms_T) (h : ah_T), k + m = c.length → S1.1 53 = (c.length : Int) → cp_ S1 k → mo_I h0 h S1 → (∀ (S9 : ms_T) (h : ah_T), tx_ S1 S9 → S9.1 43 = S1.1 43 → S9.1 44 = S1.1 44 → S9.1 47 = S1.1 47 → S9.1 48 = S1.1 48 → cp_ S9 c.length → (∀ n, ou_ S9 n = ou_ S1 n) → mo_I h0 h S9 → P (some (av_i 1)) h) → aw_W w mm_M_text d P 51 [some (av_r 38), some (av_i ((k : Int)))] [] h 0 0 := by
  intro m
  induction m with
  | zero =>
    intro k S1 h hk h53 hcp hM hX
    refine ag_iload_n dd_M_text_51 rfl ?_
    refine ag_aload_n dd_M_text_52 rfl ?_
    refine ag_get dd_M_text_53 fg_M_268 (mr_38 hM) rfl ?_
    refine ag_icmp_ge (tgt := 97) dd_M_text_56 (by decide) (by omega) (by omega) (fun c1 => ?_) (fun c1 => ?_)
    · refine ag_iconst dd_M_text_97 ?_
      refine ag_zret dd_M_text_98 rfl (by first | exact Or.inl rfl | exact Or.inr rfl | omega) ?_
      obtain rfl : k = c.length := by omega
      exact hX S1 h (tx_rf _) rfl rfl rfl rfl hcp (fun _ => rfl) hM
    · exfalso; omega
  | succ m ih =>
    intro k S1 h hk h53 hcp hM hX
    have hl := hlen
    refine ag_iload_n dd_M_text_51 rfl ?_
    refine ag_aload_n dd_M_text_52 rfl ?_
    refine ag_get dd_M_text_53 fg_M_268 (mr_38 hM) rfl ?_
    refine ag_icmp_ge (tgt := 97) dd_M_text_56 (by decide) (by omega) (by omega) (fun c1 => ?_) (fun c1 => ?_)
    · exfalso; omega
    · refine ag_aload_n dd_M_text_59 rfl ?_
      refine ag_get dd_M_text_60 fg_M_119 (mr_38 hM) rfl ?_
      refine ag_iload_n dd_M_text_63 rfl ?_
      refine ag_aload_n dd_M_text_64 rfl ?_
      refine ag_get dd_M_text_65 fg_M_119 (mr_38 hM) rfl ?_
      refine ag_sipush dd_M_text_68 (by decide +kernel) ?_
      refine ag_iload_n dd_M_text_71 rfl ?_
      refine ag_iadd dd_M_text_72 ?_
      refine ag_iald dd_M_text_73 (mr_69 hM) (by decide) (by omega) ?_
      refine ms_69N dd_M_text_74 hM (by omega) (fun h S2 eS2 hM => ?_)
      refine ag_aload_n dd_M_text_75 rfl ?_
      refine ag_get dd_M_text_76 fg_M_122 (mr_38 hM) rfl ?_
      refine ag_iload_n dd_M_text_79 rfl ?_
      refine ag_aload_n dd_M_text_80 rfl ?_
      refine ag_get dd_M_text_81 fg_M_122 (mr_38 hM) rfl ?_
      refine ag_sipush dd_M_text_84 (by decide +kernel) ?_
      refine ag_iload_n dd_M_text_87 rfl ?_
      refine ag_iadd dd_M_text_88 ?_
      refine ag_iald dd_M_text_89 (mr_70 hM) (by decide) (by omega) ?_
      refine ms_70N dd_M_text_90 hM (by omega) (fun h S3 eS3 hM => ?_)
      refine ag_iincN (Lf := fun y => [some (av_r 38), some (av_i (y))]) dd_M_text_91 rfl (fun _ => rfl) rfl (by decide) (fun y4 ey4 => ?_)
      refine ag_goto (tgt := 51) dd_M_text_94 (by decide) ?_
      have hsum : (128 + (k : Int)).toNat = 128 + k := by omega
      rw [hsum] at eS2 eS3
      have hcu := cp_up (by omega) hcp eS2 eS3
      have ht3 : tx_ S1 S3 := tx_tr (tx_set eS2 (Or.inl rfl)) (tx_set eS3 (Or.inr rfl))
      have f1 : S3.1 = S1.1 := by rw [eS3, eS2]
      obtain rfl : y4 = ((k + 1 : Nat) : Int) := by omega
      refine ih (k + 1) S3 h (by omega) (by rw [f1]; exact h53) hcu.1 hM (fun S9 h z1 z2 z3 z4 z5 z6 z7 hM => hX S9 h (tx_tr ht3 z1) (by rw [z2, f1]) (by rw [z3, f1]) (by rw [z4, f1]) (by rw [z5, f1]) z6 (fun n => (z7 n).trans (hcu.2 n)) hM)
set_option maxHeartbeats 1000000 in
theorem mc_M_text {w : aw_T} {h0 h : ah_T} {S : ms_T} {d : Nat} (hd : 5 ≤ d) (hM : mo_I h0 h S) {T : Nat → Int} (hT : ∀ i, 0 ≤ T i ∧ T i ≤ 255) {n : Nat} (hn : n ≤ 100) (h43 : S.1 43 = (n : Int)) (ht : S.2 68 = T) (h44 : 0 ≤ S.1 44 ∧ S.1 44 ≤ 100) : am_M w mm_M_text d [av_r 38] h 0 0 (tx_P h0 S (lx_ T n 100 0)) := by
  refine am_intro [some (av_r 38), none] (by decide +kernel) (Nat.le_of_ble_eq_true rfl) rfl ?_
  refine ag_aload_n dd_M_text_0 rfl ?_
  refine ag_aload_n dd_M_text_1 rfl ?_
  refine ag_wV dd_M_text_2 fi_M_303 (mr_38 hM) rfl (mc_M_readText (d := 4) (by omega) hM hT hn h43 ht) rfl rfl (by omega) (Nat.le_of_ble_eq_true rfl) (fun r1 h hP => ?_)
  obtain ⟨Sr, g1, hM, g2⟩ := hP
  have x_Sr := tx_fr g1
  have w_Sr : Sr.2 = Sr.2 := rfl
  have hlen := lx_len T n 100 0
  have hall := mb_all (lx_ T n 100 0) 102 (by omega) (by omega)
  rcases g2 with ⟨c, rfl, z1, z2, z3⟩ | ⟨e, rfl, z1, z2, z3⟩
  · have hpa : ∃ rr, pr_all (lx_ T n 100 0) = .inl (c, rr) := by
      cases hq : pr_all (lx_ T n 100 0) with
      | inr e => rw [hall.1 e hq] at z1; cases z1
      | inl q =>
        rw [hall.2 q.1 q.2 hq] at z1
        cases z1
        exact ⟨q.2, rfl⟩
    obtain ⟨rr, hpa⟩ := hpa
    have z21 := z2.1
    refine mp_47 dd_M_text_5 fp_M_125 hM (fun h S1 eS1 hM => ?_)
    have x_S1 := tx_tr x_Sr (tx_put (k := 47) eS1 (by decide))
    have q43_S1 : S1.1 43 = Sr.1 43 := by rw [eS1]; rfl
    have q44_S1 : S1.1 44 = Sr.1 44 := by rw [eS1]; rfl
    have q48_S1 : S1.1 48 = Sr.1 48 := by rw [eS1]; rfl
    have q50_S1 : S1.1 50 = Sr.1 50 := by rw [eS1]; rfl
    have q53_S1 : S1.1 53 = Sr.1 53 := by rw [eS1]; rfl
    have q47_S1 : S1.1 47 = 0 := by rw [eS1]; rfl
    have w_S1 : S1.2 = Sr.2 := (show S1.2 = Sr.2 by rw [eS1]).trans w_Sr
    clear eS1
    refine ag_aload_n dd_M_text_8 rfl ?_
    refine ag_aload_n dd_M_text_9 rfl ?_
    refine ag_get dd_M_text_10 fg_M_125 (mr_38 hM) rfl ?_
    refine ag_if_ne (tgt := 20) dd_M_text_13 (by decide) (by omega) (fun c2 => ?_) (fun c2 => ?_)
    · exfalso; omega
    · refine ag_iconst dd_M_text_16 ?_
      refine ag_goto (tgt := 24) dd_M_text_17 (by decide) ?_
      refine mp_48 dd_M_text_24 fp_M_128 hM (fun h S3 eS3 hM => ?_)
      have x_S3 := tx_tr x_S1 (tx_put (k := 48) eS3 (by decide))
      have q43_S3 : S3.1 43 = S1.1 43 := by rw [eS3]; rfl
      have q44_S3 : S3.1 44 = S1.1 44 := by rw [eS3]; rfl
      have q47_S3 : S3.1 47 = S1.1 47 := by rw [eS3]; rfl
      have q50_S3 : S3.1 50 = S1.1 50 := by rw [eS3]; rfl
      have q53_S3 : S3.1 53 = S1.1 53 := by rw [eS3]; rfl
      have q48_S3 : S3.1 48 = -1 := by rw [eS3]; rfl
      have w_S3 : S3.2 = Sr.2 := (show S3.2 = S1.2 by rw [eS3]).trans w_S1
      clear eS3
      refine ag_aload_n dd_M_text_27 rfl ?_
      refine ag_iconst dd_M_text_28 ?_
      refine mp_43 dd_M_text_29 fp_M_235 hM (fun h S4 eS4 hM => ?_)
      have x_S4 := tx_tr x_S3 (tx_put (k := 43) eS4 (by decide))
      have q44_S4 : S4.1 44 = S3.1 44 := by rw [eS4]; rfl
      have q47_S4 : S4.1 47 = S3.1 47 := by rw [eS4]; rfl
      have q48_S4 : S4.1 48 = S3.1 48 := by rw [eS4]; rfl
      have q50_S4 : S4.1 50 = S3.1 50 := by rw [eS4]; rfl
      have q53_S4 : S4.1 53 = S3.1 53 := by rw [eS4]; rfl
      have q43_S4 : S4.1 43 = 0 := by rw [eS4]; rfl
      have w_S4 : S4.2 = Sr.2 := (show S4.2 = S3.2 by rw [eS4]).trans w_S3
      clear eS4
      refine ag_aload_n dd_M_text_32 rfl ?_
      refine ag_get dd_M_text_33 fg_M_125 (mr_38 hM) rfl ?_
      refine ag_if_eq (tgt := 41) dd_M_text_36 (by decide) (by omega) (fun c5 => ?_) (fun c5 => ?_)
      · refine ag_aload_n dd_M_text_41 rfl ?_
        refine ag_aload_n dd_M_text_42 rfl ?_
        refine ag_get dd_M_text_43 fg_M_268 (mr_38 hM) rfl ?_
        refine mp_44 dd_M_text_46 fp_M_149 hM (fun h S6 eS6 hM => ?_)
        have x_S6 := tx_tr x_S4 (tx_put (k := 44) eS6 (by decide))
        have q43_S6 : S6.1 43 = S4.1 43 := by rw [eS6]; rfl
        have q47_S6 : S6.1 47 = S4.1 47 := by rw [eS6]; rfl
        have q48_S6 : S6.1 48 = S4.1 48 := by rw [eS6]; rfl
        have q50_S6 : S6.1 50 = S4.1 50 := by rw [eS6]; rfl
        have q53_S6 : S6.1 53 = S4.1 53 := by rw [eS6]; rfl
        have q44_S6 : S6.1 44 = (S4.1 53) := by rw [eS6]; rfl
        have w_S6 : S6.2 = Sr.2 := (show S6.2 = S4.2 by rw [eS6]).trans w_S4
        clear eS6
        refine ag_iconst dd_M_text_49 ?_
        refine ag_istore_n (L' := [some (av_r 38), some (av_i (0))]) dd_M_text_50 rfl rfl (by decide) ?_
        have ho : ∀ m, ou_ S6 m = ou_ Sr m := fun m => by unfold ou_; rw [w_S6]
        refine ml_M_text (c := c) z3 c.length 0 S6 h (by omega) (by omega) (fun i hi => by omega) hM (fun S9 h y1 y2 y3 y4 y5 y6 y7 hM => ?_)
        refine ⟨S9, tx_tr x_S6 y1, by omega, hM, Or.inl ⟨c, rr, hpa, rfl, by omega, by omega, by omega, z3, ?_⟩⟩
        rw [cp_code (n := c.length) y6 (by omega), y7, ho]
        exact z2.2
      · exfalso; omega
  · have hpa : pr_all (lx_ T n 100 0) = .inr e := by
      cases hq : pr_all (lx_ T n 100 0) with
      | inl q => rw [hall.2 q.1 q.2 hq] at z1; cases z1
      | inr e2 =>
        rw [hall.1 e2 hq] at z1
        cases z1
        rfl
    refine mp_47 dd_M_text_5 fp_M_125 hM (fun h S7 eS7 hM => ?_)
    have x_S7 := tx_tr x_Sr (tx_put (k := 47) eS7 (by decide))
    have q43_S7 : S7.1 43 = Sr.1 43 := by rw [eS7]; rfl
    have q44_S7 : S7.1 44 = Sr.1 44 := by rw [eS7]; rfl
    have q48_S7 : S7.1 48 = Sr.1 48 := by rw [eS7]; rfl
    have q50_S7 : S7.1 50 = Sr.1 50 := by rw [eS7]; rfl
    have q53_S7 : S7.1 53 = Sr.1 53 := by rw [eS7]; rfl
    have q47_S7 : S7.1 47 = e.1 := by rw [eS7]; rfl
    have w_S7 : S7.2 = Sr.2 := (show S7.2 = Sr.2 by rw [eS7]).trans w_Sr
    clear eS7
    refine ag_aload_n dd_M_text_8 rfl ?_
    refine ag_aload_n dd_M_text_9 rfl ?_
    refine ag_get dd_M_text_10 fg_M_125 (mr_38 hM) rfl ?_
    refine ag_if_ne (tgt := 20) dd_M_text_13 (by decide) (by omega) (fun c8 => ?_) (fun c8 => ?_)
    · refine ag_aload_n dd_M_text_20 rfl ?_
      refine ag_get dd_M_text_21 fg_M_247 (mr_38 hM) rfl ?_
      refine mp_48 dd_M_text_24 fp_M_128 hM (fun h S9 eS9 hM => ?_)
      have x_S9 := tx_tr x_S7 (tx_put (k := 48) eS9 (by decide))
      have q43_S9 : S9.1 43 = S7.1 43 := by rw [eS9]; rfl
      have q44_S9 : S9.1 44 = S7.1 44 := by rw [eS9]; rfl
      have q47_S9 : S9.1 47 = S7.1 47 := by rw [eS9]; rfl
      have q50_S9 : S9.1 50 = S7.1 50 := by rw [eS9]; rfl
      have q53_S9 : S9.1 53 = S7.1 53 := by rw [eS9]; rfl
      have q48_S9 : S9.1 48 = (S7.1 50) := by rw [eS9]; rfl
      have w_S9 : S9.2 = Sr.2 := (show S9.2 = S7.2 by rw [eS9]).trans w_S7
      clear eS9
      refine ag_aload_n dd_M_text_27 rfl ?_
      refine ag_iconst dd_M_text_28 ?_
      refine mp_43 dd_M_text_29 fp_M_235 hM (fun h S10 eS10 hM => ?_)
      have x_S10 := tx_tr x_S9 (tx_put (k := 43) eS10 (by decide))
      have q44_S10 : S10.1 44 = S9.1 44 := by rw [eS10]; rfl
      have q47_S10 : S10.1 47 = S9.1 47 := by rw [eS10]; rfl
      have q48_S10 : S10.1 48 = S9.1 48 := by rw [eS10]; rfl
      have q50_S10 : S10.1 50 = S9.1 50 := by rw [eS10]; rfl
      have q53_S10 : S10.1 53 = S9.1 53 := by rw [eS10]; rfl
      have q43_S10 : S10.1 43 = 0 := by rw [eS10]; rfl
      have w_S10 : S10.2 = Sr.2 := (show S10.2 = S9.2 by rw [eS10]).trans w_S9
      clear eS10
      refine ag_aload_n dd_M_text_32 rfl ?_
      refine ag_get dd_M_text_33 fg_M_125 (mr_38 hM) rfl ?_
      refine ag_if_eq (tgt := 41) dd_M_text_36 (by decide) (by omega) (fun c11 => ?_) (fun c11 => ?_)
      · exfalso; omega
      · refine ag_iconst dd_M_text_39 ?_
        refine ag_zret dd_M_text_40 rfl (by first | exact Or.inl rfl | exact Or.inr rfl | omega) ?_
        refine ⟨S10, x_S10, by omega, hM, Or.inr ⟨e, hpa, rfl, z2, by omega, by omega, ?_, ?_⟩⟩
        · have := g1.1 44 (by decide) (by decide)
          omega
        · have h44 : S10.1 44 = S.1 44 := by
            have := g1.1 44 (by decide) (by decide)
            omega
          unfold sp_code
          rw [h44, w_S10]
          refine List.map_congr_left (fun j hj => ?_)
          have hj2 := List.mem_range.mp hj
          have hj3 := g1.2.2 j (by omega)
          rw [hj3.1, hj3.2]
    · exfalso; omega
set_option maxHeartbeats 1000000 in
theorem mc_M_isSmall {w : aw_T} {h : ah_T} {d : Nat} (hd : 1 ≤ d) {v : Int} (hv : -2147483648 ≤ v ∧ v < 2147483648) : am_M w mm_M_isSmall d [av_i v] h 0 0 (fun r h' => r = some (av_i (if -1000000 ≤ v ∧ v ≤ 1000000 then 1 else 0)) ∧ h' = h) := by
  refine am_intro [some (av_i (v))] (by decide +kernel) (Nat.le_of_ble_eq_true rfl) rfl ?_
  refine ag_iload_n dd_M_isSmall_0 rfl ?_
  refine ag_ldcw (a := -1000000) dd_M_isSmall_1 fc_M_318 (by decide +kernel) ?_
  refine ag_ldcw (a := 1000000) dd_M_isSmall_4 fc_M_319 (by decide +kernel) ?_
  refine ag_rS dd_M_isSmall_7 fi_M_155 (mc_M_isIn (d := 0) (by omega) (by omega) (by omega)) rfl rfl (by omega) (Nat.le_of_ble_eq_true rfl) ?_
  refine ag_zret dd_M_isSmall_10 rfl (by first | exact Or.inl rfl | exact Or.inr rfl | (split <;> omega)) ?_
  exact ⟨rfl, rfl⟩
def sp_tells (S : ms_T) (t s m b h : Int) : Int := if (-1000000 ≤ t ∧ t ≤ 1000000) ∧ (-1000000 ≤ s ∧ s ≤ 1000000) ∧ (-1000000 ≤ m ∧ m ≤ 1000000) ∧ (-1000000 ≤ b ∧ b ≤ 1000000) ∧ (-1000000 ≤ h ∧ h ≤ 1000000) then sp_work S t s m b h else -2000000000
set_option maxHeartbeats 1000000 in
theorem mc_M_tells {w : aw_T} {h0 h : ah_T} {S : ms_T} {d : Nat} (hd : 3 ≤ d) (hM : mo_I h0 h S) (hI : iv_T S) {t : Int} (ht : -2147483648 ≤ t ∧ t < 2147483648) {s : Int} (hs : -2147483648 ≤ s ∧ s < 2147483648) {m : Int} (hm : -2147483648 ≤ m ∧ m < 2147483648) {b : Int} (hb : -2147483648 ≤ b ∧ b < 2147483648) {h5 : Int} (hh5 : -2147483648 ≤ h5 ∧ h5 < 2147483648) : am_M w mm_M_tells d [av_r 38, av_i t, av_i s, av_i m, av_i b, av_i h5] h 0 0 (mo_P h0 (some (av_i (sp_tells S t s m b h5)), S)) := by
  refine am_intro [some (av_r 38), some (av_i (t)), some (av_i (s)), some (av_i (m)), some (av_i (b)), some (av_i (h5))] (by decide +kernel) (Nat.le_of_ble_eq_true rfl) rfl ?_
  refine ag_iload_n dd_M_tells_0 rfl ?_
  refine ag_rS dd_M_tells_1 fi_M_320 (mc_M_isSmall (d := 1) (by omega) (by omega)) rfl rfl (by omega) (Nat.le_of_ble_eq_true rfl) ?_
  refine ag_if_eqB (tgt := 51) dd_M_tells_4 (by decide) (fun c1 => ?_) (fun c1 => ?_)
  · refine ag_ldc (a := -2000000000) dd_M_tells_51 fc_M_194 (by decide +kernel) ?_
    refine ag_iret dd_M_tells_53 rfl ?_
    refine ⟨congrArg (fun z => some (av_i z)) ?_, hM⟩
    unfold sp_tells
    first | rw [if_pos (by omega)] | rw [if_neg (by omega)]
  · refine ag_iload_n dd_M_tells_7 rfl ?_
    refine ag_rS dd_M_tells_8 fi_M_320 (mc_M_isSmall (d := 1) (by omega) (by omega)) rfl rfl (by omega) (Nat.le_of_ble_eq_true rfl) ?_
    refine ag_if_eqB (tgt := 51) dd_M_tells_11 (by decide) (fun c2 => ?_) (fun c2 => ?_)
    · refine ag_ldc (a := -2000000000) dd_M_tells_51 fc_M_194 (by decide +kernel) ?_
      refine ag_iret dd_M_tells_53 rfl ?_
      refine ⟨congrArg (fun z => some (av_i z)) ?_, hM⟩
      unfold sp_tells
      first | rw [if_pos (by omega)] | rw [if_neg (by omega)]
    · refine ag_iload_n dd_M_tells_14 rfl ?_
      refine ag_rS dd_M_tells_15 fi_M_320 (mc_M_isSmall (d := 1) (by omega) (by omega)) rfl rfl (by omega) (Nat.le_of_ble_eq_true rfl) ?_
      refine ag_if_eqB (tgt := 51) dd_M_tells_18 (by decide) (fun c3 => ?_) (fun c3 => ?_)
      · refine ag_ldc (a := -2000000000) dd_M_tells_51 fc_M_194 (by decide +kernel) ?_
        refine ag_iret dd_M_tells_53 rfl ?_
        refine ⟨congrArg (fun z => some (av_i z)) ?_, hM⟩
        unfold sp_tells
        first | rw [if_pos (by omega)] | rw [if_neg (by omega)]
      · refine ag_iload dd_M_tells_21 rfl ?_
        refine ag_rS dd_M_tells_23 fi_M_320 (mc_M_isSmall (d := 1) (by omega) (by omega)) rfl rfl (by omega) (Nat.le_of_ble_eq_true rfl) ?_
        refine ag_if_eqB (tgt := 51) dd_M_tells_26 (by decide) (fun c4 => ?_) (fun c4 => ?_)
        · refine ag_ldc (a := -2000000000) dd_M_tells_51 fc_M_194 (by decide +kernel) ?_
          refine ag_iret dd_M_tells_53 rfl ?_
          refine ⟨congrArg (fun z => some (av_i z)) ?_, hM⟩
          unfold sp_tells
          first | rw [if_pos (by omega)] | rw [if_neg (by omega)]
        · refine ag_iload dd_M_tells_29 rfl ?_
          refine ag_rS dd_M_tells_31 fi_M_320 (mc_M_isSmall (d := 1) (by omega) (by omega)) rfl rfl (by omega) (Nat.le_of_ble_eq_true rfl) ?_
          refine ag_if_eqB (tgt := 51) dd_M_tells_34 (by decide) (fun c5 => ?_) (fun c5 => ?_)
          · refine ag_ldc (a := -2000000000) dd_M_tells_51 fc_M_194 (by decide +kernel) ?_
            refine ag_iret dd_M_tells_53 rfl ?_
            refine ⟨congrArg (fun z => some (av_i z)) ?_, hM⟩
            unfold sp_tells
            first | rw [if_pos (by omega)] | rw [if_neg (by omega)]
          · refine ag_aload_n dd_M_tells_37 rfl ?_
            refine ag_iload_n dd_M_tells_38 rfl ?_
            refine ag_iload_n dd_M_tells_39 rfl ?_
            refine ag_iload_n dd_M_tells_40 rfl ?_
            refine ag_iload dd_M_tells_41 rfl ?_
            refine ag_iload dd_M_tells_43 rfl ?_
            have hbb : iv_b t ∧ iv_b s ∧ iv_b m ∧ iv_b b ∧ iv_b h5 := by unfold iv_b; omega
            refine ag_wV dd_M_tells_45 fi_M_208 (mr_38 hM) rfl (mc_M_work (d := 2) (by omega) hM hI.1 hbb.1 hbb.2.1 hbb.2.2.1 hbb.2.2.2.1 hbb.2.2.2.2 hI.2) rfl rfl (by omega) (Nat.le_of_ble_eq_true rfl) (fun r1 h hP => ?_)
            obtain ⟨rfl, hM⟩ := hP
            refine ag_goto (tgt := 53) dd_M_tells_48 (by decide) ?_
            refine ag_iret dd_M_tells_53 rfl ?_
            refine ⟨congrArg (fun z => some (av_i z)) ?_, hM⟩
            unfold sp_tells
            first | rw [if_pos (by omega)] | rw [if_neg (by omega)]
