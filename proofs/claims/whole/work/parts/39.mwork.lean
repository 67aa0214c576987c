def sp_clip (v : Int) : Int := if 1000000000 < v then 1000000000 else if v < -1000000000 then -1000000000 else v
def sp_act (o a b : Int) : Int := if o = 3 then sp_clip (a + b) else if o = 4 then sp_clip (a - b) else if o = 5 then sp_clip (a * b) else if o = 6 then (if b = 0 then 0 else sp_clip (a.tdiv b)) else if o = 7 then (if a < b then a else b) else (if b < a then a else b)
def iv_b (v : Int) : Prop := -1000000000 ≤ v ∧ v ≤ 1000000000
theorem sp_clip_b (v : Int) : iv_b (sp_clip v) := by
  unfold sp_clip iv_b
  split
  · omega
  · split <;> omega
theorem sp_act_b {a b : Int} (ha : iv_b a) (hb : iv_b b) (o : Int) : iv_b (sp_act o a b) := by
  unfold sp_act
  split
  · exact sp_clip_b _
  · split
    · exact sp_clip_b _
    · split
      · exact sp_clip_b _
      · split
        · split
          · unfold iv_b; omega
          · exact sp_clip_b _
        · split
          · split
            · exact ha
            · exact hb
          · split
            · exact ha
            · exact hb
theorem sp_mulb {a b : Int} (ha : iv_b a) (hb : iv_b b) : -1000000000000000000 ≤ a * b ∧ a * b ≤ 1000000000000000000 := by
  unfold iv_b at ha hb
  have h1 : (a.natAbs * b.natAbs : Nat) ≤ 1000000000 * 1000000000 := Nat.mul_le_mul (by omega) (by omega)
  have h2 : (a * b).natAbs = a.natAbs * b.natAbs := Int.natAbs_mul a b
  omega
theorem sp_tdb {a b : Int} (ha : iv_b a) : -1000000000 ≤ a.tdiv b ∧ a.tdiv b ≤ 1000000000 := by
  unfold iv_b at ha
  have h1 : (a.tdiv b).natAbs = a.natAbs / b.natAbs := Int.natAbs_tdiv a b
  have h2 : a.natAbs / b.natAbs ≤ a.natAbs := Nat.div_le_self _ _
  omega
set_option maxHeartbeats 1000000 in
theorem mc_M_clip {w : aw_T} {h : ah_T} {d : Nat} {a : Int} (ha : -9223372036854775808 ≤ a ∧ a < 9223372036854775808) : am_M w mm_M_clip d [av_l a] h 0 0 (fun r h' => r = some (av_l (sp_clip a)) ∧ h' = h) := by
  refine am_intro [some (av_l (a)), none] (by decide +kernel) (Nat.le_of_ble_eq_true rfl) rfl ?_
  refine ag_lload_n dd_M_clip_0 rfl ?_
  refine ag_ldc2 (a := 1000000000) dd_M_clip_1 fc_M_306 (by decide +kernel) ?_
  refine ag_lc_le (tgt := 14) dd_M_clip_4 dd_M_clip_5 (by decide) (by omega) (by omega) (fun c1 => ?_) (fun c1 => ?_)
  · refine ag_lload_n dd_M_clip_14 rfl ?_
    refine ag_ldc2 (a := -1000000000) dd_M_clip_15 fc_M_308 (by decide +kernel) ?_
    refine ag_lc_ge (tgt := 28) dd_M_clip_18 dd_M_clip_19 (by decide) (by omega) (by omega) (fun c2 => ?_) (fun c2 => ?_)
    · refine ag_lload_n dd_M_clip_28 rfl ?_
      refine ag_lret dd_M_clip_29 rfl ?_
      refine ⟨?_, rfl⟩
      unfold sp_clip
      repeat (first | rw [if_pos (by omega)] | rw [if_neg (by omega)])
    · refine ag_ldc2 (a := -1000000000) dd_M_clip_22 fc_M_308 (by decide +kernel) ?_
      refine ag_goto (tgt := 29) dd_M_clip_25 (by decide) ?_
      refine ag_lret dd_M_clip_29 rfl ?_
      refine ⟨?_, rfl⟩
      unfold sp_clip
      repeat (first | rw [if_pos (by omega)] | rw [if_neg (by omega)])
  · refine ag_ldc2 (a := 1000000000) dd_M_clip_8 fc_M_306 (by decide +kernel) ?_
    refine ag_goto (tgt := 29) dd_M_clip_11 (by decide) ?_
    refine ag_lret dd_M_clip_29 rfl ?_
    refine ⟨?_, rfl⟩
    unfold sp_clip
    repeat (first | rw [if_pos (by omega)] | rw [if_neg (by omega)])
set_option maxHeartbeats 1000000 in
theorem mc_M_act {w : aw_T} {h : ah_T} {d : Nat} (hd : 1 ≤ d) {o a b : Int} (ho : 3 ≤ o ∧ o ≤ 8) (hva : iv_b a) (hvb : iv_b b) : am_M w mm_M_act d [av_i o, av_l a, av_l b] h 0 0 (fun r h' => r = some (av_l (sp_act o a b)) ∧ h' = h) := by
  refine am_intro [some (av_i (o)), some (av_l (a)), none, some (av_l (b)), none] (by decide +kernel) (Nat.le_of_ble_eq_true rfl) rfl ?_
  have hmb := sp_mulb hva hvb
  have htd := sp_tdb (b := b) hva
  have hva2 := hva
  have hvb2 := hvb
  unfold iv_b at hva2 hvb2
  refine ag_iload_n dd_M_act_0 rfl ?_
  rcases (show (o < 3 ∨ 7 < o) ∨ o = 3 ∨ o = 4 ∨ o = 5 ∨ o = 6 ∨ o = 7 by omega) with c1 | c1 | c1 | c1 | c1 | c1
  · refine ag_tabOut (tgt := 86) dd_M_act_1 (by omega) c1 (by decide) ?_
    refine ag_lload_n dd_M_act_86 rfl ?_
    refine ag_lload_n dd_M_act_87 rfl ?_
    refine ag_lc_le (tgt := 96) dd_M_act_88 dd_M_act_89 (by decide) (by omega) (by omega) (fun c2 => ?_) (fun c2 => ?_)
    · refine ag_lload_n dd_M_act_96 rfl ?_
      refine ag_lret dd_M_act_97 rfl ?_
      refine ⟨?_, rfl⟩
      unfold sp_act
      repeat (first | rw [if_pos (by omega)] | rw [if_neg (by omega)])
    · refine ag_lload_n dd_M_act_92 rfl ?_
      refine ag_goto (tgt := 97) dd_M_act_93 (by decide) ?_
      refine ag_lret dd_M_act_97 rfl ?_
      refine ⟨?_, rfl⟩
      unfold sp_act
      repeat (first | rw [if_pos (by omega)] | rw [if_neg (by omega)])
  · refine ag_tabIn (tgt := 36) (off := 35) dd_M_act_1 (by omega) (by omega) (by omega) (by rw [c1]; rfl) (by decide) ?_
    refine ag_lload_n dd_M_act_36 rfl ?_
    refine ag_lload_n dd_M_act_37 rfl ?_
    refine ag_ladd dd_M_act_38 ?_
    refine ag_rS dd_M_act_39 fi_M_310 (mc_M_clip (d := 0) (by omega)) rfl rfl (by omega) (Nat.le_of_ble_eq_true rfl) ?_
    refine ag_lret dd_M_act_42 rfl ?_
    refine ⟨?_, rfl⟩
    unfold sp_act
    repeat (first | rw [if_pos (by omega)] | rw [if_neg (by omega)])
  · refine ag_tabIn (tgt := 43) (off := 42) dd_M_act_1 (by omega) (by omega) (by omega) (by rw [c1]; rfl) (by decide) ?_
    refine ag_lload_n dd_M_act_43 rfl ?_
    refine ag_lload_n dd_M_act_44 rfl ?_
    refine ag_lsub dd_M_act_45 ?_
    refine ag_rS dd_M_act_46 fi_M_310 (mc_M_clip (d := 0) (by omega)) rfl rfl (by omega) (Nat.le_of_ble_eq_true rfl) ?_
    refine ag_lret dd_M_act_49 rfl ?_
    refine ⟨?_, rfl⟩
    unfold sp_act
    repeat (first | rw [if_pos (by omega)] | rw [if_neg (by omega)])
  · refine ag_tabIn (tgt := 50) (off := 49) dd_M_act_1 (by omega) (by omega) (by omega) (by rw [c1]; rfl) (by decide) ?_
    refine ag_lload_n dd_M_act_50 rfl ?_
    refine ag_lload_n dd_M_act_51 rfl ?_
    refine ag_lmul dd_M_act_52 ?_
    refine ag_rS dd_M_act_53 fi_M_310 (mc_M_clip (d := 0) (by omega)) rfl rfl (by omega) (Nat.le_of_ble_eq_true rfl) ?_
    refine ag_lret dd_M_act_56 rfl ?_
    refine ⟨?_, rfl⟩
    unfold sp_act
    repeat (first | rw [if_pos (by omega)] | rw [if_neg (by omega)])
  · refine ag_tabIn (tgt := 57) (off := 56) dd_M_act_1 (by omega) (by omega) (by omega) (by rw [c1]; rfl) (by decide) ?_
    refine ag_lload_n dd_M_act_57 rfl ?_
    refine ag_lconst (a := 0) dd_M_act_58 (by decide +kernel) ?_
    refine ag_lc_ne (tgt := 67) dd_M_act_59 dd_M_act_60 (by decide) (by omega) (by omega) (fun c3 => ?_) (fun c3 => ?_)
    · refine ag_lload_n dd_M_act_67 rfl ?_
      refine ag_lload_n dd_M_act_68 rfl ?_
      refine ag_ldiv dd_M_act_69 (by omega) (by omega) (by omega) ?_
      refine ag_rS dd_M_act_70 fi_M_310 (mc_M_clip (d := 0) (by omega)) rfl rfl (by omega) (Nat.le_of_ble_eq_true rfl) ?_
      refine ag_lret dd_M_act_73 rfl ?_
      refine ⟨?_, rfl⟩
      unfold sp_act
      repeat (first | rw [if_pos (by omega)] | rw [if_neg (by omega)])
    · refine ag_lconst (a := 0) dd_M_act_63 (by decide +kernel) ?_
      refine ag_goto (tgt := 73) dd_M_act_64 (by decide) ?_
      refine ag_lret dd_M_act_73 rfl ?_
      refine ⟨?_, rfl⟩
      unfold sp_act
      repeat (first | rw [if_pos (by omega)] | rw [if_neg (by omega)])
  · refine ag_tabIn (tgt := 74) (off := 73) dd_M_act_1 (by omega) (by omega) (by omega) (by rw [c1]; rfl) (by decide) ?_
    refine ag_lload_n dd_M_act_74 rfl ?_
    refine ag_lload_n dd_M_act_75 rfl ?_
    refine ag_lc_ge (tgt := 84) dd_M_act_76 dd_M_act_77 (by decide) (by omega) (by omega) (fun c4 => ?_) (fun c4 => ?_)
    · refine ag_lload_n dd_M_act_84 rfl ?_
      refine ag_lret dd_M_act_85 rfl ?_
      refine ⟨?_, rfl⟩
      unfold sp_act
      repeat (first | rw [if_pos (by omega)] | rw [if_neg (by omega)])
    · refine ag_lload_n dd_M_act_80 rfl ?_
      refine ag_goto (tgt := 85) dd_M_act_81 (by decide) ?_
      refine ag_lret dd_M_act_85 rfl ?_
      refine ⟨?_, rfl⟩
      unfold sp_act
      repeat (first | rw [if_pos (by omega)] | rw [if_neg (by omega)])
def sp_let (t s m b h x : Int) : Int := if x = 0 then t else if x = 1 then s else if x = 2 then m else if x = 3 then b else h
def sp_ex1 (E : Int → Int) (q : Int × Int) (st : List Int) : List Int := if q.1 = 0 then q.2 :: st else if q.1 = 1 then E q.2 :: st else if q.1 = 2 then (match st with | a :: r => -a :: r | [] => []) else (match st with | b :: a :: r => sp_act q.1 a b :: r | _ => [])
theorem sp_ex1_0 (E : Int → Int) (v : Int) (st : List Int) : sp_ex1 E (0, v) st = v :: st := by simp [sp_ex1]
theorem sp_ex1_1 (E : Int → Int) (v : Int) (st : List Int) : sp_ex1 E (1, v) st = E v :: st := by simp [sp_ex1]
theorem sp_ex1_2 (E : Int → Int) (v a : Int) (r : List Int) : sp_ex1 E (2, v) (a :: r) = -a :: r := by simp [sp_ex1]
theorem sp_ex1_b (E : Int → Int) {o : Int} (ho : 3 ≤ o) (v a b : Int) (r : List Int) : sp_ex1 E (o, v) (b :: a :: r) = sp_act o a b :: r := by
  unfold sp_ex1
  rw [if_neg (by show ¬ o = 0; omega), if_neg (by show ¬ o = 1; omega), if_neg (by show ¬ o = 2; omega)]
def sp_ex (E : Int → Int) : List (Int × Int) → List Int → List Int
  | [], st => st
  | q :: c, st => sp_ex E c (sp_ex1 E q st)
/-- the code runs: never too few values; one is left at its end -/
def iv_hv : List (Int × Int) → Nat → Prop
  | [], n => n = 1
  | q :: c, n => if q.1 = 0 then (0 ≤ q.2 ∧ q.2 ≤ 9999) ∧ iv_hv c (n + 1) else if q.1 = 1 then (0 ≤ q.2 ∧ q.2 ≤ 4) ∧ iv_hv c (n + 1) else if q.1 = 2 then 1 ≤ n ∧ iv_hv c n else (3 ≤ q.1 ∧ q.1 ≤ 8) ∧ 2 ≤ n ∧ iv_hv c (n - 1)
theorem iv_hv_op {q1 q2 : Int} {c : List (Int × Int)} {n : Nat} (h : iv_hv ((q1, q2) :: c) n) : 0 ≤ q1 ∧ q1 ≤ 8 := by
  rw [iv_hv] at h
  dsimp only at h
  by_cases e0 : q1 = 0
  · omega
  · by_cases e1 : q1 = 1
    · omega
    · by_cases e2 : q1 = 2
      · omega
      · rw [if_neg e0, if_neg e1, if_neg e2] at h
        omega
def pl_of (g : Nat → Int) : Nat → List Int
  | 0 => []
  | n + 1 => g n :: pl_of g n
theorem pl_len (g : Nat → Int) : ∀ n, (pl_of g n).length = n
  | 0 => rfl
  | n + 1 => by rw [pl_of, List.length_cons, pl_len g n]
theorem pl_up (g : Nat → Int) (v : Int) (j : Nat) : ∀ n, n ≤ j → pl_of (ai_up g j v) n = pl_of g n
  | 0, _ => rfl
  | n + 1, h => by rw [pl_of, pl_of, pl_up g v j n (by omega), ai_up_n _ _ (by omega)]
theorem pl_push (g : Nat → Int) (v : Int) (n : Nat) : pl_of (ai_up g n v) (n + 1) = v :: pl_of g n := by
  rw [pl_of, ai_up_s, pl_up g v n n (Nat.le_refl n)]
/-- the text in use, as code -/
def sp_code (S : ms_T) : List (Int × Int) := (List.range (S.1 44).toNat).map (fun j => (S.2 69 j, S.2 70 j))
def sp_work (S : ms_T) (t s m b h : Int) : Int := (sp_ex (sp_let t s m b h) (sp_code S) []).headD 0
theorem mv_last {w : aw_T} {M : am_T} {d : Nat} {P : ap_T} {pc n : Nat} {L : al_T} {st : List av_T} {h0 h : ah_T} {kc ks : Nat} {S : ms_T} {g : Nat → Int} {i x : Int} (hd : ad_D M pc .lastore 1 n) (hM : mo_I h0 h S) (hV : h[72]? = some (ac_l 128 g)) (hi : 0 ≤ i ∧ i < 128) (k : ∀ h : ah_T, mo_I h0 h S → h[72]? = some (ac_l 128 (ai_up g i.toNat x)) → aw_W w M d P n L st h kc ks) : aw_W w M d P pc L (av_l x :: av_i i :: av_r 72 :: st) h kc ks := by
  refine ag_last hd hV (by decide) hi (k _ (mo_setV hM) ?_)
  rw [List.getElem?_set_self (List.getElem?_eq_some_iff.mp hV).1]
theorem mv_lastN {w : aw_T} {M : am_T} {d : Nat} {P : ap_T} {pc n : Nat} {L : al_T} {st : List av_T} {h0 h : ah_T} {kc ks : Nat} {S : ms_T} {g : Nat → Int} {i : Nat} {x : Int} (hd : ad_D M pc .lastore 1 n) (hM : mo_I h0 h S) (hV : h[72]? = some (ac_l 128 g)) (hi : i < 128) (k : ∀ h : ah_T, mo_I h0 h S → h[72]? = some (ac_l 128 (ai_up g i x)) → aw_W w M d P n L st h kc ks) : aw_W w M d P pc L (av_l x :: av_i (i : Int) :: av_r 72 :: st) h kc ks := mv_last hd hM hV (by omega) k
set_option maxHeartbeats 4000000 in
theorem ml_M_work {w : aw_T} {h0 : ah_T} {S : ms_T} {d : Nat} (hd : 2 ≤ d) (hI : 0 ≤ S.1 44 ∧ S.1 44 ≤ 100) {t s m b h5 : Int} (ht : iv_b t) (hs : iv_b s) (hm : iv_b m) (hbb : iv_b b) (hh : iv_b h5) {P : ap_T} : ∀ (rest : List (Int × Int)) (h : ah_T) (n k : Nat) (g : Nat → Int) (st : List Int), (k : Int) + rest.length = S.1 44 → n ≤ k → (∀ j, j < rest.length → rest[j]? = some (S.2 69 (k + j), S.2 70 (k + j))) → pl_of g n = st → (∀ v ∈ st, iv_b v) → iv_hv rest n → (∀ h, mo_I h0 h S → P (some (av_i ((sp_ex (sp_let t s m b h5) rest st).headD 0))) h) → mo_I h0 h S → h[72]? = some (ac_l 128 g) → aw_W w mm_M_work d P 6 [some (av_r 38), some (av_i (t)), some (av_i (s)), some (av_i (m)), some (av_i (b)), some (av_i (h5)), some (av_i ((n : Int))), some (av_i ((k : Int))), none, none] [] h 0 0 := by
  intro rest
  induction rest with
  | nil =>
    intro h n k g st hk hn hc hpl hb hvr hP hM hV
    simp only [List.length_nil] at hk
    have h44 := hI
    refine ag_iload dd_M_work_6 rfl ?_
    refine ag_aload_n dd_M_work_8 rfl ?_
    refine ag_get dd_M_work_9 fg_M_149 (mr_38 hM) rfl ?_
    refine ag_icmp_ge (tgt := 192) dd_M_work_12 (by decide) (by omega) (by omega) (fun c1 => ?_) (fun c1 => ?_)
    · obtain rfl : n = 1 := hvr
      have hp2 : [g 0] = st := hpl
      subst hp2
      have hP2 : P (some (av_i (g 0))) h := hP h hM
      refine ag_aload_n dd_M_work_192 rfl ?_
      refine ag_get dd_M_work_193 fg_M_134 (mr_38 hM) rfl ?_
      refine ag_iconst dd_M_work_196 ?_
      refine ag_lald dd_M_work_197 hV (by decide) (by omega) ?_
      refine ag_l2i dd_M_work_198 ?_
      refine ag_iret dd_M_work_199 rfl ?_
      exact hP2
    · exfalso; omega
  | cons q rest ih =>
    intro h n k g st hk hn hc hpl hb hvr hP hM hV
    obtain ⟨q1, q2⟩ := q
    simp only [List.length_cons] at hk
    have hbt : (-1000000000 ≤ t ∧ t ≤ 1000000000) ∧ (-1000000000 ≤ s ∧ s ≤ 1000000000) ∧ (-1000000000 ≤ m ∧ m ≤ 1000000000) ∧ (-1000000000 ≤ b ∧ b ≤ 1000000000) ∧ (-1000000000 ≤ h5 ∧ h5 ≤ 1000000000) := ⟨ht, hs, hm, hbb, hh⟩
    have h44 := hI
    have hk1 : S.2 69 k = q1 := (congrArg Prod.fst (Option.some.inj (hc 0 (by simp)))).symm
    have hk2 : S.2 70 k = q2 := (congrArg Prod.snd (Option.some.inj (hc 0 (by simp)))).symm
    have hc2 : ∀ j, j < rest.length → rest[j]? = some (S.2 69 (k + 1 + j), S.2 70 (k + 1 + j)) := fun j hj => by
      have := hc (j + 1) (by simp; omega)
      rw [List.getElem?_cons_succ] at this
      rw [this, show k + (j + 1) = k + 1 + j by omega]
    have hq1 := iv_hv_op hvr
    rw [iv_hv] at hvr
    dsimp only at hvr
    rw [sp_ex] at hP
    have hlen : (pl_of g n).length = n := pl_len g n
    refine ag_iload dd_M_work_6 rfl ?_
    refine ag_aload_n dd_M_work_8 rfl ?_
    refine ag_get dd_M_work_9 fg_M_149 (mr_38 hM) rfl ?_
    refine ag_icmp_ge (tgt := 192) dd_M_work_12 (by decide) (by omega) (by omega) (fun c1 => ?_) (fun c1 => ?_)
    · exfalso; omega
    · refine ag_aload_n dd_M_work_15 rfl ?_
      refine ag_get dd_M_work_16 fg_M_119 (mr_38 hM) rfl ?_
      refine ag_iload dd_M_work_19 rfl ?_
      refine ag_ialdN dd_M_work_21 (mr_69 hM) (by decide) (by omega) ?_
      refine ag_istoreN (Lf := fun y => [some (av_r 38), some (av_i (t)), some (av_i (s)), some (av_i (m)), some (av_i (b)), some (av_i (h5)), some (av_i ((n : Int))), some (av_i ((k : Int))), some (av_i (y)), none]) dd_M_work_22 (fun _ => rfl) rfl (by decide) (fun y2 ey2 => ?_)
      rw [hk1] at ey2
      have ey2b := ey2.symm
      subst ey2b
      refine ag_iload dd_M_work_24 rfl ?_
      refine ag_if_ne (tgt := 50) dd_M_work_26 (by decide) (by omega) (fun c2 => ?_) (fun c2 => ?_)
      · refine ag_iload dd_M_work_50 rfl ?_
        refine ag_iconst dd_M_work_52 ?_
        refine ag_icmp_ne (tgt := 125) dd_M_work_53 (by decide) (by omega) (by omega) (fun c3 => ?_) (fun c3 => ?_)
        · refine ag_iload dd_M_work_125 rfl ?_
          refine ag_iconst dd_M_work_127 ?_
          refine ag_icmp_ne (tgt := 153) dd_M_work_128 (by decide) (by omega) (by omega) (fun c4 => ?_) (fun c4 => ?_)
          · rw [if_neg (by omega), if_neg (by omega), if_neg (by omega)] at hvr
            obtain ⟨m1, rfl⟩ : ∃ m1, n = m1 + 1 + 1 := ⟨n - 2, by omega⟩
            rw [pl_of, pl_of] at hpl
            obtain ⟨rr, hr⟩ : ∃ rr, pl_of g m1 = rr := ⟨_, rfl⟩
            rw [hr] at hpl
            subst hpl
            have hva := hb (g m1) (by simp)
            have hvb := hb (g (m1 + 1)) (by simp)
            refine ag_iincN (Lf := fun y => [some (av_r 38), some (av_i (t)), some (av_i (s)), some (av_i (m)), some (av_i (b)), some (av_i (h5)), some (av_i (y)), some (av_i ((k : Int))), some (av_i (q1)), none]) dd_M_work_153 rfl (fun _ => rfl) rfl (by decide) (fun y6 ey6 => ?_)
            obtain rfl : y6 = ((m1 + 1 : Nat) : Int) := by omega
            refine ag_aload_n dd_M_work_156 rfl ?_
            refine ag_get dd_M_work_157 fg_M_134 (mr_38 hM) rfl ?_
            refine ag_iload dd_M_work_160 rfl ?_
            refine ag_iconst dd_M_work_162 ?_
            refine ag_isub dd_M_work_163 ?_
            refine ag_to (show ((m1 + 1 : Nat) : Int) - 1 = ((m1 : Nat) : Int) by omega) ?_
            refine ag_iload dd_M_work_164 rfl ?_
            refine ag_aload_n dd_M_work_166 rfl ?_
            refine ag_get dd_M_work_167 fg_M_134 (mr_38 hM) rfl ?_
            refine ag_iload dd_M_work_170 rfl ?_
            refine ag_iconst dd_M_work_172 ?_
            refine ag_isub dd_M_work_173 ?_
            refine ag_to (show ((m1 + 1 : Nat) : Int) - 1 = ((m1 : Nat) : Int) by omega) ?_
            refine ag_laldN dd_M_work_174 hV (by decide) (by omega) ?_
            refine ag_aload_n dd_M_work_175 rfl ?_
            refine ag_get dd_M_work_176 fg_M_134 (mr_38 hM) rfl ?_
            refine ag_iload dd_M_work_179 rfl ?_
            refine ag_laldN dd_M_work_181 hV (by decide) (by omega) ?_
            refine ag_rS dd_M_work_182 fi_M_314 (mc_M_act (d := 1) (by omega) (by omega) hva hvb) rfl rfl (by omega) (Nat.le_of_ble_eq_true rfl) ?_
            refine mv_lastN dd_M_work_185 hM hV (by omega) (fun h hM hV => ?_)
            refine ag_iincN (Lf := fun y => [some (av_r 38), some (av_i (t)), some (av_i (s)), some (av_i (m)), some (av_i (b)), some (av_i (h5)), some (av_i (((m1 + 1 : Nat) : Int))), some (av_i (y)), some (av_i (q1)), none]) dd_M_work_186 rfl (fun _ => rfl) rfl (by decide) (fun y7 ey7 => ?_)
            refine ag_goto (tgt := 6) dd_M_work_189 (by decide) ?_
            obtain rfl : y7 = ((k + 1 : Nat) : Int) := by omega
            refine ag_weak [some (av_r 38), some (av_i (t)), some (av_i (s)), some (av_i (m)), some (av_i (b)), some (av_i (h5)), some (av_i (((m1 + 1 : Nat) : Int))), some (av_i (((k + 1 : Nat) : Int))), none, none] (by simp [al_le]) ?_
            exact ih h (m1 + 1) (k + 1) (ai_up g m1 ((sp_act q1 (g m1) (g (m1 + 1))))) (sp_act q1 (g m1) (g (m1 + 1)) :: rr) (by omega) (by omega) hc2 (by rw [pl_push, hr]) (fun v hv => by rcases List.mem_cons.mp hv with rfl | hv; exact sp_act_b hva hvb q1; exact hb v (by simp [hv])) (by simpa using hvr.2.2) (by rw [sp_ex1_b _ hvr.1.1] at hP; exact hP) hM hV
          · subst c4
            rw [if_neg (by simp), if_neg (by simp), if_pos rfl] at hvr
            obtain ⟨m1, rfl⟩ : ∃ m1, n = m1 + 1 := ⟨n - 1, by omega⟩
            rw [pl_of] at hpl
            obtain ⟨rr, hr⟩ : ∃ rr, pl_of g m1 = rr := ⟨_, rfl⟩
            rw [hr] at hpl
            subst hpl
            refine ag_aload_n dd_M_work_131 rfl ?_
            refine ag_get dd_M_work_132 fg_M_134 (mr_38 hM) rfl ?_
            refine ag_iload dd_M_work_135 rfl ?_
            refine ag_iconst dd_M_work_137 ?_
            refine ag_isub dd_M_work_138 ?_
            refine ag_to (show ((m1 + 1 : Nat) : Int) - 1 = ((m1 : Nat) : Int) by omega) ?_
            refine ag_aload_n dd_M_work_139 rfl ?_
            refine ag_get dd_M_work_140 fg_M_134 (mr_38 hM) rfl ?_
            refine ag_iload dd_M_work_143 rfl ?_
            refine ag_iconst dd_M_work_145 ?_
            refine ag_isub dd_M_work_146 ?_
            refine ag_to (show ((m1 + 1 : Nat) : Int) - 1 = ((m1 : Nat) : Int) by omega) ?_
            refine ag_laldN dd_M_work_147 hV (by decide) (by omega) ?_
            refine ag_lneg dd_M_work_148 ?_
            refine mv_lastN dd_M_work_149 hM hV (by omega) (fun h hM hV => ?_)
            refine ag_goto (tgt := 186) dd_M_work_150 (by decide) ?_
            refine ag_iincN (Lf := fun y => [some (av_r 38), some (av_i (t)), some (av_i (s)), some (av_i (m)), some (av_i (b)), some (av_i (h5)), some (av_i (((m1 + 1 : Nat) : Int))), some (av_i (y)), some (av_i (2)), none]) dd_M_work_186 rfl (fun _ => rfl) rfl (by decide) (fun y8 ey8 => ?_)
            refine ag_goto (tgt := 6) dd_M_work_189 (by decide) ?_
            obtain rfl : y8 = ((k + 1 : Nat) : Int) := by omega
            refine ag_weak [some (av_r 38), some (av_i (t)), some (av_i (s)), some (av_i (m)), some (av_i (b)), some (av_i (h5)), some (av_i (((m1 + 1 : Nat) : Int))), some (av_i (((k + 1 : Nat) : Int))), none, none] (by simp [al_le]) ?_
            exact ih h (m1 + 1) (k + 1) (ai_up g m1 ((-((g m1))))) (-(g m1) :: rr) (by omega) (by omega) hc2 (by rw [pl_push, hr]) (fun v hv => by rcases List.mem_cons.mp hv with rfl | hv; exact (by have := hb (g m1) (by simp); unfold iv_b at this ⊢; omega); exact hb v (by simp [hv])) hvr.2 (by rw [sp_ex1_2] at hP; exact hP) hM hV
        · subst c3
          rw [if_neg (by simp), if_pos rfl] at hvr
          have hvv : iv_b (sp_let t s m b h5 q2) := by
            unfold sp_let iv_b
            repeat (first | omega | split)
          refine ag_aload_n dd_M_work_56 rfl ?_
          refine ag_get dd_M_work_57 fg_M_122 (mr_38 hM) rfl ?_
          refine ag_iload dd_M_work_60 rfl ?_
          refine ag_ialdN dd_M_work_62 (mr_70 hM) (by decide) (by omega) ?_
          refine ag_to hk2 ?_
          refine ag_istore (L' := [some (av_r 38), some (av_i (t)), some (av_i (s)), some (av_i (m)), some (av_i (b)), some (av_i (h5)), some (av_i ((n : Int))), some (av_i ((k : Int))), some (av_i (1)), some (av_i (q2))]) dd_M_work_63 rfl rfl (by decide) ?_
          refine ag_aload_n dd_M_work_65 rfl ?_
          refine ag_get dd_M_work_66 fg_M_134 (mr_38 hM) rfl ?_
          refine ag_iload dd_M_work_69 rfl ?_
          refine ag_iload dd_M_work_71 rfl ?_
          refine ag_if_ne (tgt := 81) dd_M_work_73 (by decide) (by omega) (fun c9 => ?_) (fun c9 => ?_)
          · refine ag_iload dd_M_work_81 rfl ?_
            refine ag_iconst dd_M_work_83 ?_
            refine ag_icmp_ne (tgt := 92) dd_M_work_84 (by decide) (by omega) (by omega) (fun c10 => ?_) (fun c10 => ?_)
            · refine ag_iload dd_M_work_92 rfl ?_
              refine ag_iconst dd_M_work_94 ?_
              refine ag_icmp_ne (tgt := 103) dd_M_work_95 (by decide) (by omega) (by omega) (fun c11 => ?_) (fun c11 => ?_)
              · refine ag_iload dd_M_work_103 rfl ?_
                refine ag_iconst dd_M_work_105 ?_
                refine ag_icmp_ne (tgt := 115) dd_M_work_106 (by decide) (by omega) (by omega) (fun c12 => ?_) (fun c12 => ?_)
                · refine ag_iload dd_M_work_115 rfl ?_
                  refine ag_i2l dd_M_work_117 (by omega) ?_
                  refine ag_tol (show h5 = sp_let t s m b h5 q2 from by unfold sp_let; repeat (first | rw [if_pos (by omega)] | rw [if_neg (by omega)])) ?_
                  refine mv_lastN dd_M_work_118 hM hV (by omega) (fun h hM hV => ?_)
                  refine ag_iincN (Lf := fun y => [some (av_r 38), some (av_i (t)), some (av_i (s)), some (av_i (m)), some (av_i (b)), some (av_i (h5)), some (av_i (y)), some (av_i ((k : Int))), some (av_i (1)), some (av_i (q2))]) dd_M_work_119 rfl (fun _ => rfl) rfl (by decide) (fun y13 ey13 => ?_)
                  refine ag_goto (tgt := 186) dd_M_work_122 (by decide) ?_
                  refine ag_iincN (Lf := fun y => [some (av_r 38), some (av_i (t)), some (av_i (s)), some (av_i (m)), some (av_i (b)), some (av_i (h5)), some (av_i (y13)), some (av_i (y)), some (av_i (1)), some (av_i (q2))]) dd_M_work_186 rfl (fun _ => rfl) rfl (by decide) (fun y14 ey14 => ?_)
                  refine ag_goto (tgt := 6) dd_M_work_189 (by decide) ?_
                  obtain rfl : y13 = ((n + 1 : Nat) : Int) := by omega
                  obtain rfl : y14 = ((k + 1 : Nat) : Int) := by omega
                  refine ag_weak [some (av_r 38), some (av_i (t)), some (av_i (s)), some (av_i (m)), some (av_i (b)), some (av_i (h5)), some (av_i (((n + 1 : Nat) : Int))), some (av_i (((k + 1 : Nat) : Int))), none, none] (by simp [al_le]) ?_
                  exact ih h (n + 1) (k + 1) (ai_up g n ((sp_let t s m b h5 q2))) ((sp_let t s m b h5 q2) :: st) (by omega) (by omega) hc2 (by rw [pl_push, hpl]) (fun v hv => by rcases List.mem_cons.mp hv with rfl | hv; exact hvv; exact hb v hv) hvr.2 (by rw [sp_ex1_1] at hP; exact hP) hM hV
                · refine ag_iload dd_M_work_109 rfl ?_
                  refine ag_i2l dd_M_work_111 (by omega) ?_
                  refine ag_goto (tgt := 118) dd_M_work_112 (by decide) ?_
                  refine ag_tol (show b = sp_let t s m b h5 q2 from by unfold sp_let; repeat (first | rw [if_pos (by omega)] | rw [if_neg (by omega)])) ?_
                  refine mv_lastN dd_M_work_118 hM hV (by omega) (fun h hM hV => ?_)
                  refine ag_iincN (Lf := fun y => [some (av_r 38), some (av_i (t)), some (av_i (s)), some (av_i (m)), some (av_i (b)), some (av_i (h5)), some (av_i (y)), some (av_i ((k : Int))), some (av_i (1)), some (av_i (q2))]) dd_M_work_119 rfl (fun _ => rfl) rfl (by decide) (fun y15 ey15 => ?_)
                  refine ag_goto (tgt := 186) dd_M_work_122 (by decide) ?_
                  refine ag_iincN (Lf := fun y => [some (av_r 38), some (av_i (t)), some (av_i (s)), some (av_i (m)), some (av_i (b)), some (av_i (h5)), some (av_i (y15)), some (av_i (y)), some (av_i (1)), some (av_i (q2))]) dd_M_work_186 rfl (fun _ => rfl) rfl (by decide) (fun y16 ey16 => ?_)
                  refine ag_goto (tgt := 6) dd_M_work_189 (by decide) ?_
                  obtain rfl : y15 = ((n + 1 : Nat) : Int) := by omega
                  obtain rfl : y16 = ((k + 1 : Nat) : Int) := by omega
                  refine ag_weak [some (av_r 38), some (av_i (t)), some (av_i (s)), some (av_i (m)), some (av_i (b)), some (av_i (h5)), some (av_i (((n + 1 : Nat) : Int))), some (av_i (((k + 1 : Nat) : Int))), none, none] (by simp [al_le]) ?_
                  exact ih h (n + 1) (k + 1) (ai_up g n ((sp_let t s m b h5 q2))) ((sp_let t s m b h5 q2) :: st) (by omega) (by omega) hc2 (by rw [pl_push, hpl]) (fun v hv => by rcases List.mem_cons.mp hv with rfl | hv; exact hvv; exact hb v hv) hvr.2 (by rw [sp_ex1_1] at hP; exact hP) hM hV
              · refine ag_iload_n dd_M_work_98 rfl ?_
                refine ag_i2l dd_M_work_99 (by omega) ?_
                refine ag_goto (tgt := 118) dd_M_work_100 (by decide) ?_
                refine ag_tol (show m = sp_let t s m b h5 q2 from by unfold sp_let; repeat (first | rw [if_pos (by omega)] | rw [if_neg (by omega)])) ?_
                refine mv_lastN dd_M_work_118 hM hV (by omega) (fun h hM hV => ?_)
                refine ag_iincN (Lf := fun y => [some (av_r 38), some (av_i (t)), some (av_i (s)), some (av_i (m)), some (av_i (b)), some (av_i (h5)), some (av_i (y)), some (av_i ((k : Int))), some (av_i (1)), some (av_i (q2))]) dd_M_work_119 rfl (fun _ => rfl) rfl (by decide) (fun y17 ey17 => ?_)
                refine ag_goto (tgt := 186) dd_M_work_122 (by decide) ?_
                refine ag_iincN (Lf := fun y => [some (av_r 38), some (av_i (t)), some (av_i (s)), some (av_i (m)), some (av_i (b)), some (av_i (h5)), some (av_i (y17)), some (av_i (y)), some (av_i (1)), some (av_i (q2))]) dd_M_work_186 rfl (fun _ => rfl) rfl (by decide) (fun y18 ey18 => ?_)
                refine ag_goto (tgt := 6) dd_M_work_189 (by decide) ?_
                obtain rfl : y17 = ((n + 1 : Nat) : Int) := by omega
                obtain rfl : y18 = ((k + 1 : Nat) : Int) := by omega
                refine ag_weak [some (av_r 38), some (av_i (t)), some (av_i (s)), some (av_i (m)), some (av_i (b)), some (av_i (h5)), some (av_i (((n + 1 : Nat) : Int))), some (av_i (((k + 1 : Nat) : Int))), none, none] (by simp [al_le]) ?_
                exact ih h (n + 1) (k + 1) (ai_up g n ((sp_let t s m b h5 q2))) ((sp_let t s m b h5 q2) :: st) (by omega) (by omega) hc2 (by rw [pl_push, hpl]) (fun v hv => by rcases List.mem_cons.mp hv with rfl | hv; exact hvv; exact hb v hv) hvr.2 (by rw [sp_ex1_1] at hP; exact hP) hM hV
            · refine ag_iload_n dd_M_work_87 rfl ?_
              refine ag_i2l dd_M_work_88 (by omega) ?_
              refine ag_goto (tgt := 118) dd_M_work_89 (by decide) ?_
              refine ag_tol (show s = sp_let t s m b h5 q2 from by unfold sp_let; repeat (first | rw [if_pos (by omega)] | rw [if_neg (by omega)])) ?_
              refine mv_lastN dd_M_work_118 hM hV (by omega) (fun h hM hV => ?_)
              refine ag_iincN (Lf := fun y => [some (av_r 38), some (av_i (t)), some (av_i (s)), some (av_i (m)), some (av_i (b)), some (av_i (h5)), some (av_i (y)), some (av_i ((k : Int))), some (av_i (1)), some (av_i (q2))]) dd_M_work_119 rfl (fun _ => rfl) rfl (by decide) (fun y19 ey19 => ?_)
              refine ag_goto (tgt := 186) dd_M_work_122 (by decide) ?_
              refine ag_iincN (Lf := fun y => [some (av_r 38), some (av_i (t)), some (av_i (s)), some (av_i (m)), some (av_i (b)), some (av_i (h5)), some (av_i (y19)), some (av_i (y)), some (av_i (1)), some (av_i (q2))]) dd_M_work_186 rfl (fun _ => rfl) rfl (by decide) (fun y20 ey20 => ?_)
              refine ag_goto (tgt := 6) dd_M_work_189 (by decide) ?_
              obtain rfl : y19 = ((n + 1 : Nat) : Int) := by omega
              obtain rfl : y20 = ((k + 1 : Nat) : Int) := by omega
              refine ag_weak [some (av_r 38), some (av_i (t)), some (av_i (s)), some (av_i (m)), some (av_i (b)), some (av_i (h5)), some (av_i (((n + 1 : Nat) : Int))), some (av_i (((k + 1 : Nat) : Int))), none, none] (by simp [al_le]) ?_
              exact ih h (n + 1) (k + 1) (ai_up g n ((sp_let t s m b h5 q2))) ((sp_let t s m b h5 q2) :: st) (by omega) (by omega) hc2 (by rw [pl_push, hpl]) (fun v hv => by rcases List.mem_cons.mp hv with rfl | hv; exact hvv; exact hb v hv) hvr.2 (by rw [sp_ex1_1] at hP; exact hP) hM hV
          · refine ag_iload_n dd_M_work_76 rfl ?_
            refine ag_i2l dd_M_work_77 (by omega) ?_
            refine ag_goto (tgt := 118) dd_M_work_78 (by decide) ?_
            refine ag_tol (show t = sp_let t s m b h5 q2 from by unfold sp_let; repeat (first | rw [if_pos (by omega)] | rw [if_neg (by omega)])) ?_
            refine mv_lastN dd_M_work_118 hM hV (by omega) (fun h hM hV => ?_)
            refine ag_iincN (Lf := fun y => [some (av_r 38), some (av_i (t)), some (av_i (s)), some (av_i (m)), some (av_i (b)), some (av_i (h5)), some (av_i (y)), some (av_i ((k : Int))), some (av_i (1)), some (av_i (q2))]) dd_M_work_119 rfl (fun _ => rfl) rfl (by decide) (fun y21 ey21 => ?_)
            refine ag_goto (tgt := 186) dd_M_work_122 (by decide) ?_
            refine ag_iincN (Lf := fun y => [some (av_r 38), some (av_i (t)), some (av_i (s)), some (av_i (m)), some (av_i (b)), some (av_i (h5)), some (av_i (y21)), some (av_i (y)), some (av_i (1)), some (av_i (q2))]) dd_M_work_186 rfl (fun _ => rfl) rfl (by decide) (fun y22 ey22 => ?_)
            refine ag_goto (tgt := 6) dd_M_work_189 (by decide) ?_
            obtain rfl : y21 = ((n + 1 : Nat) : Int) := by omega
            obtain rfl : y22 = ((k + 1 : Nat) : Int) := by omega
            refine ag_weak [some (av_r 38), some (av_i (t)), some (av_i (s)), some (av_i (m)), some (av_i (b)), some (av_i (h5)), some (av_i (((n + 1 : Nat) : Int))), some (av_i (((k + 1 : Nat) : Int))), none, none] (by simp [al_le]) ?_
            exact ih h (n + 1) (k + 1) (ai_up g n ((sp_let t s m b h5 q2))) ((sp_let t s m b h5 q2) :: st) (by omega) (by omega) hc2 (by rw [pl_push, hpl]) (fun v hv => by rcases List.mem_cons.mp hv with rfl | hv; exact hvv; exact hb v hv) hvr.2 (by rw [sp_ex1_1] at hP; exact hP) hM hV
      · subst c2
        rw [if_pos rfl] at hvr
        have hvv : iv_b q2 := by unfold iv_b; omega
        refine ag_aload_n dd_M_work_29 rfl ?_
        refine ag_get dd_M_work_30 fg_M_134 (mr_38 hM) rfl ?_
        refine ag_iload dd_M_work_33 rfl ?_
        refine ag_aload_n dd_M_work_35 rfl ?_
        refine ag_get dd_M_work_36 fg_M_122 (mr_38 hM) rfl ?_
        refine ag_iload dd_M_work_39 rfl ?_
        refine ag_ialdN dd_M_work_41 (mr_70 hM) (by decide) (by omega) ?_
        refine ag_to hk2 ?_
        refine ag_i2l dd_M_work_42 (by omega) ?_
        refine mv_lastN dd_M_work_43 hM hV (by omega) (fun h hM hV => ?_)
        refine ag_iincN (Lf := fun y => [some (av_r 38), some (av_i (t)), some (av_i (s)), some (av_i (m)), some (av_i (b)), some (av_i (h5)), some (av_i (y)), some (av_i ((k : Int))), some (av_i (0)), none]) dd_M_work_44 rfl (fun _ => rfl) rfl (by decide) (fun y23 ey23 => ?_)
        refine ag_goto (tgt := 186) dd_M_work_47 (by decide) ?_
        refine ag_iincN (Lf := fun y => [some (av_r 38), some (av_i (t)), some (av_i (s)), some (av_i (m)), some (av_i (b)), some (av_i (h5)), some (av_i (y23)), some (av_i (y)), some (av_i (0)), none]) dd_M_work_186 rfl (fun _ => rfl) rfl (by decide) (fun y24 ey24 => ?_)
        refine ag_goto (tgt := 6) dd_M_work_189 (by decide) ?_
        obtain rfl : y23 = ((n + 1 : Nat) : Int) := by omega
        obtain rfl : y24 = ((k + 1 : Nat) : Int) := by omega
        refine ag_weak [some (av_r 38), some (av_i (t)), some (av_i (s)), some (av_i (m)), some (av_i (b)), some (av_i (h5)), some (av_i (((n + 1 : Nat) : Int))), some (av_i (((k + 1 : Nat) : Int))), none, none] (by simp [al_le]) ?_
        exact ih h (n + 1) (k + 1) (ai_up g n (q2)) (q2 :: st) (by omega) (by omega) hc2 (by rw [pl_push, hpl]) (fun v hv => by rcases List.mem_cons.mp hv with rfl | hv; exact hvv; exact hb v hv) hvr.2 (by rw [sp_ex1_0] at hP; exact hP) hM hV
set_option maxHeartbeats 1000000 in
theorem mc_M_work {w : aw_T} {h0 h : ah_T} {S : ms_T} {d : Nat} (hd : 2 ≤ d) (hM : mo_I h0 h S) (hI : 0 ≤ S.1 44 ∧ S.1 44 ≤ 100) {t s m b h5 : Int} (ht : iv_b t) (hs : iv_b s) (hm : iv_b m) (hbb : iv_b b) (hh : iv_b h5) (hcv : iv_hv (sp_code S) 0) : am_M w mm_M_work d [av_r 38, av_i t, av_i s, av_i m, av_i b, av_i h5] h 0 0 (mo_P h0 (some (av_i (sp_work S t s m b h5)), S)) := by
  refine am_intro [some (av_r 38), some (av_i (t)), some (av_i (s)), some (av_i (m)), some (av_i (b)), some (av_i (h5)), none, none, none, none] (by decide +kernel) (Nat.le_of_ble_eq_true rfl) rfl ?_
  refine ag_iconst dd_M_work_0 ?_
  refine ag_istore (L' := [some (av_r 38), some (av_i (t)), some (av_i (s)), some (av_i (m)), some (av_i (b)), some (av_i (h5)), some (av_i (0)), none, none, none]) dd_M_work_1 rfl rfl (by decide) ?_
  refine ag_iconst dd_M_work_3 ?_
  refine ag_istore (L' := [some (av_r 38), some (av_i (t)), some (av_i (s)), some (av_i (m)), some (av_i (b)), some (av_i (h5)), some (av_i (0)), some (av_i (0)), none, none]) dd_M_work_4 rfl rfl (by decide) ?_
  obtain ⟨g, hV⟩ := hM.1.2
  refine ml_M_work hd hI ht hs hm hbb hh (sp_code S) h 0 0 g [] ?_ (Nat.le_refl 0) ?_ rfl (fun v hv => by cases hv) hcv (fun h hM => ⟨rfl, hM⟩) hM hV
  · unfold sp_code; rw [List.length_map, List.length_range]; omega
  · intro j hj
    unfold sp_code at hj ⊢
    rw [List.length_map, List.length_range] at hj
    rw [List.getElem?_map, List.getElem?_range hj, Nat.zero_add]
    rfl
