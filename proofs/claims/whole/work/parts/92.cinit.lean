theorem mi_gt {A : Nat} {hb cs : List ac_T} {c : ac_T} (hA : hb.length = A) : (hb ++ (c :: cs))[A]? = some c := by
  rw [List.getElem?_append_right (by omega), hA, Nat.sub_self]
  rfl
theorem mi_st {A : Nat} {hb cs : List ac_T} {c c2 : ac_T} (hA : hb.length = A) : (hb ++ (c :: cs)).set A c2 = hb ++ (c2 :: cs) := by
  rw [List.set_append_right A c2 (by omega), hA, Nat.sub_self]
  rfl
theorem mi_as {hb cs ds : List ac_T} {c : ac_T} : (hb ++ (c :: cs)) ++ ds = hb ++ (c :: (cs ++ ds)) := by
  rw [List.append_assoc]
  rfl
theorem mi_len {A B : Nat} {hb cs : List ac_T} {c : ac_T} (hA : hb.length = A) (hB : A + 1 + cs.length = B) : (hb ++ (c :: cs)).length = B := by
  rw [List.length_append, List.length_cons]
  omega
theorem mi_puti {w : aw_T} {M : am_T} {d : Nat} {P : ap_T} {pc n : Nat} {L : al_T} {st : List av_T} {kc ks : Nat} {A : Nat} {hb cs : List ac_T} {x : Int} {idx ci k : Nat} {fs : List av_T} (hd : ad_D M pc (.putfield idx) 3 n) (hf : af_put M.1.cls M.1.name idx ci k .int) (hA : hb.length = A) (hl : k < fs.length) (kk : aw_W w M d P n L st (hb ++ (ac_o ci (fs.set k (av_i x)) :: cs)) kc ks) : aw_W w M d P pc L (av_i x :: av_r A :: st) (hb ++ (ac_o ci fs :: cs)) kc ks := by
  refine ag_puti hd hf (mi_gt hA) hl ?_
  rw [mi_st hA]
  exact kk
theorem mi_puta {w : aw_T} {M : am_T} {d : Nat} {P : ap_T} {pc n : Nat} {L : al_T} {st : List av_T} {kc ks : Nat} {A : Nat} {hb cs : List ac_T} {q : Option Nat} {ty : FieldType} {idx ci k : Nat} {fs : List av_T} (hd : ad_D M pc (.putfield idx) 3 n) (hf : af_put M.1.cls M.1.name idx ci k (.array ty)) (hA : hb.length = A) (hl : k < fs.length) (kk : aw_W w M d P n L st (hb ++ (ac_o ci (fs.set k (av_q q)) :: cs)) kc ks) : aw_W w M d P pc L (av_q q :: av_r A :: st) (hb ++ (ac_o ci fs :: cs)) kc ks := by
  refine ag_puta hd hf (mi_gt hA) hl ?_
  rw [mi_st hA]
  exact kk
theorem mi_puto {w : aw_T} {M : am_T} {d : Nat} {P : ap_T} {pc n : Nat} {L : al_T} {st : List av_T} {kc ks : Nat} {A : Nat} {hb cs : List ac_T} {q : Option Nat} {nm : String} {idx ci k : Nat} {fs : List av_T} (hd : ad_D M pc (.putfield idx) 3 n) (hf : af_put M.1.cls M.1.name idx ci k (.object nm)) (hA : hb.length = A) (hl : k < fs.length) (kk : aw_W w M d P n L st (hb ++ (ac_o ci (fs.set k (av_q q)) :: cs)) kc ks) : aw_W w M d P pc L (av_q q :: av_r A :: st) (hb ++ (ac_o ci fs :: cs)) kc ks := by
  refine ag_puto hd hf (mi_gt hA) hl ?_
  rw [mi_st hA]
  exact kk
theorem mi_get {w : aw_T} {M : am_T} {d : Nat} {P : ap_T} {pc n : Nat} {L : al_T} {st : List av_T} {kc ks : Nat} {A : Nat} {hb cs : List ac_T} {idx ci k : Nat} {fs : List av_T} {v : av_T} (hd : ad_D M pc (.getfield idx) 3 n) (hf : af_ok M.1.cls idx ci k) (hA : hb.length = A) (hv : fs[k]? = some v) (kk : aw_W w M d P n L (v :: st) (hb ++ (ac_o ci fs :: cs)) kc ks) : aw_W w M d P pc L (av_r A :: st) (hb ++ (ac_o ci fs :: cs)) kc ks := ag_get hd hf (mi_gt hA) hv kk
theorem mi_iast {w : aw_T} {M : am_T} {d : Nat} {P : ap_T} {pc n : Nat} {L : al_T} {st : List av_T} {kc ks : Nat} {A : Nat} {hb cs : List ac_T} {c : ac_T} {j N : Nat} {f : Nat → Int} {i x : Int} (hd : ad_D M pc .iastore 1 n) (hA : hb.length = A) (hc : cs[j]? = some (ac_a 0 N f)) (hN : N ≤ 2147483648) (hi : 0 ≤ i ∧ i < N) (kk : aw_W w M d P n L st (hb ++ (c :: (cs.set j (ac_a 0 N (ai_up f i.toNat x))))) kc ks) : aw_W w M d P pc L (av_i x :: av_i i :: av_r (A + 1 + j) :: st) (hb ++ (c :: cs)) kc ks := by
  have e1 : (hb ++ (c :: cs))[A + 1 + j]? = some (ac_a 0 N f) := by
    rw [List.getElem?_append_right (by omega), hA, show A + 1 + j - A = j + 1 by omega, List.getElem?_cons_succ]
    exact hc
  refine ag_iast hd e1 hN hi ?_
  rw [List.set_append_right _ _ (by omega), hA, show A + 1 + j - A = j + 1 by omega, List.set_cons_succ]
  exact kk
theorem mi_nint {w : aw_T} {M : am_T} {d : Nat} {P : ap_T} {pc n : Nat} {L : al_T} {st : List av_T} {kc ks kc' ks' : Nat} {A B N : Nat} {hb cs : List ac_T} {c : ac_T} (hd : ad_D M pc (.newarray .int) 2 n) (hN : N ≤ 100000000) (hkc : kc' + 1 ≤ kc) (hks : ks' + N ≤ ks) (hA : hb.length = A) (hB : A + 1 + cs.length = B) (kk : aw_W w M d P n L (av_r B :: st) (hb ++ (c :: (cs ++ [ac_a 0 N (fun _ => 0)]))) kc' ks') : aw_W w M d P pc L (av_i (N : Int) :: st) (hb ++ (c :: cs)) kc ks := by
  refine ag_newa (t := 0) (ty := .int) hd rfl rfl rfl fo_int hN (by decide) hkc hks ⟨by decide, fun U cA => Iff.rfl⟩ ?_
  rw [mi_len hA hB, mi_as]
  exact kk
theorem mi_nbyte {w : aw_T} {M : am_T} {d : Nat} {P : ap_T} {pc n : Nat} {L : al_T} {st : List av_T} {kc ks kc' ks' : Nat} {A B N : Nat} {hb cs : List ac_T} {c : ac_T} (hd : ad_D M pc (.newarray .byte) 2 n) (hN : N ≤ 100000000) (hkc : kc' + 1 ≤ kc) (hks : ks' + N ≤ ks) (hA : hb.length = A) (hB : A + 1 + cs.length = B) (kk : aw_W w M d P n L (av_r B :: st) (hb ++ (c :: (cs ++ [ac_a 1 N (fun _ => 0)]))) kc' ks') : aw_W w M d P pc L (av_i (N : Int) :: st) (hb ++ (c :: cs)) kc ks := by
  refine ag_newa (t := 1) (ty := .byte) hd rfl rfl rfl fo_byte hN (by decide) hkc hks ⟨by decide, fun U cA => Iff.rfl⟩ ?_
  rw [mi_len hA hB, mi_as]
  exact kk
theorem mi_nboolean {w : aw_T} {M : am_T} {d : Nat} {P : ap_T} {pc n : Nat} {L : al_T} {st : List av_T} {kc ks kc' ks' : Nat} {A B N : Nat} {hb cs : List ac_T} {c : ac_T} (hd : ad_D M pc (.newarray .boolean) 2 n) (hN : N ≤ 100000000) (hkc : kc' + 1 ≤ kc) (hks : ks' + N ≤ ks) (hA : hb.length = A) (hB : A + 1 + cs.length = B) (kk : aw_W w M d P n L (av_r B :: st) (hb ++ (c :: (cs ++ [ac_a 2 N (fun _ => 0)]))) kc' ks') : aw_W w M d P pc L (av_i (N : Int) :: st) (hb ++ (c :: cs)) kc ks := by
  refine ag_newa (t := 2) (ty := .boolean) hd rfl rfl rfl fo_boolean hN (by decide) hkc hks ⟨by decide, fun U cA => Iff.rfl⟩ ?_
  rw [mi_len hA hB, mi_as]
  exact kk
theorem mi_nlong {w : aw_T} {M : am_T} {d : Nat} {P : ap_T} {pc n : Nat} {L : al_T} {st : List av_T} {kc ks kc' ks' : Nat} {A B N : Nat} {hb cs : List ac_T} {c : ac_T} (hd : ad_D M pc (.newarray .long) 2 n) (hN : N ≤ 10000000) (hkc : kc' + 1 ≤ kc) (hks : ks' + N ≤ ks) (hA : hb.length = A) (hB : A + 1 + cs.length = B) (kk : aw_W w M d P n L (av_r B :: st) (hb ++ (c :: (cs ++ [ac_l N (fun _ => 0)]))) kc' ks') : aw_W w M d P pc L (av_i (N : Int) :: st) (hb ++ (c :: cs)) kc ks := by
  refine ag_newl hd fo_long hN hkc hks ?_
  rw [mi_len hA hB, mi_as]
  exact kk
theorem mi_new {w : aw_T} {M : am_T} {d : Nat} {P : ap_T} {pc n : Nat} {L : al_T} {st : List av_T} {kc ks kc' ks' : Nat} {A B N : Nat} {hb cs : List ac_T} {c : ac_T} {idx ci : Nat} {fs : List av_T} (hd : ad_D M pc (.new idx) 3 n) (hw : an_ok M.1.cls idx ci N fs) (hkc : kc' + 1 ≤ kc) (hks : ks' + N ≤ ks) (hA : hb.length = A) (hB : A + 1 + cs.length = B) (kk : aw_W w M d P n L (av_r B :: st) ((hb ++ (c :: cs)) ++ [ac_o ci fs]) kc' ks') : aw_W w M d P pc L st (hb ++ (c :: cs)) kc ks := by
  refine ag_new hd hw hkc hks ?_
  rw [mi_len hA hB]
  exact kk
theorem fo_cho : Cond.classLink "CaneRounds$Chooser" 27 ("[" ++ (FieldType.array .int).toString) ∈ tt_g := (tt_g1 171 (by decide +kernel) (by decide +kernel))
def tk_0 : Nat → Int := ai_up (ai_up (ai_up (ai_up (fun _ => 0) 0 1001) 1 42) 2 116) 3 0
set_option maxHeartbeats 1000000 in
theorem mc_Farms_init {w : aw_T} {d : Nat} (hd : 1 ≤ d) {A : Nat} {hb : List ac_T} (hA : hb.length = A) : am_M w mm_Farms_init d [av_r A] (hb ++ [ac_o 3 [av_n, av_n, av_i 0, av_i 0, av_i 0]]) 2 20 (fun r1 h1 => r1 = none ∧ h1 = hb ++ (ac_o 3 [av_r (A + 1 + 0), av_r (A + 1 + 1), av_i 0, av_i 0, av_i 0] :: [ac_l 10 (fun _ => 0), ac_a 0 10 (fun _ => 0)])) := by
  refine am_intro [some (av_r (A))] (by decide +kernel) (Nat.le_of_ble_eq_true rfl) rfl ?_
  refine ag_aload_n dd_Farms_init_0 rfl ?_
  refine ag_obj dd_Farms_init_1 fi_Farms_3 fo_i fo_c (by omega) (Nat.le_of_ble_eq_true rfl) ?_
  refine ag_aload_n dd_Farms_init_4 rfl ?_
  refine ag_bipush dd_Farms_init_5 (by decide +kernel) ?_
  refine mi_nlong (N := 10) (B := (A + 1 + 0)) (kc' := 1) (ks' := 10) dd_Farms_init_7 (by decide) (by decide) (by decide) hA rfl ?_
  refine mi_puta dd_Farms_init_9 fp_Farms_11 hA (Nat.le_of_ble_eq_true rfl) ?_
  refine ag_aload_n dd_Farms_init_12 rfl ?_
  refine ag_bipush dd_Farms_init_13 (by decide +kernel) ?_
  refine mi_nint (N := 10) (B := (A + 1 + 1)) (kc' := 0) (ks' := 0) dd_Farms_init_15 (by decide) (by decide) (by decide) hA rfl ?_
  refine mi_puta dd_Farms_init_17 fp_Farms_15 hA (Nat.le_of_ble_eq_true rfl) ?_
  refine ag_vret dd_Farms_init_20 rfl ?_
  exact ⟨rfl, rfl⟩
set_option maxHeartbeats 1000000 in
theorem mc_Weather_init {w : aw_T} {d : Nat} (hd : 1 ≤ d) {A : Nat} {hb : List ac_T} (hA : hb.length = A) : am_M w mm_Weather_init d [av_r A] (hb ++ [ac_o 9 [av_n, av_i 0]]) 0 0 (fun r1 h1 => r1 = none ∧ h1 = hb ++ (ac_o 9 [av_n, av_i 0] :: [])) := by
  refine am_intro [some (av_r (A))] (by decide +kernel) (Nat.le_of_ble_eq_true rfl) rfl ?_
  refine ag_aload_n dd_Weather_init_0 rfl ?_
  refine ag_obj dd_Weather_init_1 fi_Weather_1 fo_i fo_c (by omega) (Nat.le_of_ble_eq_true rfl) ?_
  refine ag_vret dd_Weather_init_4 rfl ?_
  exact ⟨rfl, rfl⟩
set_option maxHeartbeats 1000000 in
theorem mc_Bundles_init {w : aw_T} {d : Nat} (hd : 1 ≤ d) {A : Nat} {hb : List ac_T} (hA : hb.length = A) : am_M w mm_Bundles_init d [av_r A] (hb ++ [ac_o 1 [av_n, av_n]]) 0 0 (fun r1 h1 => r1 = none ∧ h1 = hb ++ (ac_o 1 [av_n, av_n] :: [])) := by
  refine am_intro [some (av_r (A))] (by decide +kernel) (Nat.le_of_ble_eq_true rfl) rfl ?_
  refine ag_aload_n dd_Bundles_init_0 rfl ?_
  refine ag_obj dd_Bundles_init_1 fi_Bundles_3 fo_i fo_c (by omega) (Nat.le_of_ble_eq_true rfl) ?_
  refine ag_vret dd_Bundles_init_4 rfl ?_
  exact ⟨rfl, rfl⟩
set_option maxHeartbeats 1000000 in
theorem mc_Chooser_init {w : aw_T} {d : Nat} (hd : 1 ≤ d) {A : Nat} {hb : List ac_T} (hA : hb.length = A) : am_M w mm_Chooser_init d [av_r A] (hb ++ [ac_o 2 [av_n, av_n, av_n, av_n, av_n, av_n, av_i 0, av_i 0, av_i 0, av_i 0, av_i 0]]) 23 267 (fun r1 h1 => r1 = none ∧ h1 = hb ++ (ac_o 2 [av_r (A + 1 + 0), av_r (A + 1 + 1), av_r (A + 1 + 2), av_r (A + 1 + 3), av_r (A + 1 + 4), av_r (A + 1 + 5), av_i 0, av_i 0, av_i 0, av_i 0, av_i 0] :: (ac_a 0 16 (fun _ => 0) :: ac_a 0 16 (fun _ => 0) :: ac_a 0 16 (fun _ => 0) :: ac_a 0 16 (fun _ => 0) :: ac_a 0 16 (fun _ => 0) :: ac_q 17 (fun i => if i < 17 then some (A + 1 + 5 + 1 + i) else none) :: List.replicate 17 (ac_a 0 10 (fun _ => 0))))) := by
  refine am_intro [some (av_r (A))] (by decide +kernel) (Nat.le_of_ble_eq_true rfl) rfl ?_
  refine ag_aload_n dd_Chooser_init_0 rfl ?_
  refine ag_obj dd_Chooser_init_1 fi_Chooser_3 fo_i fo_c (by omega) (Nat.le_of_ble_eq_true rfl) ?_
  refine ag_aload_n dd_Chooser_init_4 rfl ?_
  refine ag_bipush dd_Chooser_init_5 (by decide +kernel) ?_
  refine mi_nint (N := 16) (B := (A + 1 + 0)) (kc' := 22) (ks' := 251) dd_Chooser_init_7 (by decide) (by decide) (by decide) hA rfl ?_
  refine mi_puta dd_Chooser_init_9 fp_Chooser_9 hA (Nat.le_of_ble_eq_true rfl) ?_
  refine ag_aload_n dd_Chooser_init_12 rfl ?_
  refine ag_bipush dd_Chooser_init_13 (by decide +kernel) ?_
  refine mi_nint (N := 16) (B := (A + 1 + 1)) (kc' := 21) (ks' := 235) dd_Chooser_init_15 (by decide) (by decide) (by decide) hA rfl ?_
  refine mi_puta dd_Chooser_init_17 fp_Chooser_15 hA (Nat.le_of_ble_eq_true rfl) ?_
  refine ag_aload_n dd_Chooser_init_20 rfl ?_
  refine ag_bipush dd_Chooser_init_21 (by decide +kernel) ?_
  refine mi_nint (N := 16) (B := (A + 1 + 2)) (kc' := 20) (ks' := 219) dd_Chooser_init_23 (by decide) (by decide) (by decide) hA rfl ?_
  refine mi_puta dd_Chooser_init_25 fp_Chooser_18 hA (Nat.le_of_ble_eq_true rfl) ?_
  refine ag_aload_n dd_Chooser_init_28 rfl ?_
  refine ag_bipush dd_Chooser_init_29 (by decide +kernel) ?_
  refine mi_nint (N := 16) (B := (A + 1 + 3)) (kc' := 19) (ks' := 203) dd_Chooser_init_31 (by decide) (by decide) (by decide) hA rfl ?_
  refine mi_puta dd_Chooser_init_33 fp_Chooser_21 hA (Nat.le_of_ble_eq_true rfl) ?_
  refine ag_aload_n dd_Chooser_init_36 rfl ?_
  refine ag_bipush dd_Chooser_init_37 (by decide +kernel) ?_
  refine mi_nint (N := 16) (B := (A + 1 + 4)) (kc' := 18) (ks' := 187) dd_Chooser_init_39 (by decide) (by decide) (by decide) hA rfl ?_
  refine mi_puta dd_Chooser_init_41 fp_Chooser_24 hA (Nat.le_of_ble_eq_true rfl) ?_
  refine ag_aload_n dd_Chooser_init_44 rfl ?_
  refine ag_bipush dd_Chooser_init_45 (by decide +kernel) ?_
  refine ag_bipush dd_Chooser_init_47 (by decide +kernel) ?_
  refine ag_mna (N := 17) (K := 10) (kc' := 0) (ks' := 0) dd_Chooser_init_49 fo_cho fo_int (by decide) (by decide) (by decide) (by decide) ?_
  rw [mi_len hA (B := (A + 1 + 5)) rfl, mi_as]
  refine mi_puta dd_Chooser_init_53 fp_Chooser_29 hA (Nat.le_of_ble_eq_true rfl) ?_
  refine ag_vret dd_Chooser_init_56 rfl ?_
  exact ⟨rfl, rfl⟩
set_option maxHeartbeats 1000000 in
theorem mc_Tape_init {w : aw_T} {d : Nat} (hd : 1 ≤ d) {A : Nat} {hb : List ac_T} (hA : hb.length = A) : am_M w mm_Tape_init d [av_r A] (hb ++ [ac_o 8 [av_n, av_i 0]]) 1 100 (fun r1 h1 => r1 = none ∧ h1 = hb ++ (ac_o 8 [av_r (A + 1 + 0), av_i 0] :: [ac_a 1 100 (fun _ => 0)])) := by
  refine am_intro [some (av_r (A))] (by decide +kernel) (Nat.le_of_ble_eq_true rfl) rfl ?_
  refine ag_aload_n dd_Tape_init_0 rfl ?_
  refine ag_obj dd_Tape_init_1 fi_Tape_1 fo_i fo_c (by omega) (Nat.le_of_ble_eq_true rfl) ?_
  refine ag_aload_n dd_Tape_init_4 rfl ?_
  refine ag_bipush dd_Tape_init_5 (by decide +kernel) ?_
  refine mi_nbyte (N := 100) (B := (A + 1 + 0)) (kc' := 0) (ks' := 0) dd_Tape_init_7 (by decide) (by decide) (by decide) hA rfl ?_
  refine mi_puta dd_Tape_init_9 fp_Tape_9 hA (Nat.le_of_ble_eq_true rfl) ?_
  refine ag_vret dd_Tape_init_12 rfl ?_
  exact ⟨rfl, rfl⟩
set_option maxHeartbeats 1000000 in
theorem mc_Formula_init {w : aw_T} {d : Nat} (hd : 1 ≤ d) {A : Nat} {hb : List ac_T} (hA : hb.length = A) : am_M w mm_Formula_init d [av_r A] (hb ++ [ac_o 5 [av_n, av_n, av_i 0, av_i 0, av_i 0, av_i 0, av_i 0, av_i 0, av_i 0, av_i 0, av_i 0]]) 2 202 (fun r1 h1 => r1 = none ∧ h1 = hb ++ (ac_o 5 [av_r (A + 1 + 0), av_r (A + 1 + 1), av_i 4, av_i 0, av_i 0, av_i 0, av_i 0, av_i 0, av_i 0, av_i 0, av_i 0] :: [ac_a 0 101 tk_0, ac_a 0 101 (fun _ => 0)])) := by
  refine am_intro [some (av_r (A))] (by decide +kernel) (Nat.le_of_ble_eq_true rfl) rfl ?_
  refine ag_aload_n dd_Formula_init_0 rfl ?_
  refine ag_obj dd_Formula_init_1 fi_Formula_5 fo_i fo_c (by omega) (Nat.le_of_ble_eq_true rfl) ?_
  refine ag_aload_n dd_Formula_init_4 rfl ?_
  refine ag_bipush dd_Formula_init_5 (by decide +kernel) ?_
  refine mi_nint (N := 101) (B := (A + 1 + 0)) (kc' := 1) (ks' := 101) dd_Formula_init_7 (by decide) (by decide) (by decide) hA rfl ?_
  refine mi_puta dd_Formula_init_9 fp_Formula_13 hA (Nat.le_of_ble_eq_true rfl) ?_
  refine ag_aload_n dd_Formula_init_12 rfl ?_
  refine ag_bipush dd_Formula_init_13 (by decide +kernel) ?_
  refine mi_nint (N := 101) (B := (A + 1 + 1)) (kc' := 0) (ks' := 0) dd_Formula_init_15 (by decide) (by decide) (by decide) hA rfl ?_
  refine mi_puta dd_Formula_init_17 fp_Formula_17 hA (Nat.le_of_ble_eq_true rfl) ?_
  refine ag_aload_n dd_Formula_init_20 rfl ?_
  refine mi_get dd_Formula_init_21 fg_Formula_13 hA rfl ?_
  refine ag_iconst dd_Formula_init_24 ?_
  refine ag_sipush dd_Formula_init_25 (by decide +kernel) ?_
  refine mi_iast (j := 0) dd_Formula_init_28 hA rfl (by decide) (by decide) ?_
  refine ag_aload_n dd_Formula_init_29 rfl ?_
  refine mi_get dd_Formula_init_30 fg_Formula_13 hA rfl ?_
  refine ag_iconst dd_Formula_init_33 ?_
  refine ag_bipush dd_Formula_init_34 (by decide +kernel) ?_
  refine mi_iast (j := 0) dd_Formula_init_36 hA rfl (by decide) (by decide) ?_
  refine ag_aload_n dd_Formula_init_37 rfl ?_
  refine mi_get dd_Formula_init_38 fg_Formula_13 hA rfl ?_
  refine ag_iconst dd_Formula_init_41 ?_
  refine ag_bipush dd_Formula_init_42 (by decide +kernel) ?_
  refine mi_iast (j := 0) dd_Formula_init_44 hA rfl (by decide) (by decide) ?_
  refine ag_aload_n dd_Formula_init_45 rfl ?_
  refine mi_get dd_Formula_init_46 fg_Formula_13 hA rfl ?_
  refine ag_iconst dd_Formula_init_49 ?_
  refine ag_iconst dd_Formula_init_50 ?_
  refine mi_iast (j := 0) dd_Formula_init_51 hA rfl (by decide) (by decide) ?_
  refine ag_aload_n dd_Formula_init_52 rfl ?_
  refine ag_iconst dd_Formula_init_53 ?_
  refine mi_puti dd_Formula_init_54 fp_Formula_20 hA (Nat.le_of_ble_eq_true rfl) ?_
  refine ag_vret dd_Formula_init_57 rfl ?_
  exact ⟨rfl, rfl⟩
def xh_0 : List ac_T := ac_o 10 [av_i 3, av_i 5, av_i 3, av_i 20, av_i 0, av_i (-1), av_n, av_n, av_n, av_n, av_r 1, av_r 4, av_r 5, av_r 6, av_r 30, av_r 32, av_r 35, av_i (-1), av_i (-1)] :: [ac_o 3 [av_r 2, av_r 3, av_i 0, av_i 0, av_i 0], ac_l 10 (fun _ => 0), ac_a 0 10 (fun _ => 0), ac_o 9 [av_n, av_i 0], ac_o 1 [av_n, av_n], ac_o 2 [av_r 7, av_r 8, av_r 9, av_r 10, av_r 11, av_r 12, av_i 0, av_i 0, av_i 0, av_i 0, av_i 0], ac_a 0 16 (fun _ => 0), ac_a 0 16 (fun _ => 0), ac_a 0 16 (fun _ => 0), ac_a 0 16 (fun _ => 0), ac_a 0 16 (fun _ => 0), ac_q 17 (fun i => if i < 17 then some (13 + i) else none), ac_a 0 10 (fun _ => 0), ac_a 0 10 (fun _ => 0), ac_a 0 10 (fun _ => 0), ac_a 0 10 (fun _ => 0), ac_a 0 10 (fun _ => 0), ac_a 0 10 (fun _ => 0), ac_a 0 10 (fun _ => 0), ac_a 0 10 (fun _ => 0), ac_a 0 10 (fun _ => 0), ac_a 0 10 (fun _ => 0), ac_a 0 10 (fun _ => 0), ac_a 0 10 (fun _ => 0), ac_a 0 10 (fun _ => 0), ac_a 0 10 (fun _ => 0), ac_a 0 10 (fun _ => 0), ac_a 0 10 (fun _ => 0), ac_a 0 10 (fun _ => 0), ac_o 8 [av_r 31, av_i 0], ac_a 1 100 (fun _ => 0), ac_o 5 [av_r 33, av_r 34, av_i 4, av_i 0, av_i 0, av_i 0, av_i 0, av_i 0, av_i 0, av_i 0, av_i 0], ac_a 0 101 tk_0, ac_a 0 101 (fun _ => 0), ac_o 5 [av_r 36, av_r 37, av_i 4, av_i 0, av_i 0, av_i 0, av_i 0, av_i 0, av_i 0, av_i 0, av_i 0], ac_a 0 101 tk_0, ac_a 0 101 (fun _ => 0)]
set_option maxHeartbeats 1000000 in
theorem mc_X_init {w : aw_T} {d : Nat} (hd : 2 ≤ d) : am_M w mm_X_init d [av_r 0] ([] ++ [ac_o 10 [av_i 0, av_i 0, av_i 0, av_i 0, av_i 0, av_i 0, av_n, av_n, av_n, av_n, av_n, av_n, av_n, av_n, av_n, av_n, av_n, av_i 0, av_i 0]]) 37 835 (fun r1 h1 => r1 = none ∧ h1 = xh_0) := by
  refine am_intro [some (av_r (0))] (by decide +kernel) (Nat.le_of_ble_eq_true rfl) rfl ?_
  have hA : ([] : List ac_T).length = 0 := rfl
  refine ag_aload_n dd_X_init_0 rfl ?_
  refine ag_obj dd_X_init_1 fi_X_1 fo_i fo_c (by omega) (Nat.le_of_ble_eq_true rfl) ?_
  refine ag_aload_n dd_X_init_4 rfl ?_
  refine ag_iconst dd_X_init_5 ?_
  refine mi_puti dd_X_init_6 fp_X_7 hA (Nat.le_of_ble_eq_true rfl) ?_
  refine ag_aload_n dd_X_init_9 rfl ?_
  refine ag_iconst dd_X_init_10 ?_
  refine mi_puti dd_X_init_11 fp_X_13 hA (Nat.le_of_ble_eq_true rfl) ?_
  refine ag_aload_n dd_X_init_14 rfl ?_
  refine ag_iconst dd_X_init_15 ?_
  refine mi_puti dd_X_init_16 fp_X_16 hA (Nat.le_of_ble_eq_true rfl) ?_
  refine ag_aload_n dd_X_init_19 rfl ?_
  refine ag_bipush dd_X_init_20 (by decide +kernel) ?_
  refine mi_puti dd_X_init_22 fp_X_19 hA (Nat.le_of_ble_eq_true rfl) ?_
  refine ag_aload_n dd_X_init_25 rfl ?_
  refine ag_iconst dd_X_init_26 ?_
  refine mi_puti dd_X_init_27 fp_X_22 hA (Nat.le_of_ble_eq_true rfl) ?_
  refine ag_aload_n dd_X_init_30 rfl ?_
  refine mi_new (B := 1) (kc' := 36) (ks' := 830) dd_X_init_31 fn_X_25 (by decide) (by decide) hA rfl ?_
  refine ag_dup dd_X_init_34 rfl ?_
  refine ag_callI (mc := 2) (ms := 20) (kc' := 34) (ks' := 810) dd_X_init_35 fi_X_27 (mc_Farms_init (d := 1) (by omega) (mi_len hA rfl)) rfl rfl (by omega) (Nat.le_of_ble_eq_true rfl) (by decide) (by decide) (fun r1 h hP => ?_)
  obtain ⟨rfl, rfl⟩ := hP
  rw [mi_as]
  refine mi_puto dd_X_init_38 fp_X_28 hA (Nat.le_of_ble_eq_true rfl) ?_
  refine ag_aload_n dd_X_init_41 rfl ?_
  refine mi_new (B := 4) (kc' := 33) (ks' := 808) dd_X_init_42 fn_X_32 (by decide) (by decide) hA rfl ?_
  refine ag_dup dd_X_init_45 rfl ?_
  refine ag_callI (mc := 0) (ms := 0) (kc' := 33) (ks' := 808) dd_X_init_46 fi_X_34 (mc_Weather_init (d := 1) (by omega) (mi_len hA rfl)) rfl rfl (by omega) (Nat.le_of_ble_eq_true rfl) (by decide) (by decide) (fun r1 h hP => ?_)
  obtain ⟨rfl, rfl⟩ := hP
  rw [mi_as]
  refine mi_puto dd_X_init_49 fp_X_35 hA (Nat.le_of_ble_eq_true rfl) ?_
  refine ag_aload_n dd_X_init_52 rfl ?_
  refine mi_new (B := 5) (kc' := 32) (ks' := 806) dd_X_init_53 fn_X_39 (by decide) (by decide) hA rfl ?_
  refine ag_dup dd_X_init_56 rfl ?_
  refine ag_callI (mc := 0) (ms := 0) (kc' := 32) (ks' := 806) dd_X_init_57 fi_X_41 (mc_Bundles_init (d := 1) (by omega) (mi_len hA rfl)) rfl rfl (by omega) (Nat.le_of_ble_eq_true rfl) (by decide) (by decide) (fun r1 h hP => ?_)
  obtain ⟨rfl, rfl⟩ := hP
  rw [mi_as]
  refine mi_puto dd_X_init_60 fp_X_42 hA (Nat.le_of_ble_eq_true rfl) ?_
  refine ag_aload_n dd_X_init_63 rfl ?_
  refine mi_new (B := 6) (kc' := 31) (ks' := 795) dd_X_init_64 fn_X_46 (by decide) (by decide) hA rfl ?_
  refine ag_dup dd_X_init_67 rfl ?_
  refine ag_callI (mc := 23) (ms := 267) (kc' := 8) (ks' := 528) dd_X_init_68 fi_X_48 (mc_Chooser_init (d := 1) (by omega) (mi_len hA rfl)) rfl rfl (by omega) (Nat.le_of_ble_eq_true rfl) (by decide) (by decide) (fun r1 h hP => ?_)
  obtain ⟨rfl, rfl⟩ := hP
  rw [mi_as]
  refine mi_puto dd_X_init_71 fp_X_49 hA (Nat.le_of_ble_eq_true rfl) ?_
  refine ag_aload_n dd_X_init_74 rfl ?_
  refine mi_new (B := 30) (kc' := 7) (ks' := 526) dd_X_init_75 fn_X_53 (by decide) (by decide) hA rfl ?_
  refine ag_dup dd_X_init_78 rfl ?_
  refine ag_callI (mc := 1) (ms := 100) (kc' := 6) (ks' := 426) dd_X_init_79 fi_X_55 (mc_Tape_init (d := 1) (by omega) (mi_len hA rfl)) rfl rfl (by omega) (Nat.le_of_ble_eq_true rfl) (by decide) (by decide) (fun r1 h hP => ?_)
  obtain ⟨rfl, rfl⟩ := hP
  rw [mi_as]
  refine mi_puto dd_X_init_82 fp_X_56 hA (Nat.le_of_ble_eq_true rfl) ?_
  refine ag_aload_n dd_X_init_85 rfl ?_
  refine mi_new (B := 32) (kc' := 5) (ks' := 415) dd_X_init_86 fn_X_60 (by decide) (by decide) hA rfl ?_
  refine ag_dup dd_X_init_89 rfl ?_
  refine ag_callI (mc := 2) (ms := 202) (kc' := 3) (ks' := 213) dd_X_init_90 fi_X_62 (mc_Formula_init (d := 1) (by omega) (mi_len hA rfl)) rfl rfl (by omega) (Nat.le_of_ble_eq_true rfl) (by decide) (by decide) (fun r1 h hP => ?_)
  obtain ⟨rfl, rfl⟩ := hP
  rw [mi_as]
  refine mi_puto dd_X_init_93 fp_X_63 hA (Nat.le_of_ble_eq_true rfl) ?_
  refine ag_aload_n dd_X_init_96 rfl ?_
  refine mi_new (B := 35) (kc' := 2) (ks' := 202) dd_X_init_97 fn_X_60 (by decide) (by decide) hA rfl ?_
  refine ag_dup dd_X_init_100 rfl ?_
  refine ag_callI (mc := 2) (ms := 202) (kc' := 0) (ks' := 0) dd_X_init_101 fi_X_62 (mc_Formula_init (d := 1) (by omega) (mi_len hA rfl)) rfl rfl (by omega) (Nat.le_of_ble_eq_true rfl) (by decide) (by decide) (fun r1 h hP => ?_)
  obtain ⟨rfl, rfl⟩ := hP
  rw [mi_as]
  refine mi_puto dd_X_init_104 fp_X_67 hA (Nat.le_of_ble_eq_true rfl) ?_
  refine ag_aload_n dd_X_init_107 rfl ?_
  refine ag_iconst dd_X_init_108 ?_
  refine mi_puti dd_X_init_109 fp_X_70 hA (Nat.le_of_ble_eq_true rfl) ?_
  refine ag_aload_n dd_X_init_112 rfl ?_
  refine ag_iconst dd_X_init_113 ?_
  refine mi_puti dd_X_init_114 fp_X_73 hA (Nat.le_of_ble_eq_true rfl) ?_
  refine ag_vret dd_X_init_117 rfl ?_
  refine ⟨rfl, ?_⟩
  show _ = xh_0
  rfl
def im_1 : Nat → Int := fun k => match k with
  | 4 => 3
  | 5 => 5
  | 6 => 3
  | 7 => 20
  | 38 => -1
  | 44 => 3
  | 47 => -1
  | 48 => -1
  | _ => 0
def im_2 : Nat → Nat → Int := fun a => match a with
  | 69 => ai_up (ai_up (ai_up (fun _ => 0) 0 0) 1 1) 2 5
  | 70 => ai_up (fun _ => 0) 0 1
  | _ => fun _ => 0
def im_S : ms_T := (im_1, im_2)
def mh_0 : List ac_T := ac_o 11 (mo_fs im_S) :: [ac_l 10 (im_2 39), ac_a 0 16 (im_2 40), ac_a 0 16 (im_2 41), ac_a 0 16 (im_2 42), ac_a 0 16 (im_2 43), ac_a 0 16 (im_2 44), ac_a 0 16 (im_2 45), ac_a 0 16 (im_2 46), ac_a 0 16 (im_2 47), ac_a 0 16 (im_2 48), ac_a 0 16 (im_2 49), ac_a 0 16 (im_2 50), ac_a 0 16 (im_2 51), ac_a 2 20 (im_2 52), ac_a 0 20 (im_2 53), ac_a 0 20 (im_2 54), ac_a 0 16 (im_2 55), ac_a 0 16 (im_2 56), ac_a 0 16 (im_2 57), ac_a 0 16 (im_2 58), ac_a 0 16 (im_2 59), ac_a 0 16 (im_2 60), ac_a 0 16 (im_2 61), ac_a 0 16 (im_2 62), ac_a 0 16 (im_2 63), ac_a 0 9 (im_2 64), ac_a 1 3200 (im_2 65), ac_a 0 10 (im_2 66), ac_a 2 10 (im_2 67), ac_a 0 100 (im_2 68), ac_a 0 256 (im_2 69), ac_a 0 256 (im_2 70), ac_a 0 128 (im_2 71), ac_l 128 (im_2 72), ac_a 0 16 (im_2 73), ac_a 0 16 (im_2 74), ac_a 0 16 (im_2 75), ac_a 0 16 (im_2 76)]
set_option maxHeartbeats 1000000 in
theorem mc_M_init {w : aw_T} {d : Nat} (hd : 1 ≤ d) {hb : List ac_T} (hA : hb.length = 38) : am_M w mm_M_init d [av_r 38] (hb ++ [ac_o 11 [av_i 0, av_i 0, av_i 0, av_i 0, av_i 0, av_i 0, av_i 0, av_i 0, av_n, av_n, av_n, av_n, av_n, av_n, av_n, av_n, av_n, av_n, av_n, av_n, av_n, av_i 0, av_n, av_n, av_n, av_n, av_n, av_n, av_n, av_n, av_n, av_n, av_n, av_n, av_n, av_n, av_i 0, av_i 0, av_i 0, av_i 0, av_n, av_n, av_n, av_i 0, av_i 0, av_n, av_n, av_i 0, av_i 0, av_i 0, av_i 0, av_i 0, av_i 0, av_i 0, av_i 0, av_i 0, av_n, av_i 0, av_n, av_n, av_n, av_n, av_n, av_i 0]]) 38 4567 (fun r1 h1 => r1 = none ∧ h1 = hb ++ mh_0) := by
  refine am_intro [some (av_r (38))] (by decide +kernel) (Nat.le_of_ble_eq_true rfl) rfl ?_
  refine ag_aload_n dd_M_init_0 rfl ?_
  refine ag_obj dd_M_init_1 fi_M_1 fo_i fo_c (by omega) (Nat.le_of_ble_eq_true rfl) ?_
  refine ag_aload_n dd_M_init_4 rfl ?_
  refine ag_iconst dd_M_init_5 ?_
  refine mi_puti dd_M_init_6 fp_M_7 hA (Nat.le_of_ble_eq_true rfl) ?_
  refine ag_aload_n dd_M_init_9 rfl ?_
  refine ag_iconst dd_M_init_10 ?_
  refine mi_puti dd_M_init_11 fp_M_13 hA (Nat.le_of_ble_eq_true rfl) ?_
  refine ag_aload_n dd_M_init_14 rfl ?_
  refine ag_iconst dd_M_init_15 ?_
  refine mi_puti dd_M_init_16 fp_M_16 hA (Nat.le_of_ble_eq_true rfl) ?_
  refine ag_aload_n dd_M_init_19 rfl ?_
  refine ag_bipush dd_M_init_20 (by decide +kernel) ?_
  refine mi_puti dd_M_init_22 fp_M_19 hA (Nat.le_of_ble_eq_true rfl) ?_
  refine ag_aload_n dd_M_init_25 rfl ?_
  refine ag_bipush dd_M_init_26 (by decide +kernel) ?_
  refine mi_nlong (N := 10) (B := 39) (kc' := 37) (ks' := 4557) dd_M_init_28 (by decide) (by decide) (by decide) hA rfl ?_
  refine mi_puta dd_M_init_30 fp_M_22 hA (Nat.le_of_ble_eq_true rfl) ?_
  refine ag_aload_n dd_M_init_33 rfl ?_
  refine ag_bipush dd_M_init_34 (by decide +kernel) ?_
  refine mi_nint (N := 16) (B := 40) (kc' := 36) (ks' := 4541) dd_M_init_36 (by decide) (by decide) (by decide) hA rfl ?_
  refine mi_puta dd_M_init_38 fp_M_26 hA (Nat.le_of_ble_eq_true rfl) ?_
  refine ag_aload_n dd_M_init_41 rfl ?_
  refine ag_bipush dd_M_init_42 (by decide +kernel) ?_
  refine mi_nint (N := 16) (B := 41) (kc' := 35) (ks' := 4525) dd_M_init_44 (by decide) (by decide) (by decide) hA rfl ?_
  refine mi_puta dd_M_init_46 fp_M_30 hA (Nat.le_of_ble_eq_true rfl) ?_
  refine ag_aload_n dd_M_init_49 rfl ?_
  refine ag_bipush dd_M_init_50 (by decide +kernel) ?_
  refine mi_nint (N := 16) (B := 42) (kc' := 34) (ks' := 4509) dd_M_init_52 (by decide) (by decide) (by decide) hA rfl ?_
  refine mi_puta dd_M_init_54 fp_M_33 hA (Nat.le_of_ble_eq_true rfl) ?_
  refine ag_aload_n dd_M_init_57 rfl ?_
  refine ag_bipush dd_M_init_58 (by decide +kernel) ?_
  refine mi_nint (N := 16) (B := 43) (kc' := 33) (ks' := 4493) dd_M_init_60 (by decide) (by decide) (by decide) hA rfl ?_
  refine mi_puta dd_M_init_62 fp_M_36 hA (Nat.le_of_ble_eq_true rfl) ?_
  refine ag_aload_n dd_M_init_65 rfl ?_
  refine ag_bipush dd_M_init_66 (by decide +kernel) ?_
  refine mi_nint (N := 16) (B := 44) (kc' := 32) (ks' := 4477) dd_M_init_68 (by decide) (by decide) (by decide) hA rfl ?_
  refine mi_puta dd_M_init_70 fp_M_39 hA (Nat.le_of_ble_eq_true rfl) ?_
  refine ag_aload_n dd_M_init_73 rfl ?_
  refine ag_bipush dd_M_init_74 (by decide +kernel) ?_
  refine mi_nint (N := 16) (B := 45) (kc' := 31) (ks' := 4461) dd_M_init_76 (by decide) (by decide) (by decide) hA rfl ?_
  refine mi_puta dd_M_init_78 fp_M_42 hA (Nat.le_of_ble_eq_true rfl) ?_
  refine ag_aload_n dd_M_init_81 rfl ?_
  refine ag_bipush dd_M_init_82 (by decide +kernel) ?_
  refine mi_nint (N := 16) (B := 46) (kc' := 30) (ks' := 4445) dd_M_init_84 (by decide) (by decide) (by decide) hA rfl ?_
  refine mi_puta dd_M_init_86 fp_M_45 hA (Nat.le_of_ble_eq_true rfl) ?_
  refine ag_aload_n dd_M_init_89 rfl ?_
  refine ag_bipush dd_M_init_90 (by decide +kernel) ?_
  refine mi_nint (N := 16) (B := 47) (kc' := 29) (ks' := 4429) dd_M_init_92 (by decide) (by decide) (by decide) hA rfl ?_
  refine mi_puta dd_M_init_94 fp_M_48 hA (Nat.le_of_ble_eq_true rfl) ?_
  refine ag_aload_n dd_M_init_97 rfl ?_
  refine ag_bipush dd_M_init_98 (by decide +kernel) ?_
  refine mi_nint (N := 16) (B := 48) (kc' := 28) (ks' := 4413) dd_M_init_100 (by decide) (by decide) (by decide) hA rfl ?_
  refine mi_puta dd_M_init_102 fp_M_51 hA (Nat.le_of_ble_eq_true rfl) ?_
  refine ag_aload_n dd_M_init_105 rfl ?_
  refine ag_bipush dd_M_init_106 (by decide +kernel) ?_
  refine mi_nint (N := 16) (B := 49) (kc' := 27) (ks' := 4397) dd_M_init_108 (by decide) (by decide) (by decide) hA rfl ?_
  refine mi_puta dd_M_init_110 fp_M_54 hA (Nat.le_of_ble_eq_true rfl) ?_
  refine ag_aload_n dd_M_init_113 rfl ?_
  refine ag_bipush dd_M_init_114 (by decide +kernel) ?_
  refine mi_nint (N := 16) (B := 50) (kc' := 26) (ks' := 4381) dd_M_init_116 (by decide) (by decide) (by decide) hA rfl ?_
  refine mi_puta dd_M_init_118 fp_M_57 hA (Nat.le_of_ble_eq_true rfl) ?_
  refine ag_aload_n dd_M_init_121 rfl ?_
  refine ag_bipush dd_M_init_122 (by decide +kernel) ?_
  refine mi_nint (N := 16) (B := 51) (kc' := 25) (ks' := 4365) dd_M_init_124 (by decide) (by decide) (by decide) hA rfl ?_
  refine mi_puta dd_M_init_126 fp_M_60 hA (Nat.le_of_ble_eq_true rfl) ?_
  refine ag_aload_n dd_M_init_129 rfl ?_
  refine ag_bipush dd_M_init_130 (by decide +kernel) ?_
  refine mi_nboolean (N := 20) (B := 52) (kc' := 24) (ks' := 4345) dd_M_init_132 (by decide) (by decide) (by decide) hA rfl ?_
  refine mi_puta dd_M_init_134 fp_M_63 hA (Nat.le_of_ble_eq_true rfl) ?_
  refine ag_aload_n dd_M_init_137 rfl ?_
  refine ag_bipush dd_M_init_138 (by decide +kernel) ?_
  refine mi_nint (N := 20) (B := 53) (kc' := 23) (ks' := 4325) dd_M_init_140 (by decide) (by decide) (by decide) hA rfl ?_
  refine mi_puta dd_M_init_142 fp_M_67 hA (Nat.le_of_ble_eq_true rfl) ?_
  refine ag_aload_n dd_M_init_145 rfl ?_
  refine ag_bipush dd_M_init_146 (by decide +kernel) ?_
  refine mi_nint (N := 20) (B := 54) (kc' := 22) (ks' := 4305) dd_M_init_148 (by decide) (by decide) (by decide) hA rfl ?_
  refine mi_puta dd_M_init_150 fp_M_70 hA (Nat.le_of_ble_eq_true rfl) ?_
  refine ag_aload_n dd_M_init_153 rfl ?_
  refine ag_bipush dd_M_init_154 (by decide +kernel) ?_
  refine mi_nint (N := 16) (B := 55) (kc' := 21) (ks' := 4289) dd_M_init_156 (by decide) (by decide) (by decide) hA rfl ?_
  refine mi_puta dd_M_init_158 fp_M_73 hA (Nat.le_of_ble_eq_true rfl) ?_
  refine ag_aload_n dd_M_init_161 rfl ?_
  refine ag_bipush dd_M_init_162 (by decide +kernel) ?_
  refine mi_nint (N := 16) (B := 56) (kc' := 20) (ks' := 4273) dd_M_init_164 (by decide) (by decide) (by decide) hA rfl ?_
  refine mi_puta dd_M_init_166 fp_M_76 hA (Nat.le_of_ble_eq_true rfl) ?_
  refine ag_aload_n dd_M_init_169 rfl ?_
  refine ag_bipush dd_M_init_170 (by decide +kernel) ?_
  refine mi_nint (N := 16) (B := 57) (kc' := 19) (ks' := 4257) dd_M_init_172 (by decide) (by decide) (by decide) hA rfl ?_
  refine mi_puta dd_M_init_174 fp_M_79 hA (Nat.le_of_ble_eq_true rfl) ?_
  refine ag_aload_n dd_M_init_177 rfl ?_
  refine ag_bipush dd_M_init_178 (by decide +kernel) ?_
  refine mi_nint (N := 16) (B := 58) (kc' := 18) (ks' := 4241) dd_M_init_180 (by decide) (by decide) (by decide) hA rfl ?_
  refine mi_puta dd_M_init_182 fp_M_82 hA (Nat.le_of_ble_eq_true rfl) ?_
  refine ag_aload_n dd_M_init_185 rfl ?_
  refine ag_bipush dd_M_init_186 (by decide +kernel) ?_
  refine mi_nint (N := 16) (B := 59) (kc' := 17) (ks' := 4225) dd_M_init_188 (by decide) (by decide) (by decide) hA rfl ?_
  refine mi_puta dd_M_init_190 fp_M_85 hA (Nat.le_of_ble_eq_true rfl) ?_
  refine ag_aload_n dd_M_init_193 rfl ?_
  refine ag_bipush dd_M_init_194 (by decide +kernel) ?_
  refine mi_nint (N := 16) (B := 60) (kc' := 16) (ks' := 4209) dd_M_init_196 (by decide) (by decide) (by decide) hA rfl ?_
  refine mi_puta dd_M_init_198 fp_M_88 hA (Nat.le_of_ble_eq_true rfl) ?_
  refine ag_aload_n dd_M_init_201 rfl ?_
  refine ag_bipush dd_M_init_202 (by decide +kernel) ?_
  refine mi_nint (N := 16) (B := 61) (kc' := 15) (ks' := 4193) dd_M_init_204 (by decide) (by decide) (by decide) hA rfl ?_
  refine mi_puta dd_M_init_206 fp_M_91 hA (Nat.le_of_ble_eq_true rfl) ?_
  refine ag_aload_n dd_M_init_209 rfl ?_
  refine ag_bipush dd_M_init_210 (by decide +kernel) ?_
  refine mi_nint (N := 16) (B := 62) (kc' := 14) (ks' := 4177) dd_M_init_212 (by decide) (by decide) (by decide) hA rfl ?_
  refine mi_puta dd_M_init_214 fp_M_94 hA (Nat.le_of_ble_eq_true rfl) ?_
  refine ag_aload_n dd_M_init_217 rfl ?_
  refine ag_bipush dd_M_init_218 (by decide +kernel) ?_
  refine mi_nint (N := 16) (B := 63) (kc' := 13) (ks' := 4161) dd_M_init_220 (by decide) (by decide) (by decide) hA rfl ?_
  refine mi_puta dd_M_init_222 fp_M_97 hA (Nat.le_of_ble_eq_true rfl) ?_
  refine ag_aload_n dd_M_init_225 rfl ?_
  refine ag_bipush dd_M_init_226 (by decide +kernel) ?_
  refine mi_nint (N := 9) (B := 64) (kc' := 12) (ks' := 4152) dd_M_init_228 (by decide) (by decide) (by decide) hA rfl ?_
  refine mi_puta dd_M_init_230 fp_M_100 hA (Nat.le_of_ble_eq_true rfl) ?_
  refine ag_aload_n dd_M_init_233 rfl ?_
  refine ag_sipush dd_M_init_234 (by decide +kernel) ?_
  refine mi_nbyte (N := 3200) (B := 65) (kc' := 11) (ks' := 952) dd_M_init_237 (by decide) (by decide) (by decide) hA rfl ?_
  refine mi_puta dd_M_init_239 fp_M_103 hA (Nat.le_of_ble_eq_true rfl) ?_
  refine ag_aload_n dd_M_init_242 rfl ?_
  refine ag_iconst dd_M_init_243 ?_
  refine mi_puti dd_M_init_244 fp_M_107 hA (Nat.le_of_ble_eq_true rfl) ?_
  refine ag_aload_n dd_M_init_247 rfl ?_
  refine ag_bipush dd_M_init_248 (by decide +kernel) ?_
  refine mi_nint (N := 10) (B := 66) (kc' := 10) (ks' := 942) dd_M_init_250 (by decide) (by decide) (by decide) hA rfl ?_
  refine mi_puta dd_M_init_252 fp_M_110 hA (Nat.le_of_ble_eq_true rfl) ?_
  refine ag_aload_n dd_M_init_255 rfl ?_
  refine ag_bipush dd_M_init_256 (by decide +kernel) ?_
  refine mi_nboolean (N := 10) (B := 67) (kc' := 9) (ks' := 932) dd_M_init_258 (by decide) (by decide) (by decide) hA rfl ?_
  refine mi_puta dd_M_init_260 fp_M_113 hA (Nat.le_of_ble_eq_true rfl) ?_
  refine ag_aload_n dd_M_init_263 rfl ?_
  refine ag_bipush dd_M_init_264 (by decide +kernel) ?_
  refine mi_nint (N := 100) (B := 68) (kc' := 8) (ks' := 832) dd_M_init_266 (by decide) (by decide) (by decide) hA rfl ?_
  refine mi_puta dd_M_init_268 fp_M_116 hA (Nat.le_of_ble_eq_true rfl) ?_
  refine ag_aload_n dd_M_init_271 rfl ?_
  refine ag_sipush dd_M_init_272 (by decide +kernel) ?_
  refine mi_nint (N := 256) (B := 69) (kc' := 7) (ks' := 576) dd_M_init_275 (by decide) (by decide) (by decide) hA rfl ?_
  refine mi_puta dd_M_init_277 fp_M_119 hA (Nat.le_of_ble_eq_true rfl) ?_
  refine ag_aload_n dd_M_init_280 rfl ?_
  refine ag_sipush dd_M_init_281 (by decide +kernel) ?_
  refine mi_nint (N := 256) (B := 70) (kc' := 6) (ks' := 320) dd_M_init_284 (by decide) (by decide) (by decide) hA rfl ?_
  refine mi_puta dd_M_init_286 fp_M_122 hA (Nat.le_of_ble_eq_true rfl) ?_
  refine ag_aload_n dd_M_init_289 rfl ?_
  refine ag_iconst dd_M_init_290 ?_
  refine mi_puti dd_M_init_291 fp_M_125 hA (Nat.le_of_ble_eq_true rfl) ?_
  refine ag_aload_n dd_M_init_294 rfl ?_
  refine ag_iconst dd_M_init_295 ?_
  refine mi_puti dd_M_init_296 fp_M_128 hA (Nat.le_of_ble_eq_true rfl) ?_
  refine ag_aload_n dd_M_init_299 rfl ?_
  refine ag_sipush dd_M_init_300 (by decide +kernel) ?_
  refine mi_nint (N := 128) (B := 71) (kc' := 5) (ks' := 192) dd_M_init_303 (by decide) (by decide) (by decide) hA rfl ?_
  refine mi_puta dd_M_init_305 fp_M_131 hA (Nat.le_of_ble_eq_true rfl) ?_
  refine ag_aload_n dd_M_init_308 rfl ?_
  refine ag_sipush dd_M_init_309 (by decide +kernel) ?_
  refine mi_nlong (N := 128) (B := 72) (kc' := 4) (ks' := 64) dd_M_init_312 (by decide) (by decide) (by decide) hA rfl ?_
  refine mi_puta dd_M_init_314 fp_M_134 hA (Nat.le_of_ble_eq_true rfl) ?_
  refine ag_aload_n dd_M_init_317 rfl ?_
  refine ag_bipush dd_M_init_318 (by decide +kernel) ?_
  refine mi_nint (N := 16) (B := 73) (kc' := 3) (ks' := 48) dd_M_init_320 (by decide) (by decide) (by decide) hA rfl ?_
  refine mi_puta dd_M_init_322 fp_M_137 hA (Nat.le_of_ble_eq_true rfl) ?_
  refine ag_aload_n dd_M_init_325 rfl ?_
  refine ag_bipush dd_M_init_326 (by decide +kernel) ?_
  refine mi_nint (N := 16) (B := 74) (kc' := 2) (ks' := 32) dd_M_init_328 (by decide) (by decide) (by decide) hA rfl ?_
  refine mi_puta dd_M_init_330 fp_M_140 hA (Nat.le_of_ble_eq_true rfl) ?_
  refine ag_aload_n dd_M_init_333 rfl ?_
  refine ag_bipush dd_M_init_334 (by decide +kernel) ?_
  refine mi_nint (N := 16) (B := 75) (kc' := 1) (ks' := 16) dd_M_init_336 (by decide) (by decide) (by decide) hA rfl ?_
  refine mi_puta dd_M_init_338 fp_M_143 hA (Nat.le_of_ble_eq_true rfl) ?_
  refine ag_aload_n dd_M_init_341 rfl ?_
  refine ag_bipush dd_M_init_342 (by decide +kernel) ?_
  refine mi_nint (N := 16) (B := 76) (kc' := 0) (ks' := 0) dd_M_init_344 (by decide) (by decide) (by decide) hA rfl ?_
  refine mi_puta dd_M_init_346 fp_M_146 hA (Nat.le_of_ble_eq_true rfl) ?_
  refine ag_aload_n dd_M_init_349 rfl ?_
  refine ag_iconst dd_M_init_350 ?_
  refine mi_puti dd_M_init_351 fp_M_149 hA (Nat.le_of_ble_eq_true rfl) ?_
  refine ag_aload_n dd_M_init_354 rfl ?_
  refine mi_get dd_M_init_355 fg_M_119 hA rfl ?_
  refine ag_iconst dd_M_init_358 ?_
  refine ag_iconst dd_M_init_359 ?_
  refine mi_iast (j := 30) dd_M_init_360 hA rfl (by decide) (by decide) ?_
  refine ag_aload_n dd_M_init_361 rfl ?_
  refine mi_get dd_M_init_362 fg_M_122 hA rfl ?_
  refine ag_iconst dd_M_init_365 ?_
  refine ag_iconst dd_M_init_366 ?_
  refine mi_iast (j := 31) dd_M_init_367 hA rfl (by decide) (by decide) ?_
  refine ag_aload_n dd_M_init_368 rfl ?_
  refine mi_get dd_M_init_369 fg_M_119 hA rfl ?_
  refine ag_iconst dd_M_init_372 ?_
  refine ag_iconst dd_M_init_373 ?_
  refine mi_iast (j := 30) dd_M_init_374 hA rfl (by decide) (by decide) ?_
  refine ag_aload_n dd_M_init_375 rfl ?_
  refine mi_get dd_M_init_376 fg_M_119 hA rfl ?_
  refine ag_iconst dd_M_init_379 ?_
  refine ag_iconst dd_M_init_380 ?_
  refine mi_iast (j := 30) dd_M_init_381 hA rfl (by decide) (by decide) ?_
  refine ag_vret dd_M_init_382 rfl ?_
  refine ⟨rfl, ?_⟩
  show _ = hb ++ mh_0
  rfl
