-- ===== the model's picture: its int fields by their slots, its arrays by their addresses =====
abbrev ms_T : Type := (Nat → Int) × (Nat → Nat → Int)
def mo_fs (S : ms_T) : List av_T := [av_i (S.1 0), av_i (S.1 1), av_i (S.1 2), av_i (S.1 3), av_i (S.1 4), av_i (S.1 5), av_i (S.1 6), av_i (S.1 7), av_r 39, av_r 40, av_r 41, av_r 42, av_r 43, av_r 44, av_r 45, av_r 46, av_r 47, av_r 48, av_r 49, av_r 50, av_r 51, av_i (S.1 21), av_r 52, av_r 53, av_r 54, av_r 55, av_r 56, av_r 57, av_r 58, av_r 59, av_r 60, av_r 61, av_r 62, av_r 63, av_r 64, av_r 65, av_i (S.1 36), av_i (S.1 37), av_i (S.1 38), av_i (S.1 39), av_r 66, av_r 67, av_r 68, av_i (S.1 43), av_i (S.1 44), av_r 69, av_r 70, av_i (S.1 47), av_i (S.1 48), av_i (S.1 49), av_i (S.1 50), av_i (S.1 51), av_i (S.1 52), av_i (S.1 53), av_i (S.1 54), av_i (S.1 55), av_r 71, av_i (S.1 57), av_r 72, av_r 73, av_r 74, av_r 75, av_r 76, av_i (S.1 63)]
def mo_c (S : ms_T) : Nat → ac_T := fun k => match k with
  | 0 => ac_o 11 (mo_fs S)
  | 1 => ac_l 10 (S.2 39)
  | 2 => ac_a 0 16 (S.2 40)
  | 3 => ac_a 0 16 (S.2 41)
  | 4 => ac_a 0 16 (S.2 42)
  | 5 => ac_a 0 16 (S.2 43)
  | 6 => ac_a 0 16 (S.2 44)
  | 7 => ac_a 0 16 (S.2 45)
  | 8 => ac_a 0 16 (S.2 46)
  | 9 => ac_a 0 16 (S.2 47)
  | 10 => ac_a 0 16 (S.2 48)
  | 11 => ac_a 0 16 (S.2 49)
  | 12 => ac_a 0 16 (S.2 50)
  | 13 => ac_a 0 16 (S.2 51)
  | 14 => ac_a 2 20 (S.2 52)
  | 15 => ac_a 0 20 (S.2 53)
  | 16 => ac_a 0 20 (S.2 54)
  | 17 => ac_a 0 16 (S.2 55)
  | 18 => ac_a 0 16 (S.2 56)
  | 19 => ac_a 0 16 (S.2 57)
  | 20 => ac_a 0 16 (S.2 58)
  | 21 => ac_a 0 16 (S.2 59)
  | 22 => ac_a 0 16 (S.2 60)
  | 23 => ac_a 0 16 (S.2 61)
  | 24 => ac_a 0 16 (S.2 62)
  | 25 => ac_a 0 16 (S.2 63)
  | 26 => ac_a 0 9 (S.2 64)
  | 27 => ac_a 1 3200 (S.2 65)
  | 28 => ac_a 0 10 (S.2 66)
  | 29 => ac_a 2 10 (S.2 67)
  | 30 => ac_a 0 100 (S.2 68)
  | 31 => ac_a 0 256 (S.2 69)
  | 32 => ac_a 0 256 (S.2 70)
  | 33 => ac_a 0 128 (S.2 71)
  | 34 => ac_l 128 (S.2 72)
  | 35 => ac_a 0 16 (S.2 73)
  | 36 => ac_a 0 16 (S.2 74)
  | 37 => ac_a 0 16 (S.2 75)
  | _ => ac_a 0 16 (S.2 76)
/-- the cell of the array 'values' (72) holds anything: no answer rests on it from call to call -/
def mo_R (h : ah_T) (S : ms_T) : Prop := (∀ k, k < 39 → k ≠ 34 → h[38 + k]? = some (mo_c S k)) ∧ ∃ g, h[72]? = some (ac_l 128 g)
/-- outside the model's cells nothing has changed since h0 -/
def mo_F (h0 h : ah_T) : Prop := h.length = h0.length ∧ ∀ k, (k < 38 ∨ 77 ≤ k) → h[k]? = h0[k]?
def mo_I (h0 h : ah_T) (S : ms_T) : Prop := mo_R h S ∧ mo_F h0 h
theorem mo_F.rf (h : ah_T) : mo_F h h := ⟨rfl, fun _ _ => rfl⟩
theorem mo_F.tr {a b c : ah_T} (h1 : mo_F a b) (h2 : mo_F b c) : mo_F a c := ⟨h2.1.trans h1.1, fun k hk => (h2.2 k hk).trans (h1.2 k hk)⟩
theorem mo_set {h0 h : ah_T} {S S' : ms_T} {k : Nat} {c : ac_T} (hM : mo_I h0 h S) (hk : k < 39) (hkv : k ≠ 34) (hc : c = mo_c S' k) (hne : ∀ j, j ≠ k → j < 39 → mo_c S' j = mo_c S j) : mo_I h0 (h.set (38 + k) c) S' := by
  refine ⟨⟨fun j hj hj2 => ?_, ?_⟩, by rw [List.length_set]; exact hM.2.1, fun j hj => ?_⟩
  · by_cases e : j = k
    · subst e
      have hl : 38 + j < h.length := (List.getElem?_eq_some_iff.mp (hM.1.1 j hj hj2)).1
      rw [List.getElem?_set_self hl, hc]
    · rw [List.getElem?_set_ne (by omega), hne j e hj]
      exact hM.1.1 j hj hj2
  · obtain ⟨g, hg⟩ := hM.1.2
    exact ⟨g, by rw [List.getElem?_set_ne (by omega)]; exact hg⟩
  · rw [List.getElem?_set_ne (by omega)]
    exact hM.2.2 j hj
theorem mr_38 {h0 h : ah_T} {S : ms_T} (hM : mo_I h0 h S) : h[38]? = some (ac_o 11 (mo_fs S)) := hM.1.1 0 (by decide) (by decide)
theorem mr_39 {h0 h : ah_T} {S : ms_T} (hM : mo_I h0 h S) : h[39]? = some (ac_l 10 (S.2 39)) := hM.1.1 1 (by decide) (by decide)
theorem mr_40 {h0 h : ah_T} {S : ms_T} (hM : mo_I h0 h S) : h[40]? = some (ac_a 0 16 (S.2 40)) := hM.1.1 2 (by decide) (by decide)
theorem mr_41 {h0 h : ah_T} {S : ms_T} (hM : mo_I h0 h S) : h[41]? = some (ac_a 0 16 (S.2 41)) := hM.1.1 3 (by decide) (by decide)
theorem mr_42 {h0 h : ah_T} {S : ms_T} (hM : mo_I h0 h S) : h[42]? = some (ac_a 0 16 (S.2 42)) := hM.1.1 4 (by decide) (by decide)
theorem mr_43 {h0 h : ah_T} {S : ms_T} (hM : mo_I h0 h S) : h[43]? = some (ac_a 0 16 (S.2 43)) := hM.1.1 5 (by decide) (by decide)
theorem mr_44 {h0 h : ah_T} {S : ms_T} (hM : mo_I h0 h S) : h[44]? = some (ac_a 0 16 (S.2 44)) := hM.1.1 6 (by decide) (by decide)
theorem mr_45 {h0 h : ah_T} {S : ms_T} (hM : mo_I h0 h S) : h[45]? = some (ac_a 0 16 (S.2 45)) := hM.1.1 7 (by decide) (by decide)
theorem mr_46 {h0 h : ah_T} {S : ms_T} (hM : mo_I h0 h S) : h[46]? = some (ac_a 0 16 (S.2 46)) := hM.1.1 8 (by decide) (by decide)
theorem mr_47 {h0 h : ah_T} {S : ms_T} (hM : mo_I h0 h S) : h[47]? = some (ac_a 0 16 (S.2 47)) := hM.1.1 9 (by decide) (by decide)
theorem mr_48 {h0 h : ah_T} {S : ms_T} (hM : mo_I h0 h S) : h[48]? = some (ac_a 0 16 (S.2 48)) := hM.1.1 10 (by decide) (by decide)
theorem mr_49 {h0 h : ah_T} {S : ms_T} (hM : mo_I h0 h S) : h[49]? = some (ac_a 0 16 (S.2 49)) := hM.1.1 11 (by decide) (by decide)
theorem mr_50 {h0 h : ah_T} {S : ms_T} (hM : mo_I h0 h S) : h[50]? = some (ac_a 0 16 (S.2 50)) := hM.1.1 12 (by decide) (by decide)
theorem mr_51 {h0 h : ah_T} {S : ms_T} (hM : mo_I h0 h S) : h[51]? = some (ac_a 0 16 (S.2 51)) := hM.1.1 13 (by decide) (by decide)
theorem mr_52 {h0 h : ah_T} {S : ms_T} (hM : mo_I h0 h S) : h[52]? = some (ac_a 2 20 (S.2 52)) := hM.1.1 14 (by decide) (by decide)
theorem mr_53 {h0 h : ah_T} {S : ms_T} (hM : mo_I h0 h S) : h[53]? = some (ac_a 0 20 (S.2 53)) := hM.1.1 15 (by decide) (by decide)
theorem mr_54 {h0 h : ah_T} {S : ms_T} (hM : mo_I h0 h S) : h[54]? = some (ac_a 0 20 (S.2 54)) := hM.1.1 16 (by decide) (by decide)
theorem mr_55 {h0 h : ah_T} {S : ms_T} (hM : mo_I h0 h S) : h[55]? = some (ac_a 0 16 (S.2 55)) := hM.1.1 17 (by decide) (by decide)
theorem mr_56 {h0 h : ah_T} {S : ms_T} (hM : mo_I h0 h S) : h[56]? = some (ac_a 0 16 (S.2 56)) := hM.1.1 18 (by decide) (by decide)
theorem mr_57 {h0 h : ah_T} {S : ms_T} (hM : mo_I h0 h S) : h[57]? = some (ac_a 0 16 (S.2 57)) := hM.1.1 19 (by decide) (by decide)
theorem mr_58 {h0 h : ah_T} {S : ms_T} (hM : mo_I h0 h S) : h[58]? = some (ac_a 0 16 (S.2 58)) := hM.1.1 20 (by decide) (by decide)
theorem mr_59 {h0 h : ah_T} {S : ms_T} (hM : mo_I h0 h S) : h[59]? = some (ac_a 0 16 (S.2 59)) := hM.1.1 21 (by decide) (by decide)
theorem mr_60 {h0 h : ah_T} {S : ms_T} (hM : mo_I h0 h S) : h[60]? = some (ac_a 0 16 (S.2 60)) := hM.1.1 22 (by decide) (by decide)
theorem mr_61 {h0 h : ah_T} {S : ms_T} (hM : mo_I h0 h S) : h[61]? = some (ac_a 0 16 (S.2 61)) := hM.1.1 23 (by decide) (by decide)
theorem mr_62 {h0 h : ah_T} {S : ms_T} (hM : mo_I h0 h S) : h[62]? = some (ac_a 0 16 (S.2 62)) := hM.1.1 24 (by decide) (by decide)
theorem mr_63 {h0 h : ah_T} {S : ms_T} (hM : mo_I h0 h S) : h[63]? = some (ac_a 0 16 (S.2 63)) := hM.1.1 25 (by decide) (by decide)
theorem mr_64 {h0 h : ah_T} {S : ms_T} (hM : mo_I h0 h S) : h[64]? = some (ac_a 0 9 (S.2 64)) := hM.1.1 26 (by decide) (by decide)
theorem mr_65 {h0 h : ah_T} {S : ms_T} (hM : mo_I h0 h S) : h[65]? = some (ac_a 1 3200 (S.2 65)) := hM.1.1 27 (by decide) (by decide)
theorem mr_66 {h0 h : ah_T} {S : ms_T} (hM : mo_I h0 h S) : h[66]? = some (ac_a 0 10 (S.2 66)) := hM.1.1 28 (by decide) (by decide)
theorem mr_67 {h0 h : ah_T} {S : ms_T} (hM : mo_I h0 h S) : h[67]? = some (ac_a 2 10 (S.2 67)) := hM.1.1 29 (by decide) (by decide)
theorem mr_68 {h0 h : ah_T} {S : ms_T} (hM : mo_I h0 h S) : h[68]? = some (ac_a 0 100 (S.2 68)) := hM.1.1 30 (by decide) (by decide)
theorem mr_69 {h0 h : ah_T} {S : ms_T} (hM : mo_I h0 h S) : h[69]? = some (ac_a 0 256 (S.2 69)) := hM.1.1 31 (by decide) (by decide)
theorem mr_70 {h0 h : ah_T} {S : ms_T} (hM : mo_I h0 h S) : h[70]? = some (ac_a 0 256 (S.2 70)) := hM.1.1 32 (by decide) (by decide)
theorem mr_71 {h0 h : ah_T} {S : ms_T} (hM : mo_I h0 h S) : h[71]? = some (ac_a 0 128 (S.2 71)) := hM.1.1 33 (by decide) (by decide)
theorem mr_73 {h0 h : ah_T} {S : ms_T} (hM : mo_I h0 h S) : h[73]? = some (ac_a 0 16 (S.2 73)) := hM.1.1 35 (by decide) (by decide)
theorem mr_74 {h0 h : ah_T} {S : ms_T} (hM : mo_I h0 h S) : h[74]? = some (ac_a 0 16 (S.2 74)) := hM.1.1 36 (by decide) (by decide)
theorem mr_75 {h0 h : ah_T} {S : ms_T} (hM : mo_I h0 h S) : h[75]? = some (ac_a 0 16 (S.2 75)) := hM.1.1 37 (by decide) (by decide)
theorem mr_76 {h0 h : ah_T} {S : ms_T} (hM : mo_I h0 h S) : h[76]? = some (ac_a 0 16 (S.2 76)) := hM.1.1 38 (by decide) (by decide)
theorem mo_setV {h0 h : ah_T} {S : ms_T} {g : Nat → Int} (hM : mo_I h0 h S) : mo_I h0 (h.set 72 (ac_l 128 g)) S := by
  refine ⟨⟨fun j hj hj2 => ?_, g, ?_⟩, by rw [List.length_set]; exact hM.2.1, fun j hj => ?_⟩
  · rw [List.getElem?_set_ne (by omega)]
    exact hM.1.1 j hj hj2
  · obtain ⟨g0, hg⟩ := hM.1.2
    rw [List.getElem?_set_self (List.getElem?_eq_some_iff.mp hg).1]
  · rw [List.getElem?_set_ne (by omega)]
    exact hM.2.2 j hj
theorem mo_ne0 {S : ms_T} {f : Nat → Int} : ∀ j, j ≠ 0 → j < 39 → mo_c (f, S.2) j = mo_c S j
  | 0, hj => absurd rfl hj
  | 1, _ => fun _ => rfl
  | 2, _ => fun _ => rfl
  | 3, _ => fun _ => rfl
  | 4, _ => fun _ => rfl
  | 5, _ => fun _ => rfl
  | 6, _ => fun _ => rfl
  | 7, _ => fun _ => rfl
  | 8, _ => fun _ => rfl
  | 9, _ => fun _ => rfl
  | 10, _ => fun _ => rfl
  | 11, _ => fun _ => rfl
  | 12, _ => fun _ => rfl
  | 13, _ => fun _ => rfl
  | 14, _ => fun _ => rfl
  | 15, _ => fun _ => rfl
  | 16, _ => fun _ => rfl
  | 17, _ => fun _ => rfl
  | 18, _ => fun _ => rfl
  | 19, _ => fun _ => rfl
  | 20, _ => fun _ => rfl
  | 21, _ => fun _ => rfl
  | 22, _ => fun _ => rfl
  | 23, _ => fun _ => rfl
  | 24, _ => fun _ => rfl
  | 25, _ => fun _ => rfl
  | 26, _ => fun _ => rfl
  | 27, _ => fun _ => rfl
  | 28, _ => fun _ => rfl
  | 29, _ => fun _ => rfl
  | 30, _ => fun _ => rfl
  | 31, _ => fun _ => rfl
  | 32, _ => fun _ => rfl
  | 33, _ => fun _ => rfl
  | 34, _ => fun _ => rfl
  | 35, _ => fun _ => rfl
  | 36, _ => fun _ => rfl
  | 37, _ => fun _ => rfl
  | 38, _ => fun _ => rfl
  | _ + 39, _ => fun h => absurd h (by omega)
theorem mo_ne39 {S : ms_T} {g : Nat → Int} : ∀ j, j ≠ 1 → j < 39 → mo_c (S.1, ai_up S.2 39 g) j = mo_c S j
  | 0, _ => fun _ => rfl
  | 1, hj => absurd rfl hj
  | 2, _ => fun _ => rfl
  | 3, _ => fun _ => rfl
  | 4, _ => fun _ => rfl
  | 5, _ => fun _ => rfl
  | 6, _ => fun _ => rfl
  | 7, _ => fun _ => rfl
  | 8, _ => fun _ => rfl
  | 9, _ => fun _ => rfl
  | 10, _ => fun _ => rfl
  | 11, _ => fun _ => rfl
  | 12, _ => fun _ => rfl
  | 13, _ => fun _ => rfl
  | 14, _ => fun _ => rfl
  | 15, _ => fun _ => rfl
  | 16, _ => fun _ => rfl
  | 17, _ => fun _ => rfl
  | 18, _ => fun _ => rfl
  | 19, _ => fun _ => rfl
  | 20, _ => fun _ => rfl
  | 21, _ => fun _ => rfl
  | 22, _ => fun _ => rfl
  | 23, _ => fun _ => rfl
  | 24, _ => fun _ => rfl
  | 25, _ => fun _ => rfl
  | 26, _ => fun _ => rfl
  | 27, _ => fun _ => rfl
  | 28, _ => fun _ => rfl
  | 29, _ => fun _ => rfl
  | 30, _ => fun _ => rfl
  | 31, _ => fun _ => rfl
  | 32, _ => fun _ => rfl
  | 33, _ => fun _ => rfl
  | 34, _ => fun _ => rfl
  | 35, _ => fun _ => rfl
  | 36, _ => fun _ => rfl
  | 37, _ => fun _ => rfl
  | 38, _ => fun _ => rfl
  | _ + 39, _ => fun h => absurd h (by omega)
theorem mo_ne40 {S : ms_T} {g : Nat → Int} : ∀ j, j ≠ 2 → j < 39 → mo_c (S.1, ai_up S.2 40 g) j = mo_c S j
  | 0, _ => fun _ => rfl
  | 1, _ => fun _ => rfl
  | 2, hj => absurd rfl hj
  | 3, _ => fun _ => rfl
  | 4, _ => fun _ => rfl
  | 5, _ => fun _ => rfl
  | 6, _ => fun _ => rfl
  | 7, _ => fun _ => rfl
  | 8, _ => fun _ => rfl
  | 9, _ => fun _ => rfl
  | 10, _ => fun _ => rfl
  | 11, _ => fun _ => rfl
  | 12, _ => fun _ => rfl
  | 13, _ => fun _ => rfl
  | 14, _ => fun _ => rfl
  | 15, _ => fun _ => rfl
  | 16, _ => fun _ => rfl
  | 17, _ => fun _ => rfl
  | 18, _ => fun _ => rfl
  | 19, _ => fun _ => rfl
  | 20, _ => fun _ => rfl
  | 21, _ => fun _ => rfl
  | 22, _ => fun _ => rfl
  | 23, _ => fun _ => rfl
  | 24, _ => fun _ => rfl
  | 25, _ => fun _ => rfl
  | 26, _ => fun _ => rfl
  | 27, _ => fun _ => rfl
  | 28, _ => fun _ => rfl
  | 29, _ => fun _ => rfl
  | 30, _ => fun _ => rfl
  | 31, _ => fun _ => rfl
  | 32, _ => fun _ => rfl
  | 33, _ => fun _ => rfl
  | 34, _ => fun _ => rfl
  | 35, _ => fun _ => rfl
  | 36, _ => fun _ => rfl
  | 37, _ => fun _ => rfl
  | 38, _ => fun _ => rfl
  | _ + 39, _ => fun h => absurd h (by omega)
theorem mo_ne41 {S : ms_T} {g : Nat → Int} : ∀ j, j ≠ 3 → j < 39 → mo_c (S.1, ai_up S.2 41 g) j = mo_c S j
  | 0, _ => fun _ => rfl
  | 1, _ => fun _ => rfl
  | 2, _ => fun _ => rfl
  | 3, hj => absurd rfl hj
  | 4, _ => fun _ => rfl
  | 5, _ => fun _ => rfl
  | 6, _ => fun _ => rfl
  | 7, _ => fun _ => rfl
  | 8, _ => fun _ => rfl
  | 9, _ => fun _ => rfl
  | 10, _ => fun _ => rfl
  | 11, _ => fun _ => rfl
  | 12, _ => fun _ => rfl
  | 13, _ => fun _ => rfl
  | 14, _ => fun _ => rfl
  | 15, _ => fun _ => rfl
  | 16, _ => fun _ => rfl
  | 17, _ => fun _ => rfl
  | 18, _ => fun _ => rfl
  | 19, _ => fun _ => rfl
  | 20, _ => fun _ => rfl
  | 21, _ => fun _ => rfl
  | 22, _ => fun _ => rfl
  | 23, _ => fun _ => rfl
  | 24, _ => fun _ => rfl
  | 25, _ => fun _ => rfl
  | 26, _ => fun _ => rfl
  | 27, _ => fun _ => rfl
  | 28, _ => fun _ => rfl
  | 29, _ => fun _ => rfl
  | 30, _ => fun _ => rfl
  | 31, _ => fun _ => rfl
  | 32, _ => fun _ => rfl
  | 33, _ => fun _ => rfl
  | 34, _ => fun _ => rfl
  | 35, _ => fun _ => rfl
  | 36, _ => fun _ => rfl
  | 37, _ => fun _ => rfl
  | 38, _ => fun _ => rfl
  | _ + 39, _ => fun h => absurd h (by omega)
theorem mo_ne42 {S : ms_T} {g : Nat → Int} : ∀ j, j ≠ 4 → j < 39 → mo_c (S.1, ai_up S.2 42 g) j = mo_c S j
  | 0, _ => fun _ => rfl
  | 1, _ => fun _ => rfl
  | 2, _ => fun _ => rfl
  | 3, _ => fun _ => rfl
  | 4, hj => absurd rfl hj
  | 5, _ => fun _ => rfl
  | 6, _ => fun _ => rfl
  | 7, _ => fun _ => rfl
  | 8, _ => fun _ => rfl
  | 9, _ => fun _ => rfl
  | 10, _ => fun _ => rfl
  | 11, _ => fun _ => rfl
  | 12, _ => fun _ => rfl
  | 13, _ => fun _ => rfl
  | 14, _ => fun _ => rfl
  | 15, _ => fun _ => rfl
  | 16, _ => fun _ => rfl
  | 17, _ => fun _ => rfl
  | 18, _ => fun _ => rfl
  | 19, _ => fun _ => rfl
  | 20, _ => fun _ => rfl
  | 21, _ => fun _ => rfl
  | 22, _ => fun _ => rfl
  | 23, _ => fun _ => rfl
  | 24, _ => fun _ => rfl
  | 25, _ => fun _ => rfl
  | 26, _ => fun _ => rfl
  | 27, _ => fun _ => rfl
  | 28, _ => fun _ => rfl
  | 29, _ => fun _ => rfl
  | 30, _ => fun _ => rfl
  | 31, _ => fun _ => rfl
  | 32, _ => fun _ => rfl
  | 33, _ => fun _ => rfl
  | 34, _ => fun _ => rfl
  | 35, _ => fun _ => rfl
  | 36, _ => fun _ => rfl
  | 37, _ => fun _ => rfl
  | 38, _ => fun _ => rfl
  | _ + 39, _ => fun h => absurd h (by omega)
theorem mo_ne43 {S : ms_T} {g : Nat → Int} : ∀ j, j ≠ 5 → j < 39 → mo_c (S.1, ai_up S.2 43 g) j = mo_c S j
  | 0, _ => fun _ => rfl
  | 1, _ => fun _ => rfl
  | 2, _ => fun _ => rfl
  | 3, _ => fun _ => rfl
  | 4, _ => fun _ => rfl
  | 5, hj => absurd rfl hj
  | 6, _ => fun _ => rfl
  | 7, _ => fun _ => rfl
  | 8, _ => fun _ => rfl
  | 9, _ => fun _ => rfl
  | 10, _ => fun _ => rfl
  | 11, _ => fun _ => rfl
  | 12, _ => fun _ => rfl
  | 13, _ => fun _ => rfl
  | 14, _ => fun _ => rfl
  | 15, _ => fun _ => rfl
  | 16, _ => fun _ => rfl
  | 17, _ => fun _ => rfl
  | 18, _ => fun _ => rfl
  | 19, _ => fun _ => rfl
  | 20, _ => fun _ => rfl
  | 21, _ => fun _ => rfl
  | 22, _ => fun _ => rfl
  | 23, _ => fun _ => rfl
  | 24, _ => fun _ => rfl
  | 25, _ => fun _ => rfl
  | 26, _ => fun _ => rfl
  | 27, _ => fun _ => rfl
  | 28, _ => fun _ => rfl
  | 29, _ => fun _ => rfl
  | 30, _ => fun _ => rfl
  | 31, _ => fun _ => rfl
  | 32, _ => fun _ => rfl
  | 33, _ => fun _ => rfl
  | 34, _ => fun _ => rfl
  | 35, _ => fun _ => rfl
  | 36, _ => fun _ => rfl
  | 37, _ => fun _ => rfl
  | 38, _ => fun _ => rfl
  | _ + 39, _ => fun h => absurd h (by omega)
theorem mo_ne44 {S : ms_T} {g : Nat → Int} : ∀ j, j ≠ 6 → j < 39 → mo_c (S.1, ai_up S.2 44 g) j = mo_c S j
  | 0, _ => fun _ => rfl
  | 1, _ => fun _ => rfl
  | 2, _ => fun _ => rfl
  | 3, _ => fun _ => rfl
  | 4, _ => fun _ => rfl
  | 5, _ => fun _ => rfl
  | 6, hj => absurd rfl hj
  | 7, _ => fun _ => rfl
  | 8, _ => fun _ => rfl
  | 9, _ => fun _ => rfl
  | 10, _ => fun _ => rfl
  | 11, _ => fun _ => rfl
  | 12, _ => fun _ => rfl
  | 13, _ => fun _ => rfl
  | 14, _ => fun _ => rfl
  | 15, _ => fun _ => rfl
  | 16, _ => fun _ => rfl
  | 17, _ => fun _ => rfl
  | 18, _ => fun _ => rfl
  | 19, _ => fun _ => rfl
  | 20, _ => fun _ => rfl
  | 21, _ => fun _ => rfl
  | 22, _ => fun _ => rfl
  | 23, _ => fun _ => rfl
  | 24, _ => fun _ => rfl
  | 25, _ => fun _ => rfl
  | 26, _ => fun _ => rfl
  | 27, _ => fun _ => rfl
  | 28, _ => fun _ => rfl
  | 29, _ => fun _ => rfl
  | 30, _ => fun _ => rfl
  | 31, _ => fun _ => rfl
  | 32, _ => fun _ => rfl
  | 33, _ => fun _ => rfl
  | 34, _ => fun _ => rfl
  | 35, _ => fun _ => rfl
  | 36, _ => fun _ => rfl
  | 37, _ => fun _ => rfl
  | 38, _ => fun _ => rfl
  | _ + 39, _ => fun h => absurd h (by omega)
theorem mo_ne45 {S : ms_T} {g : Nat → Int} : ∀ j, j ≠ 7 → j < 39 → mo_c (S.1, ai_up S.2 45 g) j = mo_c S j
  | 0, _ => fun _ => rfl
  | 1, _ => fun _ => rfl
  | 2, _ => fun _ => rfl
  | 3, _ => fun _ => rfl
  | 4, _ => fun _ => rfl
  | 5, _ => fun _ => rfl
  | 6, _ => fun _ => rfl
  | 7, hj => absurd rfl hj
  | 8, _ => fun _ => rfl
  | 9, _ => fun _ => rfl
  | 10, _ => fun _ => rfl
  | 11, _ => fun _ => rfl
  | 12, _ => fun _ => rfl
  | 13, _ => fun _ => rfl
  | 14, _ => fun _ => rfl
  | 15, _ => fun _ => rfl
  | 16, _ => fun _ => rfl
  | 17, _ => fun _ => rfl
  | 18, _ => fun _ => rfl
  | 19, _ => fun _ => rfl
  | 20, _ => fun _ => rfl
  | 21, _ => fun _ => rfl
  | 22, _ => fun _ => rfl
  | 23, _ => fun _ => rfl
  | 24, _ => fun _ => rfl
  | 25, _ => fun _ => rfl
  | 26, _ => fun _ => rfl
  | 27, _ => fun _ => rfl
  | 28, _ => fun _ => rfl
  | 29, _ => fun _ => rfl
  | 30, _ => fun _ => rfl
  | 31, _ => fun _ => rfl
  | 32, _ => fun _ => rfl
  | 33, _ => fun _ => rfl
  | 34, _ => fun _ => rfl
  | 35, _ => fun _ => rfl
  | 36, _ => fun _ => rfl
  | 37, _ => fun _ => rfl
  | 38, _ => fun _ => rfl
  | _ + 39, _ => fun h => absurd h (by omega)
theorem mo_ne46 {S : ms_T} {g : Nat → Int} : ∀ j, j ≠ 8 → j < 39 → mo_c (S.1, ai_up S.2 46 g) j = mo_c S j
  | 0, _ => fun _ => rfl
  | 1, _ => fun _ => rfl
  | 2, _ => fun _ => rfl
  | 3, _ => fun _ => rfl
  | 4, _ => fun _ => rfl
  | 5, _ => fun _ => rfl
  | 6, _ => fun _ => rfl
  | 7, _ => fun _ => rfl
  | 8, hj => absurd rfl hj
  | 9, _ => fun _ => rfl
  | 10, _ => fun _ => rfl
  | 11, _ => fun _ => rfl
  | 12, _ => fun _ => rfl
  | 13, _ => fun _ => rfl
  | 14, _ => fun _ => rfl
  | 15, _ => fun _ => rfl
  | 16, _ => fun _ => rfl
  | 17, _ => fun _ => rfl
  | 18, _ => fun _ => rfl
  | 19, _ => fun _ => rfl
  | 20, _ => fun _ => rfl
  | 21, _ => fun _ => rfl
  | 22, _ => fun _ => rfl
  | 23, _ => fun _ => rfl
  | 24, _ => fun _ => rfl
  | 25, _ => fun _ => rfl
  | 26, _ => fun _ => rfl
  | 27, _ => fun _ => rfl
  | 28, _ => fun _ => rfl
  | 29, _ => fun _ => rfl
  | 30, _ => fun _ => rfl
  | 31, _ => fun _ => rfl
  | 32, _ => fun _ => rfl
  | 33, _ => fun _ => rfl
  | 34, _ => fun _ => rfl
  | 35, _ => fun _ => rfl
  | 36, _ => fun _ => rfl
  | 37, _ => fun _ => rfl
  | 38, _ => fun _ => rfl
  | _ + 39, _ => fun h => absurd h (by omega)
theorem mo_ne47 {S : ms_T} {g : Nat → Int} : ∀ j, j ≠ 9 → j < 39 → mo_c (S.1, ai_up S.2 47 g) j = mo_c S j
  | 0, _ => fun _ => rfl
  | 1, _ => fun _ => rfl
  | 2, _ => fun _ => rfl
  | 3, _ => fun _ => rfl
  | 4, _ => fun _ => rfl
  | 5, _ => fun _ => rfl
  | 6, _ => fun _ => rfl
  | 7, _ => fun _ => rfl
  | 8, _ => fun _ => rfl
  | 9, hj => absurd rfl hj
  | 10, _ => fun _ => rfl
  | 11, _ => fun _ => rfl
  | 12, _ => fun _ => rfl
  | 13, _ => fun _ => rfl
  | 14, _ => fun _ => rfl
  | 15, _ => fun _ => rfl
  | 16, _ => fun _ => rfl
  | 17, _ => fun _ => rfl
  | 18, _ => fun _ => rfl
  | 19, _ => fun _ => rfl
  | 20, _ => fun _ => rfl
  | 21, _ => fun _ => rfl
  | 22, _ => fun _ => rfl
  | 23, _ => fun _ => rfl
  | 24, _ => fun _ => rfl
  | 25, _ => fun _ => rfl
  | 26, _ => fun _ => rfl
  | 27, _ => fun _ => rfl
  | 28, _ => fun _ => rfl
  | 29, _ => fun _ => rfl
  | 30, _ => fun _ => rfl
  | 31, _ => fun _ => rfl
  | 32, _ => fun _ => rfl
  | 33, _ => fun _ => rfl
  | 34, _ => fun _ => rfl
  | 35, _ => fun _ => rfl
  | 36, _ => fun _ => rfl
  | 37, _ => fun _ => rfl
  | 38, _ => fun _ => rfl
  | _ + 39, _ => fun h => absurd h (by omega)
theorem mo_ne48 {S : ms_T} {g : Nat → Int} : ∀ j, j ≠ 10 → j < 39 → mo_c (S.1, ai_up S.2 48 g) j = mo_c S j
  | 0, _ => fun _ => rfl
  | 1, _ => fun _ => rfl
  | 2, _ => fun _ => rfl
  | 3, _ => fun _ => rfl
  | 4, _ => fun _ => rfl
  | 5, _ => fun _ => rfl
  | 6, _ => fun _ => rfl
  | 7, _ => fun _ => rfl
  | 8, _ => fun _ => rfl
  | 9, _ => fun _ => rfl
  | 10, hj => absurd rfl hj
  | 11, _ => fun _ => rfl
  | 12, _ => fun _ => rfl
  | 13, _ => fun _ => rfl
  | 14, _ => fun _ => rfl
  | 15, _ => fun _ => rfl
  | 16, _ => fun _ => rfl
  | 17, _ => fun _ => rfl
  | 18, _ => fun _ => rfl
  | 19, _ => fun _ => rfl
  | 20, _ => fun _ => rfl
  | 21, _ => fun _ => rfl
  | 22, _ => fun _ => rfl
  | 23, _ => fun _ => rfl
  | 24, _ => fun _ => rfl
  | 25, _ => fun _ => rfl
  | 26, _ => fun _ => rfl
  | 27, _ => fun _ => rfl
  | 28, _ => fun _ => rfl
  | 29, _ => fun _ => rfl
  | 30, _ => fun _ => rfl
  | 31, _ => fun _ => rfl
  | 32, _ => fun _ => rfl
  | 33, _ => fun _ => rfl
  | 34, _ => fun _ => rfl
  | 35, _ => fun _ => rfl
  | 36, _ => fun _ => rfl
  | 37, _ => fun _ => rfl
  | 38, _ => fun _ => rfl
  | _ + 39, _ => fun h => absurd h (by omega)
theorem mo_ne49 {S : ms_T} {g : Nat → Int} : ∀ j, j ≠ 11 → j < 39 → mo_c (S.1, ai_up S.2 49 g) j = mo_c S j
  | 0, _ => fun _ => rfl
  | 1, _ => fun _ => rfl
  | 2, _ => fun _ => rfl
  | 3, _ => fun _ => rfl
  | 4, _ => fun _ => rfl
  | 5, _ => fun _ => rfl
  | 6, _ => fun _ => rfl
  | 7, _ => fun _ => rfl
  | 8, _ => fun _ => rfl
  | 9, _ => fun _ => rfl
  | 10, _ => fun _ => rfl
  | 11, hj => absurd rfl hj
  | 12, _ => fun _ => rfl
  | 13, _ => fun _ => rfl
  | 14, _ => fun _ => rfl
  | 15, _ => fun _ => rfl
  | 16, _ => fun _ => rfl
  | 17, _ => fun _ => rfl
  | 18, _ => fun _ => rfl
  | 19, _ => fun _ => rfl
  | 20, _ => fun _ => rfl
  | 21, _ => fun _ => rfl
  | 22, _ => fun _ => rfl
  | 23, _ => fun _ => rfl
  | 24, _ => fun _ => rfl
  | 25, _ => fun _ => rfl
  | 26, _ => fun _ => rfl
  | 27, _ => fun _ => rfl
  | 28, _ => fun _ => rfl
  | 29, _ => fun _ => rfl
  | 30, _ => fun _ => rfl
  | 31, _ => fun _ => rfl
  | 32, _ => fun _ => rfl
  | 33, _ => fun _ => rfl
  | 34, _ => fun _ => rfl
  | 35, _ => fun _ => rfl
  | 36, _ => fun _ => rfl
  | 37, _ => fun _ => rfl
  | 38, _ => fun _ => rfl
  | _ + 39, _ => fun h => absurd h (by omega)
theorem mo_ne50 {S : ms_T} {g : Nat → Int} : ∀ j, j ≠ 12 → j < 39 → mo_c (S.1, ai_up S.2 50 g) j = mo_c S j
  | 0, _ => fun _ => rfl
  | 1, _ => fun _ => rfl
  | 2, _ => fun _ => rfl
  | 3, _ => fun _ => rfl
  | 4, _ => fun _ => rfl
  | 5, _ => fun _ => rfl
  | 6, _ => fun _ => rfl
  | 7, _ => fun _ => rfl
  | 8, _ => fun _ => rfl
  | 9, _ => fun _ => rfl
  | 10, _ => fun _ => rfl
  | 11, _ => fun _ => rfl
  | 12, hj => absurd rfl hj
  | 13, _ => fun _ => rfl
  | 14, _ => fun _ => rfl
  | 15, _ => fun _ => rfl
  | 16, _ => fun _ => rfl
  | 17, _ => fun _ => rfl
  | 18, _ => fun _ => rfl
  | 19, _ => fun _ => rfl
  | 20, _ => fun _ => rfl
  | 21, _ => fun _ => rfl
  | 22, _ => fun _ => rfl
  | 23, _ => fun _ => rfl
  | 24, _ => fun _ => rfl
  | 25, _ => fun _ => rfl
  | 26, _ => fun _ => rfl
  | 27, _ => fun _ => rfl
  | 28, _ => fun _ => rfl
  | 29, _ => fun _ => rfl
  | 30, _ => fun _ => rfl
  | 31, _ => fun _ => rfl
  | 32, _ => fun _ => rfl
  | 33, _ => fun _ => rfl
  | 34, _ => fun _ => rfl
  | 35, _ => fun _ => rfl
  | 36, _ => fun _ => rfl
  | 37, _ => fun _ => rfl
  | 38, _ => fun _ => rfl
  | _ + 39, _ => fun h => absurd h (by omega)
theorem mo_ne51 {S : ms_T} {g : Nat → Int} : ∀ j, j ≠ 13 → j < 39 → mo_c (S.1, ai_up S.2 51 g) j = mo_c S j
  | 0, _ => fun _ => rfl
  | 1, _ => fun _ => rfl
  | 2, _ => fun _ => rfl
  | 3, _ => fun _ => rfl
  | 4, _ => fun _ => rfl
  | 5, _ => fun _ => rfl
  | 6, _ => fun _ => rfl
  | 7, _ => fun _ => rfl
  | 8, _ => fun _ => rfl
  | 9, _ => fun _ => rfl
  | 10, _ => fun _ => rfl
  | 11, _ => fun _ => rfl
  | 12, _ => fun _ => rfl
  | 13, hj => absurd rfl hj
  | 14, _ => fun _ => rfl
  | 15, _ => fun _ => rfl
  | 16, _ => fun _ => rfl
  | 17, _ => fun _ => rfl
  | 18, _ => fun _ => rfl
  | 19, _ => fun _ => rfl
  | 20, _ => fun _ => rfl
  | 21, _ => fun _ => rfl
  | 22, _ => fun _ => rfl
  | 23, _ => fun _ => rfl
  | 24, _ => fun _ => rfl
  | 25, _ => fun _ => rfl
  | 26, _ => fun _ => rfl
  | 27, _ => fun _ => rfl
  | 28, _ => fun _ => rfl
  | 29, _ => fun _ => rfl
  | 30, _ => fun _ => rfl
  | 31, _ => fun _ => rfl
  | 32, _ => fun _ => rfl
  | 33, _ => fun _ => rfl
  | 34, _ => fun _ => rfl
  | 35, _ => fun _ => rfl
  | 36, _ => fun _ => rfl
  | 37, _ => fun _ => rfl
  | 38, _ => fun _ => rfl
  | _ + 39, _ => fun h => absurd h (by omega)
theorem mo_ne52 {S : ms_T} {g : Nat → Int} : ∀ j, j ≠ 14 → j < 39 → mo_c (S.1, ai_up S.2 52 g) j = mo_c S j
  | 0, _ => fun _ => rfl
  | 1, _ => fun _ => rfl
  | 2, _ => fun _ => rfl
  | 3, _ => fun _ => rfl
  | 4, _ => fun _ => rfl
  | 5, _ => fun _ => rfl
  | 6, _ => fun _ => rfl
  | 7, _ => fun _ => rfl
  | 8, _ => fun _ => rfl
  | 9, _ => fun _ => rfl
  | 10, _ => fun _ => rfl
  | 11, _ => fun _ => rfl
  | 12, _ => fun _ => rfl
  | 13, _ => fun _ => rfl
  | 14, hj => absurd rfl hj
  | 15, _ => fun _ => rfl
  | 16, _ => fun _ => rfl
  | 17, _ => fun _ => rfl
  | 18, _ => fun _ => rfl
  | 19, _ => fun _ => rfl
  | 20, _ => fun _ => rfl
  | 21, _ => fun _ => rfl
  | 22, _ => fun _ => rfl
  | 23, _ => fun _ => rfl
  | 24, _ => fun _ => rfl
  | 25, _ => fun _ => rfl
  | 26, _ => fun _ => rfl
  | 27, _ => fun _ => rfl
  | 28, _ => fun _ => rfl
  | 29, _ => fun _ => rfl
  | 30, _ => fun _ => rfl
  | 31, _ => fun _ => rfl
  | 32, _ => fun _ => rfl
  | 33, _ => fun _ => rfl
  | 34, _ => fun _ => rfl
  | 35, _ => fun _ => rfl
  | 36, _ => fun _ => rfl
  | 37, _ => fun _ => rfl
  | 38, _ => fun _ => rfl
  | _ + 39, _ => fun h => absurd h (by omega)
theorem mo_ne53 {S : ms_T} {g : Nat → Int} : ∀ j, j ≠ 15 → j < 39 → mo_c (S.1, ai_up S.2 53 g) j = mo_c S j
  | 0, _ => fun _ => rfl
  | 1, _ => fun _ => rfl
  | 2, _ => fun _ => rfl
  | 3, _ => fun _ => rfl
  | 4, _ => fun _ => rfl
  | 5, _ => fun _ => rfl
  | 6, _ => fun _ => rfl
  | 7, _ => fun _ => rfl
  | 8, _ => fun _ => rfl
  | 9, _ => fun _ => rfl
  | 10, _ => fun _ => rfl
  | 11, _ => fun _ => rfl
  | 12, _ => fun _ => rfl
  | 13, _ => fun _ => rfl
  | 14, _ => fun _ => rfl
  | 15, hj => absurd rfl hj
  | 16, _ => fun _ => rfl
  | 17, _ => fun _ => rfl
  | 18, _ => fun _ => rfl
  | 19, _ => fun _ => rfl
  | 20, _ => fun _ => rfl
  | 21, _ => fun _ => rfl
  | 22, _ => fun _ => rfl
  | 23, _ => fun _ => rfl
  | 24, _ => fun _ => rfl
  | 25, _ => fun _ => rfl
  | 26, _ => fun _ => rfl
  | 27, _ => fun _ => rfl
  | 28, _ => fun _ => rfl
  | 29, _ => fun _ => rfl
  | 30, _ => fun _ => rfl
  | 31, _ => fun _ => rfl
  | 32, _ => fun _ => rfl
  | 33, _ => fun _ => rfl
  | 34, _ => fun _ => rfl
  | 35, _ => fun _ => rfl
  | 36, _ => fun _ => rfl
  | 37, _ => fun _ => rfl
  | 38, _ => fun _ => rfl
  | _ + 39, _ => fun h => absurd h (by omega)
theorem mo_ne54 {S : ms_T} {g : Nat → Int} : ∀ j, j ≠ 16 → j < 39 → mo_c (S.1, ai_up S.2 54 g) j = mo_c S j
  | 0, _ => fun _ => rfl
  | 1, _ => fun _ => rfl
  | 2, _ => fun _ => rfl
  | 3, _ => fun _ => rfl
  | 4, _ => fun _ => rfl
  | 5, _ => fun _ => rfl
  | 6, _ => fun _ => rfl
  | 7, _ => fun _ => rfl
  | 8, _ => fun _ => rfl
  | 9, _ => fun _ => rfl
  | 10, _ => fun _ => rfl
  | 11, _ => fun _ => rfl
  | 12, _ => fun _ => rfl
  | 13, _ => fun _ => rfl
  | 14, _ => fun _ => rfl
  | 15, _ => fun _ => rfl
  | 16, hj => absurd rfl hj
  | 17, _ => fun _ => rfl
  | 18, _ => fun _ => rfl
  | 19, _ => fun _ => rfl
  | 20, _ => fun _ => rfl
  | 21, _ => fun _ => rfl
  | 22, _ => fun _ => rfl
  | 23, _ => fun _ => rfl
  | 24, _ => fun _ => rfl
  | 25, _ => fun _ => rfl
  | 26, _ => fun _ => rfl
  | 27, _ => fun _ => rfl
  | 28, _ => fun _ => rfl
  | 29, _ => fun _ => rfl
  | 30, _ => fun _ => rfl
  | 31, _ => fun _ => rfl
  | 32, _ => fun _ => rfl
  | 33, _ => fun _ => rfl
  | 34, _ => fun _ => rfl
  | 35, _ => fun _ => rfl
  | 36, _ => fun _ => rfl
  | 37, _ => fun _ => rfl
  | 38, _ => fun _ => rfl
  | _ + 39, _ => fun h => absurd h (by omega)
theorem mo_ne55 {S : ms_T} {g : Nat → Int} : ∀ j, j ≠ 17 → j < 39 → mo_c (S.1, ai_up S.2 55 g) j = mo_c S j
  | 0, _ => fun _ => rfl
  | 1, _ => fun _ => rfl
  | 2, _ => fun _ => rfl
  | 3, _ => fun _ => rfl
  | 4, _ => fun _ => rfl
  | 5, _ => fun _ => rfl
  | 6, _ => fun _ => rfl
  | 7, _ => fun _ => rfl
  | 8, _ => fun _ => rfl
  | 9, _ => fun _ => rfl
  | 10, _ => fun _ => rfl
  | 11, _ => fun _ => rfl
  | 12, _ => fun _ => rfl
  | 13, _ => fun _ => rfl
  | 14, _ => fun _ => rfl
  | 15, _ => fun _ => rfl
  | 16, _ => fun _ => rfl
  | 17, hj => absurd rfl hj
  | 18, _ => fun _ => rfl
  | 19, _ => fun _ => rfl
  | 20, _ => fun _ => rfl
  | 21, _ => fun _ => rfl
  | 22, _ => fun _ => rfl
  | 23, _ => fun _ => rfl
  | 24, _ => fun _ => rfl
  | 25, _ => fun _ => rfl
  | 26, _ => fun _ => rfl
  | 27, _ => fun _ => rfl
  | 28, _ => fun _ => rfl
  | 29, _ => fun _ => rfl
  | 30, _ => fun _ => rfl
  | 31, _ => fun _ => rfl
  | 32, _ => fun _ => rfl
  | 33, _ => fun _ => rfl
  | 34, _ => fun _ => rfl
  | 35, _ => fun _ => rfl
  | 36, _ => fun _ => rfl
  | 37, _ => fun _ => rfl
  | 38, _ => fun _ => rfl
  | _ + 39, _ => fun h => absurd h (by omega)
theorem mo_ne56 {S : ms_T} {g : Nat → Int} : ∀ j, j ≠ 18 → j < 39 → mo_c (S.1, ai_up S.2 56 g) j = mo_c S j
  | 0, _ => fun _ => rfl
  | 1, _ => fun _ => rfl
  | 2, _ => fun _ => rfl
  | 3, _ => fun _ => rfl
  | 4, _ => fun _ => rfl
  | 5, _ => fun _ => rfl
  | 6, _ => fun _ => rfl
  | 7, _ => fun _ => rfl
  | 8, _ => fun _ => rfl
  | 9, _ => fun _ => rfl
  | 10, _ => fun _ => rfl
  | 11, _ => fun _ => rfl
  | 12, _ => fun _ => rfl
  | 13, _ => fun _ => rfl
  | 14, _ => fun _ => rfl
  | 15, _ => fun _ => rfl
  | 16, _ => fun _ => rfl
  | 17, _ => fun _ => rfl
  | 18, hj => absurd rfl hj
  | 19, _ => fun _ => rfl
  | 20, _ => fun _ => rfl
  | 21, _ => fun _ => rfl
  | 22, _ => fun _ => rfl
  | 23, _ => fun _ => rfl
  | 24, _ => fun _ => rfl
  | 25, _ => fun _ => rfl
  | 26, _ => fun _ => rfl
  | 27, _ => fun _ => rfl
  | 28, _ => fun _ => rfl
  | 29, _ => fun _ => rfl
  | 30, _ => fun _ => rfl
  | 31, _ => fun _ => rfl
  | 32, _ => fun _ => rfl
  | 33, _ => fun _ => rfl
  | 34, _ => fun _ => rfl
  | 35, _ => fun _ => rfl
  | 36, _ => fun _ => rfl
  | 37, _ => fun _ => rfl
  | 38, _ => fun _ => rfl
  | _ + 39, _ => fun h => absurd h (by omega)
theorem mo_ne57 {S : ms_T} {g : Nat → Int} : ∀ j, j ≠ 19 → j < 39 → mo_c (S.1, ai_up S.2 57 g) j = mo_c S j
  | 0, _ => fun _ => rfl
  | 1, _ => fun _ => rfl
  | 2, _ => fun _ => rfl
  | 3, _ => fun _ => rfl
  | 4, _ => fun _ => rfl
  | 5, _ => fun _ => rfl
  | 6, _ => fun _ => rfl
  | 7, _ => fun _ => rfl
  | 8, _ => fun _ => rfl
  | 9, _ => fun _ => rfl
  | 10, _ => fun _ => rfl
  | 11, _ => fun _ => rfl
  | 12, _ => fun _ => rfl
  | 13, _ => fun _ => rfl
  | 14, _ => fun _ => rfl
  | 15, _ => fun _ => rfl
  | 16, _ => fun _ => rfl
  | 17, _ => fun _ => rfl
  | 18, _ => fun _ => rfl
  | 19, hj => absurd rfl hj
  | 20, _ => fun _ => rfl
  | 21, _ => fun _ => rfl
  | 22, _ => fun _ => rfl
  | 23, _ => fun _ => rfl
  | 24, _ => fun _ => rfl
  | 25, _ => fun _ => rfl
  | 26, _ => fun _ => rfl
  | 27, _ => fun _ => rfl
  | 28, _ => fun _ => rfl
  | 29, _ => fun _ => rfl
  | 30, _ => fun _ => rfl
  | 31, _ => fun _ => rfl
  | 32, _ => fun _ => rfl
  | 33, _ => fun _ => rfl
  | 34, _ => fun _ => rfl
  | 35, _ => fun _ => rfl
  | 36, _ => fun _ => rfl
  | 37, _ => fun _ => rfl
  | 38, _ => fun _ => rfl
  | _ + 39, _ => fun h => absurd h (by omega)
theorem mo_ne58 {S : ms_T} {g : Nat → Int} : ∀ j, j ≠ 20 → j < 39 → mo_c (S.1, ai_up S.2 58 g) j = mo_c S j
  | 0, _ => fun _ => rfl
  | 1, _ => fun _ => rfl
  | 2, _ => fun _ => rfl
  | 3, _ => fun _ => rfl
  | 4, _ => fun _ => rfl
  | 5, _ => fun _ => rfl
  | 6, _ => fun _ => rfl
  | 7, _ => fun _ => rfl
  | 8, _ => fun _ => rfl
  | 9, _ => fun _ => rfl
  | 10, _ => fun _ => rfl
  | 11, _ => fun _ => rfl
  | 12, _ => fun _ => rfl
  | 13, _ => fun _ => rfl
  | 14, _ => fun _ => rfl
  | 15, _ => fun _ => rfl
  | 16, _ => fun _ => rfl
  | 17, _ => fun _ => rfl
  | 18, _ => fun _ => rfl
  | 19, _ => fun _ => rfl
  | 20, hj => absurd rfl hj
  | 21, _ => fun _ => rfl
  | 22, _ => fun _ => rfl
  | 23, _ => fun _ => rfl
  | 24, _ => fun _ => rfl
  | 25, _ => fun _ => rfl
  | 26, _ => fun _ => rfl
  | 27, _ => fun _ => rfl
  | 28, _ => fun _ => rfl
  | 29, _ => fun _ => rfl
  | 30, _ => fun _ => rfl
  | 31, _ => fun _ => rfl
  | 32, _ => fun _ => rfl
  | 33, _ => fun _ => rfl
  | 34, _ => fun _ => rfl
  | 35, _ => fun _ => rfl
  | 36, _ => fun _ => rfl
  | 37, _ => fun _ => rfl
  | 38, _ => fun _ => rfl
  | _ + 39, _ => fun h => absurd h (by omega)
theorem mo_ne59 {S : ms_T} {g : Nat → Int} : ∀ j, j ≠ 21 → j < 39 → mo_c (S.1, ai_up S.2 59 g) j = mo_c S j
  | 0, _ => fun _ => rfl
  | 1, _ => fun _ => rfl
  | 2, _ => fun _ => rfl
  | 3, _ => fun _ => rfl
  | 4, _ => fun _ => rfl
  | 5, _ => fun _ => rfl
  | 6, _ => fun _ => rfl
  | 7, _ => fun _ => rfl
  | 8, _ => fun _ => rfl
  | 9, _ => fun _ => rfl
  | 10, _ => fun _ => rfl
  | 11, _ => fun _ => rfl
  | 12, _ => fun _ => rfl
  | 13, _ => fun _ => rfl
  | 14, _ => fun _ => rfl
  | 15, _ => fun _ => rfl
  | 16, _ => fun _ => rfl
  | 17, _ => fun _ => rfl
  | 18, _ => fun _ => rfl
  | 19, _ => fun _ => rfl
  | 20, _ => fun _ => rfl
  | 21, hj => absurd rfl hj
  | 22, _ => fun _ => rfl
  | 23, _ => fun _ => rfl
  | 24, _ => fun _ => rfl
  | 25, _ => fun _ => rfl
  | 26, _ => fun _ => rfl
  | 27, _ => fun _ => rfl
  | 28, _ => fun _ => rfl
  | 29, _ => fun _ => rfl
  | 30, _ => fun _ => rfl
  | 31, _ => fun _ => rfl
  | 32, _ => fun _ => rfl
  | 33, _ => fun _ => rfl
  | 34, _ => fun _ => rfl
  | 35, _ => fun _ => rfl
  | 36, _ => fun _ => rfl
  | 37, _ => fun _ => rfl
  | 38, _ => fun _ => rfl
  | _ + 39, _ => fun h => absurd h (by omega)
theorem mo_ne60 {S : ms_T} {g : Nat → Int} : ∀ j, j ≠ 22 → j < 39 → mo_c (S.1, ai_up S.2 60 g) j = mo_c S j
  | 0, _ => fun _ => rfl
  | 1, _ => fun _ => rfl
  | 2, _ => fun _ => rfl
  | 3, _ => fun _ => rfl
  | 4, _ => fun _ => rfl
  | 5, _ => fun _ => rfl
  | 6, _ => fun _ => rfl
  | 7, _ => fun _ => rfl
  | 8, _ => fun _ => rfl
  | 9, _ => fun _ => rfl
  | 10, _ => fun _ => rfl
  | 11, _ => fun _ => rfl
  | 12, _ => fun _ => rfl
  | 13, _ => fun _ => rfl
  | 14, _ => fun _ => rfl
  | 15, _ => fun _ => rfl
  | 16, _ => fun _ => rfl
  | 17, _ => fun _ => rfl
  | 18, _ => fun _ => rfl
  | 19, _ => fun _ => rfl
  | 20, _ => fun _ => rfl
  | 21, _ => fun _ => rfl
  | 22, hj => absurd rfl hj
  | 23, _ => fun _ => rfl
  | 24, _ => fun _ => rfl
  | 25, _ => fun _ => rfl
  | 26, _ => fun _ => rfl
  | 27, _ => fun _ => rfl
  | 28, _ => fun _ => rfl
  | 29, _ => fun _ => rfl
  | 30, _ => fun _ => rfl
  | 31, _ => fun _ => rfl
  | 32, _ => fun _ => rfl
  | 33, _ => fun _ => rfl
  | 34, _ => fun _ => rfl
  | 35, _ => fun _ => rfl
  | 36, _ => fun _ => rfl
  | 37, _ => fun _ => rfl
  | 38, _ => fun _ => rfl
  | _ + 39, _ => fun h => absurd h (by omega)
theorem mo_ne61 {S : ms_T} {g : Nat → Int} : ∀ j, j ≠ 23 → j < 39 → mo_c (S.1, ai_up S.2 61 g) j = mo_c S j
  | 0, _ => fun _ => rfl
  | 1, _ => fun _ => rfl
  | 2, _ => fun _ => rfl
  | 3, _ => fun _ => rfl
  | 4, _ => fun _ => rfl
  | 5, _ => fun _ => rfl
  | 6, _ => fun _ => rfl
  | 7, _ => fun _ => rfl
  | 8, _ => fun _ => rfl
  | 9, _ => fun _ => rfl
  | 10, _ => fun _ => rfl
  | 11, _ => fun _ => rfl
  | 12, _ => fun _ => rfl
  | 13, _ => fun _ => rfl
  | 14, _ => fun _ => rfl
  | 15, _ => fun _ => rfl
  | 16, _ => fun _ => rfl
  | 17, _ => fun _ => rfl
  | 18, _ => fun _ => rfl
  | 19, _ => fun _ => rfl
  | 20, _ => fun _ => rfl
  | 21, _ => fun _ => rfl
  | 22, _ => fun _ => rfl
  | 23, hj => absurd rfl hj
  | 24, _ => fun _ => rfl
  | 25, _ => fun _ => rfl
  | 26, _ => fun _ => rfl
  | 27, _ => fun _ => rfl
  | 28, _ => fun _ => rfl
  | 29, _ => fun _ => rfl
  | 30, _ => fun _ => rfl
  | 31, _ => fun _ => rfl
  | 32, _ => fun _ => rfl
  | 33, _ => fun _ => rfl
  | 34, _ => fun _ => rfl
  | 35, _ => fun _ => rfl
  | 36, _ => fun _ => rfl
  | 37, _ => fun _ => rfl
  | 38, _ => fun _ => rfl
  | _ + 39, _ => fun h => absurd h (by omega)
theorem mo_ne62 {S : ms_T} {g : Nat → Int} : ∀ j, j ≠ 24 → j < 39 → mo_c (S.1, ai_up S.2 62 g) j = mo_c S j
  | 0, _ => fun _ => rfl
  | 1, _ => fun _ => rfl
  | 2, _ => fun _ => rfl
  | 3, _ => fun _ => rfl
  | 4, _ => fun _ => rfl
  | 5, _ => fun _ => rfl
  | 6, _ => fun _ => rfl
  | 7, _ => fun _ => rfl
  | 8, _ => fun _ => rfl
  | 9, _ => fun _ => rfl
  | 10, _ => fun _ => rfl
  | 11, _ => fun _ => rfl
  | 12, _ => fun _ => rfl
  | 13, _ => fun _ => rfl
  | 14, _ => fun _ => rfl
  | 15, _ => fun _ => rfl
  | 16, _ => fun _ => rfl
  | 17, _ => fun _ => rfl
  | 18, _ => fun _ => rfl
  | 19, _ => fun _ => rfl
  | 20, _ => fun _ => rfl
  | 21, _ => fun _ => rfl
  | 22, _ => fun _ => rfl
  | 23, _ => fun _ => rfl
  | 24, hj => absurd rfl hj
  | 25, _ => fun _ => rfl
  | 26, _ => fun _ => rfl
  | 27, _ => fun _ => rfl
  | 28, _ => fun _ => rfl
  | 29, _ => fun _ => rfl
  | 30, _ => fun _ => rfl
  | 31, _ => fun _ => rfl
  | 32, _ => fun _ => rfl
  | 33, _ => fun _ => rfl
  | 34, _ => fun _ => rfl
  | 35, _ => fun _ => rfl
  | 36, _ => fun _ => rfl
  | 37, _ => fun _ => rfl
  | 38, _ => fun _ => rfl
  | _ + 39, _ => fun h => absurd h (by omega)
theorem mo_ne63 {S : ms_T} {g : Nat → Int} : ∀ j, j ≠ 25 → j < 39 → mo_c (S.1, ai_up S.2 63 g) j = mo_c S j
  | 0, _ => fun _ => rfl
  | 1, _ => fun _ => rfl
  | 2, _ => fun _ => rfl
  | 3, _ => fun _ => rfl
  | 4, _ => fun _ => rfl
  | 5, _ => fun _ => rfl
  | 6, _ => fun _ => rfl
  | 7, _ => fun _ => rfl
  | 8, _ => fun _ => rfl
  | 9, _ => fun _ => rfl
  | 10, _ => fun _ => rfl
  | 11, _ => fun _ => rfl
  | 12, _ => fun _ => rfl
  | 13, _ => fun _ => rfl
  | 14, _ => fun _ => rfl
  | 15, _ => fun _ => rfl
  | 16, _ => fun _ => rfl
  | 17, _ => fun _ => rfl
  | 18, _ => fun _ => rfl
  | 19, _ => fun _ => rfl
  | 20, _ => fun _ => rfl
  | 21, _ => fun _ => rfl
  | 22, _ => fun _ => rfl
  | 23, _ => fun _ => rfl
  | 24, _ => fun _ => rfl
  | 25, hj => absurd rfl hj
  | 26, _ => fun _ => rfl
  | 27, _ => fun _ => rfl
  | 28, _ => fun _ => rfl
  | 29, _ => fun _ => rfl
  | 30, _ => fun _ => rfl
  | 31, _ => fun _ => rfl
  | 32, _ => fun _ => rfl
  | 33, _ => fun _ => rfl
  | 34, _ => fun _ => rfl
  | 35, _ => fun _ => rfl
  | 36, _ => fun _ => rfl
  | 37, _ => fun _ => rfl
  | 38, _ => fun _ => rfl
  | _ + 39, _ => fun h => absurd h (by omega)
theorem mo_ne64 {S : ms_T} {g : Nat → Int} : ∀ j, j ≠ 26 → j < 39 → mo_c (S.1, ai_up S.2 64 g) j = mo_c S j
  | 0, _ => fun _ => rfl
  | 1, _ => fun _ => rfl
  | 2, _ => fun _ => rfl
  | 3, _ => fun _ => rfl
  | 4, _ => fun _ => rfl
  | 5, _ => fun _ => rfl
  | 6, _ => fun _ => rfl
  | 7, _ => fun _ => rfl
  | 8, _ => fun _ => rfl
  | 9, _ => fun _ => rfl
  | 10, _ => fun _ => rfl
  | 11, _ => fun _ => rfl
  | 12, _ => fun _ => rfl
  | 13, _ => fun _ => rfl
  | 14, _ => fun _ => rfl
  | 15, _ => fun _ => rfl
  | 16, _ => fun _ => rfl
  | 17, _ => fun _ => rfl
  | 18, _ => fun _ => rfl
  | 19, _ => fun _ => rfl
  | 20, _ => fun _ => rfl
  | 21, _ => fun _ => rfl
  | 22, _ => fun _ => rfl
  | 23, _ => fun _ => rfl
  | 24, _ => fun _ => rfl
  | 25, _ => fun _ => rfl
  | 26, hj => absurd rfl hj
  | 27, _ => fun _ => rfl
  | 28, _ => fun _ => rfl
  | 29, _ => fun _ => rfl
  | 30, _ => fun _ => rfl
  | 31, _ => fun _ => rfl
  | 32, _ => fun _ => rfl
  | 33, _ => fun _ => rfl
  | 34, _ => fun _ => rfl
  | 35, _ => fun _ => rfl
  | 36, _ => fun _ => rfl
  | 37, _ => fun _ => rfl
  | 38, _ => fun _ => rfl
  | _ + 39, _ => fun h => absurd h (by omega)
theorem mo_ne65 {S : ms_T} {g : Nat → Int} : ∀ j, j ≠ 27 → j < 39 → mo_c (S.1, ai_up S.2 65 g) j = mo_c S j
  | 0, _ => fun _ => rfl
  | 1, _ => fun _ => rfl
  | 2, _ => fun _ => rfl
  | 3, _ => fun _ => rfl
  | 4, _ => fun _ => rfl
  | 5, _ => fun _ => rfl
  | 6, _ => fun _ => rfl
  | 7, _ => fun _ => rfl
  | 8, _ => fun _ => rfl
  | 9, _ => fun _ => rfl
  | 10, _ => fun _ => rfl
  | 11, _ => fun _ => rfl
  | 12, _ => fun _ => rfl
  | 13, _ => fun _ => rfl
  | 14, _ => fun _ => rfl
  | 15, _ => fun _ => rfl
  | 16, _ => fun _ => rfl
  | 17, _ => fun _ => rfl
  | 18, _ => fun _ => rfl
  | 19, _ => fun _ => rfl
  | 20, _ => fun _ => rfl
  | 21, _ => fun _ => rfl
  | 22, _ => fun _ => rfl
  | 23, _ => fun _ => rfl
  | 24, _ => fun _ => rfl
  | 25, _ => fun _ => rfl
  | 26, _ => fun _ => rfl
  | 27, hj => absurd rfl hj
  | 28, _ => fun _ => rfl
  | 29, _ => fun _ => rfl
  | 30, _ => fun _ => rfl
  | 31, _ => fun _ => rfl
  | 32, _ => fun _ => rfl
  | 33, _ => fun _ => rfl
  | 34, _ => fun _ => rfl
  | 35, _ => fun _ => rfl
  | 36, _ => fun _ => rfl
  | 37, _ => fun _ => rfl
  | 38, _ => fun _ => rfl
  | _ + 39, _ => fun h => absurd h (by omega)
theorem mo_ne66 {S : ms_T} {g : Nat → Int} : ∀ j, j ≠ 28 → j < 39 → mo_c (S.1, ai_up S.2 66 g) j = mo_c S j
  | 0, _ => fun _ => rfl
  | 1, _ => fun _ => rfl
  | 2, _ => fun _ => rfl
  | 3, _ => fun _ => rfl
  | 4, _ => fun _ => rfl
  | 5, _ => fun _ => rfl
  | 6, _ => fun _ => rfl
  | 7, _ => fun _ => rfl
  | 8, _ => fun _ => rfl
  | 9, _ => fun _ => rfl
  | 10, _ => fun _ => rfl
  | 11, _ => fun _ => rfl
  | 12, _ => fun _ => rfl
  | 13, _ => fun _ => rfl
  | 14, _ => fun _ => rfl
  | 15, _ => fun _ => rfl
  | 16, _ => fun _ => rfl
  | 17, _ => fun _ => rfl
  | 18, _ => fun _ => rfl
  | 19, _ => fun _ => rfl
  | 20, _ => fun _ => rfl
  | 21, _ => fun _ => rfl
  | 22, _ => fun _ => rfl
  | 23, _ => fun _ => rfl
  | 24, _ => fun _ => rfl
  | 25, _ => fun _ => rfl
  | 26, _ => fun _ => rfl
  | 27, _ => fun _ => rfl
  | 28, hj => absurd rfl hj
  | 29, _ => fun _ => rfl
  | 30, _ => fun _ => rfl
  | 31, _ => fun _ => rfl
  | 32, _ => fun _ => rfl
  | 33, _ => fun _ => rfl
  | 34, _ => fun _ => rfl
  | 35, _ => fun _ => rfl
  | 36, _ => fun _ => rfl
  | 37, _ => fun _ => rfl
  | 38, _ => fun _ => rfl
  | _ + 39, _ => fun h => absurd h (by omega)
theorem mo_ne67 {S : ms_T} {g : Nat → Int} : ∀ j, j ≠ 29 → j < 39 → mo_c (S.1, ai_up S.2 67 g) j = mo_c S j
  | 0, _ => fun _ => rfl
  | 1, _ => fun _ => rfl
  | 2, _ => fun _ => rfl
  | 3, _ => fun _ => rfl
  | 4, _ => fun _ => rfl
  | 5, _ => fun _ => rfl
  | 6, _ => fun _ => rfl
  | 7, _ => fun _ => rfl
  | 8, _ => fun _ => rfl
  | 9, _ => fun _ => rfl
  | 10, _ => fun _ => rfl
  | 11, _ => fun _ => rfl
  | 12, _ => fun _ => rfl
  | 13, _ => fun _ => rfl
  | 14, _ => fun _ => rfl
  | 15, _ => fun _ => rfl
  | 16, _ => fun _ => rfl
  | 17, _ => fun _ => rfl
  | 18, _ => fun _ => rfl
  | 19, _ => fun _ => rfl
  | 20, _ => fun _ => rfl
  | 21, _ => fun _ => rfl
  | 22, _ => fun _ => rfl
  | 23, _ => fun _ => rfl
  | 24, _ => fun _ => rfl
  | 25, _ => fun _ => rfl
  | 26, _ => fun _ => rfl
  | 27, _ => fun _ => rfl
  | 28, _ => fun _ => rfl
  | 29, hj => absurd rfl hj
  | 30, _ => fun _ => rfl
  | 31, _ => fun _ => rfl
  | 32, _ => fun _ => rfl
  | 33, _ => fun _ => rfl
  | 34, _ => fun _ => rfl
  | 35, _ => fun _ => rfl
  | 36, _ => fun _ => rfl
  | 37, _ => fun _ => rfl
  | 38, _ => fun _ => rfl
  | _ + 39, _ => fun h => absurd h (by omega)
theorem mo_ne68 {S : ms_T} {g : Nat → Int} : ∀ j, j ≠ 30 → j < 39 → mo_c (S.1, ai_up S.2 68 g) j = mo_c S j
  | 0, _ => fun _ => rfl
  | 1, _ => fun _ => rfl
  | 2, _ => fun _ => rfl
  | 3, _ => fun _ => rfl
  | 4, _ => fun _ => rfl
  | 5, _ => fun _ => rfl
  | 6, _ => fun _ => rfl
  | 7, _ => fun _ => rfl
  | 8, _ => fun _ => rfl
  | 9, _ => fun _ => rfl
  | 10, _ => fun _ => rfl
  | 11, _ => fun _ => rfl
  | 12, _ => fun _ => rfl
  | 13, _ => fun _ => rfl
  | 14, _ => fun _ => rfl
  | 15, _ => fun _ => rfl
  | 16, _ => fun _ => rfl
  | 17, _ => fun _ => rfl
  | 18, _ => fun _ => rfl
  | 19, _ => fun _ => rfl
  | 20, _ => fun _ => rfl
  | 21, _ => fun _ => rfl
  | 22, _ => fun _ => rfl
  | 23, _ => fun _ => rfl
  | 24, _ => fun _ => rfl
  | 25, _ => fun _ => rfl
  | 26, _ => fun _ => rfl
  | 27, _ => fun _ => rfl
  | 28, _ => fun _ => rfl
  | 29, _ => fun _ => rfl
  | 30, hj => absurd rfl hj
  | 31, _ => fun _ => rfl
  | 32, _ => fun _ => rfl
  | 33, _ => fun _ => rfl
  | 34, _ => fun _ => rfl
  | 35, _ => fun _ => rfl
  | 36, _ => fun _ => rfl
  | 37, _ => fun _ => rfl
  | 38, _ => fun _ => rfl
  | _ + 39, _ => fun h => absurd h (by omega)
theorem mo_ne69 {S : ms_T} {g : Nat → Int} : ∀ j, j ≠ 31 → j < 39 → mo_c (S.1, ai_up S.2 69 g) j = mo_c S j
  | 0, _ => fun _ => rfl
  | 1, _ => fun _ => rfl
  | 2, _ => fun _ => rfl
  | 3, _ => fun _ => rfl
  | 4, _ => fun _ => rfl
  | 5, _ => fun _ => rfl
  | 6, _ => fun _ => rfl
  | 7, _ => fun _ => rfl
  | 8, _ => fun _ => rfl
  | 9, _ => fun _ => rfl
  | 10, _ => fun _ => rfl
  | 11, _ => fun _ => rfl
  | 12, _ => fun _ => rfl
  | 13, _ => fun _ => rfl
  | 14, _ => fun _ => rfl
  | 15, _ => fun _ => rfl
  | 16, _ => fun _ => rfl
  | 17, _ => fun _ => rfl
  | 18, _ => fun _ => rfl
  | 19, _ => fun _ => rfl
  | 20, _ => fun _ => rfl
  | 21, _ => fun _ => rfl
  | 22, _ => fun _ => rfl
  | 23, _ => fun _ => rfl
  | 24, _ => fun _ => rfl
  | 25, _ => fun _ => rfl
  | 26, _ => fun _ => rfl
  | 27, _ => fun _ => rfl
  | 28, _ => fun _ => rfl
  | 29, _ => fun _ => rfl
  | 30, _ => fun _ => rfl
  | 31, hj => absurd rfl hj
  | 32, _ => fun _ => rfl
  | 33, _ => fun _ => rfl
  | 34, _ => fun _ => rfl
  | 35, _ => fun _ => rfl
  | 36, _ => fun _ => rfl
  | 37, _ => fun _ => rfl
  | 38, _ => fun _ => rfl
  | _ + 39, _ => fun h => absurd h (by omega)
theorem mo_ne70 {S : ms_T} {g : Nat → Int} : ∀ j, j ≠ 32 → j < 39 → mo_c (S.1, ai_up S.2 70 g) j = mo_c S j
  | 0, _ => fun _ => rfl
  | 1, _ => fun _ => rfl
  | 2, _ => fun _ => rfl
  | 3, _ => fun _ => rfl
  | 4, _ => fun _ => rfl
  | 5, _ => fun _ => rfl
  | 6, _ => fun _ => rfl
  | 7, _ => fun _ => rfl
  | 8, _ => fun _ => rfl
  | 9, _ => fun _ => rfl
  | 10, _ => fun _ => rfl
  | 11, _ => fun _ => rfl
  | 12, _ => fun _ => rfl
  | 13, _ => fun _ => rfl
  | 14, _ => fun _ => rfl
  | 15, _ => fun _ => rfl
  | 16, _ => fun _ => rfl
  | 17, _ => fun _ => rfl
  | 18, _ => fun _ => rfl
  | 19, _ => fun _ => rfl
  | 20, _ => fun _ => rfl
  | 21, _ => fun _ => rfl
  | 22, _ => fun _ => rfl
  | 23, _ => fun _ => rfl
  | 24, _ => fun _ => rfl
  | 25, _ => fun _ => rfl
  | 26, _ => fun _ => rfl
  | 27, _ => fun _ => rfl
  | 28, _ => fun _ => rfl
  | 29, _ => fun _ => rfl
  | 30, _ => fun _ => rfl
  | 31, _ => fun _ => rfl
  | 32, hj => absurd rfl hj
  | 33, _ => fun _ => rfl
  | 34, _ => fun _ => rfl
  | 35, _ => fun _ => rfl
  | 36, _ => fun _ => rfl
  | 37, _ => fun _ => rfl
  | 38, _ => fun _ => rfl
  | _ + 39, _ => fun h => absurd h (by omega)
theorem mo_ne71 {S : ms_T} {g : Nat → Int} : ∀ j, j ≠ 33 → j < 39 → mo_c (S.1, ai_up S.2 71 g) j = mo_c S j
  | 0, _ => fun _ => rfl
  | 1, _ => fun _ => rfl
  | 2, _ => fun _ => rfl
  | 3, _ => fun _ => rfl
  | 4, _ => fun _ => rfl
  | 5, _ => fun _ => rfl
  | 6, _ => fun _ => rfl
  | 7, _ => fun _ => rfl
  | 8, _ => fun _ => rfl
  | 9, _ => fun _ => rfl
  | 10, _ => fun _ => rfl
  | 11, _ => fun _ => rfl
  | 12, _ => fun _ => rfl
  | 13, _ => fun _ => rfl
  | 14, _ => fun _ => rfl
  | 15, _ => fun _ => rfl
  | 16, _ => fun _ => rfl
  | 17, _ => fun _ => rfl
  | 18, _ => fun _ => rfl
  | 19, _ => fun _ => rfl
  | 20, _ => fun _ => rfl
  | 21, _ => fun _ => rfl
  | 22, _ => fun _ => rfl
  | 23, _ => fun _ => rfl
  | 24, _ => fun _ => rfl
  | 25, _ => fun _ => rfl
  | 26, _ => fun _ => rfl
  | 27, _ => fun _ => rfl
  | 28, _ => fun _ => rfl
  | 29, _ => fun _ => rfl
  | 30, _ => fun _ => rfl
  | 31, _ => fun _ => rfl
  | 32, _ => fun _ => rfl
  | 33, hj => absurd rfl hj
  | 34, _ => fun _ => rfl
  | 35, _ => fun _ => rfl
  | 36, _ => fun _ => rfl
  | 37, _ => fun _ => rfl
  | 38, _ => fun _ => rfl
  | _ + 39, _ => fun h => absurd h (by omega)
theorem mo_ne72 {S : ms_T} {g : Nat → Int} : ∀ j, j ≠ 34 → j < 39 → mo_c (S.1, ai_up S.2 72 g) j = mo_c S j
  | 0, _ => fun _ => rfl
  | 1, _ => fun _ => rfl
  | 2, _ => fun _ => rfl
  | 3, _ => fun _ => rfl
  | 4, _ => fun _ => rfl
  | 5, _ => fun _ => rfl
  | 6, _ => fun _ => rfl
  | 7, _ => fun _ => rfl
  | 8, _ => fun _ => rfl
  | 9, _ => fun _ => rfl
  | 10, _ => fun _ => rfl
  | 11, _ => fun _ => rfl
  | 12, _ => fun _ => rfl
  | 13, _ => fun _ => rfl
  | 14, _ => fun _ => rfl
  | 15, _ => fun _ => rfl
  | 16, _ => fun _ => rfl
  | 17, _ => fun _ => rfl
  | 18, _ => fun _ => rfl
  | 19, _ => fun _ => rfl
  | 20, _ => fun _ => rfl
  | 21, _ => fun _ => rfl
  | 22, _ => fun _ => rfl
  | 23, _ => fun _ => rfl
  | 24, _ => fun _ => rfl
  | 25, _ => fun _ => rfl
  | 26, _ => fun _ => rfl
  | 27, _ => fun _ => rfl
  | 28, _ => fun _ => rfl
  | 29, _ => fun _ => rfl
  | 30, _ => fun _ => rfl
  | 31, _ => fun _ => rfl
  | 32, _ => fun _ => rfl
  | 33, _ => fun _ => rfl
  | 34, hj => absurd rfl hj
  | 35, _ => fun _ => rfl
  | 36, _ => fun _ => rfl
  | 37, _ => fun _ => rfl
  | 38, _ => fun _ => rfl
  | _ + 39, _ => fun h => absurd h (by omega)
theorem mo_ne73 {S : ms_T} {g : Nat → Int} : ∀ j, j ≠ 35 → j < 39 → mo_c (S.1, ai_up S.2 73 g) j = mo_c S j
  | 0, _ => fun _ => rfl
  | 1, _ => fun _ => rfl
  | 2, _ => fun _ => rfl
  | 3, _ => fun _ => rfl
  | 4, _ => fun _ => rfl
  | 5, _ => fun _ => rfl
  | 6, _ => fun _ => rfl
  | 7, _ => fun _ => rfl
  | 8, _ => fun _ => rfl
  | 9, _ => fun _ => rfl
  | 10, _ => fun _ => rfl
  | 11, _ => fun _ => rfl
  | 12, _ => fun _ => rfl
  | 13, _ => fun _ => rfl
  | 14, _ => fun _ => rfl
  | 15, _ => fun _ => rfl
  | 16, _ => fun _ => rfl
  | 17, _ => fun _ => rfl
  | 18, _ => fun _ => rfl
  | 19, _ => fun _ => rfl
  | 20, _ => fun _ => rfl
  | 21, _ => fun _ => rfl
  | 22, _ => fun _ => rfl
  | 23, _ => fun _ => rfl
  | 24, _ => fun _ => rfl
  | 25, _ => fun _ => rfl
  | 26, _ => fun _ => rfl
  | 27, _ => fun _ => rfl
  | 28, _ => fun _ => rfl
  | 29, _ => fun _ => rfl
  | 30, _ => fun _ => rfl
  | 31, _ => fun _ => rfl
  | 32, _ => fun _ => rfl
  | 33, _ => fun _ => rfl
  | 34, _ => fun _ => rfl
  | 35, hj => absurd rfl hj
  | 36, _ => fun _ => rfl
  | 37, _ => fun _ => rfl
  | 38, _ => fun _ => rfl
  | _ + 39, _ => fun h => absurd h (by omega)
theorem mo_ne74 {S : ms_T} {g : Nat → Int} : ∀ j, j ≠ 36 → j < 39 → mo_c (S.1, ai_up S.2 74 g) j = mo_c S j
  | 0, _ => fun _ => rfl
  | 1, _ => fun _ => rfl
  | 2, _ => fun _ => rfl
  | 3, _ => fun _ => rfl
  | 4, _ => fun _ => rfl
  | 5, _ => fun _ => rfl
  | 6, _ => fun _ => rfl
  | 7, _ => fun _ => rfl
  | 8, _ => fun _ => rfl
  | 9, _ => fun _ => rfl
  | 10, _ => fun _ => rfl
  | 11, _ => fun _ => rfl
  | 12, _ => fun _ => rfl
  | 13, _ => fun _ => rfl
  | 14, _ => fun _ => rfl
  | 15, _ => fun _ => rfl
  | 16, _ => fun _ => rfl
  | 17, _ => fun _ => rfl
  | 18, _ => fun _ => rfl
  | 19, _ => fun _ => rfl
  | 20, _ => fun _ => rfl
  | 21, _ => fun _ => rfl
  | 22, _ => fun _ => rfl
  | 23, _ => fun _ => rfl
  | 24, _ => fun _ => rfl
  | 25, _ => fun _ => rfl
  | 26, _ => fun _ => rfl
  | 27, _ => fun _ => rfl
  | 28, _ => fun _ => rfl
  | 29, _ => fun _ => rfl
  | 30, _ => fun _ => rfl
  | 31, _ => fun _ => rfl
  | 32, _ => fun _ => rfl
  | 33, _ => fun _ => rfl
  | 34, _ => fun _ => rfl
  | 35, _ => fun _ => rfl
  | 36, hj => absurd rfl hj
  | 37, _ => fun _ => rfl
  | 38, _ => fun _ => rfl
  | _ + 39, _ => fun h => absurd h (by omega)
theorem mo_ne75 {S : ms_T} {g : Nat → Int} : ∀ j, j ≠ 37 → j < 39 → mo_c (S.1, ai_up S.2 75 g) j = mo_c S j
  | 0, _ => fun _ => rfl
  | 1, _ => fun _ => rfl
  | 2, _ => fun _ => rfl
  | 3, _ => fun _ => rfl
  | 4, _ => fun _ => rfl
  | 5, _ => fun _ => rfl
  | 6, _ => fun _ => rfl
  | 7, _ => fun _ => rfl
  | 8, _ => fun _ => rfl
  | 9, _ => fun _ => rfl
  | 10, _ => fun _ => rfl
  | 11, _ => fun _ => rfl
  | 12, _ => fun _ => rfl
  | 13, _ => fun _ => rfl
  | 14, _ => fun _ => rfl
  | 15, _ => fun _ => rfl
  | 16, _ => fun _ => rfl
  | 17, _ => fun _ => rfl
  | 18, _ => fun _ => rfl
  | 19, _ => fun _ => rfl
  | 20, _ => fun _ => rfl
  | 21, _ => fun _ => rfl
  | 22, _ => fun _ => rfl
  | 23, _ => fun _ => rfl
  | 24, _ => fun _ => rfl
  | 25, _ => fun _ => rfl
  | 26, _ => fun _ => rfl
  | 27, _ => fun _ => rfl
  | 28, _ => fun _ => rfl
  | 29, _ => fun _ => rfl
  | 30, _ => fun _ => rfl
  | 31, _ => fun _ => rfl
  | 32, _ => fun _ => rfl
  | 33, _ => fun _ => rfl
  | 34, _ => fun _ => rfl
  | 35, _ => fun _ => rfl
  | 36, _ => fun _ => rfl
  | 37, hj => absurd rfl hj
  | 38, _ => fun _ => rfl
  | _ + 39, _ => fun h => absurd h (by omega)
theorem mo_ne76 {S : ms_T} {g : Nat → Int} : ∀ j, j ≠ 38 → j < 39 → mo_c (S.1, ai_up S.2 76 g) j = mo_c S j
  | 0, _ => fun _ => rfl
  | 1, _ => fun _ => rfl
  | 2, _ => fun _ => rfl
  | 3, _ => fun _ => rfl
  | 4, _ => fun _ => rfl
  | 5, _ => fun _ => rfl
  | 6, _ => fun _ => rfl
  | 7, _ => fun _ => rfl
  | 8, _ => fun _ => rfl
  | 9, _ => fun _ => rfl
  | 10, _ => fun _ => rfl
  | 11, _ => fun _ => rfl
  | 12, _ => fun _ => rfl
  | 13, _ => fun _ => rfl
  | 14, _ => fun _ => rfl
  | 15, _ => fun _ => rfl
  | 16, _ => fun _ => rfl
  | 17, _ => fun _ => rfl
  | 18, _ => fun _ => rfl
  | 19, _ => fun _ => rfl
  | 20, _ => fun _ => rfl
  | 21, _ => fun _ => rfl
  | 22, _ => fun _ => rfl
  | 23, _ => fun _ => rfl
  | 24, _ => fun _ => rfl
  | 25, _ => fun _ => rfl
  | 26, _ => fun _ => rfl
  | 27, _ => fun _ => rfl
  | 28, _ => fun _ => rfl
  | 29, _ => fun _ => rfl
  | 30, _ => fun _ => rfl
  | 31, _ => fun _ => rfl
  | 32, _ => fun _ => rfl
  | 33, _ => fun _ => rfl
  | 34, _ => fun _ => rfl
  | 35, _ => fun _ => rfl
  | 36, _ => fun _ => rfl
  | 37, _ => fun _ => rfl
  | 38, hj => absurd rfl hj
  | _ + 39, _ => fun h => absurd h (by omega)
theorem mp_0 {w : aw_T} {M : am_T} {d : Nat} {P : ap_T} {pc n : Nat} {L : al_T} {st : List av_T} {h0 h : ah_T} {kc ks : Nat} {S : ms_T} {idx : Nat} {v : Int} (hd : ad_D M pc (.putfield idx) 3 n) (hf : af_put M.1.cls M.1.name idx 11 0 .int) (hM : mo_I h0 h S) (k : ∀ (h : ah_T) (S2 : ms_T), S2 = (ai_up S.1 0 v, S.2) → mo_I h0 h S2 → aw_W w M d P n L st h kc ks) : aw_W w M d P pc L (av_i v :: av_r 38 :: st) h kc ks :=
  ag_puti hd hf (mr_38 hM) (by show 0 < 64; decide) (k _ _ rfl (mo_set hM (k := 0) (by decide) (by decide) rfl mo_ne0))
theorem mp_1 {w : aw_T} {M : am_T} {d : Nat} {P : ap_T} {pc n : Nat} {L : al_T} {st : List av_T} {h0 h : ah_T} {kc ks : Nat} {S : ms_T} {idx : Nat} {v : Int} (hd : ad_D M pc (.putfield idx) 3 n) (hf : af_put M.1.cls M.1.name idx 11 1 .int) (hM : mo_I h0 h S) (k : ∀ (h : ah_T) (S2 : ms_T), S2 = (ai_up S.1 1 v, S.2) → mo_I h0 h S2 → aw_W w M d P n L st h kc ks) : aw_W w M d P pc L (av_i v :: av_r 38 :: st) h kc ks :=
  ag_puti hd hf (mr_38 hM) (by show 1 < 64; decide) (k _ _ rfl (mo_set hM (k := 0) (by decide) (by decide) rfl mo_ne0))
theorem mp_2 {w : aw_T} {M : am_T} {d : Nat} {P : ap_T} {pc n : Nat} {L : al_T} {st : List av_T} {h0 h : ah_T} {kc ks : Nat} {S : ms_T} {idx : Nat} {v : Int} (hd : ad_D M pc (.putfield idx) 3 n) (hf : af_put M.1.cls M.1.name idx 11 2 .int) (hM : mo_I h0 h S) (k : ∀ (h : ah_T) (S2 : ms_T), S2 = (ai_up S.1 2 v, S.2) → mo_I h0 h S2 → aw_W w M d P n L st h kc ks) : aw_W w M d P pc L (av_i v :: av_r 38 :: st) h kc ks :=
  ag_puti hd hf (mr_38 hM) (by show 2 < 64; decide) (k _ _ rfl (mo_set hM (k := 0) (by decide) (by decide) rfl mo_ne0))
theorem mp_3 {w : aw_T} {M : am_T} {d : Nat} {P : ap_T} {pc n : Nat} {L : al_T} {st : List av_T} {h0 h : ah_T} {kc ks : Nat} {S : ms_T} {idx : Nat} {v : Int} (hd : ad_D M pc (.putfield idx) 3 n) (hf : af_put M.1.cls M.1.name idx 11 3 .int) (hM : mo_I h0 h S) (k : ∀ (h : ah_T) (S2 : ms_T), S2 = (ai_up S.1 3 v, S.2) → mo_I h0 h S2 → aw_W w M d P n L st h kc ks) : aw_W w M d P pc L (av_i v :: av_r 38 :: st) h kc ks :=
  ag_puti hd hf (mr_38 hM) (by show 3 < 64; decide) (k _ _ rfl (mo_set hM (k := 0) (by decide) (by decide) rfl mo_ne0))
theorem mp_4 {w : aw_T} {M : am_T} {d : Nat} {P : ap_T} {pc n : Nat} {L : al_T} {st : List av_T} {h0 h : ah_T} {kc ks : Nat} {S : ms_T} {idx : Nat} {v : Int} (hd : ad_D M pc (.putfield idx) 3 n) (hf : af_put M.1.cls M.1.name idx 11 4 .int) (hM : mo_I h0 h S) (k : ∀ (h : ah_T) (S2 : ms_T), S2 = (ai_up S.1 4 v, S.2) → mo_I h0 h S2 → aw_W w M d P n L st h kc ks) : aw_W w M d P pc L (av_i v :: av_r 38 :: st) h kc ks :=
  ag_puti hd hf (mr_38 hM) (by show 4 < 64; decide) (k _ _ rfl (mo_set hM (k := 0) (by decide) (by decide) rfl mo_ne0))
theorem mp_5 {w : aw_T} {M : am_T} {d : Nat} {P : ap_T} {pc n : Nat} {L : al_T} {st : List av_T} {h0 h : ah_T} {kc ks : Nat} {S : ms_T} {idx : Nat} {v : Int} (hd : ad_D M pc (.putfield idx) 3 n) (hf : af_put M.1.cls M.1.name idx 11 5 .int) (hM : mo_I h0 h S) (k : ∀ (h : ah_T) (S2 : ms_T), S2 = (ai_up S.1 5 v, S.2) → mo_I h0 h S2 → aw_W w M d P n L st h kc ks) : aw_W w M d P pc L (av_i v :: av_r 38 :: st) h kc ks :=
  ag_puti hd hf (mr_38 hM) (by show 5 < 64; decide) (k _ _ rfl (mo_set hM (k := 0) (by decide) (by decide) rfl mo_ne0))
theorem mp_6 {w : aw_T} {M : am_T} {d : Nat} {P : ap_T} {pc n : Nat} {L : al_T} {st : List av_T} {h0 h : ah_T} {kc ks : Nat} {S : ms_T} {idx : Nat} {v : Int} (hd : ad_D M pc (.putfield idx) 3 n) (hf : af_put M.1.cls M.1.name idx 11 6 .int) (hM : mo_I h0 h S) (k : ∀ (h : ah_T) (S2 : ms_T), S2 = (ai_up S.1 6 v, S.2) → mo_I h0 h S2 → aw_W w M d P n L st h kc ks) : aw_W w M d P pc L (av_i v :: av_r 38 :: st) h kc ks :=
  ag_puti hd hf (mr_38 hM) (by show 6 < 64; decide) (k _ _ rfl (mo_set hM (k := 0) (by decide) (by decide) rfl mo_ne0))
theorem mp_7 {w : aw_T} {M : am_T} {d : Nat} {P : ap_T} {pc n : Nat} {L : al_T} {st : List av_T} {h0 h : ah_T} {kc ks : Nat} {S : ms_T} {idx : Nat} {v : Int} (hd : ad_D M pc (.putfield idx) 3 n) (hf : af_put M.1.cls M.1.name idx 11 7 .int) (hM : mo_I h0 h S) (k : ∀ (h : ah_T) (S2 : ms_T), S2 = (ai_up S.1 7 v, S.2) → mo_I h0 h S2 → aw_W w M d P n L st h kc ks) : aw_W w M d P pc L (av_i v :: av_r 38 :: st) h kc ks :=
  ag_puti hd hf (mr_38 hM) (by show 7 < 64; decide) (k _ _ rfl (mo_set hM (k := 0) (by decide) (by decide) rfl mo_ne0))
theorem mp_21 {w : aw_T} {M : am_T} {d : Nat} {P : ap_T} {pc n : Nat} {L : al_T} {st : List av_T} {h0 h : ah_T} {kc ks : Nat} {S : ms_T} {idx : Nat} {v : Int} (hd : ad_D M pc (.putfield idx) 3 n) (hf : af_put M.1.cls M.1.name idx 11 21 .int) (hM : mo_I h0 h S) (k : ∀ (h : ah_T) (S2 : ms_T), S2 = (ai_up S.1 21 v, S.2) → mo_I h0 h S2 → aw_W w M d P n L st h kc ks) : aw_W w M d P pc L (av_i v :: av_r 38 :: st) h kc ks :=
  ag_puti hd hf (mr_38 hM) (by show 21 < 64; decide) (k _ _ rfl (mo_set hM (k := 0) (by decide) (by decide) rfl mo_ne0))
theorem mp_36 {w : aw_T} {M : am_T} {d : Nat} {P : ap_T} {pc n : Nat} {L : al_T} {st : List av_T} {h0 h : ah_T} {kc ks : Nat} {S : ms_T} {idx : Nat} {v : Int} (hd : ad_D M pc (.putfield idx) 3 n) (hf : af_put M.1.cls M.1.name idx 11 36 .int) (hM : mo_I h0 h S) (k : ∀ (h : ah_T) (S2 : ms_T), S2 = (ai_up S.1 36 v, S.2) → mo_I h0 h S2 → aw_W w M d P n L st h kc ks) : aw_W w M d P pc L (av_i v :: av_r 38 :: st) h kc ks :=
  ag_puti hd hf (mr_38 hM) (by show 36 < 64; decide) (k _ _ rfl (mo_set hM (k := 0) (by decide) (by decide) rfl mo_ne0))
theorem mp_37 {w : aw_T} {M : am_T} {d : Nat} {P : ap_T} {pc n : Nat} {L : al_T} {st : List av_T} {h0 h : ah_T} {kc ks : Nat} {S : ms_T} {idx : Nat} {v : Int} (hd : ad_D M pc (.putfield idx) 3 n) (hf : af_put M.1.cls M.1.name idx 11 37 .int) (hM : mo_I h0 h S) (k : ∀ (h : ah_T) (S2 : ms_T), S2 = (ai_up S.1 37 v, S.2) → mo_I h0 h S2 → aw_W w M d P n L st h kc ks) : aw_W w M d P pc L (av_i v :: av_r 38 :: st) h kc ks :=
  ag_puti hd hf (mr_38 hM) (by show 37 < 64; decide) (k _ _ rfl (mo_set hM (k := 0) (by decide) (by decide) rfl mo_ne0))
theorem mp_38 {w : aw_T} {M : am_T} {d : Nat} {P : ap_T} {pc n : Nat} {L : al_T} {st : List av_T} {h0 h : ah_T} {kc ks : Nat} {S : ms_T} {idx : Nat} {v : Int} (hd : ad_D M pc (.putfield idx) 3 n) (hf : af_put M.1.cls M.1.name idx 11 38 .int) (hM : mo_I h0 h S) (k : ∀ (h : ah_T) (S2 : ms_T), S2 = (ai_up S.1 38 v, S.2) → mo_I h0 h S2 → aw_W w M d P n L st h kc ks) : aw_W w M d P pc L (av_i v :: av_r 38 :: st) h kc ks :=
  ag_puti hd hf (mr_38 hM) (by show 38 < 64; decide) (k _ _ rfl (mo_set hM (k := 0) (by decide) (by decide) rfl mo_ne0))
theorem mp_39 {w : aw_T} {M : am_T} {d : Nat} {P : ap_T} {pc n : Nat} {L : al_T} {st : List av_T} {h0 h : ah_T} {kc ks : Nat} {S : ms_T} {idx : Nat} {v : Int} (hd : ad_D M pc (.putfield idx) 3 n) (hf : af_put M.1.cls M.1.name idx 11 39 .int) (hM : mo_I h0 h S) (k : ∀ (h : ah_T) (S2 : ms_T), S2 = (ai_up S.1 39 v, S.2) → mo_I h0 h S2 → aw_W w M d P n L st h kc ks) : aw_W w M d P pc L (av_i v :: av_r 38 :: st) h kc ks :=
  ag_puti hd hf (mr_38 hM) (by show 39 < 64; decide) (k _ _ rfl (mo_set hM (k := 0) (by decide) (by decide) rfl mo_ne0))
theorem mp_43 {w : aw_T} {M : am_T} {d : Nat} {P : ap_T} {pc n : Nat} {L : al_T} {st : List av_T} {h0 h : ah_T} {kc ks : Nat} {S : ms_T} {idx : Nat} {v : Int} (hd : ad_D M pc (.putfield idx) 3 n) (hf : af_put M.1.cls M.1.name idx 11 43 .int) (hM : mo_I h0 h S) (k : ∀ (h : ah_T) (S2 : ms_T), S2 = (ai_up S.1 43 v, S.2) → mo_I h0 h S2 → aw_W w M d P n L st h kc ks) : aw_W w M d P pc L (av_i v :: av_r 38 :: st) h kc ks :=
  ag_puti hd hf (mr_38 hM) (by show 43 < 64; decide) (k _ _ rfl (mo_set hM (k := 0) (by decide) (by decide) rfl mo_ne0))
theorem mp_44 {w : aw_T} {M : am_T} {d : Nat} {P : ap_T} {pc n : Nat} {L : al_T} {st : List av_T} {h0 h : ah_T} {kc ks : Nat} {S : ms_T} {idx : Nat} {v : Int} (hd : ad_D M pc (.putfield idx) 3 n) (hf : af_put M.1.cls M.1.name idx 11 44 .int) (hM : mo_I h0 h S) (k : ∀ (h : ah_T) (S2 : ms_T), S2 = (ai_up S.1 44 v, S.2) → mo_I h0 h S2 → aw_W w M d P n L st h kc ks) : aw_W w M d P pc L (av_i v :: av_r 38 :: st) h kc ks :=
  ag_puti hd hf (mr_38 hM) (by show 44 < 64; decide) (k _ _ rfl (mo_set hM (k := 0) (by decide) (by decide) rfl mo_ne0))
theorem mp_47 {w : aw_T} {M : am_T} {d : Nat} {P : ap_T} {pc n : Nat} {L : al_T} {st : List av_T} {h0 h : ah_T} {kc ks : Nat} {S : ms_T} {idx : Nat} {v : Int} (hd : ad_D M pc (.putfield idx) 3 n) (hf : af_put M.1.cls M.1.name idx 11 47 .int) (hM : mo_I h0 h S) (k : ∀ (h : ah_T) (S2 : ms_T), S2 = (ai_up S.1 47 v, S.2) → mo_I h0 h S2 → aw_W w M d P n L st h kc ks) : aw_W w M d P pc L (av_i v :: av_r 38 :: st) h kc ks :=
  ag_puti hd hf (mr_38 hM) (by show 47 < 64; decide) (k _ _ rfl (mo_set hM (k := 0) (by decide) (by decide) rfl mo_ne0))
theorem mp_48 {w : aw_T} {M : am_T} {d : Nat} {P : ap_T} {pc n : Nat} {L : al_T} {st : List av_T} {h0 h : ah_T} {kc ks : Nat} {S : ms_T} {idx : Nat} {v : Int} (hd : ad_D M pc (.putfield idx) 3 n) (hf : af_put M.1.cls M.1.name idx 11 48 .int) (hM : mo_I h0 h S) (k : ∀ (h : ah_T) (S2 : ms_T), S2 = (ai_up S.1 48 v, S.2) → mo_I h0 h S2 → aw_W w M d P n L st h kc ks) : aw_W w M d P pc L (av_i v :: av_r 38 :: st) h kc ks :=
  ag_puti hd hf (mr_38 hM) (by show 48 < 64; decide) (k _ _ rfl (mo_set hM (k := 0) (by decide) (by decide) rfl mo_ne0))
theorem mp_49 {w : aw_T} {M : am_T} {d : Nat} {P : ap_T} {pc n : Nat} {L : al_T} {st : List av_T} {h0 h : ah_T} {kc ks : Nat} {S : ms_T} {idx : Nat} {v : Int} (hd : ad_D M pc (.putfield idx) 3 n) (hf : af_put M.1.cls M.1.name idx 11 49 .int) (hM : mo_I h0 h S) (k : ∀ (h : ah_T) (S2 : ms_T), S2 = (ai_up S.1 49 v, S.2) → mo_I h0 h S2 → aw_W w M d P n L st h kc ks) : aw_W w M d P pc L (av_i v :: av_r 38 :: st) h kc ks :=
  ag_puti hd hf (mr_38 hM) (by show 49 < 64; decide) (k _ _ rfl (mo_set hM (k := 0) (by decide) (by decide) rfl mo_ne0))
theorem mp_50 {w : aw_T} {M : am_T} {d : Nat} {P : ap_T} {pc n : Nat} {L : al_T} {st : List av_T} {h0 h : ah_T} {kc ks : Nat} {S : ms_T} {idx : Nat} {v : Int} (hd : ad_D M pc (.putfield idx) 3 n) (hf : af_put M.1.cls M.1.name idx 11 50 .int) (hM : mo_I h0 h S) (k : ∀ (h : ah_T) (S2 : ms_T), S2 = (ai_up S.1 50 v, S.2) → mo_I h0 h S2 → aw_W w M d P n L st h kc ks) : aw_W w M d P pc L (av_i v :: av_r 38 :: st) h kc ks :=
  ag_puti hd hf (mr_38 hM) (by show 50 < 64; decide) (k _ _ rfl (mo_set hM (k := 0) (by decide) (by decide) rfl mo_ne0))
theorem mp_51 {w : aw_T} {M : am_T} {d : Nat} {P : ap_T} {pc n : Nat} {L : al_T} {st : List av_T} {h0 h : ah_T} {kc ks : Nat} {S : ms_T} {idx : Nat} {v : Int} (hd : ad_D M pc (.putfield idx) 3 n) (hf : af_put M.1.cls M.1.name idx 11 51 .int) (hM : mo_I h0 h S) (k : ∀ (h : ah_T) (S2 : ms_T), S2 = (ai_up S.1 51 v, S.2) → mo_I h0 h S2 → aw_W w M d P n L st h kc ks) : aw_W w M d P pc L (av_i v :: av_r 38 :: st) h kc ks :=
  ag_puti hd hf (mr_38 hM) (by show 51 < 64; decide) (k _ _ rfl (mo_set hM (k := 0) (by decide) (by decide) rfl mo_ne0))
theorem mp_52 {w : aw_T} {M : am_T} {d : Nat} {P : ap_T} {pc n : Nat} {L : al_T} {st : List av_T} {h0 h : ah_T} {kc ks : Nat} {S : ms_T} {idx : Nat} {v : Int} (hd : ad_D M pc (.putfield idx) 3 n) (hf : af_put M.1.cls M.1.name idx 11 52 .int) (hM : mo_I h0 h S) (k : ∀ (h : ah_T) (S2 : ms_T), S2 = (ai_up S.1 52 v, S.2) → mo_I h0 h S2 → aw_W w M d P n L st h kc ks) : aw_W w M d P pc L (av_i v :: av_r 38 :: st) h kc ks :=
  ag_puti hd hf (mr_38 hM) (by show 52 < 64; decide) (k _ _ rfl (mo_set hM (k := 0) (by decide) (by decide) rfl mo_ne0))
theorem mp_53 {w : aw_T} {M : am_T} {d : Nat} {P : ap_T} {pc n : Nat} {L : al_T} {st : List av_T} {h0 h : ah_T} {kc ks : Nat} {S : ms_T} {idx : Nat} {v : Int} (hd : ad_D M pc (.putfield idx) 3 n) (hf : af_put M.1.cls M.1.name idx 11 53 .int) (hM : mo_I h0 h S) (k : ∀ (h : ah_T) (S2 : ms_T), S2 = (ai_up S.1 53 v, S.2) → mo_I h0 h S2 → aw_W w M d P n L st h kc ks) : aw_W w M d P pc L (av_i v :: av_r 38 :: st) h kc ks :=
  ag_puti hd hf (mr_38 hM) (by show 53 < 64; decide) (k _ _ rfl (mo_set hM (k := 0) (by decide) (by decide) rfl mo_ne0))
theorem mp_54 {w : aw_T} {M : am_T} {d : Nat} {P : ap_T} {pc n : Nat} {L : al_T} {st : List av_T} {h0 h : ah_T} {kc ks : Nat} {S : ms_T} {idx : Nat} {v : Int} (hd : ad_D M pc (.putfield idx) 3 n) (hf : af_put M.1.cls M.1.name idx 11 54 .int) (hM : mo_I h0 h S) (k : ∀ (h : ah_T) (S2 : ms_T), S2 = (ai_up S.1 54 v, S.2) → mo_I h0 h S2 → aw_W w M d P n L st h kc ks) : aw_W w M d P pc L (av_i v :: av_r 38 :: st) h kc ks :=
  ag_puti hd hf (mr_38 hM) (by show 54 < 64; decide) (k _ _ rfl (mo_set hM (k := 0) (by decide) (by decide) rfl mo_ne0))
theorem mp_55 {w : aw_T} {M : am_T} {d : Nat} {P : ap_T} {pc n : Nat} {L : al_T} {st : List av_T} {h0 h : ah_T} {kc ks : Nat} {S : ms_T} {idx : Nat} {v : Int} (hd : ad_D M pc (.putfield idx) 3 n) (hf : af_put M.1.cls M.1.name idx 11 55 .int) (hM : mo_I h0 h S) (k : ∀ (h : ah_T) (S2 : ms_T), S2 = (ai_up S.1 55 v, S.2) → mo_I h0 h S2 → aw_W w M d P n L st h kc ks) : aw_W w M d P pc L (av_i v :: av_r 38 :: st) h kc ks :=
  ag_puti hd hf (mr_38 hM) (by show 55 < 64; decide) (k _ _ rfl (mo_set hM (k := 0) (by decide) (by decide) rfl mo_ne0))
theorem mp_57 {w : aw_T} {M : am_T} {d : Nat} {P : ap_T} {pc n : Nat} {L : al_T} {st : List av_T} {h0 h : ah_T} {kc ks : Nat} {S : ms_T} {idx : Nat} {v : Int} (hd : ad_D M pc (.putfield idx) 3 n) (hf : af_put M.1.cls M.1.name idx 11 57 .boolean) (hM : mo_I h0 h S) (hz : v = 0 ∨ v = 1) (k : ∀ (h : ah_T) (S2 : ms_T), S2 = (ai_up S.1 57 v, S.2) → mo_I h0 h S2 → aw_W w M d P n L st h kc ks) : aw_W w M d P pc L (av_i v :: av_r 38 :: st) h kc ks :=
  ag_putz hd hf (mr_38 hM) (by show 57 < 64; decide) hz (k _ _ rfl (mo_set hM (k := 0) (by decide) (by decide) rfl mo_ne0))
theorem mp_63 {w : aw_T} {M : am_T} {d : Nat} {P : ap_T} {pc n : Nat} {L : al_T} {st : List av_T} {h0 h : ah_T} {kc ks : Nat} {S : ms_T} {idx : Nat} {v : Int} (hd : ad_D M pc (.putfield idx) 3 n) (hf : af_put M.1.cls M.1.name idx 11 63 .int) (hM : mo_I h0 h S) (k : ∀ (h : ah_T) (S2 : ms_T), S2 = (ai_up S.1 63 v, S.2) → mo_I h0 h S2 → aw_W w M d P n L st h kc ks) : aw_W w M d P pc L (av_i v :: av_r 38 :: st) h kc ks :=
  ag_puti hd hf (mr_38 hM) (by show 63 < 64; decide) (k _ _ rfl (mo_set hM (k := 0) (by decide) (by decide) rfl mo_ne0))
theorem ms_39 {w : aw_T} {M : am_T} {d : Nat} {P : ap_T} {pc n : Nat} {L : al_T} {st : List av_T} {h0 h : ah_T} {kc ks : Nat} {S : ms_T} {i x : Int} (hd : ad_D M pc .lastore 1 n) (hM : mo_I h0 h S) (hi : 0 ≤ i ∧ i < 10) (k : ∀ (h : ah_T) (S2 : ms_T), S2 = (S.1, ai_up S.2 39 (ai_up (S.2 39) i.toNat (x))) → mo_I h0 h S2 → aw_W w M d P n L st h kc ks) : aw_W w M d P pc L (av_l x :: av_i i :: av_r 39 :: st) h kc ks :=
  ag_last hd (mr_39 hM) (by decide) hi (k _ _ rfl (mo_set hM (k := 1) (by decide) (by decide) rfl mo_ne39))
theorem ms_39N {w : aw_T} {M : am_T} {d : Nat} {P : ap_T} {pc n : Nat} {L : al_T} {st : List av_T} {h0 h : ah_T} {kc ks : Nat} {S : ms_T} {i : Nat} {x : Int} (hd : ad_D M pc .lastore 1 n) (hM : mo_I h0 h S) (hi : i < 10) (k : ∀ (h : ah_T) (S2 : ms_T), S2 = (S.1, ai_up S.2 39 (ai_up (S.2 39) i (x))) → mo_I h0 h S2 → aw_W w M d P n L st h kc ks) : aw_W w M d P pc L (av_l x :: av_i (i : Int) :: av_r 39 :: st) h kc ks :=
  ms_39 hd hM (by omega) k
theorem ms_40 {w : aw_T} {M : am_T} {d : Nat} {P : ap_T} {pc n : Nat} {L : al_T} {st : List av_T} {h0 h : ah_T} {kc ks : Nat} {S : ms_T} {i x : Int} (hd : ad_D M pc .iastore 1 n) (hM : mo_I h0 h S) (hi : 0 ≤ i ∧ i < 16) (k : ∀ (h : ah_T) (S2 : ms_T), S2 = (S.1, ai_up S.2 40 (ai_up (S.2 40) i.toNat (x))) → mo_I h0 h S2 → aw_W w M d P n L st h kc ks) : aw_W w M d P pc L (av_i x :: av_i i :: av_r 40 :: st) h kc ks :=
  ag_iast hd (mr_40 hM) (by decide) hi (k _ _ rfl (mo_set hM (k := 2) (by decide) (by decide) rfl mo_ne40))
theorem ms_40N {w : aw_T} {M : am_T} {d : Nat} {P : ap_T} {pc n : Nat} {L : al_T} {st : List av_T} {h0 h : ah_T} {kc ks : Nat} {S : ms_T} {i : Nat} {x : Int} (hd : ad_D M pc .iastore 1 n) (hM : mo_I h0 h S) (hi : i < 16) (k : ∀ (h : ah_T) (S2 : ms_T), S2 = (S.1, ai_up S.2 40 (ai_up (S.2 40) i (x))) → mo_I h0 h S2 → aw_W w M d P n L st h kc ks) : aw_W w M d P pc L (av_i x :: av_i (i : Int) :: av_r 40 :: st) h kc ks :=
  ms_40 hd hM (by omega) k
theorem ms_41 {w : aw_T} {M : am_T} {d : Nat} {P : ap_T} {pc n : Nat} {L : al_T} {st : List av_T} {h0 h : ah_T} {kc ks : Nat} {S : ms_T} {i x : Int} (hd : ad_D M pc .iastore 1 n) (hM : mo_I h0 h S) (hi : 0 ≤ i ∧ i < 16) (k : ∀ (h : ah_T) (S2 : ms_T), S2 = (S.1, ai_up S.2 41 (ai_up (S.2 41) i.toNat (x))) → mo_I h0 h S2 → aw_W w M d P n L st h kc ks) : aw_W w M d P pc L (av_i x :: av_i i :: av_r 41 :: st) h kc ks :=
  ag_iast hd (mr_41 hM) (by decide) hi (k _ _ rfl (mo_set hM (k := 3) (by decide) (by decide) rfl mo_ne41))
theorem ms_41N {w : aw_T} {M : am_T} {d : Nat} {P : ap_T} {pc n : Nat} {L : al_T} {st : List av_T} {h0 h : ah_T} {kc ks : Nat} {S : ms_T} {i : Nat} {x : Int} (hd : ad_D M pc .iastore 1 n) (hM : mo_I h0 h S) (hi : i < 16) (k : ∀ (h : ah_T) (S2 : ms_T), S2 = (S.1, ai_up S.2 41 (ai_up (S.2 41) i (x))) → mo_I h0 h S2 → aw_W w M d P n L st h kc ks) : aw_W w M d P pc L (av_i x :: av_i (i : Int) :: av_r 41 :: st) h kc ks :=
  ms_41 hd hM (by omega) k
theorem ms_42 {w : aw_T} {M : am_T} {d : Nat} {P : ap_T} {pc n : Nat} {L : al_T} {st : List av_T} {h0 h : ah_T} {kc ks : Nat} {S : ms_T} {i x : Int} (hd : ad_D M pc .iastore 1 n) (hM : mo_I h0 h S) (hi : 0 ≤ i ∧ i < 16) (k : ∀ (h : ah_T) (S2 : ms_T), S2 = (S.1, ai_up S.2 42 (ai_up (S.2 42) i.toNat (x))) → mo_I h0 h S2 → aw_W w M d P n L st h kc ks) : aw_W w M d P pc L (av_i x :: av_i i :: av_r 42 :: st) h kc ks :=
  ag_iast hd (mr_42 hM) (by decide) hi (k _ _ rfl (mo_set hM (k := 4) (by decide) (by decide) rfl mo_ne42))
theorem ms_42N {w : aw_T} {M : am_T} {d : Nat} {P : ap_T} {pc n : Nat} {L : al_T} {st : List av_T} {h0 h : ah_T} {kc ks : Nat} {S : ms_T} {i : Nat} {x : Int} (hd : ad_D M pc .iastore 1 n) (hM : mo_I h0 h S) (hi : i < 16) (k : ∀ (h : ah_T) (S2 : ms_T), S2 = (S.1, ai_up S.2 42 (ai_up (S.2 42) i (x))) → mo_I h0 h S2 → aw_W w M d P n L st h kc ks) : aw_W w M d P pc L (av_i x :: av_i (i : Int) :: av_r 42 :: st) h kc ks :=
  ms_42 hd hM (by omega) k
theorem ms_43 {w : aw_T} {M : am_T} {d : Nat} {P : ap_T} {pc n : Nat} {L : al_T} {st : List av_T} {h0 h : ah_T} {kc ks : Nat} {S : ms_T} {i x : Int} (hd : ad_D M pc .iastore 1 n) (hM : mo_I h0 h S) (hi : 0 ≤ i ∧ i < 16) (k : ∀ (h : ah_T) (S2 : ms_T), S2 = (S.1, ai_up S.2 43 (ai_up (S.2 43) i.toNat (x))) → mo_I h0 h S2 → aw_W w M d P n L st h kc ks) : aw_W w M d P pc L (av_i x :: av_i i :: av_r 43 :: st) h kc ks :=
  ag_iast hd (mr_43 hM) (by decide) hi (k _ _ rfl (mo_set hM (k := 5) (by decide) (by decide) rfl mo_ne43))
theorem ms_43N {w : aw_T} {M : am_T} {d : Nat} {P : ap_T} {pc n : Nat} {L : al_T} {st : List av_T} {h0 h : ah_T} {kc ks : Nat} {S : ms_T} {i : Nat} {x : Int} (hd : ad_D M pc .iastore 1 n) (hM : mo_I h0 h S) (hi : i < 16) (k : ∀ (h : ah_T) (S2 : ms_T), S2 = (S.1, ai_up S.2 43 (ai_up (S.2 43) i (x))) → mo_I h0 h S2 → aw_W w M d P n L st h kc ks) : aw_W w M d P pc L (av_i x :: av_i (i : Int) :: av_r 43 :: st) h kc ks :=
  ms_43 hd hM (by omega) k
theorem ms_44 {w : aw_T} {M : am_T} {d : Nat} {P : ap_T} {pc n : Nat} {L : al_T} {st : List av_T} {h0 h : ah_T} {kc ks : Nat} {S : ms_T} {i x : Int} (hd : ad_D M pc .iastore 1 n) (hM : mo_I h0 h S) (hi : 0 ≤ i ∧ i < 16) (k : ∀ (h : ah_T) (S2 : ms_T), S2 = (S.1, ai_up S.2 44 (ai_up (S.2 44) i.toNat (x))) → mo_I h0 h S2 → aw_W w M d P n L st h kc ks) : aw_W w M d P pc L (av_i x :: av_i i :: av_r 44 :: st) h kc ks :=
  ag_iast hd (mr_44 hM) (by decide) hi (k _ _ rfl (mo_set hM (k := 6) (by decide) (by decide) rfl mo_ne44))
theorem ms_44N {w : aw_T} {M : am_T} {d : Nat} {P : ap_T} {pc n : Nat} {L : al_T} {st : List av_T} {h0 h : ah_T} {kc ks : Nat} {S : ms_T} {i : Nat} {x : Int} (hd : ad_D M pc .iastore 1 n) (hM : mo_I h0 h S) (hi : i < 16) (k : ∀ (h : ah_T) (S2 : ms_T), S2 = (S.1, ai_up S.2 44 (ai_up (S.2 44) i (x))) → mo_I h0 h S2 → aw_W w M d P n L st h kc ks) : aw_W w M d P pc L (av_i x :: av_i (i : Int) :: av_r 44 :: st) h kc ks :=
  ms_44 hd hM (by omega) k
theorem ms_45 {w : aw_T} {M : am_T} {d : Nat} {P : ap_T} {pc n : Nat} {L : al_T} {st : List av_T} {h0 h : ah_T} {kc ks : Nat} {S : ms_T} {i x : Int} (hd : ad_D M pc .iastore 1 n) (hM : mo_I h0 h S) (hi : 0 ≤ i ∧ i < 16) (k : ∀ (h : ah_T) (S2 : ms_T), S2 = (S.1, ai_up S.2 45 (ai_up (S.2 45) i.toNat (x))) → mo_I h0 h S2 → aw_W w M d P n L st h kc ks) : aw_W w M d P pc L (av_i x :: av_i i :: av_r 45 :: st) h kc ks :=
  ag_iast hd (mr_45 hM) (by decide) hi (k _ _ rfl (mo_set hM (k := 7) (by decide) (by decide) rfl mo_ne45))
theorem ms_45N {w : aw_T} {M : am_T} {d : Nat} {P : ap_T} {pc n : Nat} {L : al_T} {st : List av_T} {h0 h : ah_T} {kc ks : Nat} {S : ms_T} {i : Nat} {x : Int} (hd : ad_D M pc .iastore 1 n) (hM : mo_I h0 h S) (hi : i < 16) (k : ∀ (h : ah_T) (S2 : ms_T), S2 = (S.1, ai_up S.2 45 (ai_up (S.2 45) i (x))) → mo_I h0 h S2 → aw_W w M d P n L st h kc ks) : aw_W w M d P pc L (av_i x :: av_i (i : Int) :: av_r 45 :: st) h kc ks :=
  ms_45 hd hM (by omega) k
theorem ms_46 {w : aw_T} {M : am_T} {d : Nat} {P : ap_T} {pc n : Nat} {L : al_T} {st : List av_T} {h0 h : ah_T} {kc ks : Nat} {S : ms_T} {i x : Int} (hd : ad_D M pc .iastore 1 n) (hM : mo_I h0 h S) (hi : 0 ≤ i ∧ i < 16) (k : ∀ (h : ah_T) (S2 : ms_T), S2 = (S.1, ai_up S.2 46 (ai_up (S.2 46) i.toNat (x))) → mo_I h0 h S2 → aw_W w M d P n L st h kc ks) : aw_W w M d P pc L (av_i x :: av_i i :: av_r 46 :: st) h kc ks :=
  ag_iast hd (mr_46 hM) (by decide) hi (k _ _ rfl (mo_set hM (k := 8) (by decide) (by decide) rfl mo_ne46))
theorem ms_46N {w : aw_T} {M : am_T} {d : Nat} {P : ap_T} {pc n : Nat} {L : al_T} {st : List av_T} {h0 h : ah_T} {kc ks : Nat} {S : ms_T} {i : Nat} {x : Int} (hd : ad_D M pc .iastore 1 n) (hM : mo_I h0 h S) (hi : i < 16) (k : ∀ (h : ah_T) (S2 : ms_T), S2 = (S.1, ai_up S.2 46 (ai_up (S.2 46) i (x))) → mo_I h0 h S2 → aw_W w M d P n L st h kc ks) : aw_W w M d P pc L (av_i x :: av_i (i : Int) :: av_r 46 :: st) h kc ks :=
  ms_46 hd hM (by omega) k
theorem ms_47 {w : aw_T} {M : am_T} {d : Nat} {P : ap_T} {pc n : Nat} {L : al_T} {st : List av_T} {h0 h : ah_T} {kc ks : Nat} {S : ms_T} {i x : Int} (hd : ad_D M pc .iastore 1 n) (hM : mo_I h0 h S) (hi : 0 ≤ i ∧ i < 16) (k : ∀ (h : ah_T) (S2 : ms_T), S2 = (S.1, ai_up S.2 47 (ai_up (S.2 47) i.toNat (x))) → mo_I h0 h S2 → aw_W w M d P n L st h kc ks) : aw_W w M d P pc L (av_i x :: av_i i :: av_r 47 :: st) h kc ks :=
  ag_iast hd (mr_47 hM) (by decide) hi (k _ _ rfl (mo_set hM (k := 9) (by decide) (by decide) rfl mo_ne47))
theorem ms_47N {w : aw_T} {M : am_T} {d : Nat} {P : ap_T} {pc n : Nat} {L : al_T} {st : List av_T} {h0 h : ah_T} {kc ks : Nat} {S : ms_T} {i : Nat} {x : Int} (hd : ad_D M pc .iastore 1 n) (hM : mo_I h0 h S) (hi : i < 16) (k : ∀ (h : ah_T) (S2 : ms_T), S2 = (S.1, ai_up S.2 47 (ai_up (S.2 47) i (x))) → mo_I h0 h S2 → aw_W w M d P n L st h kc ks) : aw_W w M d P pc L (av_i x :: av_i (i : Int) :: av_r 47 :: st) h kc ks :=
  ms_47 hd hM (by omega) k
theorem ms_48 {w : aw_T} {M : am_T} {d : Nat} {P : ap_T} {pc n : Nat} {L : al_T} {st : List av_T} {h0 h : ah_T} {kc ks : Nat} {S : ms_T} {i x : Int} (hd : ad_D M pc .iastore 1 n) (hM : mo_I h0 h S) (hi : 0 ≤ i ∧ i < 16) (k : ∀ (h : ah_T) (S2 : ms_T), S2 = (S.1, ai_up S.2 48 (ai_up (S.2 48) i.toNat (x))) → mo_I h0 h S2 → aw_W w M d P n L st h kc ks) : aw_W w M d P pc L (av_i x :: av_i i :: av_r 48 :: st) h kc ks :=
  ag_iast hd (mr_48 hM) (by decide) hi (k _ _ rfl (mo_set hM (k := 10) (by decide) (by decide) rfl mo_ne48))
theorem ms_48N {w : aw_T} {M : am_T} {d : Nat} {P : ap_T} {pc n : Nat} {L : al_T} {st : List av_T} {h0 h : ah_T} {kc ks : Nat} {S : ms_T} {i : Nat} {x : Int} (hd : ad_D M pc .iastore 1 n) (hM : mo_I h0 h S) (hi : i < 16) (k : ∀ (h : ah_T) (S2 : ms_T), S2 = (S.1, ai_up S.2 48 (ai_up (S.2 48) i (x))) → mo_I h0 h S2 → aw_W w M d P n L st h kc ks) : aw_W w M d P pc L (av_i x :: av_i (i : Int) :: av_r 48 :: st) h kc ks :=
  ms_48 hd hM (by omega) k
theorem ms_49 {w : aw_T} {M : am_T} {d : Nat} {P : ap_T} {pc n : Nat} {L : al_T} {st : List av_T} {h0 h : ah_T} {kc ks : Nat} {S : ms_T} {i x : Int} (hd : ad_D M pc .iastore 1 n) (hM : mo_I h0 h S) (hi : 0 ≤ i ∧ i < 16) (k : ∀ (h : ah_T) (S2 : ms_T), S2 = (S.1, ai_up S.2 49 (ai_up (S.2 49) i.toNat (x))) → mo_I h0 h S2 → aw_W w M d P n L st h kc ks) : aw_W w M d P pc L (av_i x :: av_i i :: av_r 49 :: st) h kc ks :=
  ag_iast hd (mr_49 hM) (by decide) hi (k _ _ rfl (mo_set hM (k := 11) (by decide) (by decide) rfl mo_ne49))
theorem ms_49N {w : aw_T} {M : am_T} {d : Nat} {P : ap_T} {pc n : Nat} {L : al_T} {st : List av_T} {h0 h : ah_T} {kc ks : Nat} {S : ms_T} {i : Nat} {x : Int} (hd : ad_D M pc .iastore 1 n) (hM : mo_I h0 h S) (hi : i < 16) (k : ∀ (h : ah_T) (S2 : ms_T), S2 = (S.1, ai_up S.2 49 (ai_up (S.2 49) i (x))) → mo_I h0 h S2 → aw_W w M d P n L st h kc ks) : aw_W w M d P pc L (av_i x :: av_i (i : Int) :: av_r 49 :: st) h kc ks :=
  ms_49 hd hM (by omega) k
theorem ms_50 {w : aw_T} {M : am_T} {d : Nat} {P : ap_T} {pc n : Nat} {L : al_T} {st : List av_T} {h0 h : ah_T} {kc ks : Nat} {S : ms_T} {i x : Int} (hd : ad_D M pc .iastore 1 n) (hM : mo_I h0 h S) (hi : 0 ≤ i ∧ i < 16) (k : ∀ (h : ah_T) (S2 : ms_T), S2 = (S.1, ai_up S.2 50 (ai_up (S.2 50) i.toNat (x))) → mo_I h0 h S2 → aw_W w M d P n L st h kc ks) : aw_W w M d P pc L (av_i x :: av_i i :: av_r 50 :: st) h kc ks :=
  ag_iast hd (mr_50 hM) (by decide) hi (k _ _ rfl (mo_set hM (k := 12) (by decide) (by decide) rfl mo_ne50))
theorem ms_50N {w : aw_T} {M : am_T} {d : Nat} {P : ap_T} {pc n : Nat} {L : al_T} {st : List av_T} {h0 h : ah_T} {kc ks : Nat} {S : ms_T} {i : Nat} {x : Int} (hd : ad_D M pc .iastore 1 n) (hM : mo_I h0 h S) (hi : i < 16) (k : ∀ (h : ah_T) (S2 : ms_T), S2 = (S.1, ai_up S.2 50 (ai_up (S.2 50) i (x))) → mo_I h0 h S2 → aw_W w M d P n L st h kc ks) : aw_W w M d P pc L (av_i x :: av_i (i : Int) :: av_r 50 :: st) h kc ks :=
  ms_50 hd hM (by omega) k
theorem ms_51 {w : aw_T} {M : am_T} {d : Nat} {P : ap_T} {pc n : Nat} {L : al_T} {st : List av_T} {h0 h : ah_T} {kc ks : Nat} {S : ms_T} {i x : Int} (hd : ad_D M pc .iastore 1 n) (hM : mo_I h0 h S) (hi : 0 ≤ i ∧ i < 16) (k : ∀ (h : ah_T) (S2 : ms_T), S2 = (S.1, ai_up S.2 51 (ai_up (S.2 51) i.toNat (x))) → mo_I h0 h S2 → aw_W w M d P n L st h kc ks) : aw_W w M d P pc L (av_i x :: av_i i :: av_r 51 :: st) h kc ks :=
  ag_iast hd (mr_51 hM) (by decide) hi (k _ _ rfl (mo_set hM (k := 13) (by decide) (by decide) rfl mo_ne51))
theorem ms_51N {w : aw_T} {M : am_T} {d : Nat} {P : ap_T} {pc n : Nat} {L : al_T} {st : List av_T} {h0 h : ah_T} {kc ks : Nat} {S : ms_T} {i : Nat} {x : Int} (hd : ad_D M pc .iastore 1 n) (hM : mo_I h0 h S) (hi : i < 16) (k : ∀ (h : ah_T) (S2 : ms_T), S2 = (S.1, ai_up S.2 51 (ai_up (S.2 51) i (x))) → mo_I h0 h S2 → aw_W w M d P n L st h kc ks) : aw_W w M d P pc L (av_i x :: av_i (i : Int) :: av_r 51 :: st) h kc ks :=
  ms_51 hd hM (by omega) k
theorem ms_52 {w : aw_T} {M : am_T} {d : Nat} {P : ap_T} {pc n : Nat} {L : al_T} {st : List av_T} {h0 h : ah_T} {kc ks : Nat} {S : ms_T} {i x : Int} (hd : ad_D M pc .bastore 1 n) (hM : mo_I h0 h S) (hi : 0 ≤ i ∧ i < 20) (hz : x = 0 ∨ x = 1) (k : ∀ (h : ah_T) (S2 : ms_T), S2 = (S.1, ai_up S.2 52 (ai_up (S.2 52) i.toNat (x))) → mo_I h0 h S2 → aw_W w M d P n L st h kc ks) : aw_W w M d P pc L (av_i x :: av_i i :: av_r 52 :: st) h kc ks :=
  ag_zast hd (mr_52 hM) (by decide) hi hz (k _ _ rfl (mo_set hM (k := 14) (by decide) (by decide) rfl mo_ne52))
theorem ms_52N {w : aw_T} {M : am_T} {d : Nat} {P : ap_T} {pc n : Nat} {L : al_T} {st : List av_T} {h0 h : ah_T} {kc ks : Nat} {S : ms_T} {i : Nat} {x : Int} (hd : ad_D M pc .bastore 1 n) (hM : mo_I h0 h S) (hi : i < 20) (hz : x = 0 ∨ x = 1) (k : ∀ (h : ah_T) (S2 : ms_T), S2 = (S.1, ai_up S.2 52 (ai_up (S.2 52) i (x))) → mo_I h0 h S2 → aw_W w M d P n L st h kc ks) : aw_W w M d P pc L (av_i x :: av_i (i : Int) :: av_r 52 :: st) h kc ks :=
  ms_52 hd hM (by omega) hz k
theorem ms_53 {w : aw_T} {M : am_T} {d : Nat} {P : ap_T} {pc n : Nat} {L : al_T} {st : List av_T} {h0 h : ah_T} {kc ks : Nat} {S : ms_T} {i x : Int} (hd : ad_D M pc .iastore 1 n) (hM : mo_I h0 h S) (hi : 0 ≤ i ∧ i < 20) (k : ∀ (h : ah_T) (S2 : ms_T), S2 = (S.1, ai_up S.2 53 (ai_up (S.2 53) i.toNat (x))) → mo_I h0 h S2 → aw_W w M d P n L st h kc ks) : aw_W w M d P pc L (av_i x :: av_i i :: av_r 53 :: st) h kc ks :=
  ag_iast hd (mr_53 hM) (by decide) hi (k _ _ rfl (mo_set hM (k := 15) (by decide) (by decide) rfl mo_ne53))
theorem ms_53N {w : aw_T} {M : am_T} {d : Nat} {P : ap_T} {pc n : Nat} {L : al_T} {st : List av_T} {h0 h : ah_T} {kc ks : Nat} {S : ms_T} {i : Nat} {x : Int} (hd : ad_D M pc .iastore 1 n) (hM : mo_I h0 h S) (hi : i < 20) (k : ∀ (h : ah_T) (S2 : ms_T), S2 = (S.1, ai_up S.2 53 (ai_up (S.2 53) i (x))) → mo_I h0 h S2 → aw_W w M d P n L st h kc ks) : aw_W w M d P pc L (av_i x :: av_i (i : Int) :: av_r 53 :: st) h kc ks :=
  ms_53 hd hM (by omega) k
theorem ms_54 {w : aw_T} {M : am_T} {d : Nat} {P : ap_T} {pc n : Nat} {L : al_T} {st : List av_T} {h0 h : ah_T} {kc ks : Nat} {S : ms_T} {i x : Int} (hd : ad_D M pc .iastore 1 n) (hM : mo_I h0 h S) (hi : 0 ≤ i ∧ i < 20) (k : ∀ (h : ah_T) (S2 : ms_T), S2 = (S.1, ai_up S.2 54 (ai_up (S.2 54) i.toNat (x))) → mo_I h0 h S2 → aw_W w M d P n L st h kc ks) : aw_W w M d P pc L (av_i x :: av_i i :: av_r 54 :: st) h kc ks :=
  ag_iast hd (mr_54 hM) (by decide) hi (k _ _ rfl (mo_set hM (k := 16) (by decide) (by decide) rfl mo_ne54))
theorem ms_54N {w : aw_T} {M : am_T} {d : Nat} {P : ap_T} {pc n : Nat} {L : al_T} {st : List av_T} {h0 h : ah_T} {kc ks : Nat} {S : ms_T} {i : Nat} {x : Int} (hd : ad_D M pc .iastore 1 n) (hM : mo_I h0 h S) (hi : i < 20) (k : ∀ (h : ah_T) (S2 : ms_T), S2 = (S.1, ai_up S.2 54 (ai_up (S.2 54) i (x))) → mo_I h0 h S2 → aw_W w M d P n L st h kc ks) : aw_W w M d P pc L (av_i x :: av_i (i : Int) :: av_r 54 :: st) h kc ks :=
  ms_54 hd hM (by omega) k
theorem ms_55 {w : aw_T} {M : am_T} {d : Nat} {P : ap_T} {pc n : Nat} {L : al_T} {st : List av_T} {h0 h : ah_T} {kc ks : Nat} {S : ms_T} {i x : Int} (hd : ad_D M pc .iastore 1 n) (hM : mo_I h0 h S) (hi : 0 ≤ i ∧ i < 16) (k : ∀ (h : ah_T) (S2 : ms_T), S2 = (S.1, ai_up S.2 55 (ai_up (S.2 55) i.toNat (x))) → mo_I h0 h S2 → aw_W w M d P n L st h kc ks) : aw_W w M d P pc L (av_i x :: av_i i :: av_r 55 :: st) h kc ks :=
  ag_iast hd (mr_55 hM) (by decide) hi (k _ _ rfl (mo_set hM (k := 17) (by decide) (by decide) rfl mo_ne55))
theorem ms_55N {w : aw_T} {M : am_T} {d : Nat} {P : ap_T} {pc n : Nat} {L : al_T} {st : List av_T} {h0 h : ah_T} {kc ks : Nat} {S : ms_T} {i : Nat} {x : Int} (hd : ad_D M pc .iastore 1 n) (hM : mo_I h0 h S) (hi : i < 16) (k : ∀ (h : ah_T) (S2 : ms_T), S2 = (S.1, ai_up S.2 55 (ai_up (S.2 55) i (x))) → mo_I h0 h S2 → aw_W w M d P n L st h kc ks) : aw_W w M d P pc L (av_i x :: av_i (i : Int) :: av_r 55 :: st) h kc ks :=
  ms_55 hd hM (by omega) k
theorem ms_56 {w : aw_T} {M : am_T} {d : Nat} {P : ap_T} {pc n : Nat} {L : al_T} {st : List av_T} {h0 h : ah_T} {kc ks : Nat} {S : ms_T} {i x : Int} (hd : ad_D M pc .iastore 1 n) (hM : mo_I h0 h S) (hi : 0 ≤ i ∧ i < 16) (k : ∀ (h : ah_T) (S2 : ms_T), S2 = (S.1, ai_up S.2 56 (ai_up (S.2 56) i.toNat (x))) → mo_I h0 h S2 → aw_W w M d P n L st h kc ks) : aw_W w M d P pc L (av_i x :: av_i i :: av_r 56 :: st) h kc ks :=
  ag_iast hd (mr_56 hM) (by decide) hi (k _ _ rfl (mo_set hM (k := 18) (by decide) (by decide) rfl mo_ne56))
theorem ms_56N {w : aw_T} {M : am_T} {d : Nat} {P : ap_T} {pc n : Nat} {L : al_T} {st : List av_T} {h0 h : ah_T} {kc ks : Nat} {S : ms_T} {i : Nat} {x : Int} (hd : ad_D M pc .iastore 1 n) (hM : mo_I h0 h S) (hi : i < 16) (k : ∀ (h : ah_T) (S2 : ms_T), S2 = (S.1, ai_up S.2 56 (ai_up (S.2 56) i (x))) → mo_I h0 h S2 → aw_W w M d P n L st h kc ks) : aw_W w M d P pc L (av_i x :: av_i (i : Int) :: av_r 56 :: st) h kc ks :=
  ms_56 hd hM (by omega) k
theorem ms_57 {w : aw_T} {M : am_T} {d : Nat} {P : ap_T} {pc n : Nat} {L : al_T} {st : List av_T} {h0 h : ah_T} {kc ks : Nat} {S : ms_T} {i x : Int} (hd : ad_D M pc .iastore 1 n) (hM : mo_I h0 h S) (hi : 0 ≤ i ∧ i < 16) (k : ∀ (h : ah_T) (S2 : ms_T), S2 = (S.1, ai_up S.2 57 (ai_up (S.2 57) i.toNat (x))) → mo_I h0 h S2 → aw_W w M d P n L st h kc ks) : aw_W w M d P pc L (av_i x :: av_i i :: av_r 57 :: st) h kc ks :=
  ag_iast hd (mr_57 hM) (by decide) hi (k _ _ rfl (mo_set hM (k := 19) (by decide) (by decide) rfl mo_ne57))
theorem ms_57N {w : aw_T} {M : am_T} {d : Nat} {P : ap_T} {pc n : Nat} {L : al_T} {st : List av_T} {h0 h : ah_T} {kc ks : Nat} {S : ms_T} {i : Nat} {x : Int} (hd : ad_D M pc .iastore 1 n) (hM : mo_I h0 h S) (hi : i < 16) (k : ∀ (h : ah_T) (S2 : ms_T), S2 = (S.1, ai_up S.2 57 (ai_up (S.2 57) i (x))) → mo_I h0 h S2 → aw_W w M d P n L st h kc ks) : aw_W w M d P pc L (av_i x :: av_i (i : Int) :: av_r 57 :: st) h kc ks :=
  ms_57 hd hM (by omega) k
theorem ms_58 {w : aw_T} {M : am_T} {d : Nat} {P : ap_T} {pc n : Nat} {L : al_T} {st : List av_T} {h0 h : ah_T} {kc ks : Nat} {S : ms_T} {i x : Int} (hd : ad_D M pc .iastore 1 n) (hM : mo_I h0 h S) (hi : 0 ≤ i ∧ i < 16) (k : ∀ (h : ah_T) (S2 : ms_T), S2 = (S.1, ai_up S.2 58 (ai_up (S.2 58) i.toNat (x))) → mo_I h0 h S2 → aw_W w M d P n L st h kc ks) : aw_W w M d P pc L (av_i x :: av_i i :: av_r 58 :: st) h kc ks :=
  ag_iast hd (mr_58 hM) (by decide) hi (k _ _ rfl (mo_set hM (k := 20) (by decide) (by decide) rfl mo_ne58))
theorem ms_58N {w : aw_T} {M : am_T} {d : Nat} {P : ap_T} {pc n : Nat} {L : al_T} {st : List av_T} {h0 h : ah_T} {kc ks : Nat} {S : ms_T} {i : Nat} {x : Int} (hd : ad_D M pc .iastore 1 n) (hM : mo_I h0 h S) (hi : i < 16) (k : ∀ (h : ah_T) (S2 : ms_T), S2 = (S.1, ai_up S.2 58 (ai_up (S.2 58) i (x))) → mo_I h0 h S2 → aw_W w M d P n L st h kc ks) : aw_W w M d P pc L (av_i x :: av_i (i : Int) :: av_r 58 :: st) h kc ks :=
  ms_58 hd hM (by omega) k
theorem ms_59 {w : aw_T} {M : am_T} {d : Nat} {P : ap_T} {pc n : Nat} {L : al_T} {st : List av_T} {h0 h : ah_T} {kc ks : Nat} {S : ms_T} {i x : Int} (hd : ad_D M pc .iastore 1 n) (hM : mo_I h0 h S) (hi : 0 ≤ i ∧ i < 16) (k : ∀ (h : ah_T) (S2 : ms_T), S2 = (S.1, ai_up S.2 59 (ai_up (S.2 59) i.toNat (x))) → mo_I h0 h S2 → aw_W w M d P n L st h kc ks) : aw_W w M d P pc L (av_i x :: av_i i :: av_r 59 :: st) h kc ks :=
  ag_iast hd (mr_59 hM) (by decide) hi (k _ _ rfl (mo_set hM (k := 21) (by decide) (by decide) rfl mo_ne59))
theorem ms_59N {w : aw_T} {M : am_T} {d : Nat} {P : ap_T} {pc n : Nat} {L : al_T} {st : List av_T} {h0 h : ah_T} {kc ks : Nat} {S : ms_T} {i : Nat} {x : Int} (hd : ad_D M pc .iastore 1 n) (hM : mo_I h0 h S) (hi : i < 16) (k : ∀ (h : ah_T) (S2 : ms_T), S2 = (S.1, ai_up S.2 59 (ai_up (S.2 59) i (x))) → mo_I h0 h S2 → aw_W w M d P n L st h kc ks) : aw_W w M d P pc L (av_i x :: av_i (i : Int) :: av_r 59 :: st) h kc ks :=
  ms_59 hd hM (by omega) k
theorem ms_60 {w : aw_T} {M : am_T} {d : Nat} {P : ap_T} {pc n : Nat} {L : al_T} {st : List av_T} {h0 h : ah_T} {kc ks : Nat} {S : ms_T} {i x : Int} (hd : ad_D M pc .iastore 1 n) (hM : mo_I h0 h S) (hi : 0 ≤ i ∧ i < 16) (k : ∀ (h : ah_T) (S2 : ms_T), S2 = (S.1, ai_up S.2 60 (ai_up (S.2 60) i.toNat (x))) → mo_I h0 h S2 → aw_W w M d P n L st h kc ks) : aw_W w M d P pc L (av_i x :: av_i i :: av_r 60 :: st) h kc ks :=
  ag_iast hd (mr_60 hM) (by decide) hi (k _ _ rfl (mo_set hM (k := 22) (by decide) (by decide) rfl mo_ne60))
theorem ms_60N {w : aw_T} {M : am_T} {d : Nat} {P : ap_T} {pc n : Nat} {L : al_T} {st : List av_T} {h0 h : ah_T} {kc ks : Nat} {S : ms_T} {i : Nat} {x : Int} (hd : ad_D M pc .iastore 1 n) (hM : mo_I h0 h S) (hi : i < 16) (k : ∀ (h : ah_T) (S2 : ms_T), S2 = (S.1, ai_up S.2 60 (ai_up (S.2 60) i (x))) → mo_I h0 h S2 → aw_W w M d P n L st h kc ks) : aw_W w M d P pc L (av_i x :: av_i (i : Int) :: av_r 60 :: st) h kc ks :=
  ms_60 hd hM (by omega) k
theorem ms_61 {w : aw_T} {M : am_T} {d : Nat} {P : ap_T} {pc n : Nat} {L : al_T} {st : List av_T} {h0 h : ah_T} {kc ks : Nat} {S : ms_T} {i x : Int} (hd : ad_D M pc .iastore 1 n) (hM : mo_I h0 h S) (hi : 0 ≤ i ∧ i < 16) (k : ∀ (h : ah_T) (S2 : ms_T), S2 = (S.1, ai_up S.2 61 (ai_up (S.2 61) i.toNat (x))) → mo_I h0 h S2 → aw_W w M d P n L st h kc ks) : aw_W w M d P pc L (av_i x :: av_i i :: av_r 61 :: st) h kc ks :=
  ag_iast hd (mr_61 hM) (by decide) hi (k _ _ rfl (mo_set hM (k := 23) (by decide) (by decide) rfl mo_ne61))
theorem ms_61N {w : aw_T} {M : am_T} {d : Nat} {P : ap_T} {pc n : Nat} {L : al_T} {st : List av_T} {h0 h : ah_T} {kc ks : Nat} {S : ms_T} {i : Nat} {x : Int} (hd : ad_D M pc .iastore 1 n) (hM : mo_I h0 h S) (hi : i < 16) (k : ∀ (h : ah_T) (S2 : ms_T), S2 = (S.1, ai_up S.2 61 (ai_up (S.2 61) i (x))) → mo_I h0 h S2 → aw_W w M d P n L st h kc ks) : aw_W w M d P pc L (av_i x :: av_i (i : Int) :: av_r 61 :: st) h kc ks :=
  ms_61 hd hM (by omega) k
theorem ms_62 {w : aw_T} {M : am_T} {d : Nat} {P : ap_T} {pc n : Nat} {L : al_T} {st : List av_T} {h0 h : ah_T} {kc ks : Nat} {S : ms_T} {i x : Int} (hd : ad_D M pc .iastore 1 n) (hM : mo_I h0 h S) (hi : 0 ≤ i ∧ i < 16) (k : ∀ (h : ah_T) (S2 : ms_T), S2 = (S.1, ai_up S.2 62 (ai_up (S.2 62) i.toNat (x))) → mo_I h0 h S2 → aw_W w M d P n L st h kc ks) : aw_W w M d P pc L (av_i x :: av_i i :: av_r 62 :: st) h kc ks :=
  ag_iast hd (mr_62 hM) (by decide) hi (k _ _ rfl (mo_set hM (k := 24) (by decide) (by decide) rfl mo_ne62))
theorem ms_62N {w : aw_T} {M : am_T} {d : Nat} {P : ap_T} {pc n : Nat} {L : al_T} {st : List av_T} {h0 h : ah_T} {kc ks : Nat} {S : ms_T} {i : Nat} {x : Int} (hd : ad_D M pc .iastore 1 n) (hM : mo_I h0 h S) (hi : i < 16) (k : ∀ (h : ah_T) (S2 : ms_T), S2 = (S.1, ai_up S.2 62 (ai_up (S.2 62) i (x))) → mo_I h0 h S2 → aw_W w M d P n L st h kc ks) : aw_W w M d P pc L (av_i x :: av_i (i : Int) :: av_r 62 :: st) h kc ks :=
  ms_62 hd hM (by omega) k
theorem ms_63 {w : aw_T} {M : am_T} {d : Nat} {P : ap_T} {pc n : Nat} {L : al_T} {st : List av_T} {h0 h : ah_T} {kc ks : Nat} {S : ms_T} {i x : Int} (hd : ad_D M pc .iastore 1 n) (hM : mo_I h0 h S) (hi : 0 ≤ i ∧ i < 16) (k : ∀ (h : ah_T) (S2 : ms_T), S2 = (S.1, ai_up S.2 63 (ai_up (S.2 63) i.toNat (x))) → mo_I h0 h S2 → aw_W w M d P n L st h kc ks) : aw_W w M d P pc L (av_i x :: av_i i :: av_r 63 :: st) h kc ks :=
  ag_iast hd (mr_63 hM) (by decide) hi (k _ _ rfl (mo_set hM (k := 25) (by decide) (by decide) rfl mo_ne63))
theorem ms_63N {w : aw_T} {M : am_T} {d : Nat} {P : ap_T} {pc n : Nat} {L : al_T} {st : List av_T} {h0 h : ah_T} {kc ks : Nat} {S : ms_T} {i : Nat} {x : Int} (hd : ad_D M pc .iastore 1 n) (hM : mo_I h0 h S) (hi : i < 16) (k : ∀ (h : ah_T) (S2 : ms_T), S2 = (S.1, ai_up S.2 63 (ai_up (S.2 63) i (x))) → mo_I h0 h S2 → aw_W w M d P n L st h kc ks) : aw_W w M d P pc L (av_i x :: av_i (i : Int) :: av_r 63 :: st) h kc ks :=
  ms_63 hd hM (by omega) k
theorem ms_64 {w : aw_T} {M : am_T} {d : Nat} {P : ap_T} {pc n : Nat} {L : al_T} {st : List av_T} {h0 h : ah_T} {kc ks : Nat} {S : ms_T} {i x : Int} (hd : ad_D M pc .iastore 1 n) (hM : mo_I h0 h S) (hi : 0 ≤ i ∧ i < 9) (k : ∀ (h : ah_T) (S2 : ms_T), S2 = (S.1, ai_up S.2 64 (ai_up (S.2 64) i.toNat (x))) → mo_I h0 h S2 → aw_W w M d P n L st h kc ks) : aw_W w M d P pc L (av_i x :: av_i i :: av_r 64 :: st) h kc ks :=
  ag_iast hd (mr_64 hM) (by decide) hi (k _ _ rfl (mo_set hM (k := 26) (by decide) (by decide) rfl mo_ne64))
theorem ms_64N {w : aw_T} {M : am_T} {d : Nat} {P : ap_T} {pc n : Nat} {L : al_T} {st : List av_T} {h0 h : ah_T} {kc ks : Nat} {S : ms_T} {i : Nat} {x : Int} (hd : ad_D M pc .iastore 1 n) (hM : mo_I h0 h S) (hi : i < 9) (k : ∀ (h : ah_T) (S2 : ms_T), S2 = (S.1, ai_up S.2 64 (ai_up (S.2 64) i (x))) → mo_I h0 h S2 → aw_W w M d P n L st h kc ks) : aw_W w M d P pc L (av_i x :: av_i (i : Int) :: av_r 64 :: st) h kc ks :=
  ms_64 hd hM (by omega) k
theorem ms_65 {w : aw_T} {M : am_T} {d : Nat} {P : ap_T} {pc n : Nat} {L : al_T} {st : List av_T} {h0 h : ah_T} {kc ks : Nat} {S : ms_T} {i x : Int} (hd : ad_D M pc .bastore 1 n) (hM : mo_I h0 h S) (hi : 0 ≤ i ∧ i < 3200) (k : ∀ (h : ah_T) (S2 : ms_T), S2 = (S.1, ai_up S.2 65 (ai_up (S.2 65) i.toNat (ai_8 x))) → mo_I h0 h S2 → aw_W w M d P n L st h kc ks) : aw_W w M d P pc L (av_i x :: av_i i :: av_r 65 :: st) h kc ks :=
  ag_bast hd (mr_65 hM) (by decide) hi (k _ _ rfl (mo_set hM (k := 27) (by decide) (by decide) rfl mo_ne65))
theorem ms_65N {w : aw_T} {M : am_T} {d : Nat} {P : ap_T} {pc n : Nat} {L : al_T} {st : List av_T} {h0 h : ah_T} {kc ks : Nat} {S : ms_T} {i : Nat} {x : Int} (hd : ad_D M pc .bastore 1 n) (hM : mo_I h0 h S) (hi : i < 3200) (k : ∀ (h : ah_T) (S2 : ms_T), S2 = (S.1, ai_up S.2 65 (ai_up (S.2 65) i (ai_8 x))) → mo_I h0 h S2 → aw_W w M d P n L st h kc ks) : aw_W w M d P pc L (av_i x :: av_i (i : Int) :: av_r 65 :: st) h kc ks :=
  ms_65 hd hM (by omega) k
theorem ms_66 {w : aw_T} {M : am_T} {d : Nat} {P : ap_T} {pc n : Nat} {L : al_T} {st : List av_T} {h0 h : ah_T} {kc ks : Nat} {S : ms_T} {i x : Int} (hd : ad_D M pc .iastore 1 n) (hM : mo_I h0 h S) (hi : 0 ≤ i ∧ i < 10) (k : ∀ (h : ah_T) (S2 : ms_T), S2 = (S.1, ai_up S.2 66 (ai_up (S.2 66) i.toNat (x))) → mo_I h0 h S2 → aw_W w M d P n L st h kc ks) : aw_W w M d P pc L (av_i x :: av_i i :: av_r 66 :: st) h kc ks :=
  ag_iast hd (mr_66 hM) (by decide) hi (k _ _ rfl (mo_set hM (k := 28) (by decide) (by decide) rfl mo_ne66))
theorem ms_66N {w : aw_T} {M : am_T} {d : Nat} {P : ap_T} {pc n : Nat} {L : al_T} {st : List av_T} {h0 h : ah_T} {kc ks : Nat} {S : ms_T} {i : Nat} {x : Int} (hd : ad_D M pc .iastore 1 n) (hM : mo_I h0 h S) (hi : i < 10) (k : ∀ (h : ah_T) (S2 : ms_T), S2 = (S.1, ai_up S.2 66 (ai_up (S.2 66) i (x))) → mo_I h0 h S2 → aw_W w M d P n L st h kc ks) : aw_W w M d P pc L (av_i x :: av_i (i : Int) :: av_r 66 :: st) h kc ks :=
  ms_66 hd hM (by omega) k
theorem ms_67 {w : aw_T} {M : am_T} {d : Nat} {P : ap_T} {pc n : Nat} {L : al_T} {st : List av_T} {h0 h : ah_T} {kc ks : Nat} {S : ms_T} {i x : Int} (hd : ad_D M pc .bastore 1 n) (hM : mo_I h0 h S) (hi : 0 ≤ i ∧ i < 10) (hz : x = 0 ∨ x = 1) (k : ∀ (h : ah_T) (S2 : ms_T), S2 = (S.1, ai_up S.2 67 (ai_up (S.2 67) i.toNat (x))) → mo_I h0 h S2 → aw_W w M d P n L st h kc ks) : aw_W w M d P pc L (av_i x :: av_i i :: av_r 67 :: st) h kc ks :=
  ag_zast hd (mr_67 hM) (by decide) hi hz (k _ _ rfl (mo_set hM (k := 29) (by decide) (by decide) rfl mo_ne67))
theorem ms_67N {w : aw_T} {M : am_T} {d : Nat} {P : ap_T} {pc n : Nat} {L : al_T} {st : List av_T} {h0 h : ah_T} {kc ks : Nat} {S : ms_T} {i : Nat} {x : Int} (hd : ad_D M pc .bastore 1 n) (hM : mo_I h0 h S) (hi : i < 10) (hz : x = 0 ∨ x = 1) (k : ∀ (h : ah_T) (S2 : ms_T), S2 = (S.1, ai_up S.2 67 (ai_up (S.2 67) i (x))) → mo_I h0 h S2 → aw_W w M d P n L st h kc ks) : aw_W w M d P pc L (av_i x :: av_i (i : Int) :: av_r 67 :: st) h kc ks :=
  ms_67 hd hM (by omega) hz k
theorem ms_68 {w : aw_T} {M : am_T} {d : Nat} {P : ap_T} {pc n : Nat} {L : al_T} {st : List av_T} {h0 h : ah_T} {kc ks : Nat} {S : ms_T} {i x : Int} (hd : ad_D M pc .iastore 1 n) (hM : mo_I h0 h S) (hi : 0 ≤ i ∧ i < 100) (k : ∀ (h : ah_T) (S2 : ms_T), S2 = (S.1, ai_up S.2 68 (ai_up (S.2 68) i.toNat (x))) → mo_I h0 h S2 → aw_W w M d P n L st h kc ks) : aw_W w M d P pc L (av_i x :: av_i i :: av_r 68 :: st) h kc ks :=
  ag_iast hd (mr_68 hM) (by decide) hi (k _ _ rfl (mo_set hM (k := 30) (by decide) (by decide) rfl mo_ne68))
theorem ms_68N {w : aw_T} {M : am_T} {d : Nat} {P : ap_T} {pc n : Nat} {L : al_T} {st : List av_T} {h0 h : ah_T} {kc ks : Nat} {S : ms_T} {i : Nat} {x : Int} (hd : ad_D M pc .iastore 1 n) (hM : mo_I h0 h S) (hi : i < 100) (k : ∀ (h : ah_T) (S2 : ms_T), S2 = (S.1, ai_up S.2 68 (ai_up (S.2 68) i (x))) → mo_I h0 h S2 → aw_W w M d P n L st h kc ks) : aw_W w M d P pc L (av_i x :: av_i (i : Int) :: av_r 68 :: st) h kc ks :=
  ms_68 hd hM (by omega) k
theorem ms_69 {w : aw_T} {M : am_T} {d : Nat} {P : ap_T} {pc n : Nat} {L : al_T} {st : List av_T} {h0 h : ah_T} {kc ks : Nat} {S : ms_T} {i x : Int} (hd : ad_D M pc .iastore 1 n) (hM : mo_I h0 h S) (hi : 0 ≤ i ∧ i < 256) (k : ∀ (h : ah_T) (S2 : ms_T), S2 = (S.1, ai_up S.2 69 (ai_up (S.2 69) i.toNat (x))) → mo_I h0 h S2 → aw_W w M d P n L st h kc ks) : aw_W w M d P pc L (av_i x :: av_i i :: av_r 69 :: st) h kc ks :=
  ag_iast hd (mr_69 hM) (by decide) hi (k _ _ rfl (mo_set hM (k := 31) (by decide) (by decide) rfl mo_ne69))
theorem ms_69N {w : aw_T} {M : am_T} {d : Nat} {P : ap_T} {pc n : Nat} {L : al_T} {st : List av_T} {h0 h : ah_T} {kc ks : Nat} {S : ms_T} {i : Nat} {x : Int} (hd : ad_D M pc .iastore 1 n) (hM : mo_I h0 h S) (hi : i < 256) (k : ∀ (h : ah_T) (S2 : ms_T), S2 = (S.1, ai_up S.2 69 (ai_up (S.2 69) i (x))) → mo_I h0 h S2 → aw_W w M d P n L st h kc ks) : aw_W w M d P pc L (av_i x :: av_i (i : Int) :: av_r 69 :: st) h kc ks :=
  ms_69 hd hM (by omega) k
theorem ms_70 {w : aw_T} {M : am_T} {d : Nat} {P : ap_T} {pc n : Nat} {L : al_T} {st : List av_T} {h0 h : ah_T} {kc ks : Nat} {S : ms_T} {i x : Int} (hd : ad_D M pc .iastore 1 n) (hM : mo_I h0 h S) (hi : 0 ≤ i ∧ i < 256) (k : ∀ (h : ah_T) (S2 : ms_T), S2 = (S.1, ai_up S.2 70 (ai_up (S.2 70) i.toNat (x))) → mo_I h0 h S2 → aw_W w M d P n L st h kc ks) : aw_W w M d P pc L (av_i x :: av_i i :: av_r 70 :: st) h kc ks :=
  ag_iast hd (mr_70 hM) (by decide) hi (k _ _ rfl (mo_set hM (k := 32) (by decide) (by decide) rfl mo_ne70))
theorem ms_70N {w : aw_T} {M : am_T} {d : Nat} {P : ap_T} {pc n : Nat} {L : al_T} {st : List av_T} {h0 h : ah_T} {kc ks : Nat} {S : ms_T} {i : Nat} {x : Int} (hd : ad_D M pc .iastore 1 n) (hM : mo_I h0 h S) (hi : i < 256) (k : ∀ (h : ah_T) (S2 : ms_T), S2 = (S.1, ai_up S.2 70 (ai_up (S.2 70) i (x))) → mo_I h0 h S2 → aw_W w M d P n L st h kc ks) : aw_W w M d P pc L (av_i x :: av_i (i : Int) :: av_r 70 :: st) h kc ks :=
  ms_70 hd hM (by omega) k
theorem ms_71 {w : aw_T} {M : am_T} {d : Nat} {P : ap_T} {pc n : Nat} {L : al_T} {st : List av_T} {h0 h : ah_T} {kc ks : Nat} {S : ms_T} {i x : Int} (hd : ad_D M pc .iastore 1 n) (hM : mo_I h0 h S) (hi : 0 ≤ i ∧ i < 128) (k : ∀ (h : ah_T) (S2 : ms_T), S2 = (S.1, ai_up S.2 71 (ai_up (S.2 71) i.toNat (x))) → mo_I h0 h S2 → aw_W w M d P n L st h kc ks) : aw_W w M d P pc L (av_i x :: av_i i :: av_r 71 :: st) h kc ks :=
  ag_iast hd (mr_71 hM) (by decide) hi (k _ _ rfl (mo_set hM (k := 33) (by decide) (by decide) rfl mo_ne71))
theorem ms_71N {w : aw_T} {M : am_T} {d : Nat} {P : ap_T} {pc n : Nat} {L : al_T} {st : List av_T} {h0 h : ah_T} {kc ks : Nat} {S : ms_T} {i : Nat} {x : Int} (hd : ad_D M pc .iastore 1 n) (hM : mo_I h0 h S) (hi : i < 128) (k : ∀ (h : ah_T) (S2 : ms_T), S2 = (S.1, ai_up S.2 71 (ai_up (S.2 71) i (x))) → mo_I h0 h S2 → aw_W w M d P n L st h kc ks) : aw_W w M d P pc L (av_i x :: av_i (i : Int) :: av_r 71 :: st) h kc ks :=
  ms_71 hd hM (by omega) k
theorem ms_73 {w : aw_T} {M : am_T} {d : Nat} {P : ap_T} {pc n : Nat} {L : al_T} {st : List av_T} {h0 h : ah_T} {kc ks : Nat} {S : ms_T} {i x : Int} (hd : ad_D M pc .iastore 1 n) (hM : mo_I h0 h S) (hi : 0 ≤ i ∧ i < 16) (k : ∀ (h : ah_T) (S2 : ms_T), S2 = (S.1, ai_up S.2 73 (ai_up (S.2 73) i.toNat (x))) → mo_I h0 h S2 → aw_W w M d P n L st h kc ks) : aw_W w M d P pc L (av_i x :: av_i i :: av_r 73 :: st) h kc ks :=
  ag_iast hd (mr_73 hM) (by decide) hi (k _ _ rfl (mo_set hM (k := 35) (by decide) (by decide) rfl mo_ne73))
theorem ms_73N {w : aw_T} {M : am_T} {d : Nat} {P : ap_T} {pc n : Nat} {L : al_T} {st : List av_T} {h0 h : ah_T} {kc ks : Nat} {S : ms_T} {i : Nat} {x : Int} (hd : ad_D M pc .iastore 1 n) (hM : mo_I h0 h S) (hi : i < 16) (k : ∀ (h : ah_T) (S2 : ms_T), S2 = (S.1, ai_up S.2 73 (ai_up (S.2 73) i (x))) → mo_I h0 h S2 → aw_W w M d P n L st h kc ks) : aw_W w M d P pc L (av_i x :: av_i (i : Int) :: av_r 73 :: st) h kc ks :=
  ms_73 hd hM (by omega) k
theorem ms_74 {w : aw_T} {M : am_T} {d : Nat} {P : ap_T} {pc n : Nat} {L : al_T} {st : List av_T} {h0 h : ah_T} {kc ks : Nat} {S : ms_T} {i x : Int} (hd : ad_D M pc .iastore 1 n) (hM : mo_I h0 h S) (hi : 0 ≤ i ∧ i < 16) (k : ∀ (h : ah_T) (S2 : ms_T), S2 = (S.1, ai_up S.2 74 (ai_up (S.2 74) i.toNat (x))) → mo_I h0 h S2 → aw_W w M d P n L st h kc ks) : aw_W w M d P pc L (av_i x :: av_i i :: av_r 74 :: st) h kc ks :=
  ag_iast hd (mr_74 hM) (by decide) hi (k _ _ rfl (mo_set hM (k := 36) (by decide) (by decide) rfl mo_ne74))
theorem ms_74N {w : aw_T} {M : am_T} {d : Nat} {P : ap_T} {pc n : Nat} {L : al_T} {st : List av_T} {h0 h : ah_T} {kc ks : Nat} {S : ms_T} {i : Nat} {x : Int} (hd : ad_D M pc .iastore 1 n) (hM : mo_I h0 h S) (hi : i < 16) (k : ∀ (h : ah_T) (S2 : ms_T), S2 = (S.1, ai_up S.2 74 (ai_up (S.2 74) i (x))) → mo_I h0 h S2 → aw_W w M d P n L st h kc ks) : aw_W w M d P pc L (av_i x :: av_i (i : Int) :: av_r 74 :: st) h kc ks :=
  ms_74 hd hM (by omega) k
theorem ms_75 {w : aw_T} {M : am_T} {d : Nat} {P : ap_T} {pc n : Nat} {L : al_T} {st : List av_T} {h0 h : ah_T} {kc ks : Nat} {S : ms_T} {i x : Int} (hd : ad_D M pc .iastore 1 n) (hM : mo_I h0 h S) (hi : 0 ≤ i ∧ i < 16) (k : ∀ (h : ah_T) (S2 : ms_T), S2 = (S.1, ai_up S.2 75 (ai_up (S.2 75) i.toNat (x))) → mo_I h0 h S2 → aw_W w M d P n L st h kc ks) : aw_W w M d P pc L (av_i x :: av_i i :: av_r 75 :: st) h kc ks :=
  ag_iast hd (mr_75 hM) (by decide) hi (k _ _ rfl (mo_set hM (k := 37) (by decide) (by decide) rfl mo_ne75))
theorem ms_75N {w : aw_T} {M : am_T} {d : Nat} {P : ap_T} {pc n : Nat} {L : al_T} {st : List av_T} {h0 h : ah_T} {kc ks : Nat} {S : ms_T} {i : Nat} {x : Int} (hd : ad_D M pc .iastore 1 n) (hM : mo_I h0 h S) (hi : i < 16) (k : ∀ (h : ah_T) (S2 : ms_T), S2 = (S.1, ai_up S.2 75 (ai_up (S.2 75) i (x))) → mo_I h0 h S2 → aw_W w M d P n L st h kc ks) : aw_W w M d P pc L (av_i x :: av_i (i : Int) :: av_r 75 :: st) h kc ks :=
  ms_75 hd hM (by omega) k
theorem ms_76 {w : aw_T} {M : am_T} {d : Nat} {P : ap_T} {pc n : Nat} {L : al_T} {st : List av_T} {h0 h : ah_T} {kc ks : Nat} {S : ms_T} {i x : Int} (hd : ad_D M pc .iastore 1 n) (hM : mo_I h0 h S) (hi : 0 ≤ i ∧ i < 16) (k : ∀ (h : ah_T) (S2 : ms_T), S2 = (S.1, ai_up S.2 76 (ai_up (S.2 76) i.toNat (x))) → mo_I h0 h S2 → aw_W w M d P n L st h kc ks) : aw_W w M d P pc L (av_i x :: av_i i :: av_r 76 :: st) h kc ks :=
  ag_iast hd (mr_76 hM) (by decide) hi (k _ _ rfl (mo_set hM (k := 38) (by decide) (by decide) rfl mo_ne76))
theorem ms_76N {w : aw_T} {M : am_T} {d : Nat} {P : ap_T} {pc n : Nat} {L : al_T} {st : List av_T} {h0 h : ah_T} {kc ks : Nat} {S : ms_T} {i : Nat} {x : Int} (hd : ad_D M pc .iastore 1 n) (hM : mo_I h0 h S) (hi : i < 16) (k : ∀ (h : ah_T) (S2 : ms_T), S2 = (S.1, ai_up S.2 76 (ai_up (S.2 76) i (x))) → mo_I h0 h S2 → aw_W w M d P n L st h kc ks) : aw_W w M d P pc L (av_i x :: av_i (i : Int) :: av_r 76 :: st) h kc ks :=
  ms_76 hd hM (by omega) k
