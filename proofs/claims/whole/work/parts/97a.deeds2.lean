/-! the class brings, moves, props, days -/
def DL (f0 f : Nat → e_C) (a pl : Nat) (sd wy : Int32) (v : Nat → Int32) (r : Nat → Nat → Int32) (C : Nat) (y : Nat → Nat → Int32) : Prop := LV f 120 y ∧ DV f sd wy ∧ PV f pl v r C ∧ SD a f0 f
theorem DL.up {f0 f : Nat → e_C} {a pl C b : Nat} {sd wy : Int32} {v : Nat → Int32} {r y : Nat → Nat → Int32} {c : e_C} (h : DL f0 f a pl sd wy v r C y) (hd : AD a pl 120) (hb : a ≤ b ∧ b < a + 5) : DL f0 (va_up f b c) a pl sd wy v r C y := ⟨h.1.fr (fun e h1 h2 => vu_ne (by omega)), by unfold DV; rw [vu_ne (by omega)]; exact h.2.1, h.2.2.1.fr (fun e h1 h2 => vu_ne (by omega)), h.2.2.2.tr (SD.up (Or.inl hb))⟩
theorem sp_dayGoes {X : Nat × (Nat → Int32)} {d N K a pl S R P : Nat} {f : Nat → e_C} {all : Nat → Int32} {sd wy : Int32} (H : DW f a pl all S R P sd wy) (hdy : (all 56).toInt + 1 < 100000) : TT X (d + 5) 6 0 [.ref 119, .ref a] [] f N K (DP f N K a pl (if all 54 = 1 then all else m_day all S P (nT all)) S R P sd wy (if all 54 = 1 then 2 else 0)) := by
  have H0 := H
  obtain ⟨w, x, v, r, C, y, L, D, V, W, G, I, hd⟩ := H
  have e9 := G.w9
  have e8 := G.w8
  by_cases h2 : all 54 = 1
  · have h2' : (all 54 = 0) = False := by rw [h2]; decide
    rw [if_pos h2, if_pos h2]
    simp (disch := first | omega | decide | assumption | exact Nat.le_of_ble_eq_true rfl) only [s6_0, s6_1, s6_4, s6_7, s6_8, ow_some, true_and, and_true, and_self, if_true, if_false, not_true, not_false_eq_true, Bool.false_eq_true, eq_self, Option.toList, List.cons_append, List.nil_append, ix_in, ix_cl, lt_in, lt_cl, lt_add, ix_one, vu_eq, vu_ne, arI_mk, arL_mk, arY_mZ, arY_mB, alen_mI, fld_sfl_ne, fld_sfl_same, Option.isSome_some, pok_i, b1z, b01, z10, b1o, Int32.zero_add, vu_vu, upd_eq, upd_ne, true_or, or_true, V.v1, V.v6, V.v7, V.v8, V.v9, V.i1, V.i6, V.i7, V.i8, V.i9, V.r2, V.r3, V.r4, V.r5, V.pl, V.a2, V.a3, V.a4, V.a5, e9, h2']
    exact ⟨rfl, rfl, SD.rf, H0, rfl⟩
  · have h54 := I.z54 h2
    have h9 := I.p9
    rw [if_neg h2, if_neg h2]
    simp (disch := first | omega | decide | assumption | exact Nat.le_of_ble_eq_true rfl) only [s6_0, s6_1, s6_4, s6_7, s6_8, s6_9, s6_10, s6_10i, s6_11, s6_14, s6_15, s6_16, ow_some, true_and, and_true, and_self, if_true, if_false, not_true, not_false_eq_true, Bool.false_eq_true, eq_self, Option.toList, List.cons_append, List.nil_append, ix_in, ix_cl, lt_in, lt_cl, lt_add, ix_one, vu_eq, vu_ne, arI_mk, arL_mk, arY_mZ, arY_mB, alen_mI, fld_sfl_ne, fld_sfl_same, Option.isSome_some, pok_i, b1z, b01, z10, b1o, Int32.zero_add, vu_vu, upd_eq, upd_ne, true_or, or_true, V.v1, V.v6, V.v7, V.v8, V.v9, V.i1, V.i6, V.i7, V.i8, V.i9, V.r2, V.r3, V.r4, V.r5, V.pl, V.a2, V.a3, V.a4, V.a5, e9, e8, h54]
    have B0 : DL f f a pl sd wy v r C y := ⟨L, D, W, SD.rf⟩
    have V2 := V.set (i := 8) (z := all 56 + 1) (by decide)
    have B2 := B0.up (b := a) (c := sfl (f a) 8 (.int (all 56 + 1))) hd (by omega)
    generalize va_up f a (sfl (f a) 8 (.int (all 56 + 1))) = f2 at V2 B2 ⊢
    simp (disch := first | omega | decide | assumption | exact Nat.le_of_ble_eq_true rfl) only [s6_19, s6_20, s6_21, s6_24, s6_25, ow_some, true_and, and_true, and_self, if_true, if_false, not_true, not_false_eq_true, Bool.false_eq_true, eq_self, Option.toList, List.cons_append, List.nil_append, ix_in, ix_cl, lt_in, lt_cl, lt_add, ix_one, vu_eq, vu_ne, arI_mk, arL_mk, arY_mZ, arY_mB, alen_mI, fld_sfl_ne, fld_sfl_same, Option.isSome_some, pok_i, b1z, b01, z10, b1o, Int32.zero_add, vu_vu, upd_eq, upd_ne, true_or, or_true, V2.v1, V2.v6, V2.v7, V2.v8, V2.v9, V2.i1, V2.i6, V2.i7, V2.i8, V2.i9, V2.r2, V2.r3, V2.r4, V2.r5, V2.pl, V2.a2, V2.a3, V2.a4, V2.a5]
    have V3 := V2.set (i := 7) (z := 0) (by decide)
    have B3 := B2.up (b := a) (c := sfl (f2 a) 7 (.int 0)) hd (by omega)
    generalize va_up f2 a (sfl (f2 a) 7 (.int 0)) = f3 at V3 B3 ⊢
    obtain ⟨I1, hT⟩ := I.pday hdy
    have hn : ∀ i, i ≠ 56 → i ≠ 55 → p_day all i = all i := fun i h1 h2 => by unfold p_day; rw [upd_ne h2, upd_ne h1]
    have G3 : CR (p_day all) S P (upd (upd w 8 (all 56 + 1)) 7 0) x v r C := by
      refine ⟨⟨by rw [upd_ne (by decide), upd_ne (by decide), hn _ (by decide) (by decide)]; exact G.w1, by rw [upd_ne (by decide), upd_ne (by decide), hn _ (by decide) (by decide)]; exact G.w6, by rw [upd_eq]; unfold p_day; rw [upd_eq], by rw [upd_ne (by decide), upd_eq]; unfold p_day; rw [upd_ne (by decide), upd_eq], by rw [upd_ne (by decide), upd_ne (by decide), hn _ (by decide) (by decide)]; exact G.w9⟩, fun p hp => by rw [hn _ (by omega) (by omega)]; exact G.x2 hp, fun p hp => by rw [hn _ (by omega) (by omega)]; exact G.x3 hp, fun p hp => by rw [hn _ (by omega) (by omega)]; exact G.x4 hp, fun k hk => by rw [hn _ (by omega) (by omega)]; exact G.x5 hk, G.pr.cg I.s8 (fun i hi => hn _ (by omega) (by omega))⟩
    refine k6_26 B3.2.1.cn (Nat.le_of_ble_eq_true rfl) (sp_settle B3.1 B3.2.1 V3 B3.2.2.1 G3 I1 hd (by rw [hn _ (by decide) (by decide)]; exact h54)) ?_
    rintro f4 n4 k4 v4 ⟨rfl, rfl, rfl, sd4, H4⟩
    simp (disch := first | omega | decide | assumption | exact Nat.le_of_ble_eq_true rfl) only [s6_29, s6_30, ow_some, true_and, and_true, and_self, if_true, if_false, not_true, not_false_eq_true, Bool.false_eq_true, eq_self, Option.toList, List.cons_append, List.nil_append, ix_in, ix_cl, lt_in, lt_cl, lt_add, ix_one, vu_eq, vu_ne, arI_mk, arL_mk, arY_mZ, arY_mB, alen_mI, fld_sfl_ne, fld_sfl_same, Option.isSome_some, pok_i, b1z, b01, z10, b1o, Int32.zero_add, vu_vu, upd_eq, upd_ne, true_or, or_true]
    rw [hT] at H4
    exact ⟨rfl, rfl, B3.2.2.2.tr sd4, H4, rfl⟩
theorem sp_propOne {X : Nat × (Nat → Int32)} {d N K a pl S R P : Nat} {f : Nat → e_C} {all : Nat → Int32} {sd wy : Int32} (H : DW f a pl all S R P sd wy) {k : Int32} : TT X (d + 5) 5 0 [.ref 119, .ref a, .int k] [] f N K (DP f N K a pl (if w_prop all S k.toInt = 0 then m_prop all S P (nT all) k.toInt.toNat else all) S R P sd wy (w_prop all S k.toInt)) := by
  have H0 := H
  obtain ⟨w, x, v, r, C, y, L, D, V, W, G, I, hd⟩ := H
  have e9 := G.w9
  have h8 := I.s8
  have h9 := I.p9
  have hS : v 0 = nI S := by rw [G.v0]; exact I.eS
  have no : ∀ z : Int32, z ≠ 0 → w_prop all S k.toInt = z → DP f N K a pl (if w_prop all S k.toInt = 0 then m_prop all S P (nT all) k.toInt.toNat else all) S R P sd wy (w_prop all S k.toInt) f N K (some (.int z)) := by
    intro z hz he
    rw [he, if_neg hz]
    exact ⟨rfl, rfl, SD.rf, H0, rfl⟩
  simp (disch := first | omega | decide | assumption | exact Nat.le_of_ble_eq_true rfl) only [s5_0, s5_1, ow_some, true_and, and_true, and_self, if_true, if_false, not_true, not_false_eq_true, Bool.false_eq_true, eq_self, Option.toList, List.cons_append, List.nil_append, ix_in, ix_cl, lt_in, lt_cl, lt_add, ix_one, vu_eq, vu_ne, arI_mk, arL_mk, arY_mZ, arY_mB, alen_mI, fld_sfl_ne, fld_sfl_same, Option.isSome_some, pok_i, b1z, b01, z10, b1o, Int32.zero_add, vu_vu, upd_eq, upd_ne, true_or, or_true]
  rw [p5_2 V.cn (Nat.le_of_ble_eq_true rfl) (sp_isStp V W hS h8)]
  by_cases h1 : ¬ (0 ≤ k.toInt ∧ k.toInt < S)
  · have h1' : (0 ≤ k.toInt ∧ k.toInt < S) = False := eq_false h1
    have hw : w_prop all S k.toInt = 1 := by unfold w_prop; rw [if_neg h1]
    simp (disch := first | omega | decide | assumption | exact Nat.le_of_ble_eq_true rfl) only [s5_5, s5_8, s5_9, ow_some, true_and, and_true, and_self, if_true, if_false, not_true, not_false_eq_true, Bool.false_eq_true, eq_self, Option.toList, List.cons_append, List.nil_append, ix_in, ix_cl, lt_in, lt_cl, lt_add, ix_one, vu_eq, vu_ne, arI_mk, arL_mk, arY_mZ, arY_mB, alen_mI, fld_sfl_ne, fld_sfl_same, Option.isSome_some, pok_i, b1z, b01, z10, b1o, Int32.zero_add, vu_vu, upd_eq, upd_ne, true_or, or_true, h1']
    exact no 1 (by decide) hw
  have h1 := Classical.not_not.mp h1
  have h1' : (0 ≤ k.toInt ∧ k.toInt < S) = True := eq_true h1
  obtain ⟨j, hj, rfl, hpi⟩ := i9 (v := k) (N := S) h1.1 h1.2 (by omega)
  have ej : (nI j).toInt.toNat = j := by rw [hpi]; rfl
  by_cases h2 : all 54 = 1
  · have h2' : (all 54 = 0) = False := by rw [h2]; decide
    have hw : w_prop all S (nI j).toInt = 2 := by unfold w_prop; rw [if_pos h1, if_pos (Or.inl h2)]
    simp (disch := first | omega | decide | assumption | exact Nat.le_of_ble_eq_true rfl) only [s5_5, s5_8, s5_9, s5_10, s5_11, s5_14, s5_26, s5_27, ow_some, true_and, and_true, and_self, if_true, if_false, not_true, not_false_eq_true, Bool.false_eq_true, eq_self, Option.toList, List.cons_append, List.nil_append, ix_in, ix_cl, lt_in, lt_cl, lt_add, ix_one, vu_eq, vu_ne, arI_mk, arL_mk, arY_mZ, arY_mB, alen_mI, fld_sfl_ne, fld_sfl_same, Option.isSome_some, pok_i, b1z, b01, z10, b1o, Int32.zero_add, vu_vu, upd_eq, upd_ne, true_or, or_true, V.v1, V.v6, V.v7, V.v8, V.v9, V.i1, V.i6, V.i7, V.i8, V.i9, V.r2, V.r3, V.r4, V.r5, V.pl, V.a2, V.a3, V.a4, V.a5, h1', e9, h2']
    exact no 2 (by decide) hw
  have h54 := I.z54 h2
  simp (disch := first | omega | decide | assumption | exact Nat.le_of_ble_eq_true rfl) only [s5_5, s5_8, s5_9, s5_10, s5_11, s5_14, s5_17, ow_some, true_and, and_true, and_self, if_true, if_false, not_true, not_false_eq_true, Bool.false_eq_true, eq_self, Option.toList, List.cons_append, List.nil_append, ix_in, ix_cl, lt_in, lt_cl, lt_add, ix_one, vu_eq, vu_ne, arI_mk, arL_mk, arY_mZ, arY_mB, alen_mI, fld_sfl_ne, fld_sfl_same, Option.isSome_some, pok_i, b1z, b01, z10, b1o, Int32.zero_add, vu_vu, upd_eq, upd_ne, true_or, or_true, V.v1, V.v6, V.v7, V.v8, V.v9, V.i1, V.i6, V.i7, V.i8, V.i9, V.r2, V.r3, V.r4, V.r5, V.pl, V.a2, V.a3, V.a4, V.a5, h1', e9, h54]
  rw [p5_18 V.cn (Nat.le_of_ble_eq_true rfl) (sp_propsAl V G I)]
  by_cases h3 : m_sum all 84 S 0 0 = 99
  · have hw : w_prop all S (nI j).toInt = 2 := by unfold w_prop; rw [if_pos h1, if_pos (Or.inr h3)]
    have h3' : ((99 : Int32) < 99) = False := by decide
    simp (disch := first | omega | decide | assumption | exact Nat.le_of_ble_eq_true rfl) only [s5_21, s5_23, s5_26, s5_27, ow_some, true_and, and_true, and_self, if_true, if_false, not_true, not_false_eq_true, Bool.false_eq_true, eq_self, Option.toList, List.cons_append, List.nil_append, ix_in, ix_cl, lt_in, lt_cl, lt_add, ix_one, vu_eq, vu_ne, arI_mk, arL_mk, arY_mZ, arY_mB, alen_mI, fld_sfl_ne, fld_sfl_same, Option.isSome_some, pok_i, b1z, b01, z10, b1o, Int32.zero_add, vu_vu, upd_eq, upd_ne, true_or, or_true, h3, h3']
    exact no 2 (by decide) hw
  · have hw : w_prop all S (nI j).toInt = 0 := by unfold w_prop; rw [if_pos h1, if_neg (fun z => z.elim h2 h3)]
    have h3' : (m_sum all 84 S 0 0 < 99) = True := by
      apply eq_true
      rw [Int32.lt_iff_toInt_lt, show (99 : Int32).toInt = 99 by decide]
      have := I.ps
      have : ¬ (m_sum all 84 S 0 0).toInt = 99 := fun z => h3 (Int32.toInt_inj.mp (by rw [z]; decide))
      omega
    have e5 := G.x5 (k := j) (by omega)
    rw [hw, if_pos rfl, ej]
    simp (disch := first | omega | decide | assumption | exact Nat.le_of_ble_eq_true rfl) only [s5_21, s5_23, s5_26, s5_27, s5_28, s5_29, s5_32, s5_33, s5_34, s5_35, s5_36, s5_37, s5_38, s5_39, ow_some, true_and, and_true, and_self, if_true, if_false, not_true, not_false_eq_true, Bool.false_eq_true, eq_self, Option.toList, List.cons_append, List.nil_append, ix_in, ix_cl, lt_in, lt_cl, lt_add, ix_one, vu_eq, vu_ne, arI_mk, arL_mk, arY_mZ, arY_mB, alen_mI, fld_sfl_ne, fld_sfl_same, Option.isSome_some, pok_i, b1z, b01, z10, b1o, Int32.zero_add, vu_vu, upd_eq, upd_ne, true_or, or_true, V.v1, V.v6, V.v7, V.v8, V.v9, V.i1, V.i6, V.i7, V.i8, V.i9, V.r2, V.r3, V.r4, V.r5, V.pl, V.a2, V.a3, V.a4, V.a5, h3', e5]
    have B0 : DL f f a pl sd wy v r C y := ⟨L, D, W, SD.rf⟩
    have V2 := V.s5 (g := upd (x 5) j (all (84 + j) + 1))
    have B2 := B0.up (b := a + 4) (c := .inl (.int, 8, .inl (upd (x 5) j (all (84 + j) + 1)))) hd (by omega)
    generalize va_up f (a + 4) (.inl (.int, 8, .inl (upd (x 5) j (all (84 + j) + 1)))) = f2 at V2 B2 ⊢
    obtain ⟨I1, hT⟩ := I.pprop hj h3
    have hn : ∀ i, i ≠ 84 + j → upd all (84 + j) (all (84 + j) + 1) i = all i := fun i h1 => upd_ne h1
    have G2 : CR (upd all (84 + j) (all (84 + j) + 1)) S P w (up2 x 5 (upd (x 5) j (all (84 + j) + 1))) v r C := by
      refine ⟨⟨by rw [hn _ (by omega)]; exact G.w1, by rw [hn _ (by omega)]; exact G.w6, by rw [hn _ (by omega)]; exact G.w7, by rw [hn _ (by omega)]; exact G.w8, by rw [hn _ (by omega)]; exact G.w9⟩, fun p hp => by rw [up2_ne (by decide), hn _ (by omega)]; exact G.x2 hp, fun p hp => by rw [up2_ne (by decide), hn _ (by omega)]; exact G.x3 hp, fun p hp => by rw [up2_ne (by decide), hn _ (by omega)]; exact G.x4 hp, fun k hk => ?_, G.pr.cg I.s8 (fun i hi => hn _ (by omega))⟩
      rw [up2_eq]
      by_cases h : k = j
      · subst h; rw [upd_eq, upd_eq]
      · rw [upd_ne h, hn _ (by omega)]; exact G.x5 hk
    refine k5_40 B2.2.1.cn (Nat.le_of_ble_eq_true rfl) (sp_settle B2.1 B2.2.1 V2 B2.2.2.1 G2 I1 hd (by rw [hn _ (by omega)]; exact h54)) ?_
    rintro f4 n4 k4 v4 ⟨rfl, rfl, rfl, sd4, H4⟩
    simp (disch := first | omega | decide | assumption | exact Nat.le_of_ble_eq_true rfl) only [s5_43, s5_44, ow_some, true_and, and_true, and_self, if_true, if_false, not_true, not_false_eq_true, Bool.false_eq_true, eq_self, Option.toList, List.cons_append, List.nil_append, ix_in, ix_cl, lt_in, lt_cl, lt_add, ix_one, vu_eq, vu_ne, arI_mk, arL_mk, arY_mZ, arY_mB, alen_mI, fld_sfl_ne, fld_sfl_same, Option.isSome_some, pok_i, b1z, b01, z10, b1o, Int32.zero_add, vu_vu, upd_eq, upd_ne, true_or, or_true]
    rw [hT] at H4
    exact ⟨rfl, rfl, B2.2.2.2.tr sd4, H4, rfl⟩
def abI (x : Int32) : Int32 := if 0 ≤ x then x else -x
theorem sp_abs {X : Nat × (Nat → Int32)} {d N K : Nat} {f : Nat → e_C} {x : Int32} : PU X d 304 [.int x] f N K (some (.int (abI x))) := by
  unfold PU abI
  by_cases h : 0 ≤ x
  · rw [if_pos h]
    simp (disch := first | omega | decide | assumption | exact Nat.le_of_ble_eq_true rfl) only [s304_0, s304_1, s304_4, s304_5, s304_6, s304_9, s304_10, ow_some, true_and, and_true, and_self, if_true, if_false, not_true, not_false_eq_true, Bool.false_eq_true, eq_self, Option.toList, List.cons_append, List.nil_append, ix_in, ix_cl, lt_in, lt_cl, lt_add, ix_one, vu_eq, vu_ne, arI_mk, arL_mk, arY_mZ, arY_mB, alen_mI, fld_sfl_ne, fld_sfl_same, Option.isSome_some, pok_i, b1z, b01, z10, b1o, Int32.zero_add, vu_vu, upd_eq, upd_ne, true_or, or_true, h]
  · rw [if_neg h]
    simp (disch := first | omega | decide | assumption | exact Nat.le_of_ble_eq_true rfl) only [s304_0, s304_1, s304_4, s304_5, s304_6, s304_9, s304_10, ow_some, true_and, and_true, and_self, if_true, if_false, not_true, not_false_eq_true, Bool.false_eq_true, eq_self, Option.toList, List.cons_append, List.nil_append, ix_in, ix_cl, lt_in, lt_cl, lt_add, ix_one, vu_eq, vu_ne, arI_mk, arL_mk, arY_mZ, arY_mB, alen_mI, fld_sfl_ne, fld_sfl_same, Option.isSome_some, pok_i, b1z, b01, z10, b1o, Int32.zero_add, vu_vu, upd_eq, upd_ne, true_or, or_true, h]
theorem ab_t : ∀ s, s < 8 → ∀ k, k < 8 → (abI (nI s - nI k) = 1) = ((nI s).toInt = (k : Int) - 1 ∨ (nI s).toInt = (k : Int) + 1) := by
  have h : ∀ s, s < 8 → ∀ k, k < 8 → (decide (abI (nI s - nI k) = 1)) = decide ((nI s).toInt = (k : Int) - 1 ∨ (nI s).toInt = (k : Int) + 1) := by decide
  intro s hs k hk
  exact decide_eq_decide.mp (h s hs k hk) |> propext
theorem sp_moveOne {X : Nat × (Nat → Int32)} {d N K a pl S R P : Nat} {f : Nat → e_C} {all : Nat → Int32} {sd wy : Int32} (H : DW f a pl all S R P sd wy) {p k : Int32} : TT X (d + 5) 4 0 [.ref 119, .ref a, .int p, .int k] [] f N K (DP f N K a pl (if w_move all S P (nT all) p.toInt k.toInt = 0 then m_move all S P (nT all) p.toInt.toNat k.toInt.toNat else all) S R P sd wy (w_move all S P (nT all) p.toInt k.toInt)) := by
  have H0 := H
  obtain ⟨w, x, v, r, C, y, L, D, V, W, G, I, hd⟩ := H
  have e9 := G.w9
  have h8 := I.s8
  have h9 := I.p9
  have hS : v 0 = nI S := by rw [G.v0]; exact I.eS
  have hP : w 1 = nI P := by rw [G.w1]; exact I.eP
  have hT : w 6 = nI (nT all) := by rw [G.w6]; exact I.eT
  have no : ∀ z : Int32, z ≠ 0 → w_move all S P (nT all) p.toInt k.toInt = z → DP f N K a pl (if w_move all S P (nT all) p.toInt k.toInt = 0 then m_move all S P (nT all) p.toInt.toNat k.toInt.toNat else all) S R P sd wy (w_move all S P (nT all) p.toInt k.toInt) f N K (some (.int z)) := by
    intro z hz he
    rw [he, if_neg hz]
    exact ⟨rfl, rfl, SD.rf, H0, rfl⟩
  simp (disch := first | omega | decide | assumption | exact Nat.le_of_ble_eq_true rfl) only [s4_0, s4_1, ow_some, true_and, and_true, and_self, if_true, if_false, not_true, not_false_eq_true, Bool.false_eq_true, eq_self, Option.toList, List.cons_append, List.nil_append, ix_in, ix_cl, lt_in, lt_cl, lt_add, ix_one, vu_eq, vu_ne, arI_mk, arL_mk, arY_mZ, arY_mB, alen_mI, fld_sfl_ne, fld_sfl_same, Option.isSome_some, pok_i, b1z, b01, z10, b1o, Int32.zero_add, vu_vu, upd_eq, upd_ne, true_or, or_true]
  rw [p4_2 V.cn (Nat.le_of_ble_eq_true rfl) (sp_isTold V hP h9)]
  by_cases h1 : ¬ (0 ≤ p.toInt ∧ p.toInt < P)
  · have h1' : (0 ≤ p.toInt ∧ p.toInt < P) = False := eq_false h1
    have hw : w_move all S P (nT all) p.toInt k.toInt = 1 := by unfold w_move; rw [if_neg (fun z => h1 z.1)]
    simp (disch := first | omega | decide | assumption | exact Nat.le_of_ble_eq_true rfl) only [s4_5, s4_16, s4_17, ow_some, true_and, and_true, and_self, if_true, if_false, not_true, not_false_eq_true, Bool.false_eq_true, eq_self, Option.toList, List.cons_append, List.nil_append, ix_in, ix_cl, lt_in, lt_cl, lt_add, ix_one, vu_eq, vu_ne, arI_mk, arL_mk, arY_mZ, arY_mB, alen_mI, fld_sfl_ne, fld_sfl_same, Option.isSome_some, pok_i, b1z, b01, z10, b1o, Int32.zero_add, vu_vu, upd_eq, upd_ne, true_or, or_true, h1']
    exact no 1 (by decide) hw
  have h1 := Classical.not_not.mp h1
  have h1' : (0 ≤ p.toInt ∧ p.toInt < P) = True := eq_true h1
  simp (disch := first | omega | decide | assumption | exact Nat.le_of_ble_eq_true rfl) only [s4_5, s4_8, s4_9, ow_some, true_and, and_true, and_self, if_true, if_false, not_true, not_false_eq_true, Bool.false_eq_true, eq_self, Option.toList, List.cons_append, List.nil_append, ix_in, ix_cl, lt_in, lt_cl, lt_add, ix_one, vu_eq, vu_ne, arI_mk, arL_mk, arY_mZ, arY_mB, alen_mI, fld_sfl_ne, fld_sfl_same, Option.isSome_some, pok_i, b1z, b01, z10, b1o, Int32.zero_add, vu_vu, upd_eq, upd_ne, true_or, or_true, h1']
  rw [p4_10 V.cn (Nat.le_of_ble_eq_true rfl) (sp_isStp V W hS h8)]
  by_cases h2 : ¬ (0 ≤ k.toInt ∧ k.toInt < S)
  · have h2' : (0 ≤ k.toInt ∧ k.toInt < S) = False := eq_false h2
    have hw : w_move all S P (nT all) p.toInt k.toInt = 1 := by unfold w_move; rw [if_neg (fun z => h2 z.2)]
    simp (disch := first | omega | decide | assumption | exact Nat.le_of_ble_eq_true rfl) only [s4_13, s4_16, s4_17, ow_some, true_and, and_true, and_self, if_true, if_false, not_true, not_false_eq_true, Bool.false_eq_true, eq_self, Option.toList, List.cons_append, List.nil_append, ix_in, ix_cl, lt_in, lt_cl, lt_add, ix_one, vu_eq, vu_ne, arI_mk, arL_mk, arY_mZ, arY_mB, alen_mI, fld_sfl_ne, fld_sfl_same, Option.isSome_some, pok_i, b1z, b01, z10, b1o, Int32.zero_add, vu_vu, upd_eq, upd_ne, true_or, or_true, h2']
    exact no 1 (by decide) hw
  have h2 := Classical.not_not.mp h2
  have h2' : (0 ≤ k.toInt ∧ k.toInt < S) = True := eq_true h2
  obtain ⟨j, hj, rfl, hpi⟩ := i9 (v := p) (N := P) h1.1 h1.2 (by omega)
  obtain ⟨i, hi, rfl, hki⟩ := i9 (v := k) (N := S) h2.1 h2.2 (by omega)
  have ej : (nI j).toInt.toNat = j := by rw [hpi]; rfl
  have ei : (nI i).toInt.toNat = i := by rw [hki]; rfl
  by_cases h3 : all 54 = 1
  · have h3' : (all 54 = 0) = False := by rw [h3]; decide
    have hw : w_move all S P (nT all) (nI j).toInt (nI i).toInt = 2 := by unfold w_move; rw [if_pos ⟨h1, h2⟩, if_pos (Or.inl h3)]
    simp (disch := first | omega | decide | assumption | exact Nat.le_of_ble_eq_true rfl) only [s4_13, s4_16, s4_17, s4_18, s4_19, s4_22, s4_48, s4_49, ow_some, true_and, and_true, and_self, if_true, if_false, not_true, not_false_eq_true, Bool.false_eq_true, eq_self, Option.toList, List.cons_append, List.nil_append, ix_in, ix_cl, lt_in, lt_cl, lt_add, ix_one, vu_eq, vu_ne, arI_mk, arL_mk, arY_mZ, arY_mB, alen_mI, fld_sfl_ne, fld_sfl_same, Option.isSome_some, pok_i, b1z, b01, z10, b1o, Int32.zero_add, vu_vu, upd_eq, upd_ne, true_or, or_true, V.v1, V.v6, V.v7, V.v8, V.v9, V.i1, V.i6, V.i7, V.i8, V.i9, V.r2, V.r3, V.r4, V.r5, V.pl, V.a2, V.a3, V.a4, V.a5, h2', e9, h3']
    exact no 2 (by decide) hw
  have h54 := I.z54 h3
  simp (disch := first | omega | decide | assumption | exact Nat.le_of_ble_eq_true rfl) only [s4_13, s4_16, s4_17, s4_18, s4_19, s4_22, s4_25, s4_26, ow_some, true_and, and_true, and_self, if_true, if_false, not_true, not_false_eq_true, Bool.false_eq_true, eq_self, Option.toList, List.cons_append, List.nil_append, ix_in, ix_cl, lt_in, lt_cl, lt_add, ix_one, vu_eq, vu_ne, arI_mk, arL_mk, arY_mZ, arY_mB, alen_mI, fld_sfl_ne, fld_sfl_same, Option.isSome_some, pok_i, b1z, b01, z10, b1o, Int32.zero_add, vu_vu, upd_eq, upd_ne, true_or, or_true, V.v1, V.v6, V.v7, V.v8, V.v9, V.i1, V.i6, V.i7, V.i8, V.i9, V.r2, V.r3, V.r4, V.r5, V.pl, V.a2, V.a3, V.a4, V.a5, h2', e9, h54]
  rw [p4_27 V.cn (Nat.le_of_ble_eq_true rfl) (sp_isTj V hP h9 hT I.t5 hj)]
  by_cases h4 : ¬ (nT all).testBit j = true
  · have hw : w_move all S P (nT all) (nI j).toInt (nI i).toInt = 2 := by unfold w_move; rw [if_pos ⟨h1, h2⟩, ej, if_pos (Or.inr (Or.inl h4))]
    simp (disch := first | omega | decide | assumption | exact Nat.le_of_ble_eq_true rfl) only [s4_30, s4_48, s4_49, ow_some, true_and, and_true, and_self, if_true, if_false, not_true, not_false_eq_true, Bool.false_eq_true, eq_self, Option.toList, List.cons_append, List.nil_append, ix_in, ix_cl, lt_in, lt_cl, lt_add, ix_one, vu_eq, vu_ne, arI_mk, arL_mk, arY_mZ, arY_mB, alen_mI, fld_sfl_ne, fld_sfl_same, Option.isSome_some, pok_i, b1z, b01, z10, b1o, Int32.zero_add, vu_vu, upd_eq, upd_ne, true_or, or_true, h4]
    exact no 2 (by decide) hw
  have h4 := Classical.not_not.mp h4
  obtain ⟨sp, hsp, hst⟩ := I.st hj
  have e2 : x 2 j = nI sp := by rw [G.x2 hj]; exact hst
  simp (disch := first | omega | decide | assumption | exact Nat.le_of_ble_eq_true rfl) only [s4_30, s4_33, s4_34, s4_37, s4_38, s4_39, s4_40, ow_some, true_and, and_true, and_self, if_true, if_false, not_true, not_false_eq_true, Bool.false_eq_true, eq_self, Option.toList, List.cons_append, List.nil_append, ix_in, ix_cl, lt_in, lt_cl, lt_add, ix_one, vu_eq, vu_ne, arI_mk, arL_mk, arY_mZ, arY_mB, alen_mI, fld_sfl_ne, fld_sfl_same, Option.isSome_some, pok_i, b1z, b01, z10, b1o, Int32.zero_add, vu_vu, upd_eq, upd_ne, true_or, or_true, V.v1, V.v6, V.v7, V.v8, V.v9, V.i1, V.i6, V.i7, V.i8, V.i9, V.r2, V.r3, V.r4, V.r5, V.pl, V.a2, V.a3, V.a4, V.a5, h4, e2]
  rw [p4_41 (Nat.le_of_ble_eq_true rfl) sp_abs]
  have hab := ab_t sp (by omega) i (by omega)
  by_cases h5 : ¬ ((nI sp).toInt = (i : Int) - 1 ∨ (nI sp).toInt = (i : Int) + 1)
  · have h5' : (abI (nI sp - nI i) = 1) = False := by rw [hab]; exact eq_false h5
    have hw : w_move all S P (nT all) (nI j).toInt (nI i).toInt = 2 := by
      unfold w_move; rw [if_pos ⟨h1, h2⟩, ej, hst, hki, if_pos (Or.inr (Or.inr h5))]
    simp (disch := first | omega | decide | assumption | exact Nat.le_of_ble_eq_true rfl) only [s4_44, s4_45, s4_48, s4_49, ow_some, true_and, and_true, and_self, if_true, if_false, not_true, not_false_eq_true, Bool.false_eq_true, eq_self, Option.toList, List.cons_append, List.nil_append, ix_in, ix_cl, lt_in, lt_cl, lt_add, ix_one, vu_eq, vu_ne, arI_mk, arL_mk, arY_mZ, arY_mB, alen_mI, fld_sfl_ne, fld_sfl_same, Option.isSome_some, pok_i, b1z, b01, z10, b1o, Int32.zero_add, vu_vu, upd_eq, upd_ne, true_or, or_true, h5']
    exact no 2 (by decide) hw
  have h5 := Classical.not_not.mp h5
  have h5' : (abI (nI sp - nI i) = 1) = True := by rw [hab]; exact eq_true h5
  have hw : w_move all S P (nT all) (nI j).toInt (nI i).toInt = 0 := by
    unfold w_move
    rw [if_pos ⟨h1, h2⟩, ej, hst, hki, if_neg]
    rintro (z | z | z)
    · exact h3 z
    · exact z h4
    · exact z h5
  rw [hw, if_pos rfl, ej, ei]
  simp (disch := first | omega | decide | assumption | exact Nat.le_of_ble_eq_true rfl) only [s4_44, s4_45, s4_50, s4_51, s4_54, s4_55, s4_56, s4_57, s4_58, ow_some, true_and, and_true, and_self, if_true, if_false, not_true, not_false_eq_true, Bool.false_eq_true, eq_self, Option.toList, List.cons_append, List.nil_append, ix_in, ix_cl, lt_in, lt_cl, lt_add, ix_one, vu_eq, vu_ne, arI_mk, arL_mk, arY_mZ, arY_mB, alen_mI, fld_sfl_ne, fld_sfl_same, Option.isSome_some, pok_i, b1z, b01, z10, b1o, Int32.zero_add, vu_vu, upd_eq, upd_ne, true_or, or_true, V.v1, V.v6, V.v7, V.v8, V.v9, V.i1, V.i6, V.i7, V.i8, V.i9, V.r2, V.r3, V.r4, V.r5, V.pl, V.a2, V.a3, V.a4, V.a5, h5']
  have B0 : DL f f a pl sd wy v r C y := ⟨L, D, W, SD.rf⟩
  have V2 := V.s2 (g := upd (x 2) j (nI i))
  have B2 := B0.up (b := a + 1) (c := .inl (.int, 9, .inl (upd (x 2) j (nI i)))) hd (by omega)
  generalize va_up f (a + 1) (.inl (.int, 9, .inl (upd (x 2) j (nI i)))) = f2 at V2 B2 ⊢
  obtain ⟨I1, hT'⟩ := I.pmove hj hi
  have hn : ∀ e, e ≠ 57 + j → upd all (57 + j) (nI i) e = all e := fun e h1 => upd_ne h1
  have G2 : CR (upd all (57 + j) (nI i)) S P w (up2 x 2 (upd (x 2) j (nI i))) v r C := by
    refine ⟨⟨by rw [hn _ (by omega)]; exact G.w1, by rw [hn _ (by omega)]; exact G.w6, by rw [hn _ (by omega)]; exact G.w7, by rw [hn _ (by omega)]; exact G.w8, by rw [hn _ (by omega)]; exact G.w9⟩, fun p hp => ?_, fun p hp => by rw [up2_ne (by decide), hn _ (by omega)]; exact G.x3 hp, fun p hp => by rw [up2_ne (by decide), hn _ (by omega)]; exact G.x4 hp, fun k hk => by rw [up2_ne (by decide), hn _ (by omega)]; exact G.x5 hk, G.pr.cg I.s8 (fun i hi => hn _ (by omega))⟩
    rw [up2_eq]
    by_cases h : p = j
    · subst h; rw [upd_eq, upd_eq]
    · rw [upd_ne h, hn _ (by omega)]; exact G.x2 hp
  refine k4_59 B2.2.1.cn (Nat.le_of_ble_eq_true rfl) (sp_settle B2.1 B2.2.1 V2 B2.2.2.1 G2 I1 hd (by rw [hn _ (by omega)]; exact h54)) ?_
  rintro f4 n4 k4 v4 ⟨rfl, rfl, rfl, sd4, H4⟩
  simp (disch := first | omega | decide | assumption | exact Nat.le_of_ble_eq_true rfl) only [s4_62, s4_63, ow_some, true_and, and_true, and_self, if_true, if_false, not_true, not_false_eq_true, Bool.false_eq_true, eq_self, Option.toList, List.cons_append, List.nil_append, ix_in, ix_cl, lt_in, lt_cl, lt_add, ix_one, vu_eq, vu_ne, arI_mk, arL_mk, arY_mZ, arY_mB, alen_mI, fld_sfl_ne, fld_sfl_same, Option.isSome_some, pok_i, b1z, b01, z10, b1o, Int32.zero_add, vu_vu, upd_eq, upd_ne, true_or, or_true]
  rw [hT'] at H4
  exact ⟨rfl, rfl, B2.2.2.2.tr sd4, H4, rfl⟩
