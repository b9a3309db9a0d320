/-! the class brings one -/
def w_br (all : Nat → Int32) (S P : Nat) (k b : Int) : Int32 := if (0 ≤ k ∧ k < S) ∧ (0 ≤ b ∧ b ≤ 99) then (if all 54 = 1 ∨ P = 9 then 2 else 0) else 1
theorem w_br_0 {all : Nat → Int32} {S P : Nat} {k b : Int} (h : w_br all S P k b = 0) : (0 ≤ k ∧ k < S) ∧ (0 ≤ b ∧ b ≤ 99) ∧ ¬ all 54 = 1 ∧ ¬ P = 9 := by
  unfold w_br at h
  split at h
  · next hc =>
    split at h
    · exact absurd h (by decide)
    · next h1 => exact ⟨hc.1, hc.2, fun z => h1 (Or.inl z), fun z => h1 (Or.inr z)⟩
  · exact absurd h (by decide)
def m_br (all : Nat → Int32) (S P : Nat) (k b : Int32) : Nat → Int32 := m_fall (m_come all P (nT all) k b) S (P + 1) (nT all ||| 2 ^ P)
theorem sp_bringOne {X : Nat × (Nat → Int32)} {d N K a pl S R P : Nat} {f : Nat → e_C} {all : Nat → Int32} {sd wy : Int32} (H : DW f a pl all S R P sd wy) {k b : Int32} {u4 : Value} : TT X (d + 5) 3 0 [.ref 119, .ref a, .int k, .int b, u4] [] f N K (fun f' n' k' z => n' = N ∧ k' = K ∧ SD a f f' ∧ z = some (.int (w_br all S P k.toInt b.toInt)) ∧ (w_br all S P k.toInt b.toInt ≠ 0 → DW f' a pl all S R P sd wy) ∧ (w_br all S P k.toInt b.toInt = 0 → DW f' a pl (m_br all S P k b) S R (P + 1) sd wy)) := by
  have H0 := H
  obtain ⟨w, x, v, r, C, y, L, D, V, W, G, I, hd⟩ := H
  have e9 := G.w9
  have e8 := G.w8
  have h8 := I.s8
  have h9 := I.p9
  have hS : v 0 = nI S := by rw [G.v0]; exact I.eS
  have hP : w 1 = nI P := by rw [G.w1]; exact I.eP
  have hT : w 6 = nI (nT all) := by rw [G.w6]; exact I.eT
  generalize hQ : (fun f' n' k' z => n' = N ∧ k' = K ∧ SD a f f' ∧ z = some (.int (w_br all S P k.toInt b.toInt)) ∧ (w_br all S P k.toInt b.toInt ≠ 0 → DW f' a pl all S R P sd wy) ∧ (w_br all S P k.toInt b.toInt = 0 → DW f' a pl (m_br all S P k b) S R (P + 1) sd wy) : t_Q) = Q
  have no : ∀ z : Int32, z ≠ 0 → w_br all S P k.toInt b.toInt = z → Q f N K (some (.int z)) := by
    intro z hz he
    rw [← hQ]
    exact ⟨rfl, rfl, SD.rf, by rw [he], fun _ => H0, fun h => absurd (he.symm.trans h) hz⟩
  simp (disch := first | omega | decide | assumption | exact Nat.le_of_ble_eq_true rfl) only [s3_0, s3_1, ow_some, true_and, and_true, and_self, if_true, if_false, not_true, not_false_eq_true, Bool.false_eq_true, eq_self, Option.toList, List.cons_append, List.nil_append, ix_in, ix_cl, lt_in, lt_cl, lt_add, ix_one, vu_eq, vu_ne, arI_mk, arL_mk, arY_mZ, arY_mB, alen_mI, fld_sfl_ne, fld_sfl_same, Option.isSome_some, pok_i, b1z, b01, z10, b1o, Int32.zero_add, vu_vu, upd_eq, upd_ne, true_or, or_true]
  rw [p3_2 V.cn (Nat.le_of_ble_eq_true rfl) (sp_isStp V W hS h8)]
  by_cases h1 : ¬ (0 ≤ k.toInt ∧ k.toInt < S)
  · have h1' : (0 ≤ k.toInt ∧ k.toInt < S) = False := eq_false h1
    have hw : w_br all S P k.toInt b.toInt = 1 := by unfold w_br; rw [if_neg (fun z => h1 z.1)]
    simp (disch := first | omega | decide | assumption | exact Nat.le_of_ble_eq_true rfl) only [s3_5, s3_18, s3_19, ow_some, true_and, and_true, and_self, if_true, if_false, not_true, not_false_eq_true, Bool.false_eq_true, eq_self, Option.toList, List.cons_append, List.nil_append, ix_in, ix_cl, lt_in, lt_cl, lt_add, ix_one, vu_eq, vu_ne, arI_mk, arL_mk, arY_mZ, arY_mB, alen_mI, fld_sfl_ne, fld_sfl_same, Option.isSome_some, pok_i, b1z, b01, z10, b1o, Int32.zero_add, vu_vu, upd_eq, upd_ne, true_or, or_true, h1']
    exact no 1 (by decide) hw
  have h1 := Classical.not_not.mp h1
  have h1' : (0 ≤ k.toInt ∧ k.toInt < S) = True := eq_true h1
  have b0 : (b < 0) = (b.toInt < 0) := i_lt0
  have b1 : (b < 100) = (b.toInt < 100) := by rw [Int32.lt_iff_toInt_lt]; rfl
  by_cases h2 : ¬ (0 ≤ b.toInt ∧ b.toInt ≤ 99)
  · have hw : w_br all S P k.toInt b.toInt = 1 := by unfold w_br; rw [if_neg (fun z => h2 z.2)]
    by_cases hb : b.toInt < 0
    · have hb' : (b < 0) = True := by rw [b0]; exact eq_true hb
      simp (disch := first | omega | decide | assumption | exact Nat.le_of_ble_eq_true rfl) only [s3_5, s3_8, s3_9, s3_18, s3_19, ow_some, true_and, and_true, and_self, if_true, if_false, not_true, not_false_eq_true, Bool.false_eq_true, eq_self, Option.toList, List.cons_append, List.nil_append, ix_in, ix_cl, lt_in, lt_cl, lt_add, ix_one, vu_eq, vu_ne, arI_mk, arL_mk, arY_mZ, arY_mB, alen_mI, fld_sfl_ne, fld_sfl_same, Option.isSome_some, pok_i, b1z, b01, z10, b1o, Int32.zero_add, vu_vu, upd_eq, upd_ne, true_or, or_true, h1', hb']
      exact no 1 (by decide) hw
    · have hb' : (b < 0) = False := by rw [b0]; exact eq_false hb
      have hb2 : (b < 100) = False := by rw [b1]; exact eq_false (by omega)
      simp (disch := first | omega | decide | assumption | exact Nat.le_of_ble_eq_true rfl) only [s3_5, s3_8, s3_9, s3_12, s3_13, s3_15, s3_18, s3_19, ow_some, true_and, and_true, and_self, if_true, if_false, not_true, not_false_eq_true, Bool.false_eq_true, eq_self, Option.toList, List.cons_append, List.nil_append, ix_in, ix_cl, lt_in, lt_cl, lt_add, ix_one, vu_eq, vu_ne, arI_mk, arL_mk, arY_mZ, arY_mB, alen_mI, fld_sfl_ne, fld_sfl_same, Option.isSome_some, pok_i, b1z, b01, z10, b1o, Int32.zero_add, vu_vu, upd_eq, upd_ne, true_or, or_true, h1', hb', hb2]
      exact no 1 (by decide) hw
  have h2 := Classical.not_not.mp h2
  have hb' : (b < 0) = False := by rw [b0]; exact eq_false (by omega)
  have hb2 : (b < 100) = True := by rw [b1]; exact eq_true (by omega)
  by_cases h3 : all 54 = 1
  · have h3' : (all 54 = 0) = False := by rw [h3]; decide
    have hw : w_br all S P k.toInt b.toInt = 2 := by unfold w_br; rw [if_pos ⟨h1, h2⟩, if_pos (Or.inl h3)]
    simp (disch := first | omega | decide | assumption | exact Nat.le_of_ble_eq_true rfl) only [s3_5, s3_8, s3_9, s3_12, s3_13, s3_15, s3_18, s3_19, s3_20, s3_21, s3_24, s3_36, s3_37, ow_some, true_and, and_true, and_self, if_true, if_false, not_true, not_false_eq_true, Bool.false_eq_true, eq_self, Option.toList, List.cons_append, List.nil_append, ix_in, ix_cl, lt_in, lt_cl, lt_add, ix_one, vu_eq, vu_ne, arI_mk, arL_mk, arY_mZ, arY_mB, alen_mI, fld_sfl_ne, fld_sfl_same, Option.isSome_some, pok_i, b1z, b01, z10, b1o, Int32.zero_add, vu_vu, upd_eq, upd_ne, true_or, or_true, V.v1, V.v6, V.v7, V.v8, V.v9, V.i1, V.i6, V.i7, V.i8, V.i9, V.r2, V.r3, V.r4, V.r5, V.pl, V.a2, V.a3, V.a4, V.a5, h1', hb', hb2, e9, h3']
    exact no 2 (by decide) hw
  have h54 := I.z54 h3
  by_cases h4 : P = 9
  · have hw : w_br all S P k.toInt b.toInt = 2 := by unfold w_br; rw [if_pos ⟨h1, h2⟩, if_pos (Or.inr h4)]
    have h4' : (nI P < 9) = False := by rw [h4]; decide
    simp (disch := first | omega | decide | assumption | exact Nat.le_of_ble_eq_true rfl) only [s3_5, s3_8, s3_9, s3_12, s3_13, s3_15, s3_18, s3_19, s3_20, s3_21, s3_24, s3_27, s3_28, s3_31, s3_33, s3_36, s3_37, ow_some, true_and, and_true, and_self, if_true, if_false, not_true, not_false_eq_true, Bool.false_eq_true, eq_self, Option.toList, List.cons_append, List.nil_append, ix_in, ix_cl, lt_in, lt_cl, lt_add, ix_one, vu_eq, vu_ne, arI_mk, arL_mk, arY_mZ, arY_mB, alen_mI, fld_sfl_ne, fld_sfl_same, Option.isSome_some, pok_i, b1z, b01, z10, b1o, Int32.zero_add, vu_vu, upd_eq, upd_ne, true_or, or_true, V.v1, V.v6, V.v7, V.v8, V.v9, V.i1, V.i6, V.i7, V.i8, V.i9, V.r2, V.r3, V.r4, V.r5, V.pl, V.a2, V.a3, V.a4, V.a5, h1', hb', hb2, e9, h54, hP, h4']
    exact no 2 (by decide) hw
  have h4' : (nI P < 9) = True := by rw [tl_lt (c := 9) (by omega) (by omega)]; exact eq_true (by omega)
  have hw : w_br all S P k.toInt b.toInt = 0 := by unfold w_br; rw [if_pos ⟨h1, h2⟩, if_neg (fun z => z.elim h3 h4)]
  obtain ⟨i, hi, rfl, hki⟩ := i9 (v := k) (N := S) h1.1 h1.2 (by omega)
  obtain ⟨c, hc, rfl, hbi⟩ := i9 (v := b) (N := 100) h2.1 (by omega) (by omega)
  simp (disch := first | omega | decide | assumption | exact Nat.le_of_ble_eq_true rfl) only [s3_5, s3_8, s3_9, s3_12, s3_13, s3_15, s3_18, s3_19, s3_20, s3_21, s3_24, s3_27, s3_28, s3_31, s3_33, s3_36, s3_37, s3_38, s3_39, s3_42, s3_44, s3_45, s3_48, s3_50, s3_51, ow_some, true_and, and_true, and_self, if_true, if_false, not_true, not_false_eq_true, Bool.false_eq_true, eq_self, Option.toList, List.cons_append, List.nil_append, ix_in, ix_cl, lt_in, lt_cl, lt_add, ix_one, vu_eq, vu_ne, arI_mk, arL_mk, arY_mZ, arY_mB, alen_mI, fld_sfl_ne, fld_sfl_same, Option.isSome_some, pok_i, b1z, b01, z10, b1o, Int32.zero_add, vu_vu, upd_eq, upd_ne, true_or, or_true, V.v1, V.v6, V.v7, V.v8, V.v9, V.i1, V.i6, V.i7, V.i8, V.i9, V.r2, V.r3, V.r4, V.r5, V.pl, V.a2, V.a3, V.a4, V.a5, h1', hb', hb2, e9, h54, hP, h4']
  have B0 : DL f f a pl sd wy v r C y := ⟨L, D, W, SD.rf⟩
  have V2 := V.s2 (g := upd (x 2) P (nI i))
  have B2 := B0.up (b := a + 1) (c := .inl (.int, 9, .inl (upd (x 2) P (nI i)))) hd (by omega)
  generalize va_up f (a + 1) (.inl (.int, 9, .inl (upd (x 2) P (nI i)))) = f2 at V2 B2 ⊢
  simp (disch := first | omega | decide | assumption | exact Nat.le_of_ble_eq_true rfl) only [s3_52, s3_53, s3_56, s3_58, s3_59, ow_some, true_and, and_true, and_self, if_true, if_false, not_true, not_false_eq_true, Bool.false_eq_true, eq_self, Option.toList, List.cons_append, List.nil_append, ix_in, ix_cl, lt_in, lt_cl, lt_add, ix_one, vu_eq, vu_ne, arI_mk, arL_mk, arY_mZ, arY_mB, alen_mI, fld_sfl_ne, fld_sfl_same, Option.isSome_some, pok_i, b1z, b01, z10, b1o, Int32.zero_add, vu_vu, upd_eq, upd_ne, true_or, or_true, V2.v1, V2.v6, V2.v7, V2.v8, V2.v9, V2.i1, V2.i6, V2.i7, V2.i8, V2.i9, V2.r2, V2.r3, V2.r4, V2.r5, V2.pl, V2.a2, V2.a3, V2.a4, V2.a5, up2_ne]
  have V3 := V2.s3 (g := upd (x 3) P (nI c))
  have B3 := B2.up (b := a + 2) (c := .inl (.int, 9, .inl (upd (x 3) P (nI c)))) hd (by omega)
  generalize va_up f2 (a + 2) (.inl (.int, 9, .inl (upd (x 3) P (nI c)))) = f3 at V3 B3 ⊢
  simp (disch := first | omega | decide | assumption | exact Nat.le_of_ble_eq_true rfl) only [s3_60, s3_61, s3_64, s3_66, s3_67, s3_70, ow_some, true_and, and_true, and_self, if_true, if_false, not_true, not_false_eq_true, Bool.false_eq_true, eq_self, Option.toList, List.cons_append, List.nil_append, ix_in, ix_cl, lt_in, lt_cl, lt_add, ix_one, vu_eq, vu_ne, arI_mk, arL_mk, arY_mZ, arY_mB, alen_mI, fld_sfl_ne, fld_sfl_same, Option.isSome_some, pok_i, b1z, b01, z10, b1o, Int32.zero_add, vu_vu, upd_eq, upd_ne, true_or, or_true, V3.v1, V3.v6, V3.v7, V3.v8, V3.v9, V3.i1, V3.i6, V3.i7, V3.i8, V3.i9, V3.r2, V3.r3, V3.r4, V3.r5, V3.pl, V3.a2, V3.a3, V3.a4, V3.a5, up2_ne, e8]
  have V4 := V3.s4 (g := upd (x 4) P (all 56))
  have B4 := B3.up (b := a + 3) (c := .inl (.int, 9, .inl (upd (x 4) P (all 56)))) hd (by omega)
  generalize va_up f3 (a + 3) (.inl (.int, 9, .inl (upd (x 4) P (all 56)))) = f4 at V4 B4 ⊢
  have hbs := (bit_set (nT all) I.t5 P (by omega)).1
  simp (disch := first | omega | decide | assumption | exact Nat.le_of_ble_eq_true rfl) only [s3_71, s3_72, s3_72i, s3_73, s3_76, s3_77, s3_79, s3_80, s3_81, ow_some, true_and, and_true, and_self, if_true, if_false, not_true, not_false_eq_true, Bool.false_eq_true, eq_self, Option.toList, List.cons_append, List.nil_append, ix_in, ix_cl, lt_in, lt_cl, lt_add, ix_one, vu_eq, vu_ne, arI_mk, arL_mk, arY_mZ, arY_mB, alen_mI, fld_sfl_ne, fld_sfl_same, Option.isSome_some, pok_i, b1z, b01, z10, b1o, Int32.zero_add, vu_vu, upd_eq, upd_ne, true_or, or_true, V4.v1, V4.v6, V4.v7, V4.v8, V4.v9, V4.i1, V4.i6, V4.i7, V4.i8, V4.i9, V4.r2, V4.r3, V4.r4, V4.r5, V4.pl, V4.a2, V4.a3, V4.a4, V4.a5, hT, hbs]
  have V5 := V4.set (i := 6) (z := nI (nT all ||| 2 ^ P)) (by decide)
  have B5 := B4.up (b := a) (c := sfl (f4 a) 6 (.int (nI (nT all ||| 2 ^ P)))) hd (by omega)
  generalize va_up f4 a (sfl (f4 a) 6 (.int (nI (nT all ||| 2 ^ P)))) = f5 at V5 B5 ⊢
  simp (disch := first | omega | decide | assumption | exact Nat.le_of_ble_eq_true rfl) only [s3_84, s3_85, s3_85i, s3_86, s3_89, s3_90, s3_91, s3_94, s3_95, ow_some, true_and, and_true, and_self, if_true, if_false, not_true, not_false_eq_true, Bool.false_eq_true, eq_self, Option.toList, List.cons_append, List.nil_append, ix_in, ix_cl, lt_in, lt_cl, lt_add, ix_one, vu_eq, vu_ne, arI_mk, arL_mk, arY_mZ, arY_mB, alen_mI, fld_sfl_ne, fld_sfl_same, Option.isSome_some, pok_i, b1z, b01, z10, b1o, Int32.zero_add, vu_vu, upd_eq, upd_ne, true_or, or_true, V5.v1, V5.v6, V5.v7, V5.v8, V5.v9, V5.i1, V5.i6, V5.i7, V5.i8, V5.i9, V5.r2, V5.r3, V5.r4, V5.r5, V5.pl, V5.a2, V5.a3, V5.a4, V5.a5, hP]
  have V6 := V5.set (i := 1) (z := nI (P + 1)) (by decide)
  have B6 := B5.up (b := a) (c := sfl (f5 a) 1 (.int (nI (P + 1)))) hd (by omega)
  generalize va_up f5 a (sfl (f5 a) 1 (.int (nI (P + 1)))) = f6 at V6 B6 ⊢
  have hn : ∀ e, e ≠ 52 → e ≠ 53 → e ≠ 57 + P → e ≠ 66 + P → e ≠ 75 + P → m_come all P (nT all) (nI i) (nI c) e = all e := fun e h1 h2 h3 h4 h5 => come_ne h1 h2 h3 h4 h5
  have I1 := I.pcome (b := c) (show P < 9 by omega) hi hc
  obtain ⟨eT, hT'⟩ := come_nT (all := all) (k := nI i) (b := nI c) I.tP (show P < 9 by omega)
  have G6 : CR (m_come all P (nT all) (nI i) (nI c)) S (P + 1) (upd (upd w 6 (nI (nT all ||| 2 ^ P))) 1 (nI (P + 1))) (up2 (up2 (up2 x 2 (upd (x 2) P (nI i))) 3 (upd (x 3) P (nI c))) 4 (upd (x 4) P (all 56))) v r C := by
    refine ⟨⟨by rw [upd_eq]; exact I1.eP.symm, by rw [upd_ne (by decide), upd_eq]; exact come_53.symm, by rw [upd_ne (by decide), upd_ne (by decide), hn _ (by omega) (by omega) (by omega) (by omega) (by omega)]; exact G.w7, by rw [upd_ne (by decide), upd_ne (by decide), hn _ (by omega) (by omega) (by omega) (by omega) (by omega)]; exact G.w8, by rw [upd_ne (by decide), upd_ne (by decide), hn _ (by omega) (by omega) (by omega) (by omega) (by omega)]; exact G.w9⟩, fun p hp => ?_, fun p hp => ?_, fun p hp => ?_, fun k hk => by rw [up2_ne (by decide), up2_ne (by decide), up2_ne (by decide), hn _ (by omega) (by omega) (by omega) (by omega) (by omega)]; exact G.x5 hk, G.pr.cg I.s8 (fun i hi => hn _ (by omega) (by omega) (by omega) (by omega) (by omega))⟩
    · rw [up2_ne (by decide), up2_ne (by decide), up2_eq]
      by_cases h : p = P
      · subst h; rw [upd_eq]; unfold m_come; rw [upd_ne (by omega), upd_ne (by omega), upd_eq]
      · rw [upd_ne h, hn _ (by omega) (by omega) (by omega) (by omega) (by omega)]; exact G.x2 (by omega)
    · rw [up2_ne (by decide), up2_eq]
      by_cases h : p = P
      · subst h; rw [upd_eq]; unfold m_come; rw [upd_ne (by omega), upd_eq]
      · rw [upd_ne h, hn _ (by omega) (by omega) (by omega) (by omega) (by omega)]; exact G.x3 (by omega)
    · rw [up2_eq]
      by_cases h : p = P
      · subst h; rw [upd_eq]; unfold m_come; rw [upd_eq]
      · rw [upd_ne h, hn _ (by omega) (by omega) (by omega) (by omega) (by omega)]; exact G.x4 (by omega)
  refine k3_96 B6.2.1.cn (Nat.le_of_ble_eq_true rfl) (sp_settle B6.1 B6.2.1 V6 B6.2.2.1 G6 I1 hd (by rw [hn _ (by omega) (by omega) (by omega) (by omega) (by omega)]; exact h54)) ?_
  rintro f7 n7 k7 v7 ⟨rfl, rfl, rfl, sd7, H7⟩
  simp (disch := first | omega | decide | assumption | exact Nat.le_of_ble_eq_true rfl) only [s3_99, s3_100, ow_some, true_and, and_true, and_self, if_true, if_false, not_true, not_false_eq_true, Bool.false_eq_true, eq_self, Option.toList, List.cons_append, List.nil_append, ix_in, ix_cl, lt_in, lt_cl, lt_add, ix_one, vu_eq, vu_ne, arI_mk, arL_mk, arY_mZ, arY_mB, alen_mI, fld_sfl_ne, fld_sfl_same, Option.isSome_some, pok_i, b1z, b01, z10, b1o, Int32.zero_add, vu_vu, upd_eq, upd_ne, true_or, or_true]
  rw [← hQ]
  rw [eT] at H7
  exact ⟨rfl, rfl, B6.2.2.2.tr sd7, by rw [hw], fun h => absurd hw h, fun _ => H7⟩
theorem fl01 {all : Nat → Int32} {S R P : Nat} (I : IS all S R P) (h : ¬ all 54 = 0) : all 54 = 1 := I.fl.resolve_left h
theorem lg_n1 {v : Int64} : (lg_cmp v (-1) = 0) = (v.toInt = -1) := n_m1
theorem lgl {v : Int64} {c : Nat} (h : c < 65536) : (lg_cmp v (nI c).toInt64 < 0) = (v.toInt < c) := by
  rw [lg_cmp_lt, Int64.lt_iff_toInt_lt, nI_64 h]
theorem lgg {v : Int64} {c : Nat} (h : c < 65536) : (0 < lg_cmp v (nI c).toInt64) = ((c : Int) < v.toInt) := by
  rw [lg_cmp_gt, Int64.lt_iff_toInt_lt, nI_64 h]
theorem dv_c : ∀ m, m < 200 → 100 ≤ m → ((nI m).toInt64 - 100).toInt32 / 10 = nI ((m - 100) / 10) ∧ ((nI m).toInt64 - (nI m).toInt64 / 10 * 10).toInt32 = nI (m % 10) := by decide +kernel
theorem dv_p : ∀ m, m < 210 → 200 ≤ m → ((nI m).toInt64 - 200).toInt32 = nI (m - 200) := by decide +kernel
theorem sp_doOne {X : Nat × (Nat → Int32)} {d N K a pl S R P : Nat} {f : Nat → e_C} {all : Nat → Int32} {sd wy : Int32} (H : DW f a pl all S R P sd wy) (hdy : (all 56).toInt + 1 < 100000) {v : Int64} {u : UInt64} : TT X (d + 6) 8 0 [.ref 119, .ref a, .long v, .double u] [] f N K (DP f N K a pl (if w_not all S P (nT all) v.toInt = 0 then m_does all S P v.toInt else all) S R P sd wy (w_not all S P (nT all) v.toInt)) := by
  have cn : cno (f 119) = some 0 := by obtain ⟨w, x, v, r, C, y, L, D, -⟩ := H; exact D.cn
  have I : IS all S R P := by obtain ⟨w, x, v, r, C, y, L, D, V, W, G, I, hd⟩ := H; exact I
  have h9 := I.p9
  have c0 : (lg_cmp v 0 < 0) = (v.toInt < 0) := lgl (c := 0) (by omega)
  have c9 : (0 < lg_cmp v 9) = (9 < v.toInt) := lgg (c := 9) (by omega)
  have c100 : (lg_cmp v 100 < 0) = (v.toInt < 100) := lgl (c := 100) (by omega)
  have c199 : (0 < lg_cmp v 199) = (199 < v.toInt) := lgg (c := 199) (by omega)
  have c200 : (lg_cmp v 200 < 0) = (v.toInt < 200) := lgl (c := 200) (by omega)
  have c209 : (0 < lg_cmp v 209) = (209 < v.toInt) := lgg (c := 209) (by omega)
  unfold w_not m_does
  simp (disch := first | omega | decide | assumption | exact Nat.le_of_ble_eq_true rfl) only [s8_0, s8_1, s8_4, ow_some, true_and, and_true, and_self, if_true, if_false, not_true, not_false_eq_true, Bool.false_eq_true, eq_self, Option.toList, List.cons_append, List.nil_append, ix_in, ix_cl, lt_in, lt_cl, lt_add, ix_one, vu_eq, vu_ne, arI_mk, arL_mk, arY_mZ, arY_mB, alen_mI, fld_sfl_ne, fld_sfl_same, Option.isSome_some, pok_i, b1z, b01, z10, b1o, Int32.zero_add, vu_vu, upd_eq, upd_ne, true_or, or_true]
  simp only [s8_5, n_m1]
  by_cases h1 : v.toInt = -1
  · simp only [h1, if_true, not_true, if_false]
    simp (disch := first | omega | decide | assumption | exact Nat.le_of_ble_eq_true rfl) only [s8_8, s8_9, ow_some, true_and, and_true, and_self, if_true, if_false, not_true, not_false_eq_true, Bool.false_eq_true, eq_self, Option.toList, List.cons_append, List.nil_append, ix_in, ix_cl, lt_in, lt_cl, lt_add, ix_one, vu_eq, vu_ne, arI_mk, arL_mk, arY_mZ, arY_mB, alen_mI, fld_sfl_ne, fld_sfl_same, Option.isSome_some, pok_i, b1z, b01, z10, b1o, Int32.zero_add, vu_vu, upd_eq, upd_ne, true_or, or_true]
    refine k8_10 cn (Nat.le_of_ble_eq_true rfl) (sp_dayGoes H hdy) ?_
    rintro f1 n1 k1 v1 ⟨rfl, rfl, s1, H1, rfl⟩
    simp (disch := first | omega | decide | assumption | exact Nat.le_of_ble_eq_true rfl) only [s8_13, ow_some, true_and, and_true, and_self, if_true, if_false, not_true, not_false_eq_true, Bool.false_eq_true, eq_self, Option.toList, List.cons_append, List.nil_append, ix_in, ix_cl, lt_in, lt_cl, lt_add, ix_one, vu_eq, vu_ne, arI_mk, arL_mk, arY_mZ, arY_mB, alen_mI, fld_sfl_ne, fld_sfl_same, Option.isSome_some, pok_i, b1z, b01, z10, b1o, Int32.zero_add, vu_vu, upd_eq, upd_ne, true_or, or_true]
    refine ⟨rfl, rfl, s1, ?_, rfl⟩
    by_cases h : all 54 = 1
    · simp only [h, if_true] at H1 ⊢
      simpa using H1
    · simp only [h, if_false, if_true] at H1 ⊢
      exact H1
  · simp only [h1, if_false, not_false_eq_true, if_true]
    simp (disch := first | omega | decide | assumption | exact Nat.le_of_ble_eq_true rfl) only [s8_14, s8_15, s8_16, ow_some, true_and, and_true, and_self, if_true, if_false, not_true, not_false_eq_true, Bool.false_eq_true, eq_self, Option.toList, List.cons_append, List.nil_append, ix_in, ix_cl, lt_in, lt_cl, lt_add, ix_one, vu_eq, vu_ne, arI_mk, arL_mk, arY_mZ, arY_mB, alen_mI, fld_sfl_ne, fld_sfl_same, Option.isSome_some, pok_i, b1z, b01, z10, b1o, Int32.zero_add, vu_vu, upd_eq, upd_ne, true_or, or_true]
    simp only [s8_17, c0]
    by_cases h2 : 0 ≤ v.toInt ∧ v.toInt ≤ 9
    · have q1 : (v.toInt < 0) = False := eq_false (by omega)
      have q2 : (9 < v.toInt) = False := eq_false (by omega)
      obtain ⟨m, hm, hve, hvi⟩ := l9 (v := v) (N := 10) h2.1 (by omega) (by omega)
      have q3 : v.toInt < 100 := by omega
      have e32 : v.toInt32 = nI m := by rw [hve]; exact nI_6432
      simp only [q1, if_false]
      simp (disch := first | omega | decide | assumption | exact Nat.le_of_ble_eq_true rfl) only [s8_20, s8_21, s8_24, ow_some, true_and, and_true, and_self, if_true, if_false, not_true, not_false_eq_true, Bool.false_eq_true, eq_self, Option.toList, List.cons_append, List.nil_append, ix_in, ix_cl, lt_in, lt_cl, lt_add, ix_one, vu_eq, vu_ne, arI_mk, arL_mk, arY_mZ, arY_mB, alen_mI, fld_sfl_ne, fld_sfl_same, Option.isSome_some, pok_i, b1z, b01, z10, b1o, Int32.zero_add, vu_vu, upd_eq, upd_ne, true_or, or_true]
      simp only [s8_25, c9, q2, if_false]
      simp (disch := first | omega | decide | assumption | exact Nat.le_of_ble_eq_true rfl) only [s8_28, s8_29, s8_30, s8_31, ow_some, true_and, and_true, and_self, if_true, if_false, not_true, not_false_eq_true, Bool.false_eq_true, eq_self, Option.toList, List.cons_append, List.nil_append, ix_in, ix_cl, lt_in, lt_cl, lt_add, ix_one, vu_eq, vu_ne, arI_mk, arL_mk, arY_mZ, arY_mB, alen_mI, fld_sfl_ne, fld_sfl_same, Option.isSome_some, pok_i, b1z, b01, z10, b1o, Int32.zero_add, vu_vu, upd_eq, upd_ne, true_or, or_true, e32]
      refine k8_32 cn (Nat.le_of_ble_eq_true rfl) (sp_seeOne H) ?_
      rintro f1 n1 k1 v1 ⟨rfl, rfl, s1, H1, rfl⟩
      simp (disch := first | omega | decide | assumption | exact Nat.le_of_ble_eq_true rfl) only [s8_35, ow_some, true_and, and_true, and_self, if_true, if_false, not_true, not_false_eq_true, Bool.false_eq_true, eq_self, Option.toList, List.cons_append, List.nil_append, ix_in, ix_cl, lt_in, lt_cl, lt_add, ix_one, vu_eq, vu_ne, arI_mk, arL_mk, arY_mZ, arY_mB, alen_mI, fld_sfl_ne, fld_sfl_same, Option.isSome_some, pok_i, b1z, b01, z10, b1o, Int32.zero_add, vu_vu, upd_eq, upd_ne, true_or, or_true]
      rw [nI_toInt (by omega), ← hvi] at H1 ⊢
      rw [if_pos h2, if_pos q3]
      exact ⟨rfl, rfl, s1, H1, rfl⟩
    · have go36 : TT X (d + 6) 8 36 [.ref 119, .ref a, .long v, .double u] [] f N K (DP f N K a pl (if (if 0 ≤ v.toInt ∧ v.toInt ≤ 9 then w_see all P (nT all) v.toInt else if 100 ≤ v.toInt ∧ v.toInt ≤ 199 then w_move all S P (nT all) ((v.toInt - 100) / 10) (v.toInt % 10) else if 200 ≤ v.toInt ∧ v.toInt ≤ 209 then w_prop all S (v.toInt - 200) else 1) = 0 then if v.toInt < 100 then m_see all S P (nT all) v.toInt.toNat else if v.toInt < 200 then m_move all S P (nT all) ((v.toInt - 100) / 10).toNat (v.toInt % 10).toNat else m_prop all S P (nT all) (v.toInt - 200).toNat else all) S R P sd wy (if 0 ≤ v.toInt ∧ v.toInt ≤ 9 then w_see all P (nT all) v.toInt else if 100 ≤ v.toInt ∧ v.toInt ≤ 199 then w_move all S P (nT all) ((v.toInt - 100) / 10) (v.toInt % 10) else if 200 ≤ v.toInt ∧ v.toInt ≤ 209 then w_prop all S (v.toInt - 200) else 1)) := by
        rw [if_neg h2]
        simp (disch := first | omega | decide | assumption | exact Nat.le_of_ble_eq_true rfl) only [s8_36, s8_37, s8_40, ow_some, true_and, and_true, and_self, if_true, if_false, not_true, not_false_eq_true, Bool.false_eq_true, eq_self, Option.toList, List.cons_append, List.nil_append, ix_in, ix_cl, lt_in, lt_cl, lt_add, ix_one, vu_eq, vu_ne, arI_mk, arL_mk, arY_mZ, arY_mB, alen_mI, fld_sfl_ne, fld_sfl_same, Option.isSome_some, pok_i, b1z, b01, z10, b1o, Int32.zero_add, vu_vu, upd_eq, upd_ne, true_or, or_true]
        simp only [s8_41, c100]
        by_cases h3 : 100 ≤ v.toInt ∧ v.toInt ≤ 199
        · have q1 : (v.toInt < 100) = False := eq_false (by omega)
          have q2 : (199 < v.toInt) = False := eq_false (by omega)
          obtain ⟨m, hm, hve, hvi⟩ := l9 (v := v) (N := 200) (by omega) (by omega) (by omega)
          obtain ⟨d1, d2⟩ := dv_c m hm (by omega)
          have q10 : ((10 : Int32) = 0) = False := by decide
          have q11 : ((10 : Int64) = 0) = False := by decide
          rw [← hve] at d1 d2
          simp only [q1, if_false]
          simp (disch := first | omega | decide | assumption | exact Nat.le_of_ble_eq_true rfl) only [s8_44, s8_45, s8_48, ow_some, true_and, and_true, and_self, if_true, if_false, not_true, not_false_eq_true, Bool.false_eq_true, eq_self, Option.toList, List.cons_append, List.nil_append, ix_in, ix_cl, lt_in, lt_cl, lt_add, ix_one, vu_eq, vu_ne, arI_mk, arL_mk, arY_mZ, arY_mB, alen_mI, fld_sfl_ne, fld_sfl_same, Option.isSome_some, pok_i, b1z, b01, z10, b1o, Int32.zero_add, vu_vu, upd_eq, upd_ne, true_or, or_true]
          simp only [s8_49, c199, q2, if_false]
          simp (disch := first | omega | decide | assumption | exact Nat.le_of_ble_eq_true rfl) only [s8_52, s8_53, s8_54, s8_55, s8_58, s8_59, s8_60, s8_62, s8_63, s8_64, s8_67, s8_68, ow_some, true_and, and_true, and_self, if_true, if_false, not_true, not_false_eq_true, Bool.false_eq_true, eq_self, Option.toList, List.cons_append, List.nil_append, ix_in, ix_cl, lt_in, lt_cl, lt_add, ix_one, vu_eq, vu_ne, arI_mk, arL_mk, arY_mZ, arY_mB, alen_mI, fld_sfl_ne, fld_sfl_same, Option.isSome_some, pok_i, b1z, b01, z10, b1o, Int32.zero_add, vu_vu, upd_eq, upd_ne, true_or, or_true, q10, q11, ne_eq, d1, d2]
          refine k8_69 cn (Nat.le_of_ble_eq_true rfl) (sp_moveOne H) ?_
          rintro f1 n1 k1 v1 ⟨rfl, rfl, s1, H1, rfl⟩
          simp (disch := first | omega | decide | assumption | exact Nat.le_of_ble_eq_true rfl) only [s8_72, ow_some, true_and, and_true, and_self, if_true, if_false, not_true, not_false_eq_true, Bool.false_eq_true, eq_self, Option.toList, List.cons_append, List.nil_append, ix_in, ix_cl, lt_in, lt_cl, lt_add, ix_one, vu_eq, vu_ne, arI_mk, arL_mk, arY_mZ, arY_mB, alen_mI, fld_sfl_ne, fld_sfl_same, Option.isSome_some, pok_i, b1z, b01, z10, b1o, Int32.zero_add, vu_vu, upd_eq, upd_ne, true_or, or_true]
          have t1 : (nI ((m - 100) / 10)).toInt = (v.toInt - 100) / 10 := by rw [nI_toInt (by omega), hvi]; omega
          have t2 : (nI (m % 10)).toInt = v.toInt % 10 := by rw [nI_toInt (by omega), hvi]; omega
          have q3 : v.toInt < 200 := by omega
          rw [t1, t2] at H1 ⊢
          rw [if_pos h3, if_pos q3]
          exact ⟨rfl, rfl, s1, H1, rfl⟩
        · have go73 : TT X (d + 6) 8 73 [.ref 119, .ref a, .long v, .double u] [] f N K (DP f N K a pl (if (if 200 ≤ v.toInt ∧ v.toInt ≤ 209 then w_prop all S (v.toInt - 200) else 1) = 0 then if v.toInt < 100 then m_see all S P (nT all) v.toInt.toNat else if v.toInt < 200 then m_move all S P (nT all) ((v.toInt - 100) / 10).toNat (v.toInt % 10).toNat else m_prop all S P (nT all) (v.toInt - 200).toNat else all) S R P sd wy (if 200 ≤ v.toInt ∧ v.toInt ≤ 209 then w_prop all S (v.toInt - 200) else 1)) := by
            simp (disch := first | omega | decide | assumption | exact Nat.le_of_ble_eq_true rfl) only [s8_73, s8_74, s8_77, ow_some, true_and, and_true, and_self, if_true, if_false, not_true, not_false_eq_true, Bool.false_eq_true, eq_self, Option.toList, List.cons_append, List.nil_append, ix_in, ix_cl, lt_in, lt_cl, lt_add, ix_one, vu_eq, vu_ne, arI_mk, arL_mk, arY_mZ, arY_mB, alen_mI, fld_sfl_ne, fld_sfl_same, Option.isSome_some, pok_i, b1z, b01, z10, b1o, Int32.zero_add, vu_vu, upd_eq, upd_ne, true_or, or_true]
            simp only [s8_78, c200]
            by_cases h4 : 200 ≤ v.toInt ∧ v.toInt ≤ 209
            · have q1 : (v.toInt < 200) = False := eq_false (by omega)
              have q0 : (v.toInt < 100) = False := eq_false (by omega)
              have q2 : (209 < v.toInt) = False := eq_false (by omega)
              obtain ⟨m, hm, hve, hvi⟩ := l9 (v := v) (N := 210) (by omega) (by omega) (by omega)
              have d1 := dv_p m hm (by omega)
              rw [← hve] at d1
              simp only [q1, if_false]
              simp (disch := first | omega | decide | assumption | exact Nat.le_of_ble_eq_true rfl) only [s8_81, s8_82, s8_85, ow_some, true_and, and_true, and_self, if_true, if_false, not_true, not_false_eq_true, Bool.false_eq_true, eq_self, Option.toList, List.cons_append, List.nil_append, ix_in, ix_cl, lt_in, lt_cl, lt_add, ix_one, vu_eq, vu_ne, arI_mk, arL_mk, arY_mZ, arY_mB, alen_mI, fld_sfl_ne, fld_sfl_same, Option.isSome_some, pok_i, b1z, b01, z10, b1o, Int32.zero_add, vu_vu, upd_eq, upd_ne, true_or, or_true]
              simp only [s8_86, c209, q2, if_false]
              simp (disch := first | omega | decide | assumption | exact Nat.le_of_ble_eq_true rfl) only [s8_89, s8_90, s8_91, s8_92, s8_95, s8_96, ow_some, true_and, and_true, and_self, if_true, if_false, not_true, not_false_eq_true, Bool.false_eq_true, eq_self, Option.toList, List.cons_append, List.nil_append, ix_in, ix_cl, lt_in, lt_cl, lt_add, ix_one, vu_eq, vu_ne, arI_mk, arL_mk, arY_mZ, arY_mB, alen_mI, fld_sfl_ne, fld_sfl_same, Option.isSome_some, pok_i, b1z, b01, z10, b1o, Int32.zero_add, vu_vu, upd_eq, upd_ne, true_or, or_true, d1]
              refine k8_97 cn (Nat.le_of_ble_eq_true rfl) (sp_propOne H) ?_
              rintro f1 n1 k1 v1 ⟨rfl, rfl, s1, H1, rfl⟩
              simp (disch := first | omega | decide | assumption | exact Nat.le_of_ble_eq_true rfl) only [s8_100, ow_some, true_and, and_true, and_self, if_true, if_false, not_true, not_false_eq_true, Bool.false_eq_true, eq_self, Option.toList, List.cons_append, List.nil_append, ix_in, ix_cl, lt_in, lt_cl, lt_add, ix_one, vu_eq, vu_ne, arI_mk, arL_mk, arY_mZ, arY_mB, alen_mI, fld_sfl_ne, fld_sfl_same, Option.isSome_some, pok_i, b1z, b01, z10, b1o, Int32.zero_add, vu_vu, upd_eq, upd_ne, true_or, or_true]
              have t1 : (nI (m - 200)).toInt = v.toInt - 200 := by rw [nI_toInt (by omega), hvi]; omega
              rw [t1] at H1 ⊢
              simp only [q0, if_false]
              rw [if_pos h4]
              exact ⟨rfl, rfl, s1, H1, rfl⟩
            · rw [if_neg h4]
              have q10 : ((1 : Int32) = 0) = False := by decide
              simp only [q10, if_false]
              by_cases h5 : v.toInt < 200
              · simp only [h5, if_true]
                simp (disch := first | omega | decide | assumption | exact Nat.le_of_ble_eq_true rfl) only [s8_101, s8_102, ow_some, true_and, and_true, and_self, if_true, if_false, not_true, not_false_eq_true, Bool.false_eq_true, eq_self, Option.toList, List.cons_append, List.nil_append, ix_in, ix_cl, lt_in, lt_cl, lt_add, ix_one, vu_eq, vu_ne, arI_mk, arL_mk, arY_mZ, arY_mB, alen_mI, fld_sfl_ne, fld_sfl_same, Option.isSome_some, pok_i, b1z, b01, z10, b1o, Int32.zero_add, vu_vu, upd_eq, upd_ne, true_or, or_true]
                exact ⟨rfl, rfl, SD.rf, H, rfl⟩
              · have q2 : (209 < v.toInt) = True := eq_true (by omega)
                simp only [h5, if_false]
                simp (disch := first | omega | decide | assumption | exact Nat.le_of_ble_eq_true rfl) only [s8_81, s8_82, s8_85, ow_some, true_and, and_true, and_self, if_true, if_false, not_true, not_false_eq_true, Bool.false_eq_true, eq_self, Option.toList, List.cons_append, List.nil_append, ix_in, ix_cl, lt_in, lt_cl, lt_add, ix_one, vu_eq, vu_ne, arI_mk, arL_mk, arY_mZ, arY_mB, alen_mI, fld_sfl_ne, fld_sfl_same, Option.isSome_some, pok_i, b1z, b01, z10, b1o, Int32.zero_add, vu_vu, upd_eq, upd_ne, true_or, or_true]
                simp only [s8_86, c209, q2, if_true]
                simp (disch := first | omega | decide | assumption | exact Nat.le_of_ble_eq_true rfl) only [s8_101, s8_102, ow_some, true_and, and_true, and_self, if_true, if_false, not_true, not_false_eq_true, Bool.false_eq_true, eq_self, Option.toList, List.cons_append, List.nil_append, ix_in, ix_cl, lt_in, lt_cl, lt_add, ix_one, vu_eq, vu_ne, arI_mk, arL_mk, arY_mZ, arY_mB, alen_mI, fld_sfl_ne, fld_sfl_same, Option.isSome_some, pok_i, b1z, b01, z10, b1o, Int32.zero_add, vu_vu, upd_eq, upd_ne, true_or, or_true]
                exact ⟨rfl, rfl, SD.rf, H, rfl⟩
          rw [if_neg h3]
          by_cases h5 : v.toInt < 100
          · have h5' : (v.toInt < 100) = True := eq_true h5
            simp only [h5', if_true] at go73 ⊢
            exact go73
          · have q2 : (199 < v.toInt) = True := eq_true (by omega)
            have h5' : (v.toInt < 100) = False := eq_false h5
            simp only [h5', if_false] at go73 ⊢
            simp (disch := first | omega | decide | assumption | exact Nat.le_of_ble_eq_true rfl) only [s8_44, s8_45, s8_48, ow_some, true_and, and_true, and_self, if_true, if_false, not_true, not_false_eq_true, Bool.false_eq_true, eq_self, Option.toList, List.cons_append, List.nil_append, ix_in, ix_cl, lt_in, lt_cl, lt_add, ix_one, vu_eq, vu_ne, arI_mk, arL_mk, arY_mZ, arY_mB, alen_mI, fld_sfl_ne, fld_sfl_same, Option.isSome_some, pok_i, b1z, b01, z10, b1o, Int32.zero_add, vu_vu, upd_eq, upd_ne, true_or, or_true]
            simp only [s8_49, c199, q2, if_true]
            exact go73
      by_cases h5 : v.toInt < 0
      · have h5' : (v.toInt < 0) = True := eq_true h5
        simp only [h5', if_true]
        exact go36
      · have h5' : (v.toInt < 0) = False := eq_false h5
        have q2 : (9 < v.toInt) = True := eq_true (by omega)
        simp only [h5', if_false]
        simp (disch := first | omega | decide | assumption | exact Nat.le_of_ble_eq_true rfl) only [s8_20, s8_21, s8_24, ow_some, true_and, and_true, and_self, if_true, if_false, not_true, not_false_eq_true, Bool.false_eq_true, eq_self, Option.toList, List.cons_append, List.nil_append, ix_in, ix_cl, lt_in, lt_cl, lt_add, ix_one, vu_eq, vu_ne, arI_mk, arL_mk, arY_mZ, arY_mB, alen_mI, fld_sfl_ne, fld_sfl_same, Option.isSome_some, pok_i, b1z, b01, z10, b1o, Int32.zero_add, vu_vu, upd_eq, upd_ne, true_or, or_true]
        simp only [s8_25, c9, q2, if_true]
        exact go36
