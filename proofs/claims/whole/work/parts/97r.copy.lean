/-! the class: scenes copied and begun, trays -/
theorem pok_b {x : Int32} (h : x = 0 ∨ x = 1) : (e_pok .boolean (.int x) = true) = True := by rcases h with rfl | rfl <;> exact eq_true rfl
theorem pok_o {C : String} {p : Nat} : (e_pok (.object C) (.ref p) = true) = True := eq_true rfl
theorem SV.ip {f : Nat → e_C} {a pl : Nat} {w : Nat → Int32} {x : Nat → Nat → Int32} (h : SV f a pl w x) : (fld (f a) 6 0).isSome = true := by rw [h.pl]; rfl
/-- one scene's numbers and rows are another's -/
def same5 (w w' : Nat → Int32) (x x' : Nat → Nat → Int32) : Prop := (w' 1 = w 1 ∧ w' 6 = w 6 ∧ w' 7 = w 7 ∧ w' 8 = w 8 ∧ w' 9 = w 9) ∧ (∀ k, k < 9 → x' 2 k = x 2 k) ∧ (∀ k, k < 9 → x' 3 k = x 3 k) ∧ (∀ k, k < 9 → x' 4 k = x 4 k) ∧ ∀ k, k < 8 → x' 5 k = x 5 k
theorem CR.same {all : Nat → Int32} {S P C : Nat} {w w' v : Nat → Int32} {x x' r : Nat → Nat → Int32} (G : CR all S P w x v r C) (h : same5 w w' x x') (hP : P ≤ 9) : CR all S P w' x' v r C := by
  obtain ⟨⟨a1, a2, a3, a4, a5⟩, b1, b2, b3, b4⟩ := h
  exact ⟨⟨by rw [a1]; exact G.w1, by rw [a2]; exact G.w6, by rw [a3]; exact G.w7, by rw [a4]; exact G.w8, by rw [a5]; exact G.w9⟩, fun p hp => by rw [b1 p (by omega)]; exact G.x2 hp, fun p hp => by rw [b2 p (by omega)]; exact G.x3 hp, fun p hp => by rw [b3 p (by omega)]; exact G.x4 hp, fun k hk => by rw [b4 k hk]; exact G.x5 hk, G.pr⟩
theorem sp_copyFrom {X : Nat × (Nat → Int32)} {d N K a b pl pl' : Nat} {f : Nat → e_C} {w w' : Nat → Int32} {x x' : Nat → Nat → Int32} (V : SV f a pl w x) (V' : SV f b pl' w' x') (hab : a + 5 ≤ b ∨ b + 5 ≤ a) (h9 : w' 9 = 0 ∨ w' 9 = 1) {u2 : Value} : TT X d 74 0 [.ref a, .ref b, u2] [] f N K (fun f' n' k' z => n' = N ∧ k' = K ∧ z = none ∧ SI a (a + 5) f f' ∧ ∃ w2 x2, SV f' a pl' w2 x2 ∧ same5 w' w2 x' x2) := by
  have hpb := pok_b h9
  -- a number written
  have st : ∀ (g : Nat → e_C) (ww : Nat → Int32) (xx : Nat → Nat → Int32) (i : Nat) (z : Int32) (c : e_C), c = sfl (g a) i (.int z) → i ∈ [1, 6, 7, 8, 9] → SI a (a + 5) f g → SV g a pl' ww xx → SV g b pl' w' x' → SI a (a + 5) f (va_up g a c) ∧ SV (va_up g a c) a pl' (upd ww i z) xx ∧ SV (va_up g a c) b pl' w' x' := by
    rintro g ww xx i z c rfl hi s1 V1 V1'
    exact ⟨s1.tr (SI.up (by omega) (by omega)), V1.set hi, V1'.fr (fun e h1 h2 => vu_ne (by omega))⟩
  simp (disch := first | omega | decide | assumption | exact Nat.le_of_ble_eq_true rfl) only [s74_0, s74_1, s74_2, s74_5, ow_some, true_and, and_true, and_self, if_true, if_false, not_true, not_false_eq_true, Bool.false_eq_true, eq_self, Option.toList, List.cons_append, List.nil_append, ix_in, ix_cl, lt_in, lt_cl, lt_add, ix_one, vu_eq, vu_ne, arI_mk, arL_mk, arY_mZ, arY_mB, alen_mI, fld_sfl_ne, fld_sfl_same, Option.isSome_some, pok_i, b1z, b01, z10, b1o, Int32.zero_add, vu_vu, upd_eq, upd_ne, true_or, or_true, V.v1, V.v6, V.v7, V.v8, V.v9, V.i1, V.i6, V.i7, V.i8, V.i9, V.r2, V.r3, V.r4, V.r5, V.pl, V.a2, V.a3, V.a4, V.a5, V'.v1, V'.v6, V'.v7, V'.v8, V'.v9, V'.i1, V'.i6, V'.i7, V'.i8, V'.i9, V'.r2, V'.r3, V'.r4, V'.r5, V'.pl, V'.a2, V'.a3, V'.a4, V'.a5, V.ip, pok_o]
  have s1 : SI a (a + 5) f (va_up f a (sfl (f a) 0 (.ref pl'))) := SI.up (by omega) (by omega)
  have V1 := V.spl (pl' := pl')
  have V1' := V'.fr (f' := va_up f a (sfl (f a) 0 (.ref pl'))) (fun e h1 h2 => vu_ne (by omega))
  generalize va_up f a (sfl (f a) 0 (.ref pl')) = f1 at s1 V1 V1' ⊢
  simp (disch := first | omega | decide | assumption | exact Nat.le_of_ble_eq_true rfl) only [s74_8, s74_9, s74_10, s74_13, ow_some, true_and, and_true, and_self, if_true, if_false, not_true, not_false_eq_true, Bool.false_eq_true, eq_self, Option.toList, List.cons_append, List.nil_append, ix_in, ix_cl, lt_in, lt_cl, lt_add, ix_one, vu_eq, vu_ne, arI_mk, arL_mk, arY_mZ, arY_mB, alen_mI, fld_sfl_ne, fld_sfl_same, Option.isSome_some, pok_i, b1z, b01, z10, b1o, Int32.zero_add, vu_vu, upd_eq, upd_ne, true_or, or_true, V1.v1, V1.v6, V1.v7, V1.v8, V1.v9, V1.i1, V1.i6, V1.i7, V1.i8, V1.i9, V1.r2, V1.r3, V1.r4, V1.r5, V1.pl, V1.a2, V1.a3, V1.a4, V1.a5, V1'.v1, V1'.v6, V1'.v7, V1'.v8, V1'.v9, V1'.i1, V1'.i6, V1'.i7, V1'.i8, V1'.i9, V1'.r2, V1'.r3, V1'.r4, V1'.r5, V1'.pl, V1'.a2, V1'.a3, V1'.a4, V1'.a5]
  obtain ⟨s2, V2, V2'⟩ := st f1 w x 1 (w' 1) _ rfl (by decide) s1 V1 V1'
  generalize va_up f1 a (sfl (f1 a) 1 (.int (w' 1))) = f2 at s2 V2 V2' ⊢
  simp (disch := first | omega | decide | assumption | exact Nat.le_of_ble_eq_true rfl) only [s74_16, s74_17, s74_18, s74_21, ow_some, true_and, and_true, and_self, if_true, if_false, not_true, not_false_eq_true, Bool.false_eq_true, eq_self, Option.toList, List.cons_append, List.nil_append, ix_in, ix_cl, lt_in, lt_cl, lt_add, ix_one, vu_eq, vu_ne, arI_mk, arL_mk, arY_mZ, arY_mB, alen_mI, fld_sfl_ne, fld_sfl_same, Option.isSome_some, pok_i, b1z, b01, z10, b1o, Int32.zero_add, vu_vu, upd_eq, upd_ne, true_or, or_true, V2.v1, V2.v6, V2.v7, V2.v8, V2.v9, V2.i1, V2.i6, V2.i7, V2.i8, V2.i9, V2.r2, V2.r3, V2.r4, V2.r5, V2.pl, V2.a2, V2.a3, V2.a4, V2.a5, V2'.v1, V2'.v6, V2'.v7, V2'.v8, V2'.v9, V2'.i1, V2'.i6, V2'.i7, V2'.i8, V2'.i9, V2'.r2, V2'.r3, V2'.r4, V2'.r5, V2'.pl, V2'.a2, V2'.a3, V2'.a4, V2'.a5]
  obtain ⟨s3, V3, V3'⟩ := st f2 _ x 6 (w' 6) _ rfl (by decide) s2 V2 V2'
  generalize va_up f2 a (sfl (f2 a) 6 (.int (w' 6))) = f3 at s3 V3 V3' ⊢
  simp (disch := first | omega | decide | assumption | exact Nat.le_of_ble_eq_true rfl) only [s74_24, s74_25, s74_26, s74_29, ow_some, true_and, and_true, and_self, if_true, if_false, not_true, not_false_eq_true, Bool.false_eq_true, eq_self, Option.toList, List.cons_append, List.nil_append, ix_in, ix_cl, lt_in, lt_cl, lt_add, ix_one, vu_eq, vu_ne, arI_mk, arL_mk, arY_mZ, arY_mB, alen_mI, fld_sfl_ne, fld_sfl_same, Option.isSome_some, pok_i, b1z, b01, z10, b1o, Int32.zero_add, vu_vu, upd_eq, upd_ne, true_or, or_true, V3.v1, V3.v6, V3.v7, V3.v8, V3.v9, V3.i1, V3.i6, V3.i7, V3.i8, V3.i9, V3.r2, V3.r3, V3.r4, V3.r5, V3.pl, V3.a2, V3.a3, V3.a4, V3.a5, V3'.v1, V3'.v6, V3'.v7, V3'.v8, V3'.v9, V3'.i1, V3'.i6, V3'.i7, V3'.i8, V3'.i9, V3'.r2, V3'.r3, V3'.r4, V3'.r5, V3'.pl, V3'.a2, V3'.a3, V3'.a4, V3'.a5]
  obtain ⟨s4, V4, V4'⟩ := st f3 _ x 7 (w' 7) _ rfl (by decide) s3 V3 V3'
  generalize va_up f3 a (sfl (f3 a) 7 (.int (w' 7))) = f4 at s4 V4 V4' ⊢
  simp (disch := first | omega | decide | assumption | exact Nat.le_of_ble_eq_true rfl) only [s74_32, s74_33, s74_34, s74_37, ow_some, true_and, and_true, and_self, if_true, if_false, not_true, not_false_eq_true, Bool.false_eq_true, eq_self, Option.toList, List.cons_append, List.nil_append, ix_in, ix_cl, lt_in, lt_cl, lt_add, ix_one, vu_eq, vu_ne, arI_mk, arL_mk, arY_mZ, arY_mB, alen_mI, fld_sfl_ne, fld_sfl_same, Option.isSome_some, pok_i, b1z, b01, z10, b1o, Int32.zero_add, vu_vu, upd_eq, upd_ne, true_or, or_true, V4.v1, V4.v6, V4.v7, V4.v8, V4.v9, V4.i1, V4.i6, V4.i7, V4.i8, V4.i9, V4.r2, V4.r3, V4.r4, V4.r5, V4.pl, V4.a2, V4.a3, V4.a4, V4.a5, V4'.v1, V4'.v6, V4'.v7, V4'.v8, V4'.v9, V4'.i1, V4'.i6, V4'.i7, V4'.i8, V4'.i9, V4'.r2, V4'.r3, V4'.r4, V4'.r5, V4'.pl, V4'.a2, V4'.a3, V4'.a4, V4'.a5]
  obtain ⟨s5, V5, V5'⟩ := st f4 _ x 8 (w' 8) _ rfl (by decide) s4 V4 V4'
  generalize va_up f4 a (sfl (f4 a) 8 (.int (w' 8))) = f5 at s5 V5 V5' ⊢
  simp (disch := first | omega | decide | assumption | exact Nat.le_of_ble_eq_true rfl) only [s74_40, s74_41, s74_42, s74_45, s74_48, h74_49, ow_some, true_and, and_true, and_self, if_true, if_false, not_true, not_false_eq_true, Bool.false_eq_true, eq_self, Option.toList, List.cons_append, List.nil_append, ix_in, ix_cl, lt_in, lt_cl, lt_add, ix_one, vu_eq, vu_ne, arI_mk, arL_mk, arY_mZ, arY_mB, alen_mI, fld_sfl_ne, fld_sfl_same, Option.isSome_some, pok_i, b1z, b01, z10, b1o, Int32.zero_add, vu_vu, upd_eq, upd_ne, true_or, or_true, V5.v1, V5.v6, V5.v7, V5.v8, V5.v9, V5.i1, V5.i6, V5.i7, V5.i8, V5.i9, V5.r2, V5.r3, V5.r4, V5.r5, V5.pl, V5.a2, V5.a3, V5.a4, V5.a5, V5'.v1, V5'.v6, V5'.v7, V5'.v8, V5'.v9, V5'.i1, V5'.i6, V5'.i7, V5'.i8, V5'.i9, V5'.r2, V5'.r3, V5'.r4, V5'.r5, V5'.pl, V5'.a2, V5'.a3, V5'.a4, V5'.a5, hpb]
  obtain ⟨s6, V6, V6'⟩ := st f5 _ x 9 (w' 9) _ rfl (by decide) s5 V5 V5'
  generalize va_up f5 a (sfl (f5 a) 9 (.int (w' 9))) = f6 at s6 V6 V6' ⊢
  have hw : ∀ ww, ww = upd (upd (upd (upd (upd w 1 (w' 1)) 6 (w' 6)) 7 (w' 7)) 8 (w' 8)) 9 (w' 9) → ww 1 = w' 1 ∧ ww 6 = w' 6 ∧ ww 7 = w' 7 ∧ ww 8 = w' 8 ∧ ww 9 = w' 9 := by
    rintro ww rfl
    refine ⟨?_, ?_, ?_, ?_, ?_⟩
    · rw [upd_ne (by decide), upd_ne (by decide), upd_ne (by decide), upd_ne (by decide), upd_eq]
    · rw [upd_ne (by decide), upd_ne (by decide), upd_ne (by decide), upd_eq]
    · rw [upd_ne (by decide), upd_ne (by decide), upd_eq]
    · rw [upd_ne (by decide), upd_eq]
    · rw [upd_eq]
  have hww := hw _ rfl
  generalize upd (upd (upd (upd (upd w 1 (w' 1)) 6 (w' 6)) 7 (w' 7)) 8 (w' 8)) 9 (w' 9) = ww at V6 hww
  refine lp (fun p e (z : Nat → Nat → Int32) => SI a (a + 5) f e ∧ SV e a pl' ww z ∧ SV e b pl' w' x' ∧ ∀ k, k < p → z 2 k = x' 2 k ∧ z 3 k = x' 3 k ∧ z 4 k = x' 4 k) (fun p _ => [.ref a, .ref b, .int (nI p)]) 9 ?_ ?_ 0 f6 x (by omega) ⟨s6, V6, V6', fun k hk => by omega⟩
  · rintro p e z hp ⟨t1, U1, U1', hk⟩ hI
    have hc : (9 ≤ p) = False := eq_false (by omega)
    simp (disch := first | omega | decide | assumption | exact Nat.le_of_ble_eq_true rfl) only [s74_50, s74_51, s74_53, s74_56, s74_57, s74_60, s74_61, s74_62, s74_65, s74_66, s74_67, ow_some, true_and, and_true, and_self, if_true, if_false, not_true, not_false_eq_true, Bool.false_eq_true, eq_self, Option.toList, List.cons_append, List.nil_append, ix_in, ix_cl, lt_in, lt_cl, lt_add, ix_one, vu_eq, vu_ne, arI_mk, arL_mk, arY_mZ, arY_mB, alen_mI, fld_sfl_ne, fld_sfl_same, Option.isSome_some, pok_i, b1z, b01, z10, b1o, Int32.zero_add, vu_vu, upd_eq, upd_ne, true_or, or_true, U1.v1, U1.v6, U1.v7, U1.v8, U1.v9, U1.i1, U1.i6, U1.i7, U1.i8, U1.i9, U1.r2, U1.r3, U1.r4, U1.r5, U1.pl, U1.a2, U1.a3, U1.a4, U1.a5, U1'.v1, U1'.v6, U1'.v7, U1'.v8, U1'.v9, U1'.i1, U1'.i6, U1'.i7, U1'.i8, U1'.i9, U1'.r2, U1'.r3, U1'.r4, U1'.r5, U1'.pl, U1'.a2, U1'.a3, U1'.a4, U1'.a5, lt_le, hc]
    have t2 : SI a (a + 5) f (va_up e (a + 1) (.inl (.int, 9, .inl (upd (z 2) p (x' 2 p))))) := t1.tr (SI.up (by omega) (by omega))
    have U2 := U1.s2 (g := upd (z 2) p (x' 2 p))
    have U2' := U1'.fr (f' := va_up e (a + 1) (.inl (.int, 9, .inl (upd (z 2) p (x' 2 p))))) (fun e h1 h2 => vu_ne (by omega))
    generalize va_up e (a + 1) (.inl (.int, 9, .inl (upd (z 2) p (x' 2 p)))) = g2 at t2 U2 U2' ⊢
    simp (disch := first | omega | decide | assumption | exact Nat.le_of_ble_eq_true rfl) only [s74_68, s74_69, s74_72, s74_73, s74_74, s74_77, s74_78, s74_79, ow_some, true_and, and_true, and_self, if_true, if_false, not_true, not_false_eq_true, Bool.false_eq_true, eq_self, Option.toList, List.cons_append, List.nil_append, ix_in, ix_cl, lt_in, lt_cl, lt_add, ix_one, vu_eq, vu_ne, arI_mk, arL_mk, arY_mZ, arY_mB, alen_mI, fld_sfl_ne, fld_sfl_same, Option.isSome_some, pok_i, b1z, b01, z10, b1o, Int32.zero_add, vu_vu, upd_eq, upd_ne, true_or, or_true, U2.v1, U2.v6, U2.v7, U2.v8, U2.v9, U2.i1, U2.i6, U2.i7, U2.i8, U2.i9, U2.r2, U2.r3, U2.r4, U2.r5, U2.pl, U2.a2, U2.a3, U2.a4, U2.a5, U2'.v1, U2'.v6, U2'.v7, U2'.v8, U2'.v9, U2'.i1, U2'.i6, U2'.i7, U2'.i8, U2'.i9, U2'.r2, U2'.r3, U2'.r4, U2'.r5, U2'.pl, U2'.a2, U2'.a3, U2'.a4, U2'.a5, up2_ne]
    have t3 : SI a (a + 5) f (va_up g2 (a + 2) (.inl (.int, 9, .inl (upd (z 3) p (x' 3 p))))) := t2.tr (SI.up (by omega) (by omega))
    have U3 := U2.s3 (g := upd (z 3) p (x' 3 p))
    have U3' := U2'.fr (f' := va_up g2 (a + 2) (.inl (.int, 9, .inl (upd (z 3) p (x' 3 p))))) (fun e h1 h2 => vu_ne (by omega))
    generalize va_up g2 (a + 2) (.inl (.int, 9, .inl (upd (z 3) p (x' 3 p)))) = g3 at t3 U3 U3' ⊢
    simp (disch := first | omega | decide | assumption | exact Nat.le_of_ble_eq_true rfl) only [s74_80, s74_81, s74_84, s74_85, s74_86, s74_89, s74_90, s74_91, s74_92, h74_95, ow_some, true_and, and_true, and_self, if_true, if_false, not_true, not_false_eq_true, Bool.false_eq_true, eq_self, Option.toList, List.cons_append, List.nil_append, ix_in, ix_cl, lt_in, lt_cl, lt_add, ix_one, vu_eq, vu_ne, arI_mk, arL_mk, arY_mZ, arY_mB, alen_mI, fld_sfl_ne, fld_sfl_same, Option.isSome_some, pok_i, b1z, b01, z10, b1o, Int32.zero_add, vu_vu, upd_eq, upd_ne, true_or, or_true, U3.v1, U3.v6, U3.v7, U3.v8, U3.v9, U3.i1, U3.i6, U3.i7, U3.i8, U3.i9, U3.r2, U3.r3, U3.r4, U3.r5, U3.pl, U3.a2, U3.a3, U3.a4, U3.a5, U3'.v1, U3'.v6, U3'.v7, U3'.v8, U3'.v9, U3'.i1, U3'.i6, U3'.i7, U3'.i8, U3'.i9, U3'.r2, U3'.r3, U3'.r4, U3'.r5, U3'.pl, U3'.a2, U3'.a3, U3'.a4, U3'.a5, up2_ne]
    refine hI _ _ ⟨t3.tr (SI.up (by omega) (by omega)), U3.s4 (g := upd (z 4) p (x' 4 p)), U3'.fr (fun e h1 h2 => vu_ne (by omega)), fun k hk' => ?_⟩
    rw [up2_ne (show 2 ≠ 4 by decide), up2_ne (show 2 ≠ 3 by decide), up2_eq, up2_ne (show 3 ≠ 4 by decide), up2_eq, up2_eq]
    by_cases h : k = p
    · subst h; rw [upd_eq, upd_eq, upd_eq]; exact ⟨rfl, rfl, rfl⟩
    · rw [upd_ne h, upd_ne h, upd_ne h]; exact hk k (by omega)
  · rintro e z ⟨t1, U1, U1', hk⟩
    simp (disch := first | omega | decide | assumption | exact Nat.le_of_ble_eq_true rfl) only [s74_50, s74_51, s74_53, s74_98, h74_99, ow_some, true_and, and_true, and_self, if_true, if_false, not_true, not_false_eq_true, Bool.false_eq_true, eq_self, Option.toList, List.cons_append, List.nil_append, ix_in, ix_cl, lt_in, lt_cl, lt_add, ix_one, vu_eq, vu_ne, arI_mk, arL_mk, arY_mZ, arY_mB, alen_mI, fld_sfl_ne, fld_sfl_same, Option.isSome_some, pok_i, b1z, b01, z10, b1o, Int32.zero_add, vu_vu, upd_eq, upd_ne, true_or, or_true, lt_le, Nat.le_refl]
    refine lp (fun p e (g : Nat → Int32) => SI a (a + 5) f e ∧ SV e a pl' ww (up2 z 5 g) ∧ SV e b pl' w' x' ∧ ∀ k, k < p → g k = x' 5 k) (fun p _ => [.ref a, .ref b, .int (nI p)]) 8 ?_ ?_ 0 e (z 5) (by omega) ⟨t1, ?_, U1', fun k hk => by omega⟩
    · rintro p e g hp ⟨t2, U2, U2', hg⟩ hI
      have hc : (8 ≤ p) = False := eq_false (by omega)
      simp (disch := first | omega | decide | assumption | exact Nat.le_of_ble_eq_true rfl) only [s74_100, s74_101, s74_103, s74_106, s74_107, s74_110, s74_111, s74_112, s74_115, s74_116, s74_117, s74_118, h74_121, ow_some, true_and, and_true, and_self, if_true, if_false, not_true, not_false_eq_true, Bool.false_eq_true, eq_self, Option.toList, List.cons_append, List.nil_append, ix_in, ix_cl, lt_in, lt_cl, lt_add, ix_one, vu_eq, vu_ne, arI_mk, arL_mk, arY_mZ, arY_mB, alen_mI, fld_sfl_ne, fld_sfl_same, Option.isSome_some, pok_i, b1z, b01, z10, b1o, Int32.zero_add, vu_vu, upd_eq, upd_ne, true_or, or_true, U2.v1, U2.v6, U2.v7, U2.v8, U2.v9, U2.i1, U2.i6, U2.i7, U2.i8, U2.i9, U2.r2, U2.r3, U2.r4, U2.r5, U2.pl, U2.a2, U2.a3, U2.a4, U2.a5, U2'.v1, U2'.v6, U2'.v7, U2'.v8, U2'.v9, U2'.i1, U2'.i6, U2'.i7, U2'.i8, U2'.i9, U2'.r2, U2'.r3, U2'.r4, U2'.r5, U2'.pl, U2'.a2, U2'.a3, U2'.a4, U2'.a5, lt_le, hc, up2_eq]
      refine hI _ (upd g p (x' 5 p)) ⟨t2.tr (SI.up (by omega) (by omega)), ?_, U2'.fr (fun e h1 h2 => vu_ne (by omega)), fun k hk' => ?_⟩
      · have := U2.s5 (g := upd g p (x' 5 p))
        rw [up2_up2] at this
        exact this
      · by_cases h : k = p
        · subst h; rw [upd_eq]
        · rw [upd_ne h]; exact hg k (by omega)
    · rintro e g ⟨t2, U2, U2', hg⟩
      simp (disch := first | omega | decide | assumption | exact Nat.le_of_ble_eq_true rfl) only [s74_100, s74_101, s74_103, s74_124, ow_some, true_and, and_true, and_self, if_true, if_false, not_true, not_false_eq_true, Bool.false_eq_true, eq_self, Option.toList, List.cons_append, List.nil_append, ix_in, ix_cl, lt_in, lt_cl, lt_add, ix_one, vu_eq, vu_ne, arI_mk, arL_mk, arY_mZ, arY_mB, alen_mI, fld_sfl_ne, fld_sfl_same, Option.isSome_some, pok_i, b1z, b01, z10, b1o, Int32.zero_add, vu_vu, upd_eq, upd_ne, true_or, or_true, lt_le, Nat.le_refl]
      refine ⟨t2, ww, up2 z 5 g, U2, hww, fun k hk' => ?_, fun k hk' => ?_, fun k hk' => ?_, fun k hk' => ?_⟩
      · rw [up2_ne (by decide)]; exact (hk k hk').1
      · rw [up2_ne (by decide)]; exact (hk k hk').2.1
      · rw [up2_ne (by decide)]; exact (hk k hk').2.2
      · rw [up2_eq]; exact hg k hk'
    · have : up2 z 5 (z 5) = z := by funext j; by_cases h : j = 5 <;> simp [up2, h]
      rw [this]; exact U1
theorem sp_cutT {X : Nat × (Nat → Int32)} {d N K t : Nat} {f : Nat → e_C} {so sz : Int32} {g : Nat → Int64} {v : Int64} {u : UInt64} (T : TV f t so sz g) (hso : ∃ k, k < 4 ∧ so = nI k) : PU X d 100 [.ref t, .long v, .double u] f N K (some (.long (m_cut v so))) := by
  obtain ⟨t0, t1, t2, t3⟩ := T
  obtain ⟨k, hk, rfl⟩ := hso
  unfold PU m_cut
  simp (disch := first | omega | decide | assumption | exact Nat.le_of_ble_eq_true rfl) only [s100_0, s100_1, ow_some, true_and, and_true, and_self, if_true, if_false, not_true, not_false_eq_true, Bool.false_eq_true, eq_self, Option.toList, List.cons_append, List.nil_append, ix_in, ix_cl, lt_in, lt_cl, lt_add, ix_one, vu_eq, vu_ne, arI_mk, arL_mk, arY_mZ, arY_mB, alen_mI, fld_sfl_ne, fld_sfl_same, Option.isSome_some, pok_i, b1z, b01, z10, b1o, Int32.zero_add, vu_vu, upd_eq, upd_ne, true_or, or_true, t0]
  have ti : (nI k).toInt = (k : Int) := nI_toInt (by omega)
  simp only [s100_4, tsw, ti]
  rcases (show k = 0 ∨ k = 1 ∨ k = 2 ∨ k = 3 by omega) with rfl | rfl | rfl | rfl
  · have e : nI 0 = 0 := rfl
    rw [if_pos (by rfl), if_pos e]
    simp (disch := first | omega | decide | assumption | exact Nat.le_of_ble_eq_true rfl) only [s100_32, s100_33, s100_34, s100_35, s100_36, ow_some, true_and, and_true, and_self, if_true, if_false, not_true, not_false_eq_true, Bool.false_eq_true, eq_self, Option.toList, List.cons_append, List.nil_append, ix_in, ix_cl, lt_in, lt_cl, lt_add, ix_one, vu_eq, vu_ne, arI_mk, arL_mk, arY_mZ, arY_mB, alen_mI, fld_sfl_ne, fld_sfl_same, Option.isSome_some, pok_i, b1z, b01, z10, b1o, Int32.zero_add, vu_vu, upd_eq, upd_ne, true_or, or_true]
  · have e0 : ¬ nI 1 = 0 := by decide
    have e1 : nI 1 = 1 := rfl
    rw [if_neg (by decide), if_pos (by rfl), if_neg e0, if_pos e1]
    simp (disch := first | omega | decide | assumption | exact Nat.le_of_ble_eq_true rfl) only [s100_37, s100_38, s100_39, s100_40, s100_41, ow_some, true_and, and_true, and_self, if_true, if_false, not_true, not_false_eq_true, Bool.false_eq_true, eq_self, Option.toList, List.cons_append, List.nil_append, ix_in, ix_cl, lt_in, lt_cl, lt_add, ix_one, vu_eq, vu_ne, arI_mk, arL_mk, arY_mZ, arY_mB, alen_mI, fld_sfl_ne, fld_sfl_same, Option.isSome_some, pok_i, b1z, b01, z10, b1o, Int32.zero_add, vu_vu, upd_eq, upd_ne, true_or, or_true]
  · have e0 : ¬ nI 2 = 0 := by decide
    have e1 : ¬ nI 2 = 1 := by decide
    have e2 : nI 2 = 2 := rfl
    rw [if_neg (by decide), if_neg (by decide), if_pos (by rfl), if_neg e0, if_neg e1, if_pos e2]
    simp (disch := first | omega | decide | assumption | exact Nat.le_of_ble_eq_true rfl) only [s100_42, s100_43, s100_44, s100_45, ow_some, true_and, and_true, and_self, if_true, if_false, not_true, not_false_eq_true, Bool.false_eq_true, eq_self, Option.toList, List.cons_append, List.nil_append, ix_in, ix_cl, lt_in, lt_cl, lt_add, ix_one, vu_eq, vu_ne, arI_mk, arL_mk, arY_mZ, arY_mB, alen_mI, fld_sfl_ne, fld_sfl_same, Option.isSome_some, pok_i, b1z, b01, z10, b1o, Int32.zero_add, vu_vu, upd_eq, upd_ne, true_or, or_true]
  · have e0 : ¬ nI 3 = 0 := by decide
    have e1 : ¬ nI 3 = 1 := by decide
    have e2 : ¬ nI 3 = 2 := by decide
    rw [if_neg (by decide), if_neg (by decide), if_neg (by decide), if_neg e0, if_neg e1, if_neg e2]
    simp (disch := first | omega | decide | assumption | exact Nat.le_of_ble_eq_true rfl) only [s100_46, s100_47, ow_some, true_and, and_true, and_self, if_true, if_false, not_true, not_false_eq_true, Bool.false_eq_true, eq_self, Option.toList, List.cons_append, List.nil_append, ix_in, ix_cl, lt_in, lt_cl, lt_add, ix_one, vu_eq, vu_ne, arI_mk, arL_mk, arY_mZ, arY_mB, alen_mI, fld_sfl_ne, fld_sfl_same, Option.isSome_some, pok_i, b1z, b01, z10, b1o, Int32.zero_add, vu_vu, upd_eq, upd_ne, true_or, or_true]
theorem sp_put {X : Nat × (Nat → Int32)} {d N K t i : Nat} {f : Nat → e_C} {so sz : Int32} {g : Nat → Int64} {v : Int64} {u : UInt64} (T : TV f t so sz g) (hso : ∃ k, k < 4 ∧ so = nI k) (hi : i < 40) : TT X (d + 1) 99 0 [.ref t, .int (nI i), .long v, .double u] [] f N K (fun f' n' k' z => n' = N ∧ k' = K ∧ SI (t + 1) (t + 2) f f' ∧ TV f' t so sz (vp_updL g i (m_cut v so)) ∧ z = some (.long (m_cut v so))) := by
  obtain ⟨t0, t1, t2, t3⟩ := id T
  simp (disch := first | omega | decide | assumption | exact Nat.le_of_ble_eq_true rfl) only [s99_0, s99_1, s99_4, s99_5, s99_6, ow_some, true_and, and_true, and_self, if_true, if_false, not_true, not_false_eq_true, Bool.false_eq_true, eq_self, Option.toList, List.cons_append, List.nil_append, ix_in, ix_cl, lt_in, lt_cl, lt_add, ix_one, vu_eq, vu_ne, arI_mk, arL_mk, arY_mZ, arY_mB, alen_mI, fld_sfl_ne, fld_sfl_same, Option.isSome_some, pok_i, b1z, b01, z10, b1o, Int32.zero_add, vu_vu, upd_eq, upd_ne, true_or, or_true, t2]
  rw [p99_7 T.cn (Nat.le_of_ble_eq_true rfl) (sp_cutT T hso)]
  simp (disch := first | omega | decide | assumption | exact Nat.le_of_ble_eq_true rfl) only [s99_10, ow_some, true_and, and_true, and_self, if_true, if_false, not_true, not_false_eq_true, Bool.false_eq_true, eq_self, Option.toList, List.cons_append, List.nil_append, ix_in, ix_cl, lt_in, lt_cl, lt_add, ix_one, vu_eq, vu_ne, arI_mk, arL_mk, arY_mZ, arY_mB, alen_mI, fld_sfl_ne, fld_sfl_same, Option.isSome_some, pok_i, b1z, b01, z10, b1o, Int32.zero_add, vu_vu, upd_eq, upd_ne, true_or, or_true, t3]
  have T2 : TV (va_up f (t + 1) (.inl (.long, 40, .inr (.inl (vp_updL g i (m_cut v so)))))) t so sz (vp_updL g i (m_cut v so)) := ⟨by rw [vu_ne (by omega)]; exact t0, by rw [vu_ne (by omega)]; exact t1, by rw [vu_ne (by omega)]; exact t2, by rw [vu_eq]; rfl⟩
  have s2 : SI (t + 1) (t + 2) f (va_up f (t + 1) (.inl (.long, 40, .inr (.inl (vp_updL g i (m_cut v so)))))) := SI.up (by omega) (by omega)
  generalize va_up f (t + 1) (.inl (.long, 40, .inr (.inl (vp_updL g i (m_cut v so))))) = f2 at T2 s2 ⊢
  obtain ⟨b0, b1, b2, b3⟩ := id T2
  simp (disch := first | omega | decide | assumption | exact Nat.le_of_ble_eq_true rfl) only [s99_11, s99_12, s99_15, s99_16, s99_17, ow_some, true_and, and_true, and_self, if_true, if_false, not_true, not_false_eq_true, Bool.false_eq_true, eq_self, Option.toList, List.cons_append, List.nil_append, ix_in, ix_cl, lt_in, lt_cl, lt_add, ix_one, vu_eq, vu_ne, arI_mk, arL_mk, arY_mZ, arY_mB, alen_mI, fld_sfl_ne, fld_sfl_same, Option.isSome_some, pok_i, b1z, b01, z10, b1o, Int32.zero_add, vu_vu, upd_eq, upd_ne, true_or, or_true, b2, b3, ul_eq]
  exact ⟨s2, T2⟩
theorem sp_begT {X : Nat × (Nat → Int32)} {d N K t : Nat} {f : Nat → e_C} {so sz so' sz' : Int32} {g : Nat → Int64} (T : TV f t so sz g) {u3 : Value} : TT X d 98 0 [.ref t, .int so', .int sz', u3] [] f N K (fun f' n' k' z => n' = N ∧ k' = K ∧ z = none ∧ SI t (t + 2) f f' ∧ ∃ g', TV f' t so' sz' g' ∧ ∀ i, i < 40 → g' i = 0) := by
  obtain ⟨t0, t1, t2, t3⟩ := id T
  have i0 : (fld (f t) 9 0).isSome = true := by rw [t0]; rfl
  simp (disch := first | omega | decide | assumption | exact Nat.le_of_ble_eq_true rfl) only [s98_0, s98_1, s98_2, ow_some, true_and, and_true, and_self, if_true, if_false, not_true, not_false_eq_true, Bool.false_eq_true, eq_self, Option.toList, List.cons_append, List.nil_append, ix_in, ix_cl, lt_in, lt_cl, lt_add, ix_one, vu_eq, vu_ne, arI_mk, arL_mk, arY_mZ, arY_mB, alen_mI, fld_sfl_ne, fld_sfl_same, Option.isSome_some, pok_i, b1z, b01, z10, b1o, Int32.zero_add, vu_vu, upd_eq, upd_ne, true_or, or_true, i0]
  have T2 : TV (va_up f t (sfl (f t) 0 (.int so'))) t so' sz g := ⟨by rw [vu_eq]; exact fld_sfl_same i0, by rw [vu_eq, fld_sfl_ne (by decide)]; exact t1, by rw [vu_eq, fld_sfl_ne (by decide)]; exact t2, by rw [vu_ne (by omega)]; exact t3⟩
  have s2 : SI t (t + 2) f (va_up f t (sfl (f t) 0 (.int so'))) := SI.up (by omega) (by omega)
  generalize va_up f t (sfl (f t) 0 (.int so')) = f2 at T2 s2 ⊢
  obtain ⟨b0, b1, b2, b3⟩ := id T2
  have i1 : (fld (f2 t) 9 1).isSome = true := by rw [b1]; rfl
  simp (disch := first | omega | decide | assumption | exact Nat.le_of_ble_eq_true rfl) only [s98_5, s98_6, s98_7, s98_10, h98_11, ow_some, true_and, and_true, and_self, if_true, if_false, not_true, not_false_eq_true, Bool.false_eq_true, eq_self, Option.toList, List.cons_append, List.nil_append, ix_in, ix_cl, lt_in, lt_cl, lt_add, ix_one, vu_eq, vu_ne, arI_mk, arL_mk, arY_mZ, arY_mB, alen_mI, fld_sfl_ne, fld_sfl_same, Option.isSome_some, pok_i, b1z, b01, z10, b1o, Int32.zero_add, vu_vu, upd_eq, upd_ne, true_or, or_true, i1]
  have T3 : TV (va_up f2 t (sfl (f2 t) 1 (.int sz'))) t so' sz' g := ⟨by rw [vu_eq, fld_sfl_ne (by decide)]; exact b0, by rw [vu_eq]; exact fld_sfl_same i1, by rw [vu_eq, fld_sfl_ne (by decide)]; exact b2, by rw [vu_ne (by omega)]; exact b3⟩
  have s3 : SI t (t + 2) f (va_up f2 t (sfl (f2 t) 1 (.int sz'))) := s2.tr (SI.up (by omega) (by omega))
  generalize va_up f2 t (sfl (f2 t) 1 (.int sz')) = f3 at T3 s3 ⊢
  refine lp (fun j e (h : Nat → Int64) => SI t (t + 2) f e ∧ TV e t so' sz' h ∧ ∀ i, i < j → h i = 0) (fun j _ => [.ref t, .int so', .int sz', .int (nI j)]) 40 ?_ ?_ 0 f3 g (by omega) ⟨s3, T3, fun i hi => by omega⟩
  · rintro j e h hj ⟨s4, T4, hh⟩ hI
    have hc : (40 ≤ j) = False := eq_false (by omega)
    obtain ⟨c0, c1, c2, c3⟩ := id T4
    simp (disch := first | omega | decide | assumption | exact Nat.le_of_ble_eq_true rfl) only [s98_12, s98_13, s98_15, s98_18, s98_19, s98_22, s98_23, s98_24, s98_25, h98_28, ow_some, true_and, and_true, and_self, if_true, if_false, not_true, not_false_eq_true, Bool.false_eq_true, eq_self, Option.toList, List.cons_append, List.nil_append, ix_in, ix_cl, lt_in, lt_cl, lt_add, ix_one, vu_eq, vu_ne, arI_mk, arL_mk, arY_mZ, arY_mB, alen_mI, fld_sfl_ne, fld_sfl_same, Option.isSome_some, pok_i, b1z, b01, z10, b1o, Int32.zero_add, vu_vu, upd_eq, upd_ne, true_or, or_true, lt_le, hc, c2, c3]
    refine hI _ (vp_updL h j 0) ⟨s4.tr (SI.up (by omega) (by omega)), ⟨by rw [vu_ne (by omega)]; exact c0, by rw [vu_ne (by omega)]; exact c1, by rw [vu_ne (by omega)]; exact c2, by rw [vu_eq]; rfl⟩, fun i hi => ?_⟩
    by_cases hij : i = j
    · subst hij; rw [ul_eq]
    · rw [ul_ne hij]; exact hh i (by omega)
  · rintro e h ⟨s4, T4, hh⟩
    simp (disch := first | omega | decide | assumption | exact Nat.le_of_ble_eq_true rfl) only [s98_12, s98_13, s98_15, s98_31, ow_some, true_and, and_true, and_self, if_true, if_false, not_true, not_false_eq_true, Bool.false_eq_true, eq_self, Option.toList, List.cons_append, List.nil_append, ix_in, ix_cl, lt_in, lt_cl, lt_add, ix_one, vu_eq, vu_ne, arI_mk, arL_mk, arY_mZ, arY_mB, alen_mI, fld_sfl_ne, fld_sfl_same, Option.isSome_some, pok_i, b1z, b01, z10, b1o, Int32.zero_add, vu_vu, upd_eq, upd_ne, true_or, or_true, lt_le, Nat.le_refl]
    exact ⟨s4, h, T4, hh⟩
