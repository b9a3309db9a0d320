/-! the class's scales: today, sets, who may be seen -/
def LPo (q : Nat) (y : Nat → Nat → Int32) (f : Nat → e_C) (N K : Nat) (z : Int32) : t_Q := fun f' n' k' v => n' = N ∧ k' = K ∧ SI (q + 2) (q + 4) f f' ∧ (∃ y', LV f' q y' ∧ ∀ j, 2 ≤ j → y' j = y j) ∧ v = some (.int z)
def wt (all : Nat → Int32) (p : Nat) (b wd : Int32) : Int32 := c_str all (nI p) b (all 56 - all (75 + p)) (all (57 + p)) (all 56) wd
theorem sp_bearing {X : Nat × (Nat → Int32)} {d N K q a pl C S R P : Nat} {f : Nat → e_C} {y x r : Nat → Nat → Int32} {w v all : Nat → Int32} (L : LV f q y) (V : SV f a pl w x) (W : PV f pl v r C) (G : CR all S P w x v r C) (I : IS all S R P) (hd : AD a pl q) {p : Nat} (hp : p < P) {b wd : Int32} : TT X (d + 2) 60 0 [.ref q, .ref a, .int (nI p), .int b, .int wd] [] f N K (LPo q y f N K (wt all p b wd)) := by
  have h9 := I.p9
  have e2 := G.x2 hp
  have e4 := G.x4 hp
  have e8 := G.w8
  simp (disch := first | omega | decide | assumption | exact Nat.le_of_ble_eq_true rfl) only [s60_0, s60_1, s60_2, s60_5, s60_6, s60_7, s60_8, ow_some, true_and, and_true, and_self, if_true, if_false, not_true, not_false_eq_true, Bool.false_eq_true, eq_self, Option.toList, List.cons_append, List.nil_append, ix_in, ix_cl, lt_in, lt_cl, lt_add, ix_one, vu_eq, vu_ne, arI_mk, arL_mk, arY_mZ, arY_mB, alen_mI, fld_sfl_ne, fld_sfl_same, Option.isSome_some, pok_i, b1z, b01, z10, b1o, Int32.zero_add, vu_vu, upd_eq, upd_ne, true_or, or_true, V.v1, V.v6, V.v7, V.v8, V.v9, V.i1, V.i6, V.i7, V.i8, V.i9, V.r2, V.r3, V.r4, V.r5, V.pl, V.a2, V.a3, V.a4, V.a5]
  rw [p60_9 V.cn (Nat.le_of_ble_eq_true rfl) (sp_ageOf V (show p < 9 by omega))]
  simp (disch := first | omega | decide | assumption | exact Nat.le_of_ble_eq_true rfl) only [s60_12, s60_13, s60_16, s60_17, s60_18, s60_19, s60_22, ow_some, true_and, and_true, and_self, if_true, if_false, not_true, not_false_eq_true, Bool.false_eq_true, eq_self, Option.toList, List.cons_append, List.nil_append, ix_in, ix_cl, lt_in, lt_cl, lt_add, ix_one, vu_eq, vu_ne, arI_mk, arL_mk, arY_mZ, arY_mB, alen_mI, fld_sfl_ne, fld_sfl_same, Option.isSome_some, pok_i, b1z, b01, z10, b1o, Int32.zero_add, vu_vu, upd_eq, upd_ne, true_or, or_true, V.v1, V.v6, V.v7, V.v8, V.v9, V.i1, V.i6, V.i7, V.i8, V.i9, V.r2, V.r3, V.r4, V.r5, V.pl, V.a2, V.a3, V.a4, V.a5, e2, e4, e8]
  refine k60_24 L.cn (Nat.le_of_ble_eq_true rfl) (sp_strength L W (by omega) G.l0) ?_
  rintro f1 n1 k1 v1 ⟨rfl, rfl, s1, h1, rfl⟩
  simp (disch := first | omega | decide | assumption | exact Nat.le_of_ble_eq_true rfl) only [s60_27, ow_some, true_and, and_true, and_self, if_true, if_false, not_true, not_false_eq_true, Bool.false_eq_true, eq_self, Option.toList, List.cons_append, List.nil_append, ix_in, ix_cl, lt_in, lt_cl, lt_add, ix_one, vu_eq, vu_ne, arI_mk, arL_mk, arY_mZ, arY_mB, alen_mI, fld_sfl_ne, fld_sfl_same, Option.isSome_some, pok_i, b1z, b01, z10, b1o, Int32.zero_add, vu_vu, upd_eq, upd_ne, true_or, or_true]
  exact ⟨rfl, rfl, s1, h1, rfl⟩
theorem sp_newcomer {X : Nat × (Nat → Int32)} {d N K q a pl C S R P : Nat} {f : Nat → e_C} {y x r : Nat → Nat → Int32} {w v all : Nat → Int32} (L : LV f q y) (V : SV f a pl w x) (W : PV f pl v r C) (G : CR all S P w x v r C) (I : IS all S R P) (hd : AD a pl q) {k b l : Int32} : TT X (d + 2) 65 0 [.ref q, .ref a, .int k, .int b, .int l] [] f N K (LPo q y f N K (c_str all (nI P) b l k (all 56 + l) 0)) := by
  have hP : w 1 = nI P := by rw [G.w1]; exact I.eP
  have e8 := G.w8
  simp (disch := first | omega | decide | assumption | exact Nat.le_of_ble_eq_true rfl) only [s65_0, s65_1, s65_2, s65_5, s65_6, s65_9, s65_10, s65_12, s65_13, s65_14, s65_17, s65_19, s65_20, ow_some, true_and, and_true, and_self, if_true, if_false, not_true, not_false_eq_true, Bool.false_eq_true, eq_self, Option.toList, List.cons_append, List.nil_append, ix_in, ix_cl, lt_in, lt_cl, lt_add, ix_one, vu_eq, vu_ne, arI_mk, arL_mk, arY_mZ, arY_mB, alen_mI, fld_sfl_ne, fld_sfl_same, Option.isSome_some, pok_i, b1z, b01, z10, b1o, Int32.zero_add, vu_vu, upd_eq, upd_ne, true_or, or_true, V.v1, V.v6, V.v7, V.v8, V.v9, V.i1, V.i6, V.i7, V.i8, V.i9, V.r2, V.r3, V.r4, V.r5, V.pl, V.a2, V.a3, V.a4, V.a5, hP, e8]
  refine k65_21 L.cn (Nat.le_of_ble_eq_true rfl) (sp_strength L W (by omega) G.l0) ?_
  rintro f1 n1 k1 v1 ⟨rfl, rfl, s1, h1, rfl⟩
  simp (disch := first | omega | decide | assumption | exact Nat.le_of_ble_eq_true rfl) only [s65_24, ow_some, true_and, and_true, and_self, if_true, if_false, not_true, not_false_eq_true, Bool.false_eq_true, eq_self, Option.toList, List.cons_append, List.nil_append, ix_in, ix_cl, lt_in, lt_cl, lt_add, ix_one, vu_eq, vu_ne, arI_mk, arL_mk, arY_mZ, arY_mB, alen_mI, fld_sfl_ne, fld_sfl_same, Option.isSome_some, pok_i, b1z, b01, z10, b1o, Int32.zero_add, vu_vu, upd_eq, upd_ne, true_or, or_true]
  exact ⟨rfl, rfl, s1, h1, rfl⟩
/-- weighed: alone, and with the other one -/
def wgd (all : Nat → Int32) (P : Nat) (y : Nat → Nat → Int32) : Prop := ∀ p, p < P → (nT all).testBit p = true → y 2 p = wt all p (all (66 + p)) 0 ∧ (all (43 + p) ≠ -1 → y 3 p = wt all p (all (66 + p)) 1)
theorem sp_weigh {X : Nat × (Nat → Int32)} {d N K q a pl C S R P : Nat} {f : Nat → e_C} {y x r : Nat → Nat → Int32} {w v all : Nat → Int32} (L : LV f q y) (V : SV f a pl w x) (W : PV f pl v r C) (G : CR all S P w x v r C) (I : IS all S R P) (hd : AD a pl q) {u2 : Value} : TT X (d + 3) 63 0 [.ref q, .ref a, u2] [] f N K (fun f' n' k' z => n' = N ∧ k' = K ∧ z = none ∧ SI (q + 2) (q + 7) f f' ∧ ∃ y', LV f' q y' ∧ y' 4 = y 4 ∧ wgd all P y') := by
  have h9 := I.p9
  have hP : w 1 = nI P := by rw [G.w1]; exact I.eP
  have hT : w 6 = nI (nT all) := by rw [G.w6]; exact I.eT
  simp (disch := first | omega | decide | assumption | exact Nat.le_of_ble_eq_true rfl) only [s63_0, h63_1, ow_some, true_and, and_true, and_self, if_true, if_false, not_true, not_false_eq_true, Bool.false_eq_true, eq_self, Option.toList, List.cons_append, List.nil_append, ix_in, ix_cl, lt_in, lt_cl, lt_add, ix_one, vu_eq, vu_ne, arI_mk, arL_mk, arY_mZ, arY_mB, alen_mI, fld_sfl_ne, fld_sfl_same, Option.isSome_some, pok_i, b1z, b01, z10, b1o, Int32.zero_add, vu_vu, upd_eq, upd_ne, true_or, or_true]
  refine lp (fun p e (z : Nat → Nat → Int32) => SI (q + 2) (q + 7) f e ∧ LV e q z ∧ z 4 = y 4 ∧ ∀ i, i < p → (nT all).testBit i = true → z 2 i = wt all i (all (66 + i)) 0 ∧ (all (43 + i) ≠ -1 → z 3 i = wt all i (all (66 + i)) 1)) (fun p z => [.ref q, .ref a, .int (nI p)]) P ?_ ?_ 0 f y (by omega) ⟨SI.rf, L, rfl, fun i hi => by omega⟩
  · rintro p e y1 hp ⟨s2, L2, hy4, hk⟩ hI
    have V2 := V.fr (f' := e) (fun b h1 h2 => s2 b (by omega))
    have W2 := W.fr (f' := e) (fun b h1 h2 => s2 b (by omega))
    have hc : (P ≤ p) = False := eq_false (by omega)
    simp (disch := first | omega | decide | assumption | exact Nat.le_of_ble_eq_true rfl) only [s63_2, s63_3, s63_4, s63_7, s63_10, s63_11, ow_some, true_and, and_true, and_self, if_true, if_false, not_true, not_false_eq_true, Bool.false_eq_true, eq_self, Option.toList, List.cons_append, List.nil_append, ix_in, ix_cl, lt_in, lt_cl, lt_add, ix_one, vu_eq, vu_ne, arI_mk, arL_mk, arY_mZ, arY_mB, alen_mI, fld_sfl_ne, fld_sfl_same, Option.isSome_some, pok_i, b1z, b01, z10, b1o, Int32.zero_add, vu_vu, upd_eq, upd_ne, true_or, or_true, V2.v1, V2.v6, V2.v7, V2.v8, V2.v9, V2.i1, V2.i6, V2.i7, V2.i8, V2.i9, V2.r2, V2.r3, V2.r4, V2.r5, V2.pl, V2.a2, V2.a3, V2.a4, V2.a5, hP, ix_le, hc]
    rw [p63_12 V2.cn (Nat.le_of_ble_eq_true rfl) (sp_isTj V2 hP h9 hT I.t5 hp)]
    by_cases hb : (nT all).testBit p = true
    · have e3 := G.x3 hp
      have e9 := G.r9 (p := p) (by omega)
      simp (disch := first | omega | decide | assumption | exact Nat.le_of_ble_eq_true rfl) only [s63_15, s63_18, s63_19, s63_22, s63_23, s63_24, s63_25, s63_26, s63_27, s63_30, s63_31, s63_32, ow_some, true_and, and_true, and_self, if_true, if_false, not_true, not_false_eq_true, Bool.false_eq_true, eq_self, Option.toList, List.cons_append, List.nil_append, ix_in, ix_cl, lt_in, lt_cl, lt_add, ix_one, vu_eq, vu_ne, arI_mk, arL_mk, arY_mZ, arY_mB, alen_mI, fld_sfl_ne, fld_sfl_same, Option.isSome_some, pok_i, b1z, b01, z10, b1o, Int32.zero_add, vu_vu, upd_eq, upd_ne, true_or, or_true, V2.v1, V2.v6, V2.v7, V2.v8, V2.v9, V2.i1, V2.i6, V2.i7, V2.i8, V2.i9, V2.r2, V2.r3, V2.r4, V2.r5, V2.pl, V2.a2, V2.a3, V2.a4, V2.a5, L2.r0, L2.r1, L2.r2, L2.r3, L2.l0, L2.l1, L2.a0, L2.a1, L2.a2, L2.a3, L2.a4, hb, e3]
      refine k63_33 L2.cn (Nat.le_of_ble_eq_true rfl) (sp_bearing L2 V2 W2 G I hd hp) ?_
      rintro f3 n3 k3 v3 ⟨rfl, rfl, s3, ⟨y3, L3, hy3⟩, rfl⟩
      simp (disch := first | omega | decide | assumption | exact Nat.le_of_ble_eq_true rfl) only [s63_36, ow_some, true_and, and_true, and_self, if_true, if_false, not_true, not_false_eq_true, Bool.false_eq_true, eq_self, Option.toList, List.cons_append, List.nil_append, ix_in, ix_cl, lt_in, lt_cl, lt_add, ix_one, vu_eq, vu_ne, arI_mk, arL_mk, arY_mZ, arY_mB, alen_mI, fld_sfl_ne, fld_sfl_same, Option.isSome_some, pok_i, b1z, b01, z10, b1o, Int32.zero_add, vu_vu, upd_eq, upd_ne, true_or, or_true, L3.r0, L3.r1, L3.r2, L3.r3, L3.l0, L3.l1, L3.a0, L3.a1, L3.a2, L3.a3, L3.a4]
      have L4 := L3.s2 (g := upd (y3 2) p (wt all p (all (66 + p)) 0))
      have s4 : SI (q + 2) (q + 7) f (va_up f3 (q + 4) (.inl (.int, 9, .inl (upd (y3 2) p (wt all p (all (66 + p)) 0))))) := (s2.tr (s3.wd (by omega) (by omega))).tr (SI.up (by omega) (by omega))
      generalize va_up f3 (q + 4) (.inl (.int, 9, .inl (upd (y3 2) p (wt all p (all (66 + p)) 0)))) = f4 at L4 s4 ⊢
      have V4 := V.fr (f' := f4) (fun b h1 h2 => s4 b (by omega))
      have W4 := W.fr (f' := f4) (fun b h1 h2 => s4 b (by omega))
      have old : ∀ i, i < p → (nT all).testBit i = true → y3 2 i = wt all i (all (66 + i)) 0 ∧ (all (43 + i) ≠ -1 → y3 3 i = wt all i (all (66 + i)) 1) := by
        intro i hi hbi
        rw [hy3 2 (by omega), hy3 3 (by omega)]
        exact hk i hi hbi
      by_cases hm : all (43 + p) = -1
      · have hm' : (r 9 p = -1) = True := by rw [e9]; exact eq_true hm
        simp (disch := first | omega | decide | assumption | exact Nat.le_of_ble_eq_true rfl) only [s63_37, s63_38, s63_41, s63_42, s63_43, s63_46, s63_49, s63_50, s63_51, s63_52, s63_55, s63_56, s63_59, s63_60, s63_61, s63_64, s63_65, s63_66, s63_67, s63_68, s63_71, s63_72, s63_73, s63_77, s63_78, h63_81, ow_some, true_and, and_true, and_self, if_true, if_false, not_true, not_false_eq_true, Bool.false_eq_true, eq_self, Option.toList, List.cons_append, List.nil_append, ix_in, ix_cl, lt_in, lt_cl, lt_add, ix_one, vu_eq, vu_ne, arI_mk, arL_mk, arY_mZ, arY_mB, alen_mI, fld_sfl_ne, fld_sfl_same, Option.isSome_some, pok_i, b1z, b01, z10, b1o, Int32.zero_add, vu_vu, upd_eq, upd_ne, true_or, or_true, V4.v1, V4.v6, V4.v7, V4.v8, V4.v9, V4.i1, V4.i6, V4.i7, V4.i8, V4.i9, V4.r2, V4.r3, V4.r4, V4.r5, V4.pl, V4.a2, V4.a3, V4.a4, V4.a5, L4.r0, L4.r1, L4.r2, L4.r3, L4.l0, L4.l1, L4.a0, L4.a1, L4.a2, L4.a3, L4.a4, W4.v0, W4.v3, W4.v10, W4.v11, W4.v12, W4.v14, W4.v15, W4.v16, W4.v17, W4.v18, W4.r1, W4.r2, W4.r4, W4.r5, W4.r6, W4.r7, W4.r8, W4.r9, W4.r13, W4.a1, W4.a2, W4.a4, W4.a5, W4.a6, W4.a7, W4.a8, W4.a9, W4.a13, hm', up2_ne, up2_eq]
        have L5 := L4.s3 (g := upd (y3 3) p (wt all p (all (66 + p)) 0))
        refine hI _ _ ⟨s4.tr (SI.up (by omega) (by omega)), L5, by rw [up2_ne (by decide), up2_ne (by decide), hy3 4 (by omega)]; exact hy4, fun i hi hbi => ?_⟩
        rw [up2_eq, up2_ne (by decide), up2_eq]
        by_cases hip : i = p
        · subst hip; rw [upd_eq]; exact ⟨rfl, fun z => absurd hm z⟩
        · rw [upd_ne hip, upd_ne hip]; exact old i (by omega) hbi
      · have hm' : (r 9 p = -1) = False := by rw [e9]; exact eq_false hm
        simp (disch := first | omega | decide | assumption | exact Nat.le_of_ble_eq_true rfl) only [s63_37, s63_38, s63_41, s63_42, s63_43, s63_46, s63_49, s63_50, s63_51, s63_52, s63_55, s63_56, s63_59, s63_60, s63_61, s63_64, s63_65, s63_66, s63_67, s63_68, s63_71, s63_72, s63_73, ow_some, true_and, and_true, and_self, if_true, if_false, not_true, not_false_eq_true, Bool.false_eq_true, eq_self, Option.toList, List.cons_append, List.nil_append, ix_in, ix_cl, lt_in, lt_cl, lt_add, ix_one, vu_eq, vu_ne, arI_mk, arL_mk, arY_mZ, arY_mB, alen_mI, fld_sfl_ne, fld_sfl_same, Option.isSome_some, pok_i, b1z, b01, z10, b1o, Int32.zero_add, vu_vu, upd_eq, upd_ne, true_or, or_true, V4.v1, V4.v6, V4.v7, V4.v8, V4.v9, V4.i1, V4.i6, V4.i7, V4.i8, V4.i9, V4.r2, V4.r3, V4.r4, V4.r5, V4.pl, V4.a2, V4.a3, V4.a4, V4.a5, L4.r0, L4.r1, L4.r2, L4.r3, L4.l0, L4.l1, L4.a0, L4.a1, L4.a2, L4.a3, L4.a4, W4.v0, W4.v3, W4.v10, W4.v11, W4.v12, W4.v14, W4.v15, W4.v16, W4.v17, W4.v18, W4.r1, W4.r2, W4.r4, W4.r5, W4.r6, W4.r7, W4.r8, W4.r9, W4.r13, W4.a1, W4.a2, W4.a4, W4.a5, W4.a6, W4.a7, W4.a8, W4.a9, W4.a13, hm', e3]
        refine k63_74 L4.cn (Nat.le_of_ble_eq_true rfl) (sp_bearing L4 V4 W4 G I hd hp) ?_
        rintro f5 n5 k5 v5 ⟨rfl, rfl, s5, ⟨y5, L5, hy5⟩, rfl⟩
        simp (disch := first | omega | decide | assumption | exact Nat.le_of_ble_eq_true rfl) only [s63_77, s63_78, h63_81, ow_some, true_and, and_true, and_self, if_true, if_false, not_true, not_false_eq_true, Bool.false_eq_true, eq_self, Option.toList, List.cons_append, List.nil_append, ix_in, ix_cl, lt_in, lt_cl, lt_add, ix_one, vu_eq, vu_ne, arI_mk, arL_mk, arY_mZ, arY_mB, alen_mI, fld_sfl_ne, fld_sfl_same, Option.isSome_some, pok_i, b1z, b01, z10, b1o, Int32.zero_add, vu_vu, upd_eq, upd_ne, true_or, or_true, L5.r0, L5.r1, L5.r2, L5.r3, L5.l0, L5.l1, L5.a0, L5.a1, L5.a2, L5.a3, L5.a4]
        have L6 := L5.s3 (g := upd (y5 3) p (wt all p (all (66 + p)) 1))
        refine hI _ _ ⟨(s4.tr (s5.wd (by omega) (by omega))).tr (SI.up (by omega) (by omega)), L6, by rw [up2_ne (by decide), hy5 4 (by omega), up2_ne (by decide), hy3 4 (by omega)]; exact hy4, fun i hi hbi => ?_⟩
        rw [up2_eq, up2_ne (by decide), hy5 2 (by omega), up2_eq]
        by_cases hip : i = p
        · subst hip; rw [upd_eq, upd_eq]; exact ⟨rfl, fun _ => rfl⟩
        · rw [upd_ne hip, upd_ne hip, hy5 3 (by omega), up2_ne (by decide)]; exact old i (by omega) hbi
    · simp (disch := first | omega | decide | assumption | exact Nat.le_of_ble_eq_true rfl) only [s63_15, s63_78, h63_81, ow_some, true_and, and_true, and_self, if_true, if_false, not_true, not_false_eq_true, Bool.false_eq_true, eq_self, Option.toList, List.cons_append, List.nil_append, ix_in, ix_cl, lt_in, lt_cl, lt_add, ix_one, vu_eq, vu_ne, arI_mk, arL_mk, arY_mZ, arY_mB, alen_mI, fld_sfl_ne, fld_sfl_same, Option.isSome_some, pok_i, b1z, b01, z10, b1o, Int32.zero_add, vu_vu, upd_eq, upd_ne, true_or, or_true, V2.v1, V2.v6, V2.v7, V2.v8, V2.v9, V2.i1, V2.i6, V2.i7, V2.i8, V2.i9, V2.r2, V2.r3, V2.r4, V2.r5, V2.pl, V2.a2, V2.a3, V2.a4, V2.a5, hb]
      refine hI _ y1 ⟨s2, L2, hy4, fun i hi hbi => ?_⟩
      exact hk i (by
        have : i ≠ p := by rintro rfl; exact hb hbi
        omega) hbi
  · rintro e y1 ⟨s2, L2, hy4, hk⟩
    have V2 := V.fr (f' := e) (fun b h1 h2 => s2 b (by omega))
    simp (disch := first | omega | decide | assumption | exact Nat.le_of_ble_eq_true rfl) only [s63_2, s63_3, s63_4, s63_7, s63_84, ow_some, true_and, and_true, and_self, if_true, if_false, not_true, not_false_eq_true, Bool.false_eq_true, eq_self, Option.toList, List.cons_append, List.nil_append, ix_in, ix_cl, lt_in, lt_cl, lt_add, ix_one, vu_eq, vu_ne, arI_mk, arL_mk, arY_mZ, arY_mB, alen_mI, fld_sfl_ne, fld_sfl_same, Option.isSome_some, pok_i, b1z, b01, z10, b1o, Int32.zero_add, vu_vu, upd_eq, upd_ne, true_or, or_true, V2.v1, V2.v6, V2.v7, V2.v8, V2.v9, V2.i1, V2.i6, V2.i7, V2.i8, V2.i9, V2.r2, V2.r3, V2.r4, V2.r5, V2.pl, V2.a2, V2.a3, V2.a4, V2.a5, hP, ix_le, Nat.le_refl]
    exact ⟨s2, y1, L2, hy4, hk⟩
theorem wed_01 {all : Nat → Int32} {p T : Nat} : (m_wed all p T = 1 ∧ all (43 + p) ≠ -1) ∨ m_wed all p T = 0 := by
  unfold m_wed
  by_cases h : all (43 + p) = -1
  · rw [if_pos h]; exact Or.inr rfl
  · rw [if_neg h]
    split
    · exact Or.inl ⟨rfl, h⟩
    · exact Or.inr rfl
/-- a set as weighed, others' builds maybe -/
theorem sp_slackOf' {X : Nat × (Nat → Int32)} {d N K q a pl C S R P : Nat} {f : Nat → e_C} {y x r : Nat → Nat → Int32} {w v all : Nat → Int32} (L : LV f q y) (V : SV f a pl w x) (W : PV f pl v r C) (G : CR all S P w x v r C) (I : IS all S R P) (hd : AD a pl q) {alt : Nat → Int32} {T : Nat} (he : ∀ i, ¬ (66 ≤ i ∧ i < 75) → alt i = all i) (hT5 : T < 512) (hw : ∀ p, p < P → T.testBit p = true → (if m_wed all p T = 1 then y 3 p else y 2 p) = m_bears alt p T) {u3 : Value} : TT X (d + 2) 64 0 [.ref q, .ref a, .int (nI T), u3] [] f N K (fun f' n' k' z => n' = N ∧ k' = K ∧ SI (q + 6) (q + 7) f f' ∧ (∃ g, LV f' q (up2 y 4 g) ∧ ∀ k, k < S → g k = m_bo alt T P k) ∧ z = some (.int (m_sp alt S P T))) := by
  have h8 := I.s8
  have h9 := I.p9
  have hS : v 0 = nI S := by rw [G.v0]; exact I.eS
  have hP : w 1 = nI P := by rw [G.w1]; exact I.eP
  simp (disch := first | omega | decide | assumption | exact Nat.le_of_ble_eq_true rfl) only [s64_0, s64_1, ow_some, true_and, and_true, and_self, if_true, if_false, not_true, not_false_eq_true, Bool.false_eq_true, eq_self, Option.toList, List.cons_append, List.nil_append, ix_in, ix_cl, lt_in, lt_cl, lt_add, ix_one, vu_eq, vu_ne, arI_mk, arL_mk, arY_mZ, arY_mB, alen_mI, fld_sfl_ne, fld_sfl_same, Option.isSome_some, pok_i, b1z, b01, z10, b1o, Int32.zero_add, vu_vu, upd_eq, upd_ne, true_or, or_true]
  refine k64_2 L.cn (Nat.le_of_ble_eq_true rfl) (sp_fillProps L V W hS h8 (by omega) (by omega)) ?_
  rintro f1 n1 k1 v1 ⟨rfl, rfl, rfl, s1, g0, L1, hg0⟩
  simp (disch := first | omega | decide | assumption | exact Nat.le_of_ble_eq_true rfl) only [s64_5, h64_6, ow_some, true_and, and_true, and_self, if_true, if_false, not_true, not_false_eq_true, Bool.false_eq_true, eq_self, Option.toList, List.cons_append, List.nil_append, ix_in, ix_cl, lt_in, lt_cl, lt_add, ix_one, vu_eq, vu_ne, arI_mk, arL_mk, arY_mZ, arY_mB, alen_mI, fld_sfl_ne, fld_sfl_same, Option.isSome_some, pok_i, b1z, b01, z10, b1o, Int32.zero_add, vu_vu, upd_eq, upd_ne, true_or, or_true]
  refine lp (fun p e (g : Nat → Int32) => SI (q + 6) (q + 7) f e ∧ LV e q (up2 y 4 g) ∧ ∀ k, k < S → g k = m_bo alt T p k) (fun p _ => [.ref q, .ref a, .int (nI T), .int (nI p)]) P ?_ ?_ 0 f1 g0 (by omega) ⟨s1, L1, fun k hk => ?_⟩
  · rintro p e g hp ⟨s2, L2, hk⟩ hI
    have V2 := V.fr (f' := e) (fun b h1 h2 => s2 b (by omega))
    have W2 := W.fr (f' := e) (fun b h1 h2 => s2 b (by omega))
    have hc : (P ≤ p) = False := eq_false (by omega)
    have hbit := bit_has T hT5 p (by omega)
    by_cases hb : T.testBit p = true
    · have hb' : (¬ T.testBit p = true) = False := eq_false (fun z => z hb)
      obtain ⟨sp, hsp, hst⟩ := I.st hp
      have e2 : x 2 p = nI sp := by rw [G.x2 hp]; exact hst
      have hwp := hw p hp hb
      simp (disch := first | omega | decide | assumption | exact Nat.le_of_ble_eq_true rfl) only [s64_7, s64_8, s64_9, s64_12, s64_15, s64_16, s64_17, s64_18, s64_19, s64_20, s64_23, s64_24, s64_27, s64_28, s64_31, s64_32, s64_33, s64_34, s64_35, s64_36, s64_37, ow_some, true_and, and_true, and_self, if_true, if_false, not_true, not_false_eq_true, Bool.false_eq_true, eq_self, Option.toList, List.cons_append, List.nil_append, ix_in, ix_cl, lt_in, lt_cl, lt_add, ix_one, vu_eq, vu_ne, arI_mk, arL_mk, arY_mZ, arY_mB, alen_mI, fld_sfl_ne, fld_sfl_same, Option.isSome_some, pok_i, b1z, b01, z10, b1o, Int32.zero_add, vu_vu, upd_eq, upd_ne, true_or, or_true, V2.v1, V2.v6, V2.v7, V2.v8, V2.v9, V2.i1, V2.i6, V2.i7, V2.i8, V2.i9, V2.r2, V2.r3, V2.r4, V2.r5, V2.pl, V2.a2, V2.a3, V2.a4, V2.a5, L2.r0, L2.r1, L2.r2, L2.r3, L2.l0, L2.l1, L2.a0, L2.a1, L2.a2, L2.a3, L2.a4, hP, ix_le, hc, hbit, hb', e2, up2_eq]
      rw [p64_38 V2.cn (Nat.le_of_ble_eq_true rfl) (sp_wed V2 W2 (fun p hp => G.r9 hp) (show p < 9 by omega) (I.m9 (by omega)) hT5)]
      have fin : TH X (d + 2) 64 7 [.ref q, .ref a, .int (nI T), .int (nI (p + 1))] [] (va_up e (q + 6) (.inl (.int, 8, .inl (upd g sp (g sp + m_bears alt p T))))) n1 k1 (fun f' n' k' z => n' = n1 ∧ k' = k1 ∧ SI (q + 6) (q + 7) f f' ∧ (∃ g, LV f' q (up2 y 4 g) ∧ ∀ k, k < S → g k = m_bo alt T P k) ∧ z = some (.int (m_sp alt S P T))) := by
        refine hI _ (upd g sp (g sp + m_bears alt p T)) ⟨s2.tr (SI.up (by omega) (by omega)), ?_, fun k hk' => ?_⟩
        · have := L2.s4 (g := upd g sp (g sp + m_bears alt p T))
          rw [up2_up2] at this
          exact this
        · rw [m_bo, if_pos hb, he (57 + p) (by omega), hst, ix_cl (by omega)]
          by_cases h : k = sp
          · subst h; rw [upd_eq, upd_eq, hk k hk']
          · rw [upd_ne h, upd_ne h]; exact hk k hk'
      rcases wed_01 (all := all) (p := p) (T := T) with ⟨h1, hne⟩ | h0
      · rw [if_pos h1] at hwp
        simp (disch := first | omega | decide | assumption | exact Nat.le_of_ble_eq_true rfl) only [s64_41, s64_42, s64_45, s64_46, s64_49, s64_50, s64_51, s64_54, s64_55, s64_58, s64_59, s64_60, s64_61, s64_62, h64_65, ow_some, true_and, and_true, and_self, if_true, if_false, not_true, not_false_eq_true, Bool.false_eq_true, eq_self, Option.toList, List.cons_append, List.nil_append, ix_in, ix_cl, lt_in, lt_cl, lt_add, ix_one, vu_eq, vu_ne, arI_mk, arL_mk, arY_mZ, arY_mB, alen_mI, fld_sfl_ne, fld_sfl_same, Option.isSome_some, pok_i, b1z, b01, z10, b1o, Int32.zero_add, vu_vu, upd_eq, upd_ne, true_or, or_true, V2.v1, V2.v6, V2.v7, V2.v8, V2.v9, V2.i1, V2.i6, V2.i7, V2.i8, V2.i9, V2.r2, V2.r3, V2.r4, V2.r5, V2.pl, V2.a2, V2.a3, V2.a4, V2.a5, L2.r0, L2.r1, L2.r2, L2.r3, L2.l0, L2.l1, L2.a0, L2.a1, L2.a2, L2.a3, L2.a4, h1, up2_eq, up2_ne, ne_eq, hwp]
        exact fin
      · have h10 : ¬ (0 : Int32) = 1 := by decide
        rw [h0, if_neg h10] at hwp
        have h10' : ((0 : Int32) = 1) = False := eq_false h10
        simp (disch := first | omega | decide | assumption | exact Nat.le_of_ble_eq_true rfl) only [s64_41, s64_42, s64_45, s64_46, s64_49, s64_50, s64_51, s64_54, s64_55, s64_58, s64_59, s64_60, s64_61, s64_62, h64_65, ow_some, true_and, and_true, and_self, if_true, if_false, not_true, not_false_eq_true, Bool.false_eq_true, eq_self, Option.toList, List.cons_append, List.nil_append, ix_in, ix_cl, lt_in, lt_cl, lt_add, ix_one, vu_eq, vu_ne, arI_mk, arL_mk, arY_mZ, arY_mB, alen_mI, fld_sfl_ne, fld_sfl_same, Option.isSome_some, pok_i, b1z, b01, z10, b1o, Int32.zero_add, vu_vu, upd_eq, upd_ne, true_or, or_true, V2.v1, V2.v6, V2.v7, V2.v8, V2.v9, V2.i1, V2.i6, V2.i7, V2.i8, V2.i9, V2.r2, V2.r3, V2.r4, V2.r5, V2.pl, V2.a2, V2.a3, V2.a4, V2.a5, L2.r0, L2.r1, L2.r2, L2.r3, L2.l0, L2.l1, L2.a0, L2.a1, L2.a2, L2.a3, L2.a4, h0, h10', up2_eq, up2_ne, ne_eq, hwp]
        exact fin
    · have hb' : (¬ T.testBit p = true) = True := eq_true hb
      simp (disch := first | omega | decide | assumption | exact Nat.le_of_ble_eq_true rfl) only [s64_7, s64_8, s64_9, s64_12, s64_15, s64_16, s64_17, s64_18, s64_19, s64_20, s64_62, h64_65, ow_some, true_and, and_true, and_self, if_true, if_false, not_true, not_false_eq_true, Bool.false_eq_true, eq_self, Option.toList, List.cons_append, List.nil_append, ix_in, ix_cl, lt_in, lt_cl, lt_add, ix_one, vu_eq, vu_ne, arI_mk, arL_mk, arY_mZ, arY_mB, alen_mI, fld_sfl_ne, fld_sfl_same, Option.isSome_some, pok_i, b1z, b01, z10, b1o, Int32.zero_add, vu_vu, upd_eq, upd_ne, true_or, or_true, V2.v1, V2.v6, V2.v7, V2.v8, V2.v9, V2.i1, V2.i6, V2.i7, V2.i8, V2.i9, V2.r2, V2.r3, V2.r4, V2.r5, V2.pl, V2.a2, V2.a3, V2.a4, V2.a5, hP, ix_le, hc, hbit, hb']
      refine hI _ g ⟨s2, L2, fun k hk' => ?_⟩
      rw [m_bo, if_neg hb]; exact hk k hk'
  · rintro e g ⟨s2, L2, hk⟩
    have V2 := V.fr (f' := e) (fun b h1 h2 => s2 b (by omega))
    have W2 := W.fr (f' := e) (fun b h1 h2 => s2 b (by omega))
    simp (disch := first | omega | decide | assumption | exact Nat.le_of_ble_eq_true rfl) only [s64_7, s64_8, s64_9, s64_12, s64_68, s64_69, ow_some, true_and, and_true, and_self, if_true, if_false, not_true, not_false_eq_true, Bool.false_eq_true, eq_self, Option.toList, List.cons_append, List.nil_append, ix_in, ix_cl, lt_in, lt_cl, lt_add, ix_one, vu_eq, vu_ne, arI_mk, arL_mk, arY_mZ, arY_mB, alen_mI, fld_sfl_ne, fld_sfl_same, Option.isSome_some, pok_i, b1z, b01, z10, b1o, Int32.zero_add, vu_vu, upd_eq, upd_ne, true_or, or_true, V2.v1, V2.v6, V2.v7, V2.v8, V2.v9, V2.i1, V2.i6, V2.i7, V2.i8, V2.i9, V2.r2, V2.r3, V2.r4, V2.r5, V2.pl, V2.a2, V2.a3, V2.a4, V2.a5, hP, ix_le, Nat.le_refl]
    rw [p64_70 L2.cn (Nat.le_of_ble_eq_true rfl) (sp_slack L2 V2 W2 hS h8)]
    simp (disch := first | omega | decide | assumption | exact Nat.le_of_ble_eq_true rfl) only [s64_73, ow_some, true_and, and_true, and_self, if_true, if_false, not_true, not_false_eq_true, Bool.false_eq_true, eq_self, Option.toList, List.cons_append, List.nil_append, ix_in, ix_cl, lt_in, lt_cl, lt_add, ix_one, vu_eq, vu_ne, arI_mk, arL_mk, arY_mZ, arY_mB, alen_mI, fld_sfl_ne, fld_sfl_same, Option.isSome_some, pok_i, b1z, b01, z10, b1o, Int32.zero_add, vu_vu, upd_eq, upd_ne, true_or, or_true]
    refine ⟨s2, ⟨g, L2, hk⟩, ?_⟩
    rw [up2_eq, sp_of (all := alt) (bnd_cg I.bn (fun i hi => he i (by omega))) (fun k hk => by rw [he _ (by omega)]; exact (I.pr hk).1) h9 I.s1 h8 (fun i hi => by rw [jnt_cg h8 (fun i hi => he i (by omega))]; exact G.jt hi) (fun k hk => by rw [he _ (by omega)]; exact G.ld hk) hk]
  · rw [hg0 k hk, G.x5 (by omega)]
    show _ = 10 * alt (84 + k)
    rw [he _ (by omega)]
theorem wgd_b {all : Nat → Int32} {S R P T p : Nat} {y : Nat → Nat → Int32} (I : IS all S R P) (h : wgd all P y) (hp : p < P) (hT : sub T (nT all) = true) (hb : T.testBit p = true) : (if m_wed all p T = 1 then y 3 p else y 2 p) = m_bears all p T := by
  obtain ⟨a1, a2⟩ := h p hp (sub_iff.mp hT p hb)
  rw [bears_str I.lw (I.bd hp)]
  rcases wed_01 (all := all) (p := p) (T := T) with ⟨h1, hne⟩ | h0
  · rw [h1, if_pos rfl]; exact a2 hne
  · rw [h0, if_neg (by decide)]; exact a1
theorem sp_slackOf {X : Nat × (Nat → Int32)} {d N K q a pl C S R P : Nat} {f : Nat → e_C} {y x r : Nat → Nat → Int32} {w v all : Nat → Int32} (L : LV f q y) (V : SV f a pl w x) (W : PV f pl v r C) (G : CR all S P w x v r C) (I : IS all S R P) (hd : AD a pl q) {T : Nat} (hT : sub T (nT all) = true) (hw : wgd all P y) {u3 : Value} : TT X (d + 2) 64 0 [.ref q, .ref a, .int (nI T), u3] [] f N K (fun f' n' k' z => n' = N ∧ k' = K ∧ SI (q + 6) (q + 7) f f' ∧ (∃ g, LV f' q (up2 y 4 g) ∧ ∀ k, k < S → g k = m_bo all T P k) ∧ z = some (.int (m_sp all S P T))) :=
  sp_slackOf' L V W G I hd (fun _ _ => rfl) (Nat.lt_of_le_of_lt (sub_le hT) I.t5) (fun p hp hb => wgd_b I hw hp hT hb)
theorem wgd_up {all : Nat → Int32} {P : Nat} {y : Nat → Nat → Int32} {g : Nat → Int32} (h : wgd all P y) : wgd all P (up2 y 4 g) := fun p hp hb => by
  rw [up2_ne (by decide), up2_ne (by decide)]; exact h p hp hb
