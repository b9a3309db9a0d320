/-! the class: chances -/
theorem fr_at {all : Nat → Int32} {S R P p : Nat} (I : IS all S R P) (hp : p < 9) : fr all p ≤ 10 ∧ all (25 + p) = nI (fr all p) := I.FR.at hp
theorem sub10 : ∀ r, r ≤ 10 → (10 : Int32) - nI r = nI (10 - r) := by decide
theorem sp_likely {X : Nat × (Nat → Int32)} {d N K a pl C S R P j : Nat} {f : Nat → e_C} {x r : Nat → Nat → Int32} {w v all : Nat → Int32} (V : SV f a pl w x) (W : PV f pl v r C) (G : CR all S P w x v r C) (I : IS all S R P) (hj : j < 512) {u2 u3 u4 u5 : Value} : PU X (d + 2) 96 [.ref a, .int (nI j), u2, u3, u4, u5] f N K (some (.long (if sub j (nT all) = true then lI (c_w all P j) else 0))) := by
  have h9 := I.p9
  have hP : w 1 = nI P := by rw [G.w1]; exact I.eP
  have hT : w 6 = nI (nT all) := by rw [G.w6]; exact I.eT
  have hpt := part_nI hj I.t5
  unfold PU
  by_cases hs : sub j (nT all) = true
  · have hs' : (sub j (nT all) = true) = True := eq_true hs
    rw [if_pos hs]
    simp (disch := first | omega | decide | assumption | exact Nat.le_of_ble_eq_true rfl) only [s96_0, s96_1, s96_2, s96_5, s96_6, s96_7, s96_8, s96_11, s96_12, s96_13, s96_14, s96_15, h96_16, ow_some, true_and, and_true, and_self, if_true, if_false, not_true, not_false_eq_true, Bool.false_eq_true, eq_self, Option.toList, List.cons_append, List.nil_append, ix_in, ix_cl, lt_in, lt_cl, lt_add, ix_one, vu_eq, vu_ne, arI_mk, arL_mk, arY_mZ, arY_mB, alen_mI, fld_sfl_ne, fld_sfl_same, Option.isSome_some, pok_i, b1z, b01, z10, b1o, Int32.zero_add, vu_vu, upd_eq, upd_ne, true_or, or_true, V.v1, V.v6, V.v7, V.v8, V.v9, V.i1, V.i6, V.i7, V.i8, V.i9, V.r2, V.r3, V.r4, V.r5, V.pl, V.a2, V.a3, V.a4, V.a5, hT, hpt, hs']
    refine lp (fun p g (z : Nat × Value) => g = f ∧ z.1 = fo (c_st all j) 1 p) (fun p z => [.ref a, .int (nI j), .long (lI z.1), .double 0, .int (nI p), z.2]) P ?_ ?_ 0 f (1, u5) (by omega) ⟨rfl, rfl⟩
    · rintro p g ⟨z, u⟩ hp ⟨rfl, hz⟩ hI
      dsimp only at hz
      have hc : (P ≤ p) = False := eq_false (by omega)
      have hfs := fo_s (g := c_st all j) (a := 1) (j := p)
      unfold c_st at hfs
      have hbit := bit_has j hj p (by omega)
      obtain ⟨hr10, hre⟩ := fr_at I (p := p) (by omega)
      have e7 : r 7 p = nI (fr all p) := by rw [G.r7 (by omega)]; exact hre
      have s10 := sub10 _ hr10
      have n64 : (nI (fr all p)).toInt64 = lI (fr all p) := nI_lI (by omega)
      have n64' : (nI (10 - fr all p)).toInt64 = lI (10 - fr all p) := nI_lI (by omega)
      simp (disch := first | omega | decide | assumption | exact Nat.le_of_ble_eq_true rfl) only [s96_18, s96_20, s96_21, s96_24, s96_27, s96_28, ow_some, true_and, and_true, and_self, if_true, if_false, not_true, not_false_eq_true, Bool.false_eq_true, eq_self, Option.toList, List.cons_append, List.nil_append, ix_in, ix_cl, lt_in, lt_cl, lt_add, ix_one, vu_eq, vu_ne, arI_mk, arL_mk, arY_mZ, arY_mB, alen_mI, fld_sfl_ne, fld_sfl_same, Option.isSome_some, pok_i, b1z, b01, z10, b1o, Int32.zero_add, vu_vu, upd_eq, upd_ne, true_or, or_true, V.v1, V.v6, V.v7, V.v8, V.v9, V.i1, V.i6, V.i7, V.i8, V.i9, V.r2, V.r3, V.r4, V.r5, V.pl, V.a2, V.a3, V.a4, V.a5, hP, ix_le, hc]
      rw [p96_30 V.cn (Nat.le_of_ble_eq_true rfl) (sp_isTj V hP h9 hT I.t5 hp)]
      by_cases hb : (nT all).testBit p = true
      · rw [if_pos hb] at hfs
        by_cases hbj : j.testBit p = true
        · have hbj' : (¬ j.testBit p = true) = False := eq_false (fun z => z hbj)
          rw [if_pos hbj] at hfs
          simp (disch := first | omega | decide | assumption | exact Nat.le_of_ble_eq_true rfl) only [s96_33, s96_36, s96_37, s96_40, s96_43, s96_45, s96_46, s96_48, s96_49, s96_50, s96_51, s96_53, s96_54, s96_55, s96_58, s96_60, s96_62, s96_63, s96_64, s96_67, s96_69, s96_70, s96_71, s96_72, h96_75, ow_some, true_and, and_true, and_self, if_true, if_false, not_true, not_false_eq_true, Bool.false_eq_true, eq_self, Option.toList, List.cons_append, List.nil_append, ix_in, ix_cl, lt_in, lt_cl, lt_add, ix_one, vu_eq, vu_ne, arI_mk, arL_mk, arY_mZ, arY_mB, alen_mI, fld_sfl_ne, fld_sfl_same, Option.isSome_some, pok_i, b1z, b01, z10, b1o, Int32.zero_add, vu_vu, upd_eq, upd_ne, true_or, or_true, V.v1, V.v6, V.v7, V.v8, V.v9, V.i1, V.i6, V.i7, V.i8, V.i9, V.r2, V.r3, V.r4, V.r5, V.pl, V.a2, V.a3, V.a4, V.a5, W.v0, W.v3, W.v10, W.v11, W.v12, W.v14, W.v15, W.v16, W.v17, W.v18, W.r1, W.r2, W.r4, W.r5, W.r6, W.r7, W.r8, W.r9, W.r13, W.a1, W.a2, W.a4, W.a5, W.a6, W.a7, W.a8, W.a9, W.a13, hb, e7, hbit, hbj', s10, n64', lI_mul]
          exact hI _ (z * (10 - fr all p), _) ⟨rfl, by dsimp only; rw [hz]; exact hfs.symm⟩
        · have hbj' : (¬ j.testBit p = true) = True := eq_true hbj
          rw [if_neg hbj] at hfs
          simp (disch := first | omega | decide | assumption | exact Nat.le_of_ble_eq_true rfl) only [s96_33, s96_36, s96_37, s96_40, s96_43, s96_45, s96_46, s96_48, s96_49, s96_50, s96_51, s96_53, s96_54, s96_55, s96_58, s96_60, s96_62, s96_63, s96_64, s96_67, s96_69, s96_70, s96_71, s96_72, h96_75, ow_some, true_and, and_true, and_self, if_true, if_false, not_true, not_false_eq_true, Bool.false_eq_true, eq_self, Option.toList, List.cons_append, List.nil_append, ix_in, ix_cl, lt_in, lt_cl, lt_add, ix_one, vu_eq, vu_ne, arI_mk, arL_mk, arY_mZ, arY_mB, alen_mI, fld_sfl_ne, fld_sfl_same, Option.isSome_some, pok_i, b1z, b01, z10, b1o, Int32.zero_add, vu_vu, upd_eq, upd_ne, true_or, or_true, V.v1, V.v6, V.v7, V.v8, V.v9, V.i1, V.i6, V.i7, V.i8, V.i9, V.r2, V.r3, V.r4, V.r5, V.pl, V.a2, V.a3, V.a4, V.a5, W.v0, W.v3, W.v10, W.v11, W.v12, W.v14, W.v15, W.v16, W.v17, W.v18, W.r1, W.r2, W.r4, W.r5, W.r6, W.r7, W.r8, W.r9, W.r13, W.a1, W.a2, W.a4, W.a5, W.a6, W.a7, W.a8, W.a9, W.a13, hb, e7, hbit, hbj', n64, lI_mul]
          exact hI _ (z * fr all p, _) ⟨rfl, by dsimp only; rw [hz]; exact hfs.symm⟩
      · rw [if_neg hb] at hfs
        simp (disch := first | omega | decide | assumption | exact Nat.le_of_ble_eq_true rfl) only [s96_33, s96_72, h96_75, ow_some, true_and, and_true, and_self, if_true, if_false, not_true, not_false_eq_true, Bool.false_eq_true, eq_self, Option.toList, List.cons_append, List.nil_append, ix_in, ix_cl, lt_in, lt_cl, lt_add, ix_one, vu_eq, vu_ne, arI_mk, arL_mk, arY_mZ, arY_mB, alen_mI, fld_sfl_ne, fld_sfl_same, Option.isSome_some, pok_i, b1z, b01, z10, b1o, Int32.zero_add, vu_vu, upd_eq, upd_ne, true_or, or_true, hb]
        exact hI _ (z, _) ⟨rfl, by dsimp only; rw [hz]; exact hfs.symm⟩
    · rintro g ⟨z, u⟩ ⟨rfl, hz⟩
      dsimp only at hz
      simp (disch := first | omega | decide | assumption | exact Nat.le_of_ble_eq_true rfl) only [s96_18, s96_20, s96_21, s96_24, s96_78, s96_79, ow_some, true_and, and_true, and_self, if_true, if_false, not_true, not_false_eq_true, Bool.false_eq_true, eq_self, Option.toList, List.cons_append, List.nil_append, ix_in, ix_cl, lt_in, lt_cl, lt_add, ix_one, vu_eq, vu_ne, arI_mk, arL_mk, arY_mZ, arY_mB, alen_mI, fld_sfl_ne, fld_sfl_same, Option.isSome_some, pok_i, b1z, b01, z10, b1o, Int32.zero_add, vu_vu, upd_eq, upd_ne, true_or, or_true, V.v1, V.v6, V.v7, V.v8, V.v9, V.i1, V.i6, V.i7, V.i8, V.i9, V.r2, V.r3, V.r4, V.r5, V.pl, V.a2, V.a3, V.a4, V.a5, hP, ix_le, Nat.le_refl]
      rw [hz]; rfl
  · have hs' : (sub j (nT all) = true) = False := eq_false hs
    rw [if_neg hs]
    simp (disch := first | omega | decide | assumption | exact Nat.le_of_ble_eq_true rfl) only [s96_0, s96_1, s96_2, s96_5, s96_6, s96_7, s96_8, s96_11, s96_12, ow_some, true_and, and_true, and_self, if_true, if_false, not_true, not_false_eq_true, Bool.false_eq_true, eq_self, Option.toList, List.cons_append, List.nil_append, ix_in, ix_cl, lt_in, lt_cl, lt_add, ix_one, vu_eq, vu_ne, arI_mk, arL_mk, arY_mZ, arY_mB, alen_mI, fld_sfl_ne, fld_sfl_same, Option.isSome_some, pok_i, b1z, b01, z10, b1o, Int32.zero_add, vu_vu, upd_eq, upd_ne, true_or, or_true, V.v1, V.v6, V.v7, V.v8, V.v9, V.i1, V.i6, V.i7, V.i8, V.i9, V.r2, V.r3, V.r4, V.r5, V.pl, V.a2, V.a3, V.a4, V.a5, hT, hpt, hs']
theorem sp_chanceAbove {X : Nat × (Nat → Int32)} {d N K a pl C S R P : Nat} {f : Nat → e_C} {y x r : Nat → Nat → Int32} {w v all tb : Nat → Int32} (L : LV f 128 y) (V : SV f a pl w x) (W : PV f pl v r C) (G : CR all S P w x v r C) (I : IS all S R P) (hd : AD a pl 128) (O : OV f tb) {u2 u3 u4 u5 u6 : Value} : TT X (d + 4) 95 0 [.ref 127, .ref a, u2, u3, u4, u5, u6] [] f N K (fun f' n' k' z => n' = N ∧ k' = K ∧ SI 130 136 f f' ∧ (∃ y' tb', LV f' 128 y' ∧ OV f' tb') ∧ z = some (.long (lI (c_now all S P)))) := by
  have h9 := I.p9
  obtain ⟨o0, o1, o2⟩ := O
  have ec : c_now all S P = fo (c_ns all S P) 0 512 := by
    refine (ind_le (F := fun k => fo (c_ns all S P) 0 k) 512 (pw9 h9) (fun j h1 h2 => ?_)).symm
    show fo (c_ns all S P) 0 (j + 1) = fo (c_ns all S P) 0 j
    rw [fo_s]
    unfold c_ns
    rw [sub_hi I.tP h1]; rfl
  rw [ec]
  simp (disch := first | omega | decide | assumption | exact Nat.le_of_ble_eq_true rfl) only [s95_0, s95_1, s95_4, ow_some, true_and, and_true, and_self, if_true, if_false, not_true, not_false_eq_true, Bool.false_eq_true, eq_self, Option.toList, List.cons_append, List.nil_append, ix_in, ix_cl, lt_in, lt_cl, lt_add, ix_one, vu_eq, vu_ne, arI_mk, arL_mk, arY_mZ, arY_mB, alen_mI, fld_sfl_ne, fld_sfl_same, Option.isSome_some, pok_i, b1z, b01, z10, b1o, Int32.zero_add, vu_vu, upd_eq, upd_ne, true_or, or_true, o0]
  refine k95_5 L.cn (Nat.le_of_ble_eq_true rfl) (sp_weigh L V W G I hd) ?_
  rintro f1 n1 k1 v1 ⟨rfl, rfl, rfl, s1, y1, L1, -, hw1⟩
  have s1' : SI 130 136 f f1 := s1.wd (by omega) (by omega)
  have O1 : OV f1 tb := OV.fr ⟨o0, o1, o2⟩ (s1 127 (by omega)) (s1 135 (by omega))
  simp (disch := first | omega | decide | assumption | exact Nat.le_of_ble_eq_true rfl) only [s95_8, s95_9, s95_10, h95_11, ow_some, true_and, and_true, and_self, if_true, if_false, not_true, not_false_eq_true, Bool.false_eq_true, eq_self, Option.toList, List.cons_append, List.nil_append, ix_in, ix_cl, lt_in, lt_cl, lt_add, ix_one, vu_eq, vu_ne, arI_mk, arL_mk, arY_mZ, arY_mB, alen_mI, fld_sfl_ne, fld_sfl_same, Option.isSome_some, pok_i, b1z, b01, z10, b1o, Int32.zero_add, vu_vu, upd_eq, upd_ne, true_or, or_true]
  refine lp (fun j e (z : (Nat → Nat → Int32) × Nat × Value × Value) => SI 130 136 f e ∧ LV e 128 z.1 ∧ OV e tb ∧ wgd all P z.1 ∧ z.2.1 = fo (c_ns all S P) 0 j) (fun j z => [.ref 127, .ref a, .long (lI z.2.1), .double 0, .int (nI j), z.2.2.1, z.2.2.2]) 512 ?_ ?_ 0 f1 (y1, 0, u5, u6) (by omega) ⟨s1', L1, O1, hw1, rfl⟩
  · rintro j e ⟨y2, z, ua, ub⟩ hj ⟨s2, L2, O2, hw2, hz⟩ hI
    dsimp only at hz
    have V2 := V.fr (f' := e) (fun b h1 h2 => s2 b (by omega))
    have W2 := W.fr (f' := e) (fun b h1 h2 => s2 b (by omega))
    have hc : (512 ≤ j) = False := eq_false (by omega)
    have q0 := O2.1
    have hfs : fo (c_ns all S P) 0 (j + 1) = if (sub j (nT all) && decide (0 < c_w all P j) && m_hold all S P j) = true then fo (c_ns all S P) 0 j + c_w all P j else fo (c_ns all S P) 0 j := rfl
    have hcw : c_w all P j ≤ 1000000000 := c_le9 I.FR h9
    simp (disch := first | omega | decide | assumption | exact Nat.le_of_ble_eq_true rfl) only [s95_13, s95_15, s95_18, s95_21, s95_22, ow_some, true_and, and_true, and_self, if_true, if_false, not_true, not_false_eq_true, Bool.false_eq_true, eq_self, Option.toList, List.cons_append, List.nil_append, ix_in, ix_cl, lt_in, lt_cl, lt_add, ix_one, vu_eq, vu_ne, arI_mk, arL_mk, arY_mZ, arY_mB, alen_mI, fld_sfl_ne, fld_sfl_same, Option.isSome_some, pok_i, b1z, b01, z10, b1o, Int32.zero_add, vu_vu, upd_eq, upd_ne, true_or, or_true, lt_le, hc]
    rw [p95_24 (Nat.le_of_ble_eq_true rfl) (sp_likely V2 W2 G I hj)]
    by_cases hs : sub j (nT all) = true
    · rw [if_pos hs]
      simp (disch := first | omega | decide | assumption | exact Nat.le_of_ble_eq_true rfl) only [s95_27, s95_29, s95_31, s95_32, ow_some, true_and, and_true, and_self, if_true, if_false, not_true, not_false_eq_true, Bool.false_eq_true, eq_self, Option.toList, List.cons_append, List.nil_append, ix_in, ix_cl, lt_in, lt_cl, lt_add, ix_one, vu_eq, vu_ne, arI_mk, arL_mk, arY_mZ, arY_mB, alen_mI, fld_sfl_ne, fld_sfl_same, Option.isSome_some, pok_i, b1z, b01, z10, b1o, Int32.zero_add, vu_vu, upd_eq, upd_ne, true_or, or_true]
      simp only [s95_33, lg_le, l0I, lI_toInt (show c_w all P j < 9223372036854775808 by omega)]
      by_cases hw0 : c_w all P j = 0
      · have c1 : ((c_w all P j : Int) ≤ 0) = True := eq_true (by omega)
        simp only [c1, if_true]
        simp (disch := first | omega | decide | assumption | exact Nat.le_of_ble_eq_true rfl) only [s95_54, h95_57, ow_some, true_and, and_true, and_self, if_true, if_false, not_true, not_false_eq_true, Bool.false_eq_true, eq_self, Option.toList, List.cons_append, List.nil_append, ix_in, ix_cl, lt_in, lt_cl, lt_add, ix_one, vu_eq, vu_ne, arI_mk, arL_mk, arY_mZ, arY_mB, alen_mI, fld_sfl_ne, fld_sfl_same, Option.isSome_some, pok_i, b1z, b01, z10, b1o, Int32.zero_add, vu_vu, upd_eq, upd_ne, true_or, or_true]
        exact hI _ (y2, z, _, _) ⟨s2, L2, O2, hw2, by dsimp only; rw [hz, hfs, hw0, hs]; rfl⟩
      · have c1 : ((c_w all P j : Int) ≤ 0) = False := eq_false (by omega)
        have c2 : decide (0 < c_w all P j) = true := decide_eq_true (by omega)
        simp only [c1, if_false]
        simp (disch := first | omega | decide | assumption | exact Nat.le_of_ble_eq_true rfl) only [s95_36, s95_37, s95_40, s95_41, ow_some, true_and, and_true, and_self, if_true, if_false, not_true, not_false_eq_true, Bool.false_eq_true, eq_self, Option.toList, List.cons_append, List.nil_append, ix_in, ix_cl, lt_in, lt_cl, lt_add, ix_one, vu_eq, vu_ne, arI_mk, arL_mk, arY_mZ, arY_mB, alen_mI, fld_sfl_ne, fld_sfl_same, Option.isSome_some, pok_i, b1z, b01, z10, b1o, Int32.zero_add, vu_vu, upd_eq, upd_ne, true_or, or_true, q0]
        refine k95_43 L2.cn (Nat.le_of_ble_eq_true rfl) (sp_slackOf L2 V2 W2 G I hd hs hw2) ?_
        rintro f3 n3 k3 v3 ⟨rfl, rfl, s3, ⟨g3, L3, hg3⟩, rfl⟩
        have O3 : OV f3 tb := O2.fr (s3 127 (by omega)) (s3 135 (by omega))
        have hh := sp_lt0 (all := all) (S := S) (P := P) (T := j)
        by_cases hb : m_hold all S P j = true
        · have hb' : (¬ (m_hold all S P j = true)) = False := eq_false (fun z => z hb)
          simp (disch := first | omega | decide | assumption | exact Nat.le_of_ble_eq_true rfl) only [s95_46, s95_49, s95_50, s95_52, s95_53, s95_54, h95_57, ow_some, true_and, and_true, and_self, if_true, if_false, not_true, not_false_eq_true, Bool.false_eq_true, eq_self, Option.toList, List.cons_append, List.nil_append, ix_in, ix_cl, lt_in, lt_cl, lt_add, ix_one, vu_eq, vu_ne, arI_mk, arL_mk, arY_mZ, arY_mB, alen_mI, fld_sfl_ne, fld_sfl_same, Option.isSome_some, pok_i, b1z, b01, z10, b1o, Int32.zero_add, vu_vu, upd_eq, upd_ne, true_or, or_true, hh, hb', lI_add]
          exact hI _ (up2 y2 4 g3, z + c_w all P j, _, _) ⟨s2.tr (s3.wd (by omega) (by omega)), L3, O3, wgd_up hw2, by dsimp only; rw [hz, hfs, hs, c2, hb]; rfl⟩
        · have hb' : (¬ (m_hold all S P j = true)) = True := eq_true hb
          simp (disch := first | omega | decide | assumption | exact Nat.le_of_ble_eq_true rfl) only [s95_46, s95_54, h95_57, ow_some, true_and, and_true, and_self, if_true, if_false, not_true, not_false_eq_true, Bool.false_eq_true, eq_self, Option.toList, List.cons_append, List.nil_append, ix_in, ix_cl, lt_in, lt_cl, lt_add, ix_one, vu_eq, vu_ne, arI_mk, arL_mk, arY_mZ, arY_mB, alen_mI, fld_sfl_ne, fld_sfl_same, Option.isSome_some, pok_i, b1z, b01, z10, b1o, Int32.zero_add, vu_vu, upd_eq, upd_ne, true_or, or_true, hh, hb']
          exact hI _ (up2 y2 4 g3, z, _, _) ⟨s2.tr (s3.wd (by omega) (by omega)), L3, O3, wgd_up hw2, by dsimp only; rw [hz, hfs, hs, c2, Bool.eq_false_iff.mpr hb]; rfl⟩
    · rw [if_neg hs]
      simp (disch := first | omega | decide | assumption | exact Nat.le_of_ble_eq_true rfl) only [s95_27, s95_29, s95_31, s95_32, ow_some, true_and, and_true, and_self, if_true, if_false, not_true, not_false_eq_true, Bool.false_eq_true, eq_self, Option.toList, List.cons_append, List.nil_append, ix_in, ix_cl, lt_in, lt_cl, lt_add, ix_one, vu_eq, vu_ne, arI_mk, arL_mk, arY_mZ, arY_mB, alen_mI, fld_sfl_ne, fld_sfl_same, Option.isSome_some, pok_i, b1z, b01, z10, b1o, Int32.zero_add, vu_vu, upd_eq, upd_ne, true_or, or_true]
      have c0 : (lg_cmp 0 0 ≤ 0) = True := by rw [lg_le]; exact eq_true (Int.le_refl _)
      simp (disch := first | omega | decide | assumption | exact Nat.le_of_ble_eq_true rfl) only [s95_33, s95_54, h95_57, ow_some, true_and, and_true, and_self, if_true, if_false, not_true, not_false_eq_true, Bool.false_eq_true, eq_self, Option.toList, List.cons_append, List.nil_append, ix_in, ix_cl, lt_in, lt_cl, lt_add, ix_one, vu_eq, vu_ne, arI_mk, arL_mk, arY_mZ, arY_mB, alen_mI, fld_sfl_ne, fld_sfl_same, Option.isSome_some, pok_i, b1z, b01, z10, b1o, Int32.zero_add, vu_vu, upd_eq, upd_ne, true_or, or_true, c0]
      exact hI _ (y2, z, _, _) ⟨s2, L2, O2, hw2, by dsimp only; rw [hz, hfs, Bool.eq_false_iff.mpr hs]; rfl⟩
  · rintro e ⟨y2, z, ua, ub⟩ ⟨s2, L2, O2, hw2, hz⟩
    dsimp only at hz
    simp (disch := first | omega | decide | assumption | exact Nat.le_of_ble_eq_true rfl) only [s95_13, s95_15, s95_18, s95_60, s95_61, ow_some, true_and, and_true, and_self, if_true, if_false, not_true, not_false_eq_true, Bool.false_eq_true, eq_self, Option.toList, List.cons_append, List.nil_append, ix_in, ix_cl, lt_in, lt_cl, lt_add, ix_one, vu_eq, vu_ne, arI_mk, arL_mk, arY_mZ, arY_mB, alen_mI, fld_sfl_ne, fld_sfl_same, Option.isSome_some, pok_i, b1z, b01, z10, b1o, Int32.zero_add, vu_vu, upd_eq, upd_ne, true_or, or_true, lt_le, Nat.le_refl]
    exact ⟨s2, ⟨y2, tb, L2, O2⟩, by rw [hz]⟩
/-! the class: the game -/
set_option maxRecDepth 100000 in
theorem bits_c : ∀ T, T < 512 → ∀ p, p < 9 → T.testBit p = true → bits (clr T p) + 1 = bits T := by decide +kernel
def o_st (tb : Nat → Int32) (set p : Nat) (r : Int32 × Int32) : Int32 × Int32 := if set.testBit p = true then (if tb (clr set p) < 0 then (if r.1 = 0 ∨ -tb (clr set p) < r.1 then -tb (clr set p) else r.1, r.2) else (r.1, mxI r.2 (tb (clr set p) + 1))) else r
def o_end (r : Int32 × Int32) : Int32 := if 0 < r.1 then r.1 else -r.2 - 1
theorem sp_outcome {X : Nat × (Nat → Int32)} {d N K j : Nat} {f : Nat → e_C} {tb : Nat → Int32} (O : OV f tb) (hj : j < 512) {u2 u3 u4 u5 : Value} : PU X (d + 1) 91 [.ref 127, .int (nI j), u2, u3, u4, u5] f N K (some (.int (o_end (fo (o_st tb j) (0, 0) 9)))) := by
  obtain ⟨p0, p1, p2⟩ := O
  unfold PU
  simp (disch := first | omega | decide | assumption | exact Nat.le_of_ble_eq_true rfl) only [s91_0, s91_1, s91_2, s91_3, s91_4, h91_5, ow_some, true_and, and_true, and_self, if_true, if_false, not_true, not_false_eq_true, Bool.false_eq_true, eq_self, Option.toList, List.cons_append, List.nil_append, ix_in, ix_cl, lt_in, lt_cl, lt_add, ix_one, vu_eq, vu_ne, arI_mk, arL_mk, arY_mZ, arY_mB, alen_mI, fld_sfl_ne, fld_sfl_same, Option.isSome_some, pok_i, b1z, b01, z10, b1o, Int32.zero_add, vu_vu, upd_eq, upd_ne, true_or, or_true]
  refine lp (fun p g (z : (Int32 × Int32) × Value) => g = f ∧ z.1 = fo (o_st tb j) (0, 0) p) (fun p z => [.ref 127, .int (nI j), .int z.1.1, .int z.1.2, .int (nI p), z.2]) 9 ?_ ?_ 0 f ((0, 0), u5) (by omega) ⟨rfl, rfl⟩
  · rintro p g ⟨z, u⟩ hp ⟨rfl, hz⟩ hI
    dsimp only at hz
    have hc : (9 ≤ p) = False := eq_false (by omega)
    have hbit := bit_has j hj p hp
    have hfs := fo_s (g := o_st tb j) (a := (0, 0)) (j := p)
    rw [← hz] at hfs
    unfold o_st at hfs
    obtain ⟨hcl, hclt⟩ := bit_clr j hj p hp
    by_cases hb : j.testBit p = true
    · have hb' : (¬ j.testBit p = true) = False := eq_false (fun z => z hb)
      rw [if_pos hb] at hfs
      by_cases hlt : tb (clr j p) < 0
      · have hlt' : (tb (clr j p) < 0) = True := eq_true hlt
        rw [if_pos hlt] at hfs
        by_cases hq : z.1 = 0
        · have hq' : (z.1 = 0) = True := eq_true hq
          rw [if_pos (Or.inl hq)] at hfs
          simp (disch := first | omega | decide | assumption | exact Nat.le_of_ble_eq_true rfl) only [s91_7, s91_9, s91_11, s91_14, s91_15, s91_16, s91_18, s91_19, s91_20, s91_23, s91_24, s91_27, s91_28, s91_29, s91_31, s91_32, s91_33, s91_34, s91_35, s91_36, s91_38, s91_40, s91_43, s91_44, s91_46, s91_47, s91_51, s91_52, s91_55, s91_56, s91_59, s91_61, s91_62, s91_63, s91_66, s91_68, s91_69, s91_70, h91_73, ow_some, true_and, and_true, and_self, if_true, if_false, not_true, not_false_eq_true, Bool.false_eq_true, eq_self, Option.toList, List.cons_append, List.nil_append, ix_in, ix_cl, lt_in, lt_cl, lt_add, ix_one, vu_eq, vu_ne, arI_mk, arL_mk, arY_mZ, arY_mB, alen_mI, fld_sfl_ne, fld_sfl_same, Option.isSome_some, pok_i, b1z, b01, z10, b1o, Int32.zero_add, vu_vu, upd_eq, upd_ne, true_or, or_true, lt_le, hc, hbit, hb', p1, p2, hcl, hlt', hq']
          exact hI _ (_, _) ⟨rfl, hfs.symm⟩
        · have hq' : (z.1 = 0) = False := eq_false hq
          by_cases hl : -tb (clr j p) < z.1
          · have hl' : (z.1 ≤ -tb (clr j p)) = False := eq_false (Int32.not_le.mpr hl)
            rw [if_pos (Or.inr hl)] at hfs
            simp (disch := first | omega | decide | assumption | exact Nat.le_of_ble_eq_true rfl) only [s91_7, s91_9, s91_11, s91_14, s91_15, s91_16, s91_18, s91_19, s91_20, s91_23, s91_24, s91_27, s91_28, s91_29, s91_31, s91_32, s91_33, s91_34, s91_35, s91_36, s91_38, s91_40, s91_43, s91_44, s91_46, s91_47, s91_51, s91_52, s91_55, s91_56, s91_59, s91_61, s91_62, s91_63, s91_66, s91_68, s91_69, s91_70, h91_73, ow_some, true_and, and_true, and_self, if_true, if_false, not_true, not_false_eq_true, Bool.false_eq_true, eq_self, Option.toList, List.cons_append, List.nil_append, ix_in, ix_cl, lt_in, lt_cl, lt_add, ix_one, vu_eq, vu_ne, arI_mk, arL_mk, arY_mZ, arY_mB, alen_mI, fld_sfl_ne, fld_sfl_same, Option.isSome_some, pok_i, b1z, b01, z10, b1o, Int32.zero_add, vu_vu, upd_eq, upd_ne, true_or, or_true, lt_le, hc, hbit, hb', p1, p2, hcl, hlt', hq', hl']
            exact hI _ (_, _) ⟨rfl, hfs.symm⟩
          · have hl' : (z.1 ≤ -tb (clr j p)) = True := eq_true (Int32.not_lt.mp hl)
            rw [if_neg (fun z => z.elim hq hl)] at hfs
            simp (disch := first | omega | decide | assumption | exact Nat.le_of_ble_eq_true rfl) only [s91_7, s91_9, s91_11, s91_14, s91_15, s91_16, s91_18, s91_19, s91_20, s91_23, s91_24, s91_27, s91_28, s91_29, s91_31, s91_32, s91_33, s91_34, s91_35, s91_36, s91_38, s91_40, s91_43, s91_44, s91_46, s91_47, s91_51, s91_52, s91_55, s91_56, s91_59, s91_61, s91_62, s91_63, s91_66, s91_68, s91_69, s91_70, h91_73, ow_some, true_and, and_true, and_self, if_true, if_false, not_true, not_false_eq_true, Bool.false_eq_true, eq_self, Option.toList, List.cons_append, List.nil_append, ix_in, ix_cl, lt_in, lt_cl, lt_add, ix_one, vu_eq, vu_ne, arI_mk, arL_mk, arY_mZ, arY_mB, alen_mI, fld_sfl_ne, fld_sfl_same, Option.isSome_some, pok_i, b1z, b01, z10, b1o, Int32.zero_add, vu_vu, upd_eq, upd_ne, true_or, or_true, lt_le, hc, hbit, hb', p1, p2, hcl, hlt', hq', hl']
            exact hI _ (_, _) ⟨rfl, hfs.symm⟩
      · have hlt' : (tb (clr j p) < 0) = False := eq_false hlt
        rw [if_neg hlt] at hfs
        simp (disch := first | omega | decide | assumption | exact Nat.le_of_ble_eq_true rfl) only [s91_7, s91_9, s91_11, s91_14, s91_15, s91_16, s91_18, s91_19, s91_20, s91_23, s91_24, s91_27, s91_28, s91_29, s91_31, s91_32, s91_33, s91_34, s91_35, s91_36, s91_38, s91_40, s91_43, s91_44, s91_46, s91_47, ow_some, true_and, and_true, and_self, if_true, if_false, not_true, not_false_eq_true, Bool.false_eq_true, eq_self, Option.toList, List.cons_append, List.nil_append, ix_in, ix_cl, lt_in, lt_cl, lt_add, ix_one, vu_eq, vu_ne, arI_mk, arL_mk, arY_mZ, arY_mB, alen_mI, fld_sfl_ne, fld_sfl_same, Option.isSome_some, pok_i, b1z, b01, z10, b1o, Int32.zero_add, vu_vu, upd_eq, upd_ne, true_or, or_true, lt_le, hc, hbit, hb', p1, p2, hcl, hlt']
        rw [p91_48 (Nat.le_of_ble_eq_true rfl) sp_max]
        simp (disch := first | omega | decide | assumption | exact Nat.le_of_ble_eq_true rfl) only [s91_51, s91_52, s91_70, h91_73, ow_some, true_and, and_true, and_self, if_true, if_false, not_true, not_false_eq_true, Bool.false_eq_true, eq_self, Option.toList, List.cons_append, List.nil_append, ix_in, ix_cl, lt_in, lt_cl, lt_add, ix_one, vu_eq, vu_ne, arI_mk, arL_mk, arY_mZ, arY_mB, alen_mI, fld_sfl_ne, fld_sfl_same, Option.isSome_some, pok_i, b1z, b01, z10, b1o, Int32.zero_add, vu_vu, upd_eq, upd_ne, true_or, or_true]
        exact hI _ ((z.1, mxI z.2 (tb (clr j p) + 1)), _) ⟨rfl, hfs.symm⟩
    · have hb' : (¬ j.testBit p = true) = True := eq_true hb
      rw [if_neg hb] at hfs
      simp (disch := first | omega | decide | assumption | exact Nat.le_of_ble_eq_true rfl) only [s91_7, s91_9, s91_11, s91_14, s91_15, s91_16, s91_18, s91_19, s91_20, s91_70, h91_73, ow_some, true_and, and_true, and_self, if_true, if_false, not_true, not_false_eq_true, Bool.false_eq_true, eq_self, Option.toList, List.cons_append, List.nil_append, ix_in, ix_cl, lt_in, lt_cl, lt_add, ix_one, vu_eq, vu_ne, arI_mk, arL_mk, arY_mZ, arY_mB, alen_mI, fld_sfl_ne, fld_sfl_same, Option.isSome_some, pok_i, b1z, b01, z10, b1o, Int32.zero_add, vu_vu, upd_eq, upd_ne, true_or, or_true, lt_le, hc, hbit, hb']
      exact hI _ (z, _) ⟨rfl, hfs.symm⟩
  · rintro g ⟨z, u⟩ ⟨rfl, hz⟩
    dsimp only at hz
    rw [← hz]
    unfold o_end
    by_cases h0 : 0 < z.1
    · have h0' : (z.1 ≤ 0) = False := eq_false (Int32.not_le.mpr h0)
      rw [if_pos h0]
      simp (disch := first | omega | decide | assumption | exact Nat.le_of_ble_eq_true rfl) only [s91_7, s91_9, s91_11, s91_76, s91_77, s91_80, s91_81, s91_84, s91_85, s91_86, s91_87, s91_88, ow_some, true_and, and_true, and_self, if_true, if_false, not_true, not_false_eq_true, Bool.false_eq_true, eq_self, Option.toList, List.cons_append, List.nil_append, ix_in, ix_cl, lt_in, lt_cl, lt_add, ix_one, vu_eq, vu_ne, arI_mk, arL_mk, arY_mZ, arY_mB, alen_mI, fld_sfl_ne, fld_sfl_same, Option.isSome_some, pok_i, b1z, b01, z10, b1o, Int32.zero_add, vu_vu, upd_eq, upd_ne, true_or, or_true, lt_le, Nat.le_refl, h0']
    · have h0' : (z.1 ≤ 0) = True := eq_true (Int32.not_lt.mp h0)
      rw [if_neg h0]
      simp (disch := first | omega | decide | assumption | exact Nat.le_of_ble_eq_true rfl) only [s91_7, s91_9, s91_11, s91_76, s91_77, s91_80, s91_81, s91_84, s91_85, s91_86, s91_87, s91_88, ow_some, true_and, and_true, and_self, if_true, if_false, not_true, not_false_eq_true, Bool.false_eq_true, eq_self, Option.toList, List.cons_append, List.nil_append, ix_in, ix_cl, lt_in, lt_cl, lt_add, ix_one, vu_eq, vu_ne, arI_mk, arL_mk, arY_mZ, arY_mB, alen_mI, fld_sfl_ne, fld_sfl_same, Option.isSome_some, pok_i, b1z, b01, z10, b1o, Int32.zero_add, vu_vu, upd_eq, upd_ne, true_or, or_true, lt_le, Nat.le_refl, h0']
theorem t_neg {x : Int32} (h : -2147483648 < x.toInt) : (-x).toInt = -x.toInt := by
  have h1 := Int32.toInt_lt x
  rw [Int32.toInt_neg]
  exact Int.bmod_eq_of_le (by omega) (by omega)
/-- bounds of the game -/
def gb (all : Nat → Int32) (S P set : Nat) : Prop := -(bits set : Int) - 1 ≤ (gm all S P set).toInt ∧ (gm all S P set).toInt ≤ (bits set : Int) ∧ (gm all S P set).toInt ≠ 0
def gtb (all : Nat → Int32) (S P : Nat) (i : Nat) : Int32 := if m_h all S P i = true then gm all S P i else 0
theorem game_same {all : Nat → Int32} {S P set : Nat} (hP : P ≤ 9) (hs : set < 2 ^ P) (hb : ∀ p, p < P → set.testBit p = true → gb all S P (clr set p)) : o_end (fo (o_st (gtb all S P) set) (0, 0) 9) = gm all S P set ∧ gb all S P set := by
  have hs5 : set < 512 := Nat.lt_of_lt_of_le hs (pw9 hP)
  have h9 : fo (o_st (gtb all S P) set) (0, 0) 9 = fo (o_st (gtb all S P) set) (0, 0) P := by
    refine ind_le (F := fun k => fo (o_st (gtb all S P) set) (0, 0) k) 9 hP (fun j h1 h2 => ?_)
    show fo (o_st (gtb all S P) set) (0, 0) (j + 1) = fo (o_st (gtb all S P) set) (0, 0) j
    rw [fo_s]
    unfold o_st
    rw [if_neg]
    intro z
    have := Nat.ge_two_pow_of_testBit z
    have h2 : 2 ^ P ≤ 2 ^ j := Nat.pow_le_pow_right (by omega) h1
    omega
  have z0 : (0 : Int32).toInt = 0 := by decide
  have z1 : (1 : Int32).toInt = 1 := by decide
  have bl := bits_lt (T := set)
  have main : ∀ p, p ≤ P → (fo (o_st (gtb all S P) set) (0, 0) p).2 = (fo (g_st all S P (gm all S P) set) (268435456, 0) p).2 ∧ (0 ≤ (fo (o_st (gtb all S P) set) (0, 0) p).2.toInt ∧ (fo (o_st (gtb all S P) set) (0, 0) p).2.toInt ≤ bits set) ∧ (((fo (g_st all S P (gm all S P) set) (268435456, 0) p).1 = 268435456 ∧ (fo (o_st (gtb all S P) set) (0, 0) p).1 = 0) ∨ ((fo (g_st all S P (gm all S P) set) (268435456, 0) p).1 = (fo (o_st (gtb all S P) set) (0, 0) p).1 ∧ 1 ≤ (fo (o_st (gtb all S P) set) (0, 0) p).1.toInt ∧ (fo (o_st (gtb all S P) set) (0, 0) p).1.toInt ≤ bits set)) := by
    intro p
    induction p with
    | zero => intro _; exact ⟨rfl, ⟨by show 0 ≤ (0 : Int32).toInt; decide, by show (0 : Int32).toInt ≤ _; rw [z0]; omega⟩, Or.inl ⟨rfl, rfl⟩⟩
    | succ p ih =>
      intro hp
      obtain ⟨a1, a2, a3⟩ := ih (by omega)
      rw [fo_s, fo_s]
      generalize fo (o_st (gtb all S P) set) (0, 0) p = z at a1 a2 a3 ⊢
      generalize fo (g_st all S P (gm all S P) set) (268435456, 0) p = u at a1 a2 a3 ⊢
      obtain ⟨q, l⟩ := z
      obtain ⟨wi, lo⟩ := u
      dsimp only at a1 a2 a3
      subst a1
      unfold o_st g_st
      by_cases hbit : set.testBit p = true
      · rw [if_pos hbit, if_pos hbit]
        obtain ⟨g1, g2, g3⟩ := hb p (by omega) hbit
        have hbc := bits_c set hs5 p (by omega) hbit
        cases hm : m_h all S P (clr set p) with
        | false =>
          have et : gtb all S P (clr set p) = 0 := by unfold gtb; rw [hm]; rfl
          have n0 : ¬ (0 : Int32) < 0 := by decide
          rw [et, if_neg n0, if_pos rfl]
          have e2 : mxI l (0 + 1) = if 1 ≤ l then l else 1 := by
            unfold mxI
            rw [Int32.zero_add]
            by_cases h : l < 1
            · rw [if_pos h, if_neg (Int32.not_le.mpr h)]
            · rw [if_neg h, if_pos (Int32.not_lt.mp h)]
          refine ⟨e2, ?_, a3⟩
          dsimp only
          rw [mxI_t, Int32.zero_add, z1]
          omega
        | true =>
          have et : gtb all S P (clr set p) = gm all S P (clr set p) := by unfold gtb; rw [hm]; rfl
          have nf : ¬ (true = false) := by decide
          rw [et, if_neg nf]
          generalize gm all S P (clr set p) = gz at g1 g2 g3 ⊢
          by_cases hz : gz < 0
          · rw [if_pos hz, if_neg (Int32.not_le.mpr hz)]
            rw [Int32.lt_iff_toInt_lt, z0] at hz
            have hn : (-gz).toInt = -gz.toInt := t_neg (by omega)
            dsimp only
            refine ⟨rfl, a2, Or.inr ?_⟩
            rcases a3 with ⟨w1, w2⟩ | ⟨w1, w2, w3⟩
            · have c1 : ¬ wi ≤ -gz := by
                rw [w1, Int32.le_iff_toInt_le, hn, show (268435456 : Int32).toInt = 268435456 by decide]; omega
              rw [if_pos (Or.inl w2), if_neg c1]
              exact ⟨rfl, by omega, by omega⟩
            · have q0 : ¬ q = 0 := by rintro rfl; rw [z0] at w2; omega
              subst w1
              by_cases hl : -gz < wi
              · rw [if_pos (Or.inr hl), if_neg (Int32.not_le.mpr hl)]
                exact ⟨rfl, by omega, by omega⟩
              · have hno : ¬ (wi = 0 ∨ -gz < wi) := by
                  rintro (z | z)
                  · exact q0 z
                  · exact hl z
                rw [if_neg hno, if_pos (Int32.not_lt.mp hl)]
                exact ⟨rfl, w2, w3⟩
          · have hz' := Int32.not_lt.mp hz
            rw [if_neg hz, if_pos hz']
            rw [Int32.le_iff_toInt_le, z0] at hz'
            have e1 : (gz + 1).toInt = gz.toInt + 1 := by rw [t_add (by rw [z1]; omega) (by rw [z1]; omega), z1]
            have e2 : mxI l (gz + 1) = if gz + 1 ≤ l then l else gz + 1 := by
              unfold mxI
              by_cases h : l < gz + 1
              · rw [if_pos h, if_neg (Int32.not_le.mpr h)]
              · rw [if_neg h, if_pos (Int32.not_lt.mp h)]
            refine ⟨e2, ?_, a3⟩
            dsimp only
            rw [mxI_t, e1]
            omega
      · rw [if_neg hbit, if_neg hbit]
        exact ⟨rfl, a2, a3⟩
  obtain ⟨a1, a2, a3⟩ := main P (Nat.le_refl _)
  have egm : gm all S P set = g_end (fo (g_st all S P (gm all S P) set) (268435456, 0) P) := gm_eq
  unfold gb
  rw [h9, egm]
  generalize fo (o_st (gtb all S P) set) (0, 0) P = z at a1 a2 a3 ⊢
  generalize fo (g_st all S P (gm all S P) set) (268435456, 0) P = u at a1 a2 a3 ⊢
  obtain ⟨q, l⟩ := z
  obtain ⟨wi, lo⟩ := u
  dsimp only at a1 a2 a3
  subst a1
  unfold o_end g_end
  dsimp only
  have hn : (-l).toInt = -l.toInt := t_neg (by omega)
  have hn1 : (-l - 1).toInt = -l.toInt - 1 := by rw [t_sub (by rw [hn, z1]; omega) (by rw [hn, z1]; omega), hn, z1]
  rcases a3 with ⟨w1, w2⟩ | ⟨w1, w2, w3⟩
  · have c1 : ¬ (0 : Int32) < q := by rw [w2]; decide
    have c2 : (268435456 : Int32) ≤ wi := by rw [w1]; decide
    rw [if_neg c1, if_pos c2, hn1]
    exact ⟨rfl, by omega, by omega, by omega⟩
  · subst w1
    have c1 : (0 : Int32) < wi := by rw [Int32.lt_iff_toInt_lt, z0]; omega
    have c2 : ¬ (268435456 : Int32) ≤ wi := by rw [Int32.le_iff_toInt_le, show (268435456 : Int32).toInt = 268435456 by decide]; omega
    rw [if_pos c1, if_neg c2]
    exact ⟨rfl, by omega, by omega, by omega⟩
