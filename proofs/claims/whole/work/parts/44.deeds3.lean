/-! the reference: deeds, why they can't be -/
theorem pin_t : ∀ P, P < 10 → (nI P - 1).toInt64.toInt = (P : Int) - 1 := by decide
theorem pin {v : Int64} {P : Nat} (hP : P ≤ 9) : (0 ≤ v ∧ v ≤ (nI P - 1).toInt64) = (0 ≤ v.toInt ∧ v.toInt < P) := by
  apply propext
  rw [Int64.le_iff_toInt_le, Int64.le_iff_toInt_le, pin_t P (by omega)]
  show (0 ≤ v.toInt ∧ _) ↔ _
  omega
theorem l9 {v : Int64} {N : Nat} (h0 : 0 ≤ v.toInt) (h1 : v.toInt < N) (hN : N ≤ 65536) : ∃ p, p < N ∧ v = (nI p).toInt64 ∧ v.toInt = p := by
  refine ⟨v.toInt.toNat, by omega, ?_, by omega⟩
  apply Int64.toInt_inj.mp
  rw [Int32.toInt_toInt64, nI_toInt (by omega)]
  omega
theorem nI_6432 {p : Nat} : (nI p).toInt64.toInt32 = nI p := by simp
theorem nI_64 {p : Nat} (h : p < 65536) : (nI p).toInt64.toInt = p := by rw [Int32.toInt_toInt64, nI_toInt (by omega)]
theorem sp_isPersonT {X : Nat × (Nat → Int32)} {d n k : Nat} {f : Nat → e_C} {s : m_T} {S P : Nat} {v : Int64} {y : UInt64} (V : MV f s) (A : AL s.1 S P) : PU X (d + 1) 214 [.ref 171, .long v, .double y] f n k (some (.int (if 0 ≤ v.toInt ∧ v.toInt < P then 1 else 0))) := by
  have h := sp_isPerson (X := X) (d := d) (n := n) (k := k) (v := v) (y := y) V.mr V.c172
  simpa only [A.2.2.2.1, pin A.2.2.2.2.1] using h
theorem sp_isStepT {X : Nat × (Nat → Int32)} {d n k : Nat} {f : Nat → e_C} {s : m_T} {S P : Nat} {v : Int64} {y : UInt64} (V : MV f s) (A : AL s.1 S P) : PU X (d + 1) 217 [.ref 171, .long v, .double y] f n k (some (.int (if 0 ≤ v.toInt ∧ v.toInt < S then 1 else 0))) := by
  have h := sp_isStep (X := X) (d := d) (n := n) (k := k) (v := v) (y := y) V.mr V.c172
  simpa only [A.1, pin (show S ≤ 9 by have := A.2.2.1; omega)] using h
/-- why p can't be seen -/
def w_see (all : Nat → Int32) (P T : Nat) (v : Int) : Int32 := if 0 ≤ v ∧ v < P then (if all 54 = 1 ∨ ¬ T.testBit v.toNat = true then 2 else if all 2 ≤ all 55 then 3 else if all 4 = 0 ∨ l_law all (all 6).toNatClampNeg (all 8).toNatClampNeg v.toNat (m_wed all v.toNat T) = 1 then 0 else 4) else 1
theorem sp_whySee {X : Nat × (Nat → Int32)} {d N K : Nat} {f : Nat → e_C} {s : m_T} {S P T : Nat} {v : Int64} {y : UInt64} {a3 : Value} (V : MV f s) (A : AL s.1 S P) (hT : s.1 53 = nI T) (hT2 : T < 512) : TT X (d + 3) 223 0 [.ref 171, .long v, .double y, a3] [] f N K (MP N K f s (some (.int (w_see s.1 P T v.toInt)))) := by
  have A0 := A
  obtain ⟨A1, A2, A3, A4, A5, A6, A7, A8⟩ := A
  unfold w_see
  simp (disch := first | omega | decide | assumption | exact Nat.le_of_ble_eq_true rfl) only [s223_0, s223_1, ow_some, true_and, and_true, and_self, if_true, if_false, not_true, not_false_eq_true, Bool.false_eq_true, eq_self, Option.toList, List.cons_append, List.nil_append, ix_in, ix_cl, lt_in, lt_cl, lt_add, ix_one, vu_eq, vu_ne, arI_mk, arL_mk, arY_mZ, arY_mB, alen_mI, fld_sfl_ne, fld_sfl_same, Option.isSome_some, pok_i, b1z, b01, z10, b1o, Int32.zero_add, vu_vu, upd_eq, upd_ne, V.r1, V.r2, V.r3, V.r4, V.r16, V.r17, V.r18, V.r19, V.r20, V.r23, V.r24, V.r25, V.r26, V.r27, V.r28, V.r29, V.r30, V.c172, V.c173, V.c174, V.c186, V.c187, V.c188, V.n5, V.n13, V.n14, V.i0, V.i5, V.i6, V.i7, V.i8, V.i9, V.i10, V.i11, V.i12, V.i13, V.i14, V.i15, V.i21, V.i22]
  rw [p223_2 (cno_MR V.mr) (Nat.le_of_ble_eq_true rfl) (sp_isPersonT V A0)]
  by_cases hp : 0 ≤ v.toInt ∧ v.toInt < P
  · obtain ⟨p, hpP, rfl, hv⟩ := l9 hp.1 hp.2 (by omega)
    have hp' : (0 ≤ (p : Int) ∧ (p : Int) < P) = True := eq_true (by omega)
    simp only [hv, hp', if_true, Int.toNat_natCast]
    simp (disch := first | omega | decide | assumption | exact Nat.le_of_ble_eq_true rfl) only [s223_0, s223_1, s223_5, s223_8, s223_9, s223_10, s223_11, s223_12, s223_13, s223_14, s223_17, s223_19, s223_20, s223_21, s223_24, s223_25, s223_29, s223_32, s223_33, s223_34, s223_35, s223_38, s223_40, s223_41, s223_42, s223_45, s223_46, s223_47, s223_50, s223_51, s223_52, s223_53, s223_56, s223_57, s223_58, s223_61, s223_62, s223_63, s223_64, s223_65, s223_66, s223_67, s223_70, s223_72, s223_79, s223_80, s223_83, s223_84, s223_87, s223_88, ow_some, true_and, and_true, and_self, if_true, if_false, not_true, not_false_eq_true, Bool.false_eq_true, eq_self, Option.toList, List.cons_append, List.nil_append, ix_in, ix_cl, lt_in, lt_cl, lt_add, ix_one, vu_eq, vu_ne, arI_mk, arL_mk, arY_mZ, arY_mB, alen_mI, fld_sfl_ne, fld_sfl_same, Option.isSome_some, pok_i, b1z, b01, z10, b1o, Int32.zero_add, vu_vu, upd_eq, upd_ne, V.r1, V.r2, V.r3, V.r4, V.r16, V.r17, V.r18, V.r19, V.r20, V.r23, V.r24, V.r25, V.r26, V.r27, V.r28, V.r29, V.r30, V.c172, V.c173, V.c174, V.c186, V.c187, V.c188, V.n5, V.n13, V.n14, V.i0, V.i5, V.i6, V.i7, V.i8, V.i9, V.i10, V.i11, V.i12, V.i13, V.i14, V.i15, V.i21, V.i22, nI_6432]
    by_cases h54 : s.1 54 = 1
    · simp only [h54, true_or, if_true]
      exact ⟨rfl, rfl, SM.rf, V, rfl⟩
    · simp only [h54, false_or, if_false]
      rw [p223_26 (cno_MR V.mr) (Nat.le_of_ble_eq_true rfl) (sp_isThere V.mr V.c172 hT hT2 (show p < 9 by omega))]
      simp (disch := first | omega | decide | assumption | exact Nat.le_of_ble_eq_true rfl) only [s223_0, s223_1, s223_5, s223_8, s223_9, s223_10, s223_11, s223_12, s223_13, s223_14, s223_17, s223_19, s223_20, s223_21, s223_24, s223_25, s223_29, s223_32, s223_33, s223_34, s223_35, s223_38, s223_40, s223_41, s223_42, s223_45, s223_46, s223_47, s223_50, s223_51, s223_52, s223_53, s223_56, s223_57, s223_58, s223_61, s223_62, s223_63, s223_64, s223_65, s223_66, s223_67, s223_70, s223_72, s223_79, s223_80, s223_83, s223_84, s223_87, s223_88, ow_some, true_and, and_true, and_self, if_true, if_false, not_true, not_false_eq_true, Bool.false_eq_true, eq_self, Option.toList, List.cons_append, List.nil_append, ix_in, ix_cl, lt_in, lt_cl, lt_add, ix_one, vu_eq, vu_ne, arI_mk, arL_mk, arY_mZ, arY_mB, alen_mI, fld_sfl_ne, fld_sfl_same, Option.isSome_some, pok_i, b1z, b01, z10, b1o, Int32.zero_add, vu_vu, upd_eq, upd_ne, V.r1, V.r2, V.r3, V.r4, V.r16, V.r17, V.r18, V.r19, V.r20, V.r23, V.r24, V.r25, V.r26, V.r27, V.r28, V.r29, V.r30, V.c172, V.c173, V.c174, V.c186, V.c187, V.c188, V.n5, V.n13, V.n14, V.i0, V.i5, V.i6, V.i7, V.i8, V.i9, V.i10, V.i11, V.i12, V.i13, V.i14, V.i15, V.i21, V.i22]
      by_cases hb : T.testBit p = true
      · simp only [hb, not_true, if_false, not_false_eq_true, if_true]
        by_cases h3 : s.1 2 ≤ s.1 55
        · have h3' : ¬ s.1 55 < s.1 2 := Int32.not_lt.mpr h3
          simp only [h3, h3', if_true, if_false]
          exact ⟨rfl, rfl, SM.rf, V, rfl⟩
        · have h3' : s.1 55 < s.1 2 := Int32.not_le.mp h3
          simp only [h3, h3', if_true, if_false]
          by_cases h4 : s.1 4 = 0
          · simp only [h4, true_or, if_true]
            exact ⟨rfl, rfl, SM.rf, V, rfl⟩
          · simp only [h4, false_or, if_false]
            rw [hT, p223_73 (cno_MR V.mr) (Nat.le_of_ble_eq_true rfl) (sp_wedIn V.ms hT2 (show p < 9 by omega) (A7 p (by omega)))]
            simp only [Option.toList, List.cons_append, List.nil_append]
            rcases A8 1 (by omega) with h0 | ⟨h1, F, Mn, hF, hM, hFM, hv⟩
            · exact absurd h0 h4
            · have e1 : (s.1 6).toNatClampNeg = F := by rw [show s.1 6 = nI F from hF]; exact ix_cl (by omega)
              have e2 : (s.1 8).toNatClampNeg = Mn := by rw [show s.1 8 = nI Mn from hM]; exact ix_cl (by omega)
              rw [e1, e2]
              refine k223_76 (cno_MR V.mr) (Nat.le_of_ble_eq_true rfl) (sp_reckons (law := 1) V.ms (by omega) (show p < 9 by omega) hF hM hFM hv) ?_
              rintro f' n' k' w ⟨rfl, rfl, hs, M1, rfl⟩
              have hs3 : SX [177, 178, 179] f f' := fun a ha => hs a (by simp at ha ⊢; exact ⟨ha.1, ha.2.1⟩)
              have V1 := V.sx hs3 M1
              have sm : SM f f' := SM.sx hs3 (by decide)
              simp (disch := first | omega | decide | assumption | exact Nat.le_of_ble_eq_true rfl) only [s223_0, s223_1, s223_5, s223_8, s223_9, s223_10, s223_11, s223_12, s223_13, s223_14, s223_17, s223_19, s223_20, s223_21, s223_24, s223_25, s223_29, s223_32, s223_33, s223_34, s223_35, s223_38, s223_40, s223_41, s223_42, s223_45, s223_46, s223_47, s223_50, s223_51, s223_52, s223_53, s223_56, s223_57, s223_58, s223_61, s223_62, s223_63, s223_64, s223_65, s223_66, s223_67, s223_70, s223_72, s223_79, s223_80, s223_83, s223_84, s223_87, s223_88, ow_some, true_and, and_true, and_self, if_true, if_false, not_true, not_false_eq_true, Bool.false_eq_true, eq_self, Option.toList, List.cons_append, List.nil_append, ix_in, ix_cl, lt_in, lt_cl, lt_add, ix_one, vu_eq, vu_ne, arI_mk, arL_mk, arY_mZ, arY_mB, alen_mI, fld_sfl_ne, fld_sfl_same, Option.isSome_some, pok_i, b1z, b01, z10, b1o, Int32.zero_add, vu_vu, upd_eq, upd_ne, V1.r1, V1.r2, V1.r3, V1.r4, V1.r16, V1.r17, V1.r18, V1.r19, V1.r20, V1.r23, V1.r24, V1.r25, V1.r26, V1.r27, V1.r28, V1.r29, V1.r30, V1.c172, V1.c173, V1.c174, V1.c186, V1.c187, V1.c188, V1.n5, V1.n13, V1.n14, V1.i0, V1.i5, V1.i6, V1.i7, V1.i8, V1.i9, V1.i10, V1.i11, V1.i12, V1.i13, V1.i14, V1.i15, V1.i21, V1.i22]
              by_cases hl : l_law s.1 F Mn p (m_wed s.1 p T) = 1
              · simp only [hl, not_true, if_false, if_true]
                exact ⟨rfl, rfl, sm, V1, rfl⟩
              · simp only [hl, not_false_eq_true, if_true, if_false]
                exact ⟨rfl, rfl, sm, V1, rfl⟩
      · simp only [hb, not_false_eq_true, if_true, if_false]
        exact ⟨rfl, rfl, SM.rf, V, rfl⟩
  · simp only [hp, if_false]
    simp (disch := first | omega | decide | assumption | exact Nat.le_of_ble_eq_true rfl) only [s223_0, s223_1, s223_5, s223_8, s223_9, s223_10, s223_11, s223_12, s223_13, s223_14, s223_17, s223_19, s223_20, s223_21, s223_24, s223_25, s223_29, s223_32, s223_33, s223_34, s223_35, s223_38, s223_40, s223_41, s223_42, s223_45, s223_46, s223_47, s223_50, s223_51, s223_52, s223_53, s223_56, s223_57, s223_58, s223_61, s223_62, s223_63, s223_64, s223_65, s223_66, s223_67, s223_70, s223_72, s223_79, s223_80, s223_83, s223_84, s223_87, s223_88, ow_some, true_and, and_true, and_self, if_true, if_false, not_true, not_false_eq_true, Bool.false_eq_true, eq_self, Option.toList, List.cons_append, List.nil_append, ix_in, ix_cl, lt_in, lt_cl, lt_add, ix_one, vu_eq, vu_ne, arI_mk, arL_mk, arY_mZ, arY_mB, alen_mI, fld_sfl_ne, fld_sfl_same, Option.isSome_some, pok_i, b1z, b01, z10, b1o, Int32.zero_add, vu_vu, upd_eq, upd_ne, V.r1, V.r2, V.r3, V.r4, V.r16, V.r17, V.r18, V.r19, V.r20, V.r23, V.r24, V.r25, V.r26, V.r27, V.r28, V.r29, V.r30, V.c172, V.c173, V.c174, V.c186, V.c187, V.c188, V.n5, V.n13, V.n14, V.i0, V.i5, V.i6, V.i7, V.i8, V.i9, V.i10, V.i11, V.i12, V.i13, V.i14, V.i15, V.i21, V.i22]
    exact ⟨rfl, rfl, SM.rf, V, rfl⟩
/-- why p can't be moved to k -/
def w_move (all : Nat → Int32) (S P T : Nat) (v w : Int) : Int32 := if (0 ≤ v ∧ v < P) ∧ (0 ≤ w ∧ w < S) then (if all 54 = 1 ∨ ¬ T.testBit v.toNat = true ∨ ¬ ((all (57 + v.toNat)).toInt = w - 1 ∨ (all (57 + v.toNat)).toInt = w + 1) then 2 else 0) else 1
theorem mv_t : ∀ a, a < 8 → ∀ b, b < 8 → ((-1 ≤ (nI a).toInt64 - (nI b).toInt64 ∧ (nI a).toInt64 - (nI b).toInt64 ≤ 1) ∧ ¬ lg_cmp (nI a).toInt64 (nI b).toInt64 = 0) = ((nI b).toInt = (a : Int) - 1 ∨ (nI b).toInt = (a : Int) + 1) := by
  intro a ha b hb
  apply propext
  revert a b
  decide
theorem sp_whyMove {X : Nat × (Nat → Int32)} {d N K : Nat} {f : Nat → e_C} {s : m_T} {S P T : Nat} {v w : Int64} {y z : UInt64} {a5 : Value} (V : MV f s) (A : AL s.1 S P) (hT : s.1 53 = nI T) (hT2 : T < 512) : PU X (d + 3) 233 [.ref 171, .long v, .double y, .long w, .double z, a5] f N K (some (.int (w_move s.1 S P T v.toInt w.toInt))) := by
  have A0 := A
  obtain ⟨A1, A2, A3, A4, A5, A6, A7, A8⟩ := A
  unfold PU w_move
  simp (disch := first | omega | decide | assumption | exact Nat.le_of_ble_eq_true rfl) only [s233_0, s233_1, ow_some, true_and, and_true, and_self, if_true, if_false, not_true, not_false_eq_true, Bool.false_eq_true, eq_self, Option.toList, List.cons_append, List.nil_append, ix_in, ix_cl, lt_in, lt_cl, lt_add, ix_one, vu_eq, vu_ne, arI_mk, arL_mk, arY_mZ, arY_mB, alen_mI, fld_sfl_ne, fld_sfl_same, Option.isSome_some, pok_i, b1z, b01, z10, b1o, Int32.zero_add, vu_vu, upd_eq, upd_ne, V.r1, V.r2, V.r3, V.r4, V.r16, V.r17, V.r18, V.r19, V.r20, V.r23, V.r24, V.r25, V.r26, V.r27, V.r28, V.r29, V.r30, V.c172, V.c173, V.c174, V.c186, V.c187, V.c188, V.n5, V.n13, V.n14, V.i0, V.i5, V.i6, V.i7, V.i8, V.i9, V.i10, V.i11, V.i12, V.i13, V.i14, V.i15, V.i21, V.i22]
  rw [p233_2 (cno_MR V.mr) (Nat.le_of_ble_eq_true rfl) (sp_isPersonT V A0)]
  by_cases hp : 0 ≤ v.toInt ∧ v.toInt < P
  · obtain ⟨p, hpP, rfl, hv⟩ := l9 hp.1 hp.2 (by omega)
    have hp' : (0 ≤ (p : Int) ∧ (p : Int) < P) = True := eq_true (by omega)
    simp only [hv, hp', if_true, Int.toNat_natCast, true_and]
    simp (disch := first | omega | decide | assumption | exact Nat.le_of_ble_eq_true rfl) only [s233_0, s233_1, s233_5, s233_8, s233_9, s233_13, s233_16, s233_17, s233_18, s233_19, s233_20, s233_22, s233_23, s233_26, s233_28, s233_29, s233_30, s233_33, s233_34, s233_39, s233_42, s233_43, s233_44, s233_47, s233_49, s233_51, s233_52, s233_53, s233_54, s233_55, s233_58, s233_62, s233_65, s233_66, s233_67, s233_70, s233_72, s233_74, s233_75, s233_76, s233_77, s233_78, s233_81, s233_82, s233_85, s233_86, ow_some, true_and, and_true, and_self, if_true, if_false, not_true, not_false_eq_true, Bool.false_eq_true, eq_self, Option.toList, List.cons_append, List.nil_append, ix_in, ix_cl, lt_in, lt_cl, lt_add, ix_one, vu_eq, vu_ne, arI_mk, arL_mk, arY_mZ, arY_mB, alen_mI, fld_sfl_ne, fld_sfl_same, Option.isSome_some, pok_i, b1z, b01, z10, b1o, Int32.zero_add, vu_vu, upd_eq, upd_ne, V.r1, V.r2, V.r3, V.r4, V.r16, V.r17, V.r18, V.r19, V.r20, V.r23, V.r24, V.r25, V.r26, V.r27, V.r28, V.r29, V.r30, V.c172, V.c173, V.c174, V.c186, V.c187, V.c188, V.n5, V.n13, V.n14, V.i0, V.i5, V.i6, V.i7, V.i8, V.i9, V.i10, V.i11, V.i12, V.i13, V.i14, V.i15, V.i21, V.i22]
    rw [p233_10 (cno_MR V.mr) (Nat.le_of_ble_eq_true rfl) (sp_isStepT V A0)]
    by_cases hw : 0 ≤ w.toInt ∧ w.toInt < S
    · obtain ⟨q, hqS, rfl, hw2⟩ := l9 hw.1 hw.2 (by omega)
      obtain ⟨b, hbS, hb2⟩ := A6 p hpP
      have hw' : (0 ≤ (q : Int) ∧ (q : Int) < S) = True := eq_true (by omega)
      simp only [hw2, hw', if_true]
      simp (disch := first | omega | decide | assumption | exact Nat.le_of_ble_eq_true rfl) only [s233_0, s233_1, s233_5, s233_8, s233_9, s233_13, s233_16, s233_17, s233_18, s233_19, s233_20, s233_22, s233_23, s233_26, s233_28, s233_29, s233_30, s233_33, s233_34, s233_39, s233_42, s233_43, s233_44, s233_47, s233_49, s233_51, s233_52, s233_53, s233_54, s233_55, s233_58, s233_62, s233_65, s233_66, s233_67, s233_70, s233_72, s233_74, s233_75, s233_76, s233_77, s233_78, s233_81, s233_82, s233_85, s233_86, ow_some, true_and, and_true, and_self, if_true, if_false, not_true, not_false_eq_true, Bool.false_eq_true, eq_self, Option.toList, List.cons_append, List.nil_append, ix_in, ix_cl, lt_in, lt_cl, lt_add, ix_one, vu_eq, vu_ne, arI_mk, arL_mk, arY_mZ, arY_mB, alen_mI, fld_sfl_ne, fld_sfl_same, Option.isSome_some, pok_i, b1z, b01, z10, b1o, Int32.zero_add, vu_vu, upd_eq, upd_ne, V.r1, V.r2, V.r3, V.r4, V.r16, V.r17, V.r18, V.r19, V.r20, V.r23, V.r24, V.r25, V.r26, V.r27, V.r28, V.r29, V.r30, V.c172, V.c173, V.c174, V.c186, V.c187, V.c188, V.n5, V.n13, V.n14, V.i0, V.i5, V.i6, V.i7, V.i8, V.i9, V.i10, V.i11, V.i12, V.i13, V.i14, V.i15, V.i21, V.i22, hb2, nI_6432]
      by_cases h54 : s.1 54 = 1
      · simp only [h54, true_or, if_true, and_self]
      · simp only [h54, false_or, if_false]
        rw [p233_36 (cno_MR V.mr) (Nat.le_of_ble_eq_true rfl) (sp_isThere V.mr V.c172 hT hT2 (show p < 9 by omega))]
        simp (disch := first | omega | decide | assumption | exact Nat.le_of_ble_eq_true rfl) only [s233_0, s233_1, s233_5, s233_8, s233_9, s233_13, s233_16, s233_17, s233_18, s233_19, s233_20, s233_22, s233_23, s233_26, s233_28, s233_29, s233_30, s233_33, s233_34, s233_39, s233_42, s233_43, s233_44, s233_47, s233_49, s233_51, s233_52, s233_53, s233_54, s233_55, s233_58, s233_62, s233_65, s233_66, s233_67, s233_70, s233_72, s233_74, s233_75, s233_76, s233_77, s233_78, s233_81, s233_82, s233_85, s233_86, ow_some, true_and, and_true, and_self, if_true, if_false, not_true, not_false_eq_true, Bool.false_eq_true, eq_self, Option.toList, List.cons_append, List.nil_append, ix_in, ix_cl, lt_in, lt_cl, lt_add, ix_one, vu_eq, vu_ne, arI_mk, arL_mk, arY_mZ, arY_mB, alen_mI, fld_sfl_ne, fld_sfl_same, Option.isSome_some, pok_i, b1z, b01, z10, b1o, Int32.zero_add, vu_vu, upd_eq, upd_ne, V.r1, V.r2, V.r3, V.r4, V.r16, V.r17, V.r18, V.r19, V.r20, V.r23, V.r24, V.r25, V.r26, V.r27, V.r28, V.r29, V.r30, V.c172, V.c173, V.c174, V.c186, V.c187, V.c188, V.n5, V.n13, V.n14, V.i0, V.i5, V.i6, V.i7, V.i8, V.i9, V.i10, V.i11, V.i12, V.i13, V.i14, V.i15, V.i21, V.i22, hb2, nI_6432]
        by_cases hb : T.testBit p = true
        · have ht := mv_t q (by omega) b (by omega)
          simp only [hb, not_true, if_false, false_or]
          rw [p233_59 (Nat.le_of_ble_eq_true rfl) sp_within]
          simp (disch := first | omega | decide | assumption | exact Nat.le_of_ble_eq_true rfl) only [s233_0, s233_1, s233_5, s233_8, s233_9, s233_13, s233_16, s233_17, s233_18, s233_19, s233_20, s233_22, s233_23, s233_26, s233_28, s233_29, s233_30, s233_33, s233_34, s233_39, s233_42, s233_43, s233_44, s233_47, s233_49, s233_51, s233_52, s233_53, s233_54, s233_55, s233_58, s233_62, s233_65, s233_66, s233_67, s233_70, s233_72, s233_74, s233_75, s233_76, s233_77, s233_78, s233_81, s233_82, s233_85, s233_86, ow_some, true_and, and_true, and_self, if_true, if_false, not_true, not_false_eq_true, Bool.false_eq_true, eq_self, Option.toList, List.cons_append, List.nil_append, ix_in, ix_cl, lt_in, lt_cl, lt_add, ix_one, vu_eq, vu_ne, arI_mk, arL_mk, arY_mZ, arY_mB, alen_mI, fld_sfl_ne, fld_sfl_same, Option.isSome_some, pok_i, b1z, b01, z10, b1o, Int32.zero_add, vu_vu, upd_eq, upd_ne, V.r1, V.r2, V.r3, V.r4, V.r16, V.r17, V.r18, V.r19, V.r20, V.r23, V.r24, V.r25, V.r26, V.r27, V.r28, V.r29, V.r30, V.c172, V.c173, V.c174, V.c186, V.c187, V.c188, V.n5, V.n13, V.n14, V.i0, V.i5, V.i6, V.i7, V.i8, V.i9, V.i10, V.i11, V.i12, V.i13, V.i14, V.i15, V.i21, V.i22, hb2, nI_6432]
          simp only [← ht]
          by_cases g1 : -1 ≤ (nI q).toInt64 - (nI b).toInt64 ∧ (nI q).toInt64 - (nI b).toInt64 ≤ 1
          · by_cases g2 : lg_cmp (nI q).toInt64 (nI b).toInt64 = 0 <;> simp [g1, g2]
          · simp only [g1, not_false_eq_true, if_true, false_and, and_self]
        · simp only [hb, not_false_eq_true, if_true, true_or, and_self, Bool.false_eq_true]
    · simp only [hw, if_false, false_and, and_false]
      simp (disch := first | omega | decide | assumption | exact Nat.le_of_ble_eq_true rfl) only [s233_0, s233_1, s233_5, s233_8, s233_9, s233_13, s233_16, s233_17, s233_18, s233_19, s233_20, s233_22, s233_23, s233_26, s233_28, s233_29, s233_30, s233_33, s233_34, s233_39, s233_42, s233_43, s233_44, s233_47, s233_49, s233_51, s233_52, s233_53, s233_54, s233_55, s233_58, s233_62, s233_65, s233_66, s233_67, s233_70, s233_72, s233_74, s233_75, s233_76, s233_77, s233_78, s233_81, s233_82, s233_85, s233_86, ow_some, true_and, and_true, and_self, if_true, if_false, not_true, not_false_eq_true, Bool.false_eq_true, eq_self, Option.toList, List.cons_append, List.nil_append, ix_in, ix_cl, lt_in, lt_cl, lt_add, ix_one, vu_eq, vu_ne, arI_mk, arL_mk, arY_mZ, arY_mB, alen_mI, fld_sfl_ne, fld_sfl_same, Option.isSome_some, pok_i, b1z, b01, z10, b1o, Int32.zero_add, vu_vu, upd_eq, upd_ne, V.r1, V.r2, V.r3, V.r4, V.r16, V.r17, V.r18, V.r19, V.r20, V.r23, V.r24, V.r25, V.r26, V.r27, V.r28, V.r29, V.r30, V.c172, V.c173, V.c174, V.c186, V.c187, V.c188, V.n5, V.n13, V.n14, V.i0, V.i5, V.i6, V.i7, V.i8, V.i9, V.i10, V.i11, V.i12, V.i13, V.i14, V.i15, V.i21, V.i22]
  · simp only [hp, if_false, false_and]
    simp (disch := first | omega | decide | assumption | exact Nat.le_of_ble_eq_true rfl) only [s233_0, s233_1, s233_5, s233_8, s233_9, s233_13, s233_16, s233_17, s233_18, s233_19, s233_20, s233_22, s233_23, s233_26, s233_28, s233_29, s233_30, s233_33, s233_34, s233_39, s233_42, s233_43, s233_44, s233_47, s233_49, s233_51, s233_52, s233_53, s233_54, s233_55, s233_58, s233_62, s233_65, s233_66, s233_67, s233_70, s233_72, s233_74, s233_75, s233_76, s233_77, s233_78, s233_81, s233_82, s233_85, s233_86, ow_some, true_and, and_true, and_self, if_true, if_false, not_true, not_false_eq_true, Bool.false_eq_true, eq_self, Option.toList, List.cons_append, List.nil_append, ix_in, ix_cl, lt_in, lt_cl, lt_add, ix_one, vu_eq, vu_ne, arI_mk, arL_mk, arY_mZ, arY_mB, alen_mI, fld_sfl_ne, fld_sfl_same, Option.isSome_some, pok_i, b1z, b01, z10, b1o, Int32.zero_add, vu_vu, upd_eq, upd_ne, V.r1, V.r2, V.r3, V.r4, V.r16, V.r17, V.r18, V.r19, V.r20, V.r23, V.r24, V.r25, V.r26, V.r27, V.r28, V.r29, V.r30, V.c172, V.c173, V.c174, V.c186, V.c187, V.c188, V.n5, V.n13, V.n14, V.i0, V.i5, V.i6, V.i7, V.i8, V.i9, V.i10, V.i11, V.i12, V.i13, V.i14, V.i15, V.i21, V.i22]
/-- why step k can't be propped -/
def w_prop (all : Nat → Int32) (S : Nat) (w : Int) : Int32 := if 0 ≤ w ∧ w < S then (if all 54 = 1 ∨ m_sum all 84 S 0 0 = 99 then 2 else 0) else 1
theorem sp_whyProp {X : Nat × (Nat → Int32)} {d N K : Nat} {f : Nat → e_C} {s : m_T} {S P : Nat} {w : Int64} {y : UInt64} (V : MV f s) (A : AL s.1 S P) : PU X (d + 3) 236 [.ref 171, .long w, .double y] f N K (some (.int (w_prop s.1 S w.toInt))) := by
  have A0 := A
  obtain ⟨A1, A2, A3, A4, A5, A6, A7, A8⟩ := A
  unfold PU w_prop
  simp (disch := first | omega | decide | assumption | exact Nat.le_of_ble_eq_true rfl) only [s236_0, s236_1, ow_some, true_and, and_true, and_self, if_true, if_false, not_true, not_false_eq_true, Bool.false_eq_true, eq_self, Option.toList, List.cons_append, List.nil_append, ix_in, ix_cl, lt_in, lt_cl, lt_add, ix_one, vu_eq, vu_ne, arI_mk, arL_mk, arY_mZ, arY_mB, alen_mI, fld_sfl_ne, fld_sfl_same, Option.isSome_some, pok_i, b1z, b01, z10, b1o, Int32.zero_add, vu_vu, upd_eq, upd_ne, V.r1, V.r2, V.r3, V.r4, V.r16, V.r17, V.r18, V.r19, V.r20, V.r23, V.r24, V.r25, V.r26, V.r27, V.r28, V.r29, V.r30, V.c172, V.c173, V.c174, V.c186, V.c187, V.c188, V.n5, V.n13, V.n14, V.i0, V.i5, V.i6, V.i7, V.i8, V.i9, V.i10, V.i11, V.i12, V.i13, V.i14, V.i15, V.i21, V.i22]
  rw [p236_2 (cno_MR V.mr) (Nat.le_of_ble_eq_true rfl) (sp_isStepT V A0)]
  by_cases hw : 0 ≤ w.toInt ∧ w.toInt < S
  · simp only [hw, if_true, and_self]
    simp (disch := first | omega | decide | assumption | exact Nat.le_of_ble_eq_true rfl) only [s236_0, s236_1, s236_5, s236_8, s236_9, s236_12, s236_13, s236_16, s236_18, s236_19, s236_20, s236_23, s236_27, s236_29, s236_32, s236_33, s236_36, s236_37, ow_some, true_and, and_true, and_self, if_true, if_false, not_true, not_false_eq_true, Bool.false_eq_true, eq_self, Option.toList, List.cons_append, List.nil_append, ix_in, ix_cl, lt_in, lt_cl, lt_add, ix_one, vu_eq, vu_ne, arI_mk, arL_mk, arY_mZ, arY_mB, alen_mI, fld_sfl_ne, fld_sfl_same, Option.isSome_some, pok_i, b1z, b01, z10, b1o, Int32.zero_add, vu_vu, upd_eq, upd_ne, V.r1, V.r2, V.r3, V.r4, V.r16, V.r17, V.r18, V.r19, V.r20, V.r23, V.r24, V.r25, V.r26, V.r27, V.r28, V.r29, V.r30, V.c172, V.c173, V.c174, V.c186, V.c187, V.c188, V.n5, V.n13, V.n14, V.i0, V.i5, V.i6, V.i7, V.i8, V.i9, V.i10, V.i11, V.i12, V.i13, V.i14, V.i15, V.i21, V.i22]
    by_cases h54 : s.1 54 = 1
    · simp only [h54, true_or, if_true, and_self]
    · simp only [h54, false_or, if_false]
      rw [p236_24 (cno_MR V.mr) (Nat.le_of_ble_eq_true rfl) (sp_propsAll V.mr V.c172 A1 A3)]
      simp (disch := first | omega | decide | assumption | exact Nat.le_of_ble_eq_true rfl) only [s236_0, s236_1, s236_5, s236_8, s236_9, s236_12, s236_13, s236_16, s236_18, s236_19, s236_20, s236_23, s236_27, s236_29, s236_32, s236_33, s236_36, s236_37, ow_some, true_and, and_true, and_self, if_true, if_false, not_true, not_false_eq_true, Bool.false_eq_true, eq_self, Option.toList, List.cons_append, List.nil_append, ix_in, ix_cl, lt_in, lt_cl, lt_add, ix_one, vu_eq, vu_ne, arI_mk, arL_mk, arY_mZ, arY_mB, alen_mI, fld_sfl_ne, fld_sfl_same, Option.isSome_some, pok_i, b1z, b01, z10, b1o, Int32.zero_add, vu_vu, upd_eq, upd_ne, V.r1, V.r2, V.r3, V.r4, V.r16, V.r17, V.r18, V.r19, V.r20, V.r23, V.r24, V.r25, V.r26, V.r27, V.r28, V.r29, V.r30, V.c172, V.c173, V.c174, V.c186, V.c187, V.c188, V.n5, V.n13, V.n14, V.i0, V.i5, V.i6, V.i7, V.i8, V.i9, V.i10, V.i11, V.i12, V.i13, V.i14, V.i15, V.i21, V.i22]
      by_cases h9 : m_sum s.1 84 S 0 0 = 99 <;> simp [h9]
  · simp only [hw, if_false]
    simp (disch := first | omega | decide | assumption | exact Nat.le_of_ble_eq_true rfl) only [s236_0, s236_1, s236_5, s236_8, s236_9, s236_12, s236_13, s236_16, s236_18, s236_19, s236_20, s236_23, s236_27, s236_29, s236_32, s236_33, s236_36, s236_37, ow_some, true_and, and_true, and_self, if_true, if_false, not_true, not_false_eq_true, Bool.false_eq_true, eq_self, Option.toList, List.cons_append, List.nil_append, ix_in, ix_cl, lt_in, lt_cl, lt_add, ix_one, vu_eq, vu_ne, arI_mk, arL_mk, arY_mZ, arY_mB, alen_mI, fld_sfl_ne, fld_sfl_same, Option.isSome_some, pok_i, b1z, b01, z10, b1o, Int32.zero_add, vu_vu, upd_eq, upd_ne, V.r1, V.r2, V.r3, V.r4, V.r16, V.r17, V.r18, V.r19, V.r20, V.r23, V.r24, V.r25, V.r26, V.r27, V.r28, V.r29, V.r30, V.c172, V.c173, V.c174, V.c186, V.c187, V.c188, V.n5, V.n13, V.n14, V.i0, V.i5, V.i6, V.i7, V.i8, V.i9, V.i10, V.i11, V.i12, V.i13, V.i14, V.i15, V.i21, V.i22]
theorem sp_noTray {X : Nat × (Nat → Int32)} {d N K : Nat} {f : Nat → e_C} {s : m_T} {t : Int32} (V : MV f s) : PU X (d + 1) 243 [.ref 171, .int t] f N K (some (.int (if 0 ≤ t ∧ t ≤ 3 then (if s.2.2.2.2.1 t.toNatClampNeg = -1 then -6 else 0) else -2))) := by
  unfold PU
  simp (disch := first | omega | decide | assumption | exact Nat.le_of_ble_eq_true rfl) only [s243_0, s243_1, s243_2, s243_3, s243_9, s243_12, s243_14, s243_17, s243_18, s243_21, s243_22, s243_23, s243_24, s243_27, s243_29, s243_32, s243_33, ow_some, true_and, and_true, and_self, if_true, if_false, not_true, not_false_eq_true, Bool.false_eq_true, eq_self, Option.toList, List.cons_append, List.nil_append, ix_in, ix_cl, lt_in, lt_cl, lt_add, ix_one, vu_eq, vu_ne, arI_mk, arL_mk, arY_mZ, arY_mB, alen_mI, fld_sfl_ne, fld_sfl_same, Option.isSome_some, pok_i, b1z, b01, z10, b1o, Int32.zero_add, vu_vu, upd_eq, upd_ne, V.r1, V.r2, V.r3, V.r4, V.r16, V.r17, V.r18, V.r19, V.r20, V.r23, V.r24, V.r25, V.r26, V.r27, V.r28, V.r29, V.r30, V.c172, V.c173, V.c174, V.c186, V.c187, V.c188, V.n5, V.n13, V.n14, V.i0, V.i5, V.i6, V.i7, V.i8, V.i9, V.i10, V.i11, V.i12, V.i13, V.i14, V.i15, V.i21, V.i22]
  rw [p243_6 (Nat.le_of_ble_eq_true rfl) sp_within]
  have e : (0 ≤ t.toInt64 ∧ t.toInt64 ≤ 3) = (0 ≤ t ∧ t ≤ 3) := by
    apply propext
    rw [Int64.le_iff_toInt_le, Int64.le_iff_toInt_le, Int32.le_iff_toInt_le, Int32.le_iff_toInt_le, Int32.toInt_toInt64]
    exact Iff.rfl
  simp only [e]
  by_cases h : 0 ≤ t ∧ t ≤ 3
  · obtain ⟨j, hj, rfl⟩ : ∃ j, j < 4 ∧ t = nI j := by
      obtain ⟨h1, h2⟩ := h
      rw [Int32.le_iff_toInt_le] at h1 h2
      have h3 : (0 : Int32).toInt = 0 := by decide
      have h4 : (3 : Int32).toInt = 3 := by decide
      rw [h3] at h1
      rw [h4] at h2
      refine ⟨t.toInt.toNat, by omega, Int32.toInt_inj.mp ?_⟩
      rw [nI_toInt (by omega)]; omega
    simp only [h, if_true, and_self]
    simp (disch := first | omega | decide | assumption | exact Nat.le_of_ble_eq_true rfl) only [s243_0, s243_1, s243_2, s243_3, s243_9, s243_12, s243_14, s243_17, s243_18, s243_21, s243_22, s243_23, s243_24, s243_27, s243_29, s243_32, s243_33, ow_some, true_and, and_true, and_self, if_true, if_false, not_true, not_false_eq_true, Bool.false_eq_true, eq_self, Option.toList, List.cons_append, List.nil_append, ix_in, ix_cl, lt_in, lt_cl, lt_add, ix_one, vu_eq, vu_ne, arI_mk, arL_mk, arY_mZ, arY_mB, alen_mI, fld_sfl_ne, fld_sfl_same, Option.isSome_some, pok_i, b1z, b01, z10, b1o, Int32.zero_add, vu_vu, upd_eq, upd_ne, V.r1, V.r2, V.r3, V.r4, V.r16, V.r17, V.r18, V.r19, V.r20, V.r23, V.r24, V.r25, V.r26, V.r27, V.r28, V.r29, V.r30, V.c172, V.c173, V.c174, V.c186, V.c187, V.c188, V.n5, V.n13, V.n14, V.i0, V.i5, V.i6, V.i7, V.i8, V.i9, V.i10, V.i11, V.i12, V.i13, V.i14, V.i15, V.i21, V.i22]
    by_cases h1 : s.2.2.2.2.1 j = -1 <;> simp [h1]
  · simp only [h, if_false]
    simp (disch := first | omega | decide | assumption | exact Nat.le_of_ble_eq_true rfl) only [s243_0, s243_1, s243_2, s243_3, s243_9, s243_12, s243_14, s243_17, s243_18, s243_21, s243_22, s243_23, s243_24, s243_27, s243_29, s243_32, s243_33, ow_some, true_and, and_true, and_self, if_true, if_false, not_true, not_false_eq_true, Bool.false_eq_true, eq_self, Option.toList, List.cons_append, List.nil_append, ix_in, ix_cl, lt_in, lt_cl, lt_add, ix_one, vu_eq, vu_ne, arI_mk, arL_mk, arY_mZ, arY_mB, alen_mI, fld_sfl_ne, fld_sfl_same, Option.isSome_some, pok_i, b1z, b01, z10, b1o, Int32.zero_add, vu_vu, upd_eq, upd_ne, V.r1, V.r2, V.r3, V.r4, V.r16, V.r17, V.r18, V.r19, V.r20, V.r23, V.r24, V.r25, V.r26, V.r27, V.r28, V.r29, V.r30, V.c172, V.c173, V.c174, V.c186, V.c187, V.c188, V.n5, V.n13, V.n14, V.i0, V.i5, V.i6, V.i7, V.i8, V.i9, V.i10, V.i11, V.i12, V.i13, V.i14, V.i15, V.i21, V.i22]
