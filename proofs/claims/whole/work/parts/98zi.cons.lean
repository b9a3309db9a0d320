/-! constructors: plans, scenes, scales -/
theorem li7 : (7 : Int32) = nI 7 := rfl
theorem li8 : (8 : Int32) = nI 8 := rfl
theorem li9 : (9 : Int32) = nI 9 := rfl
theorem li40 : (40 : Int32) = nI 40 := rfl
theorem pok_ai {p : Nat} : (e_pok (.array .int) (.ref p) = true) = True := eq_true rfl
section CONS
variable {X : Nat × (Nat → Int32)} {d N K p q : Nat} {f : Nat → e_C}
theorem sp_sceneI (hf : f p = .inr (6, [.null, .int 0, .null, .null, .null, .null, .int 0, .int 0, .int 0, .int 0])) : TT X d 66 0 [.ref p, .ref q] [] f (p + 1) K (fun f' n' k' z => n' = p + 5 ∧ k' = K + 35 ∧ z = none ∧ SI p (p + 5) f f' ∧ ∃ w x, SV f' p q w x ∧ (∀ i, w i = 0) ∧ ∀ i k, x i k = 0) := by
  simp (disch := first | omega | decide | assumption | exact Nat.le_of_ble_eq_true rfl) only [s66_0, s66_1, s66_4, s66_5, s66_6, s66_9, s66_10, s66_14, s66_17, s66_18, s66_22, s66_25, s66_26, s66_30, s66_33, s66_34, s66_38, s66_41, ow_some, true_and, and_true, and_self, if_true, if_false, not_true, not_false_eq_true, Bool.false_eq_true, eq_self, Option.toList, List.cons_append, List.nil_append, ix_in, ix_cl, lt_in, lt_cl, lt_add, ix_one, vu_eq, vu_ne, arI_mk, arL_mk, arY_mZ, arY_mB, alen_mI, fld_sfl_ne, fld_sfl_same, Option.isSome_some, pok_i, b1z, b01, z10, b1o, Int32.zero_add, vu_vu, upd_eq, upd_ne, true_or, or_true, hf, ce6_0, cs6_0, ce6_1, cs6_1, ce6_2, cs6_2, ce6_3, cs6_3, ce6_4, cs6_4, ce6_5, cs6_5, ce6_6, cs6_6, ce6_7, cs6_7, ce6_8, cs6_8, ce6_9, cs6_9, s66_12, s66_20, s66_28, s66_36, li8, li9, pok_ai, pok_o, Nat.add_assoc, Nat.reduceAdd]
  refine ⟨fun b hb => ?_, fun _ => 0, fun _ _ => 0, ⟨fun i hi => ?_, fun r hr => ?_, ?_, ?_, ?_, ?_, ?_⟩, fun _ => rfl, fun _ _ => rfl⟩
  · rw [vu_ne (by omega), vu_ne (by omega), vu_ne (by omega), vu_ne (by omega), vu_ne (by omega), vu_ne (by omega), vu_ne (by omega), vu_ne (by omega), vu_ne (by omega)]
  · simp only [List.mem_cons, List.not_mem_nil, or_false] at hi
    rcases hi with rfl | rfl | rfl | rfl | rfl <;> (rw [vu_eq]; rfl)
  · simp only [List.mem_cons, List.not_mem_nil, or_false] at hr
    rcases hr with rfl | rfl | rfl | rfl <;> (rw [vu_eq]; rfl)
  · rw [vu_eq]; rfl
  · simp (disch := omega) only [vu_ne, vu_eq]; rfl
  · simp (disch := omega) only [vu_ne, vu_eq]; rfl
  · simp (disch := omega) only [vu_ne, vu_eq]; rfl
  · simp (disch := omega) only [vu_ne, vu_eq]; rfl
theorem sp_scalesI (hf : f p = .inr (5, [.null, .null, .null, .null])) : TT X (d + 1) 55 0 [.ref p] [] f (p + 1) K (fun f' n' k' z => n' = p + 7 ∧ k' = K + 75 ∧ z = none ∧ SI p (p + 7) f f' ∧ ∃ y, LV f' p y) := by
  simp (disch := first | omega | decide | assumption | exact Nat.le_of_ble_eq_true rfl) only [s55_0, s55_1, s55_4, s55_5, s55_8, s55_8i, ow_some, true_and, and_true, and_self, if_true, if_false, not_true, not_false_eq_true, Bool.false_eq_true, eq_self, Option.toList, List.cons_append, List.nil_append, ix_in, ix_cl, lt_in, lt_cl, lt_add, ix_one, vu_eq, vu_ne, arI_mk, arL_mk, arY_mZ, arY_mB, alen_mI, fld_sfl_ne, fld_sfl_same, Option.isSome_some, pok_i, b1z, b01, z10, b1o, Int32.zero_add, vu_vu, upd_eq, upd_ne, true_or, or_true, hf, ce5_0, cs5_0, ce5_1, cs5_1, ce5_2, cs5_2, ce5_3, cs5_3, Nat.add_assoc, Nat.reduceAdd]
  refine k55_9 (by rw [vu_eq]; rfl) (Nat.le_of_ble_eq_true rfl) (Q1 := fun f' n' k' z => n' = p + 4 ∧ k' = K + 49 ∧ z = none ∧ f' p = f p ∧ (∀ b, ¬ (p + 1 ≤ b ∧ b < p + 4) → f' b = f b) ∧ f' (p + 1) = .inr (1, [.ref (p + 2), .ref (p + 3)]) ∧ arI (f' (p + 2)) = some (7, fun _ => 0) ∧ arI (f' (p + 3)) = some (40, fun _ => 0)) ?_ ?_
  · simp (disch := first | omega | decide | assumption | exact Nat.le_of_ble_eq_true rfl) only [s12_0, s12_1, s12_4, s12_5, s12_9, s12_12, s12_13, s12_17, s12_20, ow_some, true_and, and_true, and_self, if_true, if_false, not_true, not_false_eq_true, Bool.false_eq_true, eq_self, Option.toList, List.cons_append, List.nil_append, ix_in, ix_cl, lt_in, lt_cl, lt_add, ix_one, vu_eq, vu_ne, arI_mk, arL_mk, arY_mZ, arY_mB, alen_mI, fld_sfl_ne, fld_sfl_same, Option.isSome_some, pok_i, b1z, b01, z10, b1o, Int32.zero_add, vu_vu, upd_eq, upd_ne, true_or, or_true, ce1_0, cs1_0, ce1_1, cs1_1, s12_7, s12_15, li7, li40, pok_ai, Nat.add_assoc, Nat.reduceAdd]
    intro b hb
    simp (disch := omega) only [vu_ne]
  · rintro f1 n1 k1 v1 ⟨rfl, rfl, rfl, e0, e1, e2, e3, e4⟩
    rw [hf] at e0
    have e2' := e2
    simp (disch := first | omega | decide | assumption | exact Nat.le_of_ble_eq_true rfl) only [s55_12, s55_15, s55_16, s55_20, s55_23, s55_24, s55_28, s55_31, s55_32, s55_36, s55_39, ow_some, true_and, and_true, and_self, if_true, if_false, not_true, not_false_eq_true, Bool.false_eq_true, eq_self, Option.toList, List.cons_append, List.nil_append, ix_in, ix_cl, lt_in, lt_cl, lt_add, ix_one, vu_eq, vu_ne, arI_mk, arL_mk, arY_mZ, arY_mB, alen_mI, fld_sfl_ne, fld_sfl_same, Option.isSome_some, pok_i, b1z, b01, z10, b1o, Int32.zero_add, vu_vu, upd_eq, upd_ne, true_or, or_true, e0, ce5_0, cs5_0, ce5_1, cs5_1, ce5_2, cs5_2, ce5_3, cs5_3, s55_18, s55_26, s55_34, li8, li9, pok_ai, pok_o, Nat.add_assoc, Nat.reduceAdd]
    refine ⟨fun b hb => ?_, fun i k => 0, ⟨fun r hr => ?_, fun r hr => ?_, ?_, ?_, ?_, ?_, ?_⟩⟩
    · simp (disch := omega) only [vu_ne, vu_eq]; exact e1 b (by omega)
    · simp only [List.mem_cons, List.not_mem_nil, or_false] at hr
      rcases hr with rfl | rfl | rfl | rfl <;> (rw [vu_eq]; rfl)
    · simp only [List.mem_cons, List.not_mem_nil, or_false] at hr
      simp (disch := omega) only [vu_ne, vu_eq]
      rw [e2']
      rcases hr with rfl | rfl <;> rfl
    · simp (disch := omega) only [vu_ne, vu_eq]; exact e3
    · simp (disch := omega) only [vu_ne, vu_eq]; exact e4
    · simp (disch := omega) only [vu_ne, vu_eq]; rfl
    · simp (disch := omega) only [vu_ne, vu_eq]; rfl
    · simp (disch := omega) only [vu_ne, vu_eq]; rfl
/-- a plan as it is made -/
def planI (v : Nat → Int32) (r : Nat → Nat → Int32) : Prop := (v 0 = 1 ∧ v 3 = 0 ∧ v 10 = 1 ∧ v 11 = 0 ∧ v 12 = 0 ∧ v 14 = 0 ∧ v 15 = -1 ∧ v 16 = 0 ∧ v 17 = -1 ∧ v 18 = 0) ∧ (∀ i k, i ≠ 8 → i ≠ 9 → r i k = 0) ∧ ∀ k, k < 9 → r 8 k = -1 ∧ r 9 k = -1
theorem sp_planI {C : Nat} (hC : C ≤ 65536) (hf : f p = .inr (2, [.int 0, .null, .null, .int 0, .null, .null, .null, .null, .null, .null, .int 0, .int 0, .int 0, .null, .int 0, .int 0, .int 0, .int 0, .int 0])) {u2 : Value} : TT X (d + 1) 15 0 [.ref p, .int (nI C), u2] [] f (p + 1) K (fun f' n' k' z => n' = p + 10 ∧ k' = K + 71 + C ∧ z = none ∧ SI p (p + 10) f f' ∧ ∃ v r, PV f' p v r C ∧ planI v r) := by
  simp (disch := first | omega | decide | assumption | exact Nat.le_of_ble_eq_true rfl) only [s15_0, s15_1, s15_4, s15_5, s15_6, s15_9, s15_10, s15_14, s15_17, s15_18, s15_22, s15_25, s15_26, s15_30, s15_33, s15_34, s15_38, s15_41, s15_42, s15_46, s15_49, s15_50, s15_54, s15_57, s15_58, s15_62, s15_65, s15_66, s15_70, s15_73, h15_74, ow_some, true_and, and_true, and_self, if_true, if_false, not_true, not_false_eq_true, Bool.false_eq_true, eq_self, Option.toList, List.cons_append, List.nil_append, ix_in, ix_cl, lt_in, lt_cl, lt_add, ix_one, vu_eq, vu_ne, arI_mk, arL_mk, arY_mZ, arY_mB, alen_mI, fld_sfl_ne, fld_sfl_same, Option.isSome_some, pok_i, b1z, b01, z10, b1o, Int32.zero_add, vu_vu, upd_eq, upd_ne, true_or, or_true, hf, ce2_0, cs2_0, ce2_1, cs2_1, ce2_2, cs2_2, ce2_3, cs2_3, ce2_4, cs2_4, ce2_5, cs2_5, ce2_6, cs2_6, ce2_7, cs2_7, ce2_8, cs2_8, ce2_9, cs2_9, ce2_10, cs2_10, ce2_11, cs2_11, ce2_12, cs2_12, ce2_13, cs2_13, ce2_14, cs2_14, ce2_15, cs2_15, ce2_16, cs2_16, ce2_17, cs2_17, ce2_18, cs2_18, s15_12, s15_20, s15_28, s15_36, s15_44, s15_52, s15_60, s15_68, s15_112, li8, li9, pok_ai, pok_o, Nat.add_assoc, Nat.reduceAdd]
  refine lp (fun k g (y : (Nat → Int32) × (Nat → Int32)) => SI p (p + 9) f g ∧ g p = .inr (2, [.int 1, .ref (p + 1), .ref (p + 2), .int 0, .ref (p + 3), .ref (p + 4), .ref (p + 5), .ref (p + 6), .ref (p + 7), .ref (p + 8), .int 0, .int 0, .int 0, .null, .int 0, .int 0, .int 0, .int 0, .int 0]) ∧ (arI (g (p + 1)) = some (8, fun _ => 0) ∧ arI (g (p + 2)) = some (9, fun _ => 0) ∧ arI (g (p + 3)) = some (9, fun _ => 0) ∧ arI (g (p + 4)) = some (9, fun _ => 0) ∧ arI (g (p + 5)) = some (9, fun _ => 0) ∧ arI (g (p + 6)) = some (9, fun _ => 0)) ∧ arI (g (p + 7)) = some (9, y.1) ∧ arI (g (p + 8)) = some (9, y.2) ∧ ∀ i, i < k → y.1 i = -1 ∧ y.2 i = -1) (fun k _ => [.ref p, .int (nI C), .int (nI k)]) 9 ?_ ?_ 0 _ (fun _ => 0, fun _ => 0) (by omega) ?_
  · rintro k g ⟨y1, y2⟩ hk ⟨sg, g0, ⟨g1, g2, g3, g4, g5, g6⟩, g7, g8, hy⟩ hI
    have hc : (9 ≤ k) = False := eq_false (by omega)
    simp only at g7 g8 hy
    simp (disch := first | omega | decide | assumption | exact Nat.le_of_ble_eq_true rfl) only [s15_75, s15_76, s15_78, s15_81, s15_82, s15_85, s15_86, s15_87, s15_88, s15_89, s15_92, s15_93, s15_94, s15_95, h15_98, ow_some, true_and, and_true, and_self, if_true, if_false, not_true, not_false_eq_true, Bool.false_eq_true, eq_self, Option.toList, List.cons_append, List.nil_append, ix_in, ix_cl, lt_in, lt_cl, lt_add, ix_one, vu_eq, vu_ne, arI_mk, arL_mk, arY_mZ, arY_mB, alen_mI, fld_sfl_ne, fld_sfl_same, Option.isSome_some, pok_i, b1z, b01, z10, b1o, Int32.zero_add, vu_vu, upd_eq, upd_ne, true_or, or_true, lt_le, hc, g0, ce2_0, cs2_0, ce2_1, cs2_1, ce2_2, cs2_2, ce2_3, cs2_3, ce2_4, cs2_4, ce2_5, cs2_5, ce2_6, cs2_6, ce2_7, cs2_7, ce2_8, cs2_8, ce2_9, cs2_9, ce2_10, cs2_10, ce2_11, cs2_11, ce2_12, cs2_12, ce2_13, cs2_13, ce2_14, cs2_14, ce2_15, cs2_15, ce2_16, cs2_16, ce2_17, cs2_17, ce2_18, cs2_18, g7, g8]
    refine hI _ (upd y1 k (-1), upd y2 k (-1)) ⟨fun b hb => ?_, ?_, ⟨?_, ?_, ?_, ?_, ?_, ?_⟩, ?_, ?_, fun i hi => ?_⟩
    · simp (disch := omega) only [vu_ne]; exact sg b hb
    · simp (disch := omega) only [vu_ne]; exact g0
    · simp (disch := omega) only [vu_ne]; exact g1
    · simp (disch := omega) only [vu_ne]; exact g2
    · simp (disch := omega) only [vu_ne]; exact g3
    · simp (disch := omega) only [vu_ne]; exact g4
    · simp (disch := omega) only [vu_ne]; exact g5
    · simp (disch := omega) only [vu_ne]; exact g6
    · simp (disch := omega) only [vu_ne, vu_eq]; rfl
    · simp (disch := omega) only [vu_ne, vu_eq]; rfl
    · show upd y1 k (-1) i = -1 ∧ upd y2 k (-1) i = -1
      by_cases e : i = k
      · subst e; exact ⟨upd_eq, upd_eq⟩
      · rw [upd_ne e, upd_ne e]; exact hy i (by omega)
  · rintro g ⟨y1, y2⟩ ⟨sg, g0, ⟨g1, g2, g3, g4, g5, g6⟩, g7, g8, hy⟩
    simp only at g7 g8 hy
    simp (disch := first | omega | decide | assumption | exact Nat.le_of_ble_eq_true rfl) only [s15_75, s15_76, s15_78, s15_101, s15_102, s15_103, s15_106, s15_107, s15_108, ow_some, true_and, and_true, and_self, if_true, if_false, not_true, not_false_eq_true, Bool.false_eq_true, eq_self, Option.toList, List.cons_append, List.nil_append, ix_in, ix_cl, lt_in, lt_cl, lt_add, ix_one, vu_eq, vu_ne, arI_mk, arL_mk, arY_mZ, arY_mB, alen_mI, fld_sfl_ne, fld_sfl_same, Option.isSome_some, pok_i, b1z, b01, z10, b1o, Int32.zero_add, vu_vu, upd_eq, upd_ne, true_or, or_true, lt_le, Nat.le_refl, g0, ce2_0, cs2_0, ce2_1, cs2_1, ce2_2, cs2_2, ce2_3, cs2_3, ce2_4, cs2_4, ce2_5, cs2_5, ce2_6, cs2_6, ce2_7, cs2_7, ce2_8, cs2_8, ce2_9, cs2_9, ce2_10, cs2_10, ce2_11, cs2_11, ce2_12, cs2_12, ce2_13, cs2_13, ce2_14, cs2_14, ce2_15, cs2_15, ce2_16, cs2_16, ce2_17, cs2_17, ce2_18, cs2_18, Nat.add_assoc, Nat.reduceAdd]
    rw [p15_109 (Nat.le_of_ble_eq_true rfl) sp_max]
    have em : mxI (nI C) 0 = nI C := by
      unfold mxI
      rw [if_neg]
      exact nI_pos (by omega)
    rw [em]
    simp (disch := first | omega | decide | assumption | exact Nat.le_of_ble_eq_true rfl) only [s15_114, s15_117, s15_118, s15_119, s15_122, s15_123, s15_124, s15_127, ow_some, true_and, and_true, and_self, if_true, if_false, not_true, not_false_eq_true, Bool.false_eq_true, eq_self, Option.toList, List.cons_append, List.nil_append, ix_in, ix_cl, lt_in, lt_cl, lt_add, ix_one, vu_eq, vu_ne, arI_mk, arL_mk, arY_mZ, arY_mB, alen_mI, fld_sfl_ne, fld_sfl_same, Option.isSome_some, pok_i, b1z, b01, z10, b1o, Int32.zero_add, vu_vu, upd_eq, upd_ne, true_or, or_true, g0, ce2_0, cs2_0, ce2_1, cs2_1, ce2_2, cs2_2, ce2_3, cs2_3, ce2_4, cs2_4, ce2_5, cs2_5, ce2_6, cs2_6, ce2_7, cs2_7, ce2_8, cs2_8, ce2_9, cs2_9, ce2_10, cs2_10, ce2_11, cs2_11, ce2_12, cs2_12, ce2_13, cs2_13, ce2_14, cs2_14, ce2_15, cs2_15, ce2_16, cs2_16, ce2_17, cs2_17, ce2_18, cs2_18, s15_112, pok_ai, Nat.add_assoc, Nat.reduceAdd]
    refine ⟨fun b hb => ?_, fun i => if i = 0 then 1 else if i = 10 then 1 else if i = 15 then -1 else if i = 17 then -1 else 0, fun i => if i = 8 then y1 else if i = 9 then y2 else fun _ => 0, ⟨fun i hi => ?_, fun r hr => ?_, ?_, ?_, ?_, ?_, ?_, ?_, ?_, ?_, ?_⟩, ?_⟩
    · simp (disch := omega) only [vu_ne]; exact sg b (by omega)
    · simp only [List.mem_cons, List.not_mem_nil, or_false] at hi
      rcases hi with rfl | rfl | rfl | rfl | rfl | rfl | rfl | rfl | rfl | rfl <;> (rw [vu_eq]; rfl)
    · simp only [List.mem_cons, List.not_mem_nil, or_false] at hr
      rcases hr with rfl | rfl | rfl | rfl | rfl | rfl | rfl | rfl | rfl <;> (rw [vu_eq]; rfl)
    · simp (disch := omega) only [vu_ne, vu_eq]; exact g1
    · simp (disch := omega) only [vu_ne, vu_eq]; exact g2
    · simp (disch := omega) only [vu_ne, vu_eq]; exact g3
    · simp (disch := omega) only [vu_ne, vu_eq]; exact g4
    · simp (disch := omega) only [vu_ne, vu_eq]; exact g5
    · simp (disch := omega) only [vu_ne, vu_eq]; exact g6
    · simp (disch := omega) only [vu_ne, vu_eq]; exact g7
    · simp (disch := omega) only [vu_ne, vu_eq]; exact g8
    · simp (disch := omega) only [vu_ne, vu_eq]; rfl
    · refine ⟨⟨rfl, rfl, rfl, rfl, rfl, rfl, rfl, rfl, rfl, rfl⟩, fun i k h8 h9 => ?_, fun k hk => hy k hk⟩
      show (if i = 8 then y1 else if i = 9 then y2 else fun _ => 0) k = 0
      rw [if_neg h8, if_neg h9]
  · refine ⟨fun b hb => ?_, ?_, ⟨?_, ?_, ?_, ?_, ?_, ?_⟩, ?_, ?_, fun i hi => absurd hi (by omega)⟩
    · simp (disch := omega) only [vu_ne]
    · rw [vu_eq]
    · simp (disch := omega) only [vu_ne, vu_eq]; rfl
    · simp (disch := omega) only [vu_ne, vu_eq]; rfl
    · simp (disch := omega) only [vu_ne, vu_eq]; rfl
    · simp (disch := omega) only [vu_ne, vu_eq]; rfl
    · simp (disch := omega) only [vu_ne, vu_eq]; rfl
    · simp (disch := omega) only [vu_ne, vu_eq]; rfl
    · simp (disch := omega) only [vu_ne, vu_eq]; rfl
    · simp (disch := omega) only [vu_ne, vu_eq]; rfl
end CONS
