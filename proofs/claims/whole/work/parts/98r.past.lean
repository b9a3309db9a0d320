/-! the class: what can be undone -/
theorem va_rf_s {a : Nat} : va_rf (some a) = .ref a := rfl
theorem HV.set {f : Nat → e_C} {t : Nat → Int32} (h : HV f t) {i : Nat} {z : Int32} (hi : i ∈ [1, 2, 3, 7, 8]) : HV (va_up f 0 (sfl (f 0) i (.int z))) (upd t i z) := by
  refine ⟨fun j hj => ?_, fun r hr => ?_⟩
  · rw [vu_eq]
    by_cases hji : j = i
    · subst hji
      rw [upd_eq, fld_sfl_same (by rw [h.1 j hj]; rfl)]
    · rw [upd_ne hji, fld_sfl_ne (fun e => hji e)]
      exact h.1 j hj
  · rw [vu_eq, fld_sfl_ne ?_]
    · exact h.2 r hr
    · have h2 : ∀ i ∈ [1, 2, 3, 7, 8], ∀ r ∈ [((0 : Nat), (1 : Nat)), ((4 : Nat), (12 : Nat)), ((5 : Nat), (17 : Nat)), ((6 : Nat), (22 : Nat)), ((9 : Nat), (78 : Nat)), ((10 : Nat), (89 : Nat)), ((11 : Nat), (90 : Nat)), ((12 : Nat), (99 : Nat)), ((13 : Nat), (112 : Nat)), ((14 : Nat), (119 : Nat)), ((15 : Nat), (127 : Nat)), ((16 : Nat), (136 : Nat)), ((17 : Nat), (148 : Nat)), ((18 : Nat), (159 : Nat))], r.1 ≠ i := by decide
      exact h2 i hi r hr
theorem hv_p7 {f : Nat → e_C} {t : Nat → Int32} (h : HV f t) : (fld (f 0) 11 7).isSome = true := by rw [h.v7]; rfl
theorem hv_p8 {f : Nat → e_C} {t : Nat → Int32} (h : HV f t) : (fld (f 0) 11 8).isSome = true := by rw [h.v8]; rfl
section PAST
variable {X : Nat × (Nat → Int32)} {d N K : Nat} {f f' : Nat → e_C} {t : Nat → Int32} {s : m_T} {S R P D B : Nat}
theorem sp_keepPast {j pl : Nat} {w : Nat → Int32} {x : Nat → Nat → Int32} (H : HV f t) (h7 : t 7 = nI j) (hj : j < 11) (V : SV f 12 pl w x) (h9 : w 9 = 0 ∨ w 9 = 1) (A : ∃ g, arS (f 22) = some (11, g) ∧ ∀ i, i < 11 → g i = some (23 + 5 * i)) (Q : anyS f (23 + 5 * j)) : TT X (d + 1) 124 0 [.ref 0] [] f N K (fun f' n' k' z => n' = N ∧ k' = K ∧ z = none ∧ SI (23 + 5 * j) (23 + 5 * j + 5) f f' ∧ ∃ w2 x2, SV f' (23 + 5 * j) pl w2 x2 ∧ same5 w w2 x x2) := by
  obtain ⟨g, hg, hgi⟩ := A
  obtain ⟨pl', w', x', V'⟩ := Q
  have r4 := H.r4
  have r6 := H.r6
  have v7 := H.v7
  have gj := hgi j hj
  simp (disch := first | omega | decide | assumption | exact Nat.le_of_ble_eq_true rfl) only [s124_0, s124_1, s124_4, s124_5, y124_8, s124_9, s124_10, ow_some, true_and, and_true, and_self, if_true, if_false, not_true, not_false_eq_true, Bool.false_eq_true, eq_self, Option.toList, List.cons_append, List.nil_append, ix_in, ix_cl, lt_in, lt_cl, lt_add, ix_one, vu_eq, vu_ne, arI_mk, arL_mk, arY_mZ, arY_mB, alen_mI, fld_sfl_ne, fld_sfl_same, Option.isSome_some, pok_i, b1z, b01, z10, b1o, Int32.zero_add, vu_vu, upd_eq, upd_ne, true_or, or_true, r4, r6, v7, h7, hg, gj, va_rf_s]
  refine k124_13 V'.cn (Nat.le_of_ble_eq_true rfl) (sp_copyFrom V' V (by omega) h9) ?_
  rintro f1 n1 k1 v1 ⟨rfl, rfl, rfl, s1, h⟩
  simp (disch := first | omega | decide | assumption | exact Nat.le_of_ble_eq_true rfl) only [s124_16, ow_some, true_and, and_true, and_self, if_true, if_false, not_true, not_false_eq_true, Bool.false_eq_true, eq_self, Option.toList, List.cons_append, List.nil_append, ix_in, ix_cl, lt_in, lt_cl, lt_add, ix_one, vu_eq, vu_ne, arI_mk, arL_mk, arY_mZ, arY_mB, alen_mI, fld_sfl_ne, fld_sfl_same, Option.isSome_some, pok_i, b1z, b01, z10, b1o, Int32.zero_add, vu_vu, upd_eq, upd_ne, true_or, or_true]
  exact ⟨s1, h⟩
theorem mn11 {D : Nat} (h : D ≤ 10) : mnI (nI (D + 1)) 10 = nI (min (D + 1) 10) := by
  have : D = 0 ∨ D = 1 ∨ D = 2 ∨ D = 3 ∨ D = 4 ∨ D = 5 ∨ D = 6 ∨ D = 7 ∨ D = 8 ∨ D = 9 ∨ D = 10 := by omega
  rcases this with rfl | rfl | rfl | rfl | rfl | rfl | rfl | rfl | rfl | rfl | rfl <;> decide
theorem rm11 {j : Nat} (h : j < 11) : nI (j + 1) - nI (j + 1) / 11 * 11 = nI ((j + 1) % 11) := by
  have : j = 0 ∨ j = 1 ∨ j = 2 ∨ j = 3 ∨ j = 4 ∨ j = 5 ∨ j = 6 ∨ j = 7 ∨ j = 8 ∨ j = 9 ∨ j = 10 := by omega
  rcases this with rfl | rfl | rfl | rfl | rfl | rfl | rfl | rfl | rfl | rfl | rfl <;> decide
theorem sp_did {j : Nat} {z : Int32} (H : HV f t) (h7 : t 7 = nI j) (hj : j < 11) (h8 : t 8 = nI D) (hD : D ≤ 10) : TT X (d + 1) 125 0 [.ref 0, .int z] [] f N K (fun f' n' k' v => n' = N ∧ k' = K ∧ SI 0 1 f f' ∧ HV f' (upd (upd t 7 (nI ((j + 1) % 11))) 8 (nI (min (D + 1) 10))) ∧ v = some (.int z)) := by
  have v7 := H.v7
  have e7 := rm11 hj
  have e8 := mn11 hD
  have t11 : ((11 : Int32) = 0) = False := eq_false (by decide)
  simp (disch := first | omega | decide | assumption | exact Nat.le_of_ble_eq_true rfl) only [s125_0, s125_1, s125_2, s125_5, s125_6, s125_7, s125_9, ow_some, true_and, and_true, and_self, if_true, if_false, not_true, not_false_eq_true, Bool.false_eq_true, eq_self, Option.toList, List.cons_append, List.nil_append, ix_in, ix_cl, lt_in, lt_cl, lt_add, ix_one, vu_eq, vu_ne, arI_mk, arL_mk, arY_mZ, arY_mB, alen_mI, fld_sfl_ne, fld_sfl_same, Option.isSome_some, pok_i, b1z, b01, z10, b1o, Int32.zero_add, vu_vu, upd_eq, upd_ne, true_or, or_true, v7, h7, e7, t11, ne_eq]
  have i7 := hv_p7 H
  simp (disch := first | omega | decide | assumption | exact Nat.le_of_ble_eq_true rfl) only [s125_10, ow_some, true_and, and_true, and_self, if_true, if_false, not_true, not_false_eq_true, Bool.false_eq_true, eq_self, Option.toList, List.cons_append, List.nil_append, ix_in, ix_cl, lt_in, lt_cl, lt_add, ix_one, vu_eq, vu_ne, arI_mk, arL_mk, arY_mZ, arY_mB, alen_mI, fld_sfl_ne, fld_sfl_same, Option.isSome_some, pok_i, b1z, b01, z10, b1o, Int32.zero_add, vu_vu, upd_eq, upd_ne, true_or, or_true, i7]
  have H1 := H.set (i := 7) (z := nI ((j + 1) % 11)) (by decide)
  have s1 : SI 0 1 f (va_up f 0 (sfl (f 0) 7 (.int (nI ((j + 1) % 11))))) := SI.up (by omega) (by omega)
  generalize va_up f 0 (sfl (f 0) 7 (.int (nI ((j + 1) % 11)))) = f1 at H1 s1 ⊢
  have v8 := H1.v8
  have h8' : upd t 7 (nI ((j + 1) % 11)) 8 = nI D := by rw [upd_ne (by decide)]; exact h8
  simp (disch := first | omega | decide | assumption | exact Nat.le_of_ble_eq_true rfl) only [s125_13, s125_14, s125_15, s125_18, s125_19, s125_20, ow_some, true_and, and_true, and_self, if_true, if_false, not_true, not_false_eq_true, Bool.false_eq_true, eq_self, Option.toList, List.cons_append, List.nil_append, ix_in, ix_cl, lt_in, lt_cl, lt_add, ix_one, vu_eq, vu_ne, arI_mk, arL_mk, arY_mZ, arY_mB, alen_mI, fld_sfl_ne, fld_sfl_same, Option.isSome_some, pok_i, b1z, b01, z10, b1o, Int32.zero_add, vu_vu, upd_eq, upd_ne, true_or, or_true, v8, h8', h8]
  rw [p125_22 (Nat.le_of_ble_eq_true rfl) sp_min, e8]
  have i8 := hv_p8 H1
  simp (disch := first | omega | decide | assumption | exact Nat.le_of_ble_eq_true rfl) only [s125_25, s125_28, s125_29, ow_some, true_and, and_true, and_self, if_true, if_false, not_true, not_false_eq_true, Bool.false_eq_true, eq_self, Option.toList, List.cons_append, List.nil_append, ix_in, ix_cl, lt_in, lt_cl, lt_add, ix_one, vu_eq, vu_ne, arI_mk, arL_mk, arY_mZ, arY_mB, alen_mI, fld_sfl_ne, fld_sfl_same, Option.isSome_some, pok_i, b1z, b01, z10, b1o, Int32.zero_add, vu_vu, upd_eq, upd_ne, true_or, or_true, i8]
  exact ⟨s1.tr (SI.up (by omega) (by omega)), H1.set (by decide)⟩
end PAST
