/-! the class: who is served, numbers put in order -/
/-- a number put in its place among the first m -/
def insd (g g' : Nat → Int32) (m : Nat) (v : Int32) : Prop := ∃ i, i ≤ m ∧ (∀ j, j < i → g' j = g j) ∧ g' i = v ∧ (∀ j, i ≤ j → j < m → g' (j + 1) = g j) ∧ (0 < i → g (i - 1) ≤ v) ∧ ∀ j, i ≤ j → j < m → v < g j
theorem sp_insert {X : Nat × (Nat → Int32)} {d N K b L m : Nat} {f : Nat → e_C} {g : Nat → Int32} {v : Int32} {u3 : Value} (hL : L ≤ 9) (hb : arI (f b) = some (L, g)) (hm : m < L) : TT X (d + 1) 81 0 [.ref b, .int (nI m), .int v, u3] [] f N K (fun f' n' k' z => n' = N ∧ k' = K ∧ z = none ∧ SI b (b + 1) f f' ∧ ∃ g', arI (f' b) = some (L, g') ∧ insd g g' m v) := by
  have al := alen_I hb
  have hmi : mnI (nI m) (nI L - 1) = nI m := by
    obtain ⟨l, rfl⟩ : ∃ l, L = l + 1 := ⟨L - 1, by omega⟩
    have : nI (l + 1) - 1 = nI l := by rw [← ix_one]; exact Int32.add_sub_cancel _ _
    rw [this]
    unfold mnI
    rw [if_neg]
    rw [Int32.lt_iff_toInt_lt, nI_toInt (by omega), nI_toInt (by omega)]
    omega
  have main : ∀ i, i ≤ m → ∀ (e : Nat → e_C) (h : Nat → Int32), SI b (b + 1) f e → arI (e b) = some (L, h) → (∀ j, j ≤ i → h j = g j) → (∀ j, i ≤ j → j < m → h (j + 1) = g j) → (∀ j, i ≤ j → j < m → v < g j) → TH X (d + 1) 81 9 [.ref b, .int (nI m), .int v, .int (nI i)] [] e N K (fun f' n' k' z => n' = N ∧ k' = K ∧ z = none ∧ SI b (b + 1) f f' ∧ ∃ g', arI (f' b) = some (L, g') ∧ insd g g' m v) := by
    intro i
    induction i with
    | zero =>
      intro _ e h s1 hh h1 h2 h3
      unfold TH
      have hz : (nI 0 ≤ 0) = True := by decide
      have h0 : 0 < L := by omega
      simp (disch := first | omega | decide | assumption | exact Nat.le_of_ble_eq_true rfl) only [s81_9, s81_10, s81_36, s81_37, s81_38, s81_39, s81_40, ow_some, true_and, and_true, and_self, if_true, if_false, not_true, not_false_eq_true, Bool.false_eq_true, eq_self, Option.toList, List.cons_append, List.nil_append, ix_in, ix_cl, lt_in, lt_cl, lt_add, ix_one, vu_eq, vu_ne, arI_mk, arL_mk, arY_mZ, arY_mB, alen_mI, fld_sfl_ne, fld_sfl_same, Option.isSome_some, pok_i, b1z, b01, z10, b1o, Int32.zero_add, vu_vu, upd_eq, upd_ne, true_or, or_true, hz, hh]
      refine ⟨s1.tr (SI.up (by omega) (by omega)), upd h 0 v, rfl, 0, by omega, fun j hj => by omega, upd_eq, fun j _ hj => ?_, fun z => absurd z (by decide), h3⟩
      rw [upd_ne (by omega)]
      exact h2 j (by omega) hj
    | succ i ih =>
      intro him e h s1 hh h1 h2 h3
      unfold TH
      have hz : (nI (i + 1) ≤ 0) = False := eq_false (by rw [Int32.le_iff_toInt_le, nI_toInt (by omega)]; show ¬ ((i + 1 : Nat) : Int) ≤ 0; omega)
      have e1 : nI (i + 1) - 1 = nI i := by rw [← ix_one]; exact Int32.add_sub_cancel _ _
      have e2 : nI (i + 1) + Int32.ofInt (-1) = nI i := pk_m1 i
      have q1 : i < L := by omega
      have q2 : i + 1 < L := by omega
      have hi : h i = g i := h1 i (by omega)
      by_cases hc : h i ≤ v
      · have hc' : (h i ≤ v) = True := eq_true hc
        simp (disch := first | omega | decide | assumption | exact Nat.le_of_ble_eq_true rfl) only [s81_9, s81_10, s81_13, s81_14, s81_15, s81_16, s81_17, s81_18, s81_19, s81_36, s81_37, s81_38, s81_39, s81_40, ow_some, true_and, and_true, and_self, if_true, if_false, not_true, not_false_eq_true, Bool.false_eq_true, eq_self, Option.toList, List.cons_append, List.nil_append, ix_in, ix_cl, lt_in, lt_cl, lt_add, ix_one, vu_eq, vu_ne, arI_mk, arL_mk, arY_mZ, arY_mB, alen_mI, fld_sfl_ne, fld_sfl_same, Option.isSome_some, pok_i, b1z, b01, z10, b1o, Int32.zero_add, vu_vu, upd_eq, upd_ne, true_or, or_true, hz, hh, e1, hc']
        refine ⟨s1.tr (SI.up (by omega) (by omega)), upd h (i + 1) v, rfl, i + 1, him, fun j hj => ?_, upd_eq, fun j a1 hj => ?_, fun _ => ?_, h3⟩
        · rw [upd_ne (by omega)]; exact h1 j (by omega)
        · rw [upd_ne (by omega)]; exact h2 j a1 hj
        · rw [show i + 1 - 1 = i by omega, ← hi]; exact hc
      · have hc' : (h i ≤ v) = False := eq_false hc
        simp (disch := first | omega | decide | assumption | exact Nat.le_of_ble_eq_true rfl) only [s81_9, s81_10, s81_13, s81_14, s81_15, s81_16, s81_17, s81_18, s81_19, s81_22, s81_23, s81_24, s81_25, s81_26, s81_27, s81_28, s81_29, s81_30, h81_33, ow_some, true_and, and_true, and_self, if_true, if_false, not_true, not_false_eq_true, Bool.false_eq_true, eq_self, Option.toList, List.cons_append, List.nil_append, ix_in, ix_cl, lt_in, lt_cl, lt_add, ix_one, vu_eq, vu_ne, arI_mk, arL_mk, arY_mZ, arY_mB, alen_mI, fld_sfl_ne, fld_sfl_same, Option.isSome_some, pok_i, b1z, b01, z10, b1o, Int32.zero_add, vu_vu, upd_eq, upd_ne, true_or, or_true, hz, hh, e1, e2, hc']
        refine ih (by omega) _ (upd h (i + 1) (h i)) (s1.tr (SI.up (by omega) (by omega))) (by rw [vu_eq]; rfl) (fun j hj => ?_) (fun j a1 hj => ?_) (fun j a1 hj => ?_)
        · rw [upd_ne (by omega)]; exact h1 j (by omega)
        · by_cases hj2 : j = i
          · subst hj2; rw [upd_eq]; exact hi
          · rw [upd_ne (by omega)]; exact h2 j (by omega) hj
        · by_cases hj2 : j = i
          · subst hj2; rw [← hi]; exact Int32.not_le.mp hc
          · exact h3 j (by omega) hj
  simp (disch := first | omega | decide | assumption | exact Nat.le_of_ble_eq_true rfl) only [s81_0, s81_1, y81_2, s81_3, s81_4, ow_some, true_and, and_true, and_self, if_true, if_false, not_true, not_false_eq_true, Bool.false_eq_true, eq_self, Option.toList, List.cons_append, List.nil_append, ix_in, ix_cl, lt_in, lt_cl, lt_add, ix_one, vu_eq, vu_ne, arI_mk, arL_mk, arY_mZ, arY_mB, alen_mI, fld_sfl_ne, fld_sfl_same, Option.isSome_some, pok_i, b1z, b01, z10, b1o, Int32.zero_add, vu_vu, upd_eq, upd_ne, true_or, or_true, al]
  rw [p81_5 (Nat.le_of_ble_eq_true rfl) sp_min, hmi]
  simp (disch := first | omega | decide | assumption | exact Nat.le_of_ble_eq_true rfl) only [h81_8, ow_some, true_and, and_true, and_self, if_true, if_false, not_true, not_false_eq_true, Bool.false_eq_true, eq_self, Option.toList, List.cons_append, List.nil_append, ix_in, ix_cl, lt_in, lt_cl, lt_add, ix_one, vu_eq, vu_ne, arI_mk, arL_mk, arY_mZ, arY_mB, alen_mI, fld_sfl_ne, fld_sfl_same, Option.isSome_some, pok_i, b1z, b01, z10, b1o, Int32.zero_add, vu_vu, upd_eq, upd_ne, true_or, or_true]
  exact main m (Nat.le_refl m) f g SI.rf hb (fun _ _ => rfl) (fun j a1 a2 => by omega) (fun j a1 a2 => by omega)
