/-! the class reads couples, laws, lines -/
section RD
variable {X : Nat × (Nat → Int32)} {d N K : Nat} {f f' : Nat → e_C} {b L T t t' : Nat} {kk pp v v' tx : Nat → Int32} {wt wt' : Int32} {r r' : Nat → Nat → Int32} {c0 c : Cu} {S A R n : Nat} {fr ag : Nat → Int32}
theorem t3n : ((3 : Int32) - 1000 < 0) = True := eq_true (by decide)
theorem GE.unwed {w x : Int32} {p : Nat} (E : GE f b L kk pp T w p) {u2 : Value} : PU X (d + 2) 36 [.ref 99, .int x, u2] f N K (some (.int 0)) := by
  unfold PU
  obtain ⟨v2, r2, m2, P2, h14, hm⟩ := E.pv
  have v4 := E.v4
  have q6 := E.r6
  simp (disch := first | omega | decide | assumption | exact Nat.le_of_ble_eq_true rfl) only [s36_0, s36_1, s36_4, s36_7, s36_8, s36_9, s36_10, s36_47, s36_48, s36_49, s36_50, s36_53, s36_56, s36_57, ow_some, true_and, and_true, and_self, if_true, if_false, not_true, not_false_eq_true, Bool.false_eq_true, eq_self, Option.toList, List.cons_append, List.nil_append, ix_in, ix_cl, lt_in, lt_cl, lt_add, ix_one, vu_eq, vu_ne, arI_mk, arL_mk, arY_mZ, arY_mB, alen_mI, fld_sfl_ne, fld_sfl_same, Option.isSome_some, pok_i, b1z, b01, z10, b1o, Int32.zero_add, vu_vu, upd_eq, upd_ne, true_or, or_true, P2.v0, P2.v3, P2.v10, P2.v11, P2.v12, P2.v14, P2.v15, P2.v16, P2.v17, P2.v18, P2.r1, P2.r2, P2.r4, P2.r5, P2.r6, P2.r7, P2.r8, P2.r9, P2.r13, P2.a1, P2.a2, P2.a4, P2.a5, P2.a6, P2.a7, P2.a8, P2.a9, P2.a13, v4, q6, t3n]
  rw [p36_58 E.cn (Nat.le_of_ble_eq_true rfl) E.num]
  simp (disch := first | omega | decide | assumption | exact Nat.le_of_ble_eq_true rfl) only [s36_61, ow_some, true_and, and_true, and_self, if_true, if_false, not_true, not_false_eq_true, Bool.false_eq_true, eq_self, Option.toList, List.cons_append, List.nil_append, ix_in, ix_cl, lt_in, lt_cl, lt_add, ix_one, vu_eq, vu_ne, arI_mk, arL_mk, arY_mZ, arY_mB, alen_mI, fld_sfl_ne, fld_sfl_same, Option.isSome_some, pok_i, b1z, b01, z10, b1o, Int32.zero_add, vu_vu, upd_eq, upd_ne, true_or, or_true]
/-- one of a couple -/
theorem sp_unwed (Z : TKS tx L c0 T kk pp) (G : GA f b L kk pp T tx c0 t c wt v r) (P : PN S R n fr ag v r) (hR : fr 52 = nI R) {m : Int32} {not : Option Nat} (hm : (not = none ∧ m = -1) ∨ ∃ q, q < R ∧ not = some q ∧ m = nI q) {u2 : Value} : TT X (d + 2) 36 0 [.ref 99, .int m, u2] [] f N K (fun f' n' k' z => n' = N ∧ k' = K ∧ SJ b f f' ∧ (l_one c fr R not = none → z = some (.int c.2.2.2) ∧ (∃ q, q < R ∧ c.2.2.2 = nI q) ∧ GA f' b L kk pp T tx c0 (t + 1) (nx tx L c) wt v r) ∧ ∀ w p, l_one c fr R not = some (w, p) → (∃ y, z = some (.int y)) ∧ GE f' b L kk pp T w p) := by
  have hkv := G.kv Z
  have k4 := G.k4 Z
  have q6 := G.1.r6
  have P1 := G.1.pv
  have hR9 := P.1.2
  have e3 : v 3 = nI R := P.2.1.2.1.trans hR
  have rr1 := r_1 R (by omega)
  have i0 := i999
  -- the number, where there is no fault yet
  have num : ¬ (c.2.2.1 = 23 ∧ (not = some c.2.2.2.toInt.toNat ∨ wdB fr R c.2.2.2.toInt.toNat = true)) → ∀ a2, TT X (d + 2) 36 47 [.ref 99, .int m, a2] [] f N K (fun f' n' k' z => n' = N ∧ k' = K ∧ SJ b f f' ∧ (l_one c fr R not = none → z = some (.int c.2.2.2) ∧ (∃ q, q < R ∧ c.2.2.2 = nI q) ∧ GA f' b L kk pp T tx c0 (t + 1) (nx tx L c) wt v r) ∧ ∀ w p, l_one c fr R not = some (w, p) → (∃ y, z = some (.int y)) ∧ GE f' b L kk pp T w p) := by
    intro hno a2
    simp (disch := first | omega | decide | assumption | exact Nat.le_of_ble_eq_true rfl) only [s36_47, s36_48, s36_49, s36_50, s36_53, s36_56, s36_57, ow_some, true_and, and_true, and_self, if_true, if_false, not_true, not_false_eq_true, Bool.false_eq_true, eq_self, Option.toList, List.cons_append, List.nil_append, ix_in, ix_cl, lt_in, lt_cl, lt_add, ix_one, vu_eq, vu_ne, arI_mk, arL_mk, arY_mZ, arY_mB, alen_mI, fld_sfl_ne, fld_sfl_same, Option.isSome_some, pok_i, b1z, b01, z10, b1o, Int32.zero_add, vu_vu, upd_eq, upd_ne, true_or, or_true, P1.v0, P1.v3, P1.v10, P1.v11, P1.v12, P1.v14, P1.v15, P1.v16, P1.v17, P1.v18, P1.r1, P1.r2, P1.r4, P1.r5, P1.r6, P1.r7, P1.r8, P1.r9, P1.r13, P1.a1, P1.a2, P1.a4, P1.a5, P1.a6, P1.a7, P1.a8, P1.a9, P1.a13, q6, e3]
    unfold l_one
    rw [if_neg hno]
    by_cases t1 : tko c 0 ((R : Int) - 1) = true
    · rw [if_pos t1]
      refine k36_58 G.1.cn (Nat.le_of_ble_eq_true rfl) (G.num Z (lo := 0) (hi := nI R - 1) (by rw [i0.2.1, rr1]; exact t1)) ?_
      rintro f1 n1 k1 v1 ⟨rfl, rfl, rfl, s1, G1⟩
      simp (disch := first | omega | decide | assumption | exact Nat.le_of_ble_eq_true rfl) only [s36_61, ow_some, true_and, and_true, and_self, if_true, if_false, not_true, not_false_eq_true, Bool.false_eq_true, eq_self, Option.toList, List.cons_append, List.nil_append, ix_in, ix_cl, lt_in, lt_cl, lt_add, ix_one, vu_eq, vu_ne, arI_mk, arL_mk, arY_mZ, arY_mB, alen_mI, fld_sfl_ne, fld_sfl_same, Option.isSome_some, pok_i, b1z, b01, z10, b1o, Int32.zero_add, vu_vu, upd_eq, upd_ne, true_or, or_true]
      obtain ⟨t1a, t1b, t1c⟩ := tko_iff.mp t1
      obtain ⟨q, hq, hq1, hq2⟩ := i9 (v := c.2.2.2) (N := 9) t1b (by omega) (by omega)
      exact ⟨s1, fun _ => ⟨⟨q, by omega, hq1⟩, G1⟩, fun w p h => (by cases h)⟩
    · rw [if_neg t1]
      refine k36_58 G.1.cn (Nat.le_of_ble_eq_true rfl) (G.numN Z (lo := 0) (hi := nI R - 1) (by rw [i0.2.1, rr1]; exact t1)) ?_
      rintro f1 n1 k1 v1 ⟨rfl, rfl, rfl, s1, E1⟩
      simp (disch := first | omega | decide | assumption | exact Nat.le_of_ble_eq_true rfl) only [s36_61, ow_some, true_and, and_true, and_self, if_true, if_false, not_true, not_false_eq_true, Bool.false_eq_true, eq_self, Option.toList, List.cons_append, List.nil_append, ix_in, ix_cl, lt_in, lt_cl, lt_add, ix_one, vu_eq, vu_ne, arI_mk, arL_mk, arY_mZ, arY_mB, alen_mI, fld_sfl_ne, fld_sfl_same, Option.isSome_some, pok_i, b1z, b01, z10, b1o, Int32.zero_add, vu_vu, upd_eq, upd_ne, true_or, or_true]
      exact ⟨s1, fun h => (by cases h), fun w p h => (by cases h; exact ⟨⟨_, rfl⟩, E1⟩)⟩
  by_cases h23 : c.2.2.1 = 23
  · obtain ⟨q, q1, q2, q3⟩ := ck_num hkv.1 h23
    have et := ck_told hkv.1 h23
    rw [q2] at et
    have hq2 : c.2.2.2.toInt.toNat = q := by rw [q2, nI_toInt (by omega), Int.toNat_natCast]
    have e0 : (nI q < 0) = False := by rw [tl_lt (c := 0) (by decide) (by omega)]; exact eq_false (by omega)
    by_cases hqR : q < R
    · have c1 : (R ≤ q) = False := eq_false (by omega)
      have h9q := (P.2.2.2.2.2.2.2.1 q (by omega)).2.2
      -- wed, or the same
      have bad : (not = some q ∨ wdB fr R q = true) → ∀ a2, TT X (d + 2) 36 42 [.ref 99, .int m, a2] [] f N K (fun f' n' k' z => n' = N ∧ k' = K ∧ SJ b f f' ∧ (l_one c fr R not = none → z = some (.int c.2.2.2) ∧ (∃ q, q < R ∧ c.2.2.2 = nI q) ∧ GA f' b L kk pp T tx c0 (t + 1) (nx tx L c) wt v r) ∧ ∀ w p, l_one c fr R not = some (w, p) → (∃ y, z = some (.int y)) ∧ GE f' b L kk pp T w p) := by
        intro hb a2
        have ho : l_one c fr R not = some (3, c.1) := by unfold l_one; rw [if_pos ⟨h23, by rw [hq2]; exact hb⟩]
        simp (disch := first | omega | decide | assumption | exact Nat.le_of_ble_eq_true rfl) only [s36_42, s36_43, ow_some, true_and, and_true, and_self, if_true, if_false, not_true, not_false_eq_true, Bool.false_eq_true, eq_self, Option.toList, List.cons_append, List.nil_append, ix_in, ix_cl, lt_in, lt_cl, lt_add, ix_one, vu_eq, vu_ne, arI_mk, arL_mk, arY_mZ, arY_mB, alen_mI, fld_sfl_ne, fld_sfl_same, Option.isSome_some, pok_i, b1z, b01, z10, b1o, Int32.zero_add, vu_vu, upd_eq, upd_ne, true_or, or_true]
        refine k36_44 G.1.cn (Nat.le_of_ble_eq_true rfl) (G.fail Z (w := 3) (by decide)) ?_
        rintro f1 n1 k1 v1 ⟨rfl, rfl, rfl, s1, E1⟩
        obtain ⟨v2, r2, m2, P2, h14, hm2⟩ := E1.pv
        have q61 := E1.r6
        simp (disch := first | omega | decide | assumption | exact Nat.le_of_ble_eq_true rfl) only [s36_47, s36_48, s36_49, s36_50, s36_53, s36_56, s36_57, ow_some, true_and, and_true, and_self, if_true, if_false, not_true, not_false_eq_true, Bool.false_eq_true, eq_self, Option.toList, List.cons_append, List.nil_append, ix_in, ix_cl, lt_in, lt_cl, lt_add, ix_one, vu_eq, vu_ne, arI_mk, arL_mk, arY_mZ, arY_mB, alen_mI, fld_sfl_ne, fld_sfl_same, Option.isSome_some, pok_i, b1z, b01, z10, b1o, Int32.zero_add, vu_vu, upd_eq, upd_ne, true_or, or_true, P2.v0, P2.v3, P2.v10, P2.v11, P2.v12, P2.v14, P2.v15, P2.v16, P2.v17, P2.v18, P2.r1, P2.r2, P2.r4, P2.r5, P2.r6, P2.r7, P2.r8, P2.r9, P2.r13, P2.a1, P2.a2, P2.a4, P2.a5, P2.a6, P2.a7, P2.a8, P2.a9, P2.a13, q61]
        rw [p36_58 E1.cn (Nat.le_of_ble_eq_true rfl) E1.num]
        simp (disch := first | omega | decide | assumption | exact Nat.le_of_ble_eq_true rfl) only [s36_61, ow_some, true_and, and_true, and_self, if_true, if_false, not_true, not_false_eq_true, Bool.false_eq_true, eq_self, Option.toList, List.cons_append, List.nil_append, ix_in, ix_cl, lt_in, lt_cl, lt_add, ix_one, vu_eq, vu_ne, arI_mk, arL_mk, arY_mZ, arY_mB, alen_mI, fld_sfl_ne, fld_sfl_same, Option.isSome_some, pok_i, b1z, b01, z10, b1o, Int32.zero_add, vu_vu, upd_eq, upd_ne, true_or, or_true]
        refine ⟨s1, fun h => (by rw [ho] at h; cases h), fun w p h => ?_⟩
        rw [ho] at h
        cases h
        have ff : ft 3 c.2.2.1 = 3 := by rw [h23]; rfl
        rw [ff] at E1
        exact ⟨⟨_, rfl⟩, E1⟩
      by_cases hs : nI q = m
      · have hs' : (nI q = m) = True := eq_true hs
        have hn : not = some q := by
          rcases hm with ⟨-, z⟩ | ⟨q', z1, z2, z3⟩
          · rw [z] at hs
            have := congrArg Int32.toInt hs
            rw [nI_toInt (by omega)] at this
            have em1 : (-1 : Int32).toInt = -1 := by decide
            omega
          · rw [z3] at hs
            have := congrArg Int32.toInt hs
            rw [nI_toInt (by omega), nI_toInt (by omega)] at this
            rw [z2]; exact congrArg some (by omega)
        simp (disch := first | omega | decide | assumption | exact Nat.le_of_ble_eq_true rfl) only [s36_0, s36_1, s36_4, s36_7, s36_8, s36_9, s36_10, s36_13, s36_14, s36_15, s36_18, s36_21, s36_24, s36_25, s36_26, ow_some, true_and, and_true, and_self, if_true, if_false, not_true, not_false_eq_true, Bool.false_eq_true, eq_self, Option.toList, List.cons_append, List.nil_append, ix_in, ix_cl, lt_in, lt_cl, lt_add, ix_one, vu_eq, vu_ne, arI_mk, arL_mk, arY_mZ, arY_mB, alen_mI, fld_sfl_ne, fld_sfl_same, Option.isSome_some, pok_i, b1z, b01, z10, b1o, Int32.zero_add, vu_vu, upd_eq, upd_ne, true_or, or_true, P1.v0, P1.v3, P1.v10, P1.v11, P1.v12, P1.v14, P1.v15, P1.v16, P1.v17, P1.v18, P1.r1, P1.r2, P1.r4, P1.r5, P1.r6, P1.r7, P1.r8, P1.r9, P1.r13, P1.a1, P1.a2, P1.a4, P1.a5, P1.a6, P1.a7, P1.a8, P1.a9, P1.a13, k4, q6, e3, et, e0, ix_le, c1, hs', ne_eq]
        exact bad (Or.inl hn) _
      · have hs' : (nI q = m) = False := eq_false hs
        by_cases hw : r 9 q = -1
        · have hw' : (r 9 q = -1) = True := eq_true hw
          simp (disch := first | omega | decide | assumption | exact Nat.le_of_ble_eq_true rfl) only [s36_0, s36_1, s36_4, s36_7, s36_8, s36_9, s36_10, s36_13, s36_14, s36_15, s36_18, s36_21, s36_24, s36_25, s36_26, s36_29, s36_30, s36_33, s36_36, s36_37, s36_38, s36_39, ow_some, true_and, and_true, and_self, if_true, if_false, not_true, not_false_eq_true, Bool.false_eq_true, eq_self, Option.toList, List.cons_append, List.nil_append, ix_in, ix_cl, lt_in, lt_cl, lt_add, ix_one, vu_eq, vu_ne, arI_mk, arL_mk, arY_mZ, arY_mB, alen_mI, fld_sfl_ne, fld_sfl_same, Option.isSome_some, pok_i, b1z, b01, z10, b1o, Int32.zero_add, vu_vu, upd_eq, upd_ne, true_or, or_true, P1.v0, P1.v3, P1.v10, P1.v11, P1.v12, P1.v14, P1.v15, P1.v16, P1.v17, P1.v18, P1.r1, P1.r2, P1.r4, P1.r5, P1.r6, P1.r7, P1.r8, P1.r9, P1.r13, P1.a1, P1.a2, P1.a4, P1.a5, P1.a6, P1.a7, P1.a8, P1.a9, P1.a13, k4, q6, e3, et, e0, ix_le, c1, hs', hw', ne_eq]
          refine num ?_ _
          rintro ⟨-, z | z⟩
          · rw [hq2] at z
            rcases hm with ⟨y, -⟩ | ⟨q', z1, z2, z3⟩
            · rw [y] at z; cases z
            · rw [z2] at z; cases z; exact hs z3.symm
          · rw [hq2] at z
            unfold wdB at z
            rw [← h9q, hw] at z
            simp at z
        · have hw' : (r 9 q = -1) = False := eq_false hw
          simp (disch := first | omega | decide | assumption | exact Nat.le_of_ble_eq_true rfl) only [s36_0, s36_1, s36_4, s36_7, s36_8, s36_9, s36_10, s36_13, s36_14, s36_15, s36_18, s36_21, s36_24, s36_25, s36_26, s36_29, s36_30, s36_33, s36_36, s36_37, s36_38, s36_39, ow_some, true_and, and_true, and_self, if_true, if_false, not_true, not_false_eq_true, Bool.false_eq_true, eq_self, Option.toList, List.cons_append, List.nil_append, ix_in, ix_cl, lt_in, lt_cl, lt_add, ix_one, vu_eq, vu_ne, arI_mk, arL_mk, arY_mZ, arY_mB, alen_mI, fld_sfl_ne, fld_sfl_same, Option.isSome_some, pok_i, b1z, b01, z10, b1o, Int32.zero_add, vu_vu, upd_eq, upd_ne, true_or, or_true, P1.v0, P1.v3, P1.v10, P1.v11, P1.v12, P1.v14, P1.v15, P1.v16, P1.v17, P1.v18, P1.r1, P1.r2, P1.r4, P1.r5, P1.r6, P1.r7, P1.r8, P1.r9, P1.r13, P1.a1, P1.a2, P1.a4, P1.a5, P1.a6, P1.a7, P1.a8, P1.a9, P1.a13, k4, q6, e3, et, e0, ix_le, c1, hs', hw', ne_eq]
          refine bad (Or.inr ?_) _
          unfold wdB
          rw [← h9q, decide_eq_true hqR, decide_eq_false hw]
          rfl
    · have c1 : (R ≤ q) = True := eq_true (by omega)
      simp (disch := first | omega | decide | assumption | exact Nat.le_of_ble_eq_true rfl) only [s36_0, s36_1, s36_4, s36_7, s36_8, s36_9, s36_10, s36_13, s36_14, s36_15, s36_18, s36_21, ow_some, true_and, and_true, and_self, if_true, if_false, not_true, not_false_eq_true, Bool.false_eq_true, eq_self, Option.toList, List.cons_append, List.nil_append, ix_in, ix_cl, lt_in, lt_cl, lt_add, ix_one, vu_eq, vu_ne, arI_mk, arL_mk, arY_mZ, arY_mB, alen_mI, fld_sfl_ne, fld_sfl_same, Option.isSome_some, pok_i, b1z, b01, z10, b1o, Int32.zero_add, vu_vu, upd_eq, upd_ne, true_or, or_true, P1.v0, P1.v3, P1.v10, P1.v11, P1.v12, P1.v14, P1.v15, P1.v16, P1.v17, P1.v18, P1.r1, P1.r2, P1.r4, P1.r5, P1.r6, P1.r7, P1.r8, P1.r9, P1.r13, P1.a1, P1.a2, P1.a4, P1.a5, P1.a6, P1.a7, P1.a8, P1.a9, P1.a13, k4, q6, e3, et, e0, ix_le, c1, ne_eq]
      refine num ?_ _
      rintro ⟨-, z | z⟩
      · rw [hq2] at z
        rcases hm with ⟨y, -⟩ | ⟨q', z1, z2, z3⟩
        · rw [y] at z; cases z
        · rw [z2] at z; cases z; omega
      · rw [hq2] at z
        unfold wdB at z
        rw [decide_eq_false hqR] at z
        cases z
  · have e0 := ck_neg hkv.1 h23
    simp (disch := first | omega | decide | assumption | exact Nat.le_of_ble_eq_true rfl) only [s36_0, s36_1, s36_4, s36_7, s36_8, s36_9, s36_10, ow_some, true_and, and_true, and_self, if_true, if_false, not_true, not_false_eq_true, Bool.false_eq_true, eq_self, Option.toList, List.cons_append, List.nil_append, ix_in, ix_cl, lt_in, lt_cl, lt_add, ix_one, vu_eq, vu_ne, arI_mk, arL_mk, arY_mZ, arY_mB, alen_mI, fld_sfl_ne, fld_sfl_same, Option.isSome_some, pok_i, b1z, b01, z10, b1o, Int32.zero_add, vu_vu, upd_eq, upd_ne, true_or, or_true, P1.v0, P1.v3, P1.v10, P1.v11, P1.v12, P1.v14, P1.v15, P1.v16, P1.v17, P1.v18, P1.r1, P1.r2, P1.r4, P1.r5, P1.r6, P1.r7, P1.r8, P1.r9, P1.r13, P1.a1, P1.a2, P1.a4, P1.a5, P1.a6, P1.a7, P1.a8, P1.a9, P1.a13, k4, e0]
    exact num (fun z => h23 z.1) _
theorem sp_coupleLine (Z : TKS tx L c0 T kk pp) (G : GA f b L kk pp T tx c0 t c wt v r) (P : PN S R n fr ag v r) (hR : fr 52 = nI R) (hk : c.2.2.1 = 9) {u1 u2 : Value} : TT X (d + 3) 35 0 [.ref 99, u1, u2] [] f N K (LO f b L kk pp T tx c0 t S N K (l_couple tx L R c fr ag)) := by
  have hR9 := P.1.2
  simp (disch := first | omega | decide | assumption | exact Nat.le_of_ble_eq_true rfl) only [s35_0, ow_some, true_and, and_true, and_self, if_true, if_false, not_true, not_false_eq_true, Bool.false_eq_true, eq_self, Option.toList, List.cons_append, List.nil_append, ix_in, ix_cl, lt_in, lt_cl, lt_add, ix_one, vu_eq, vu_ne, arI_mk, arL_mk, arY_mZ, arY_mB, alen_mI, fld_sfl_ne, fld_sfl_same, Option.isSome_some, pok_i, b1z, b01, z10, b1o, Int32.zero_add, vu_vu, upd_eq, upd_ne, true_or, or_true]
  refine k35_1 G.1.cn (Nat.le_of_ble_eq_true rfl) (G.next Z (by rw [hk]; decide) (by rw [hk]; decide)) ?_
  rintro f1 n1 k1 v1 ⟨rfl, rfl, rfl, s1, G1⟩
  unfold l_couple
  generalize nx tx L c = c1 at G1 ⊢
  simp (disch := first | omega | decide | assumption | exact Nat.le_of_ble_eq_true rfl) only [s35_4, s35_5, ow_some, true_and, and_true, and_self, if_true, if_false, not_true, not_false_eq_true, Bool.false_eq_true, eq_self, Option.toList, List.cons_append, List.nil_append, ix_in, ix_cl, lt_in, lt_cl, lt_add, ix_one, vu_eq, vu_ne, arI_mk, arL_mk, arY_mZ, arY_mB, alen_mI, fld_sfl_ne, fld_sfl_same, Option.isSome_some, pok_i, b1z, b01, z10, b1o, Int32.zero_add, vu_vu, upd_eq, upd_ne, true_or, or_true]
  refine k35_6 G1.1.cn (Nat.le_of_ble_eq_true rfl) (sp_unwed (d := d) Z G1 P hR (m := -1) (not := none) (Or.inl ⟨rfl, rfl⟩)) ?_
  rintro f2 n2 k2 v2 ⟨rfl, rfl, s2, ho, he⟩
  cases h1 : l_one c1 fr R none with
  | some e =>
    obtain ⟨w, p⟩ := e
    obtain ⟨⟨y, rfl⟩, E2⟩ := he _ _ h1
    have v7 := E2.v7
    have hw := eq_false E2.1
    simp (disch := first | omega | decide | assumption | exact Nat.le_of_ble_eq_true rfl) only [s35_9, s35_10, s35_11, ow_some, true_and, and_true, and_self, if_true, if_false, not_true, not_false_eq_true, Bool.false_eq_true, eq_self, Option.toList, List.cons_append, List.nil_append, ix_in, ix_cl, lt_in, lt_cl, lt_add, ix_one, vu_eq, vu_ne, arI_mk, arL_mk, arY_mZ, arY_mB, alen_mI, fld_sfl_ne, fld_sfl_same, Option.isSome_some, pok_i, b1z, b01, z10, b1o, Int32.zero_add, vu_vu, upd_eq, upd_ne, true_or, or_true]
    rw [p35_12 E2.cn (Nat.le_of_ble_eq_true rfl) E2.unwed]
    simp (disch := first | omega | decide | assumption | exact Nat.le_of_ble_eq_true rfl) only [s35_15, s35_16, s35_17, s35_20, s35_43, ow_some, true_and, and_true, and_self, if_true, if_false, not_true, not_false_eq_true, Bool.false_eq_true, eq_self, Option.toList, List.cons_append, List.nil_append, ix_in, ix_cl, lt_in, lt_cl, lt_add, ix_one, vu_eq, vu_ne, arI_mk, arL_mk, arY_mZ, arY_mB, alen_mI, fld_sfl_ne, fld_sfl_same, Option.isSome_some, pok_i, b1z, b01, z10, b1o, Int32.zero_add, vu_vu, upd_eq, upd_ne, true_or, or_true, v7, hw, ne_eq]
    exact LO.er (s1.tr s2) E2
  | none =>
    obtain ⟨rfl, ⟨q, hq, hq1⟩, G2⟩ := ho h1
    have hq2 : c1.2.2.2.toInt.toNat = q := by rw [hq1, nI_toInt (by omega), Int.toNat_natCast]
    rw [hq2]
    generalize nx tx L c1 = c2 at G2 ⊢
    simp (disch := first | omega | decide | assumption | exact Nat.le_of_ble_eq_true rfl) only [s35_9, s35_10, s35_11, ow_some, true_and, and_true, and_self, if_true, if_false, not_true, not_false_eq_true, Bool.false_eq_true, eq_self, Option.toList, List.cons_append, List.nil_append, ix_in, ix_cl, lt_in, lt_cl, lt_add, ix_one, vu_eq, vu_ne, arI_mk, arL_mk, arY_mZ, arY_mB, alen_mI, fld_sfl_ne, fld_sfl_same, Option.isSome_some, pok_i, b1z, b01, z10, b1o, Int32.zero_add, vu_vu, upd_eq, upd_ne, true_or, or_true, hq1]
    refine k35_12 G2.1.cn (Nat.le_of_ble_eq_true rfl) (sp_unwed (d := d) Z G2 P hR (m := nI q) (not := some q) (Or.inr ⟨q, hq, rfl, rfl⟩)) ?_
    rintro f3 n3 k3 v3 ⟨rfl, rfl, s3, ho2, he2⟩
    cases h2 : l_one c2 fr R (some q) with
    | some e =>
      obtain ⟨w, p⟩ := e
      obtain ⟨⟨y, rfl⟩, E3⟩ := he2 _ _ h2
      have v7 := E3.v7
      have hw := eq_false E3.1
      simp (disch := first | omega | decide | assumption | exact Nat.le_of_ble_eq_true rfl) only [s35_15, s35_16, s35_17, s35_20, s35_43, ow_some, true_and, and_true, and_self, if_true, if_false, not_true, not_false_eq_true, Bool.false_eq_true, eq_self, Option.toList, List.cons_append, List.nil_append, ix_in, ix_cl, lt_in, lt_cl, lt_add, ix_one, vu_eq, vu_ne, arI_mk, arL_mk, arY_mZ, arY_mB, alen_mI, fld_sfl_ne, fld_sfl_same, Option.isSome_some, pok_i, b1z, b01, z10, b1o, Int32.zero_add, vu_vu, upd_eq, upd_ne, true_or, or_true, v7, hw, ne_eq]
      exact LO.er ((s1.tr s2).tr s3) E3
    | none =>
      obtain ⟨rfl, ⟨q', hq', hq1'⟩, G3⟩ := ho2 h2
      have hq2' : c2.2.2.2.toInt.toNat = q' := by rw [hq1', nI_toInt (by omega), Int.toNat_natCast]
      have v7 := G3.1.v7
      have q6 := G3.1.r6
      have P3 := G3.1.pv
      simp (disch := first | omega | decide | assumption | exact Nat.le_of_ble_eq_true rfl) only [s35_15, s35_16, s35_17, s35_20, s35_23, s35_24, s35_27, s35_30, s35_31, s35_32, ow_some, true_and, and_true, and_self, if_true, if_false, not_true, not_false_eq_true, Bool.false_eq_true, eq_self, Option.toList, List.cons_append, List.nil_append, ix_in, ix_cl, lt_in, lt_cl, lt_add, ix_one, vu_eq, vu_ne, arI_mk, arL_mk, arY_mZ, arY_mB, alen_mI, fld_sfl_ne, fld_sfl_same, Option.isSome_some, pok_i, b1z, b01, z10, b1o, Int32.zero_add, vu_vu, upd_eq, upd_ne, true_or, or_true, P3.v0, P3.v3, P3.v10, P3.v11, P3.v12, P3.v14, P3.v15, P3.v16, P3.v17, P3.v18, P3.r1, P3.r2, P3.r4, P3.r5, P3.r6, P3.r7, P3.r8, P3.r9, P3.r13, P3.a1, P3.a2, P3.a4, P3.a5, P3.a6, P3.a7, P3.a8, P3.a9, P3.a13, v7, q6, hq1', ne_eq]
      have G4 : GA (va_up f3 (b + 2 + 8) (.inl (.int, 9, .inl (upd (r 9) q (nI q'))))) b L kk pp T tx c0 (t + 1 + 1 + 1) (nx tx L c2) wt v (up2 r 9 (upd (r 9) q (nI q'))) := ⟨G3.1.pl (fun a h => vu_ne (by omega)) P3.s9 rfl, G3.2⟩
      have s4 : SJ b f (va_up f3 (b + 2 + 8) (.inl (.int, 9, .inl (upd (r 9) q (nI q'))))) := ((s1.tr s2).tr s3).tr (SJ.up (by omega))
      generalize va_up f3 (b + 2 + 8) (.inl (.int, 9, .inl (upd (r 9) q (nI q')))) = f4 at G4 s4 ⊢
      have P4 := G4.1.pv
      have q64 := G4.1.r6
      simp (disch := first | omega | decide | assumption | exact Nat.le_of_ble_eq_true rfl) only [s35_33, s35_34, s35_37, s35_40, s35_41, s35_42, s35_43, ow_some, true_and, and_true, and_self, if_true, if_false, not_true, not_false_eq_true, Bool.false_eq_true, eq_self, Option.toList, List.cons_append, List.nil_append, ix_in, ix_cl, lt_in, lt_cl, lt_add, ix_one, vu_eq, vu_ne, arI_mk, arL_mk, arY_mZ, arY_mB, alen_mI, fld_sfl_ne, fld_sfl_same, Option.isSome_some, pok_i, b1z, b01, z10, b1o, Int32.zero_add, vu_vu, upd_eq, upd_ne, true_or, or_true, P4.v0, P4.v3, P4.v10, P4.v11, P4.v12, P4.v14, P4.v15, P4.v16, P4.v17, P4.v18, P4.r1, P4.r2, P4.r4, P4.r5, P4.r6, P4.r7, P4.r8, P4.r9, P4.r13, P4.a1, P4.a2, P4.a4, P4.a5, P4.a6, P4.a7, P4.a8, P4.a9, P4.a13, q64]
      rw [show (nI q').toInt.toNat = q' by rw [nI_toInt (by omega), Int.toNat_natCast]]
      refine LO.ok (s4.tr (SJ.up (by omega))) (by omega) ⟨G4.1.pl (fun a h => vu_ne (by omega)) P4.s9 rfl, G4.2⟩ ((P.row (p0 := q) (by omega) (Or.inr (Or.inr ⟨rfl, rfl⟩))).row (p0 := q') (by omega) (Or.inr (Or.inr ⟨rfl, rfl⟩))) ?_
      rw [upd_ne (by omega), upd_ne (by omega)]; exact hR
end RD
