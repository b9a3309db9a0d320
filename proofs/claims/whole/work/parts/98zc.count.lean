/-! the class: counts -/
section DEED
variable {X : Nat × (Nat → Int32)} {d N K : Nat} {f f' f'' : Nat → e_C} {t t' : Nat → Int32} {s : m_T} {S R P P2 D B B2 j : Nat} {all2 : Nat → Int32}
theorem sp_loads {pl C : Nat} {w v : Nat → Int32} {x r : Nat → Nat → Int32} (H : HV f t) (V : SV f 12 pl w x) (W : PV f pl v r C) (G : CR all2 S P w x v r C) (I : IS all2 S R P) {u1 u2 : Value} : PU X d 168 [.ref 0, u1, u2] f N K (some (.int (m_sum all2 9 S 0 0))) := by
  unfold PU
  have r4 := H.r4
  have h8 := I.s8
  have hS : v 0 = nI S := by rw [G.v0]; exact I.eS
  simp (disch := first | omega | decide | assumption | exact Nat.le_of_ble_eq_true rfl) only [s168_0, s168_1, s168_2, h168_3, ow_some, true_and, and_true, and_self, if_true, if_false, not_true, not_false_eq_true, Bool.false_eq_true, eq_self, Option.toList, List.cons_append, List.nil_append, ix_in, ix_cl, lt_in, lt_cl, lt_add, ix_one, vu_eq, vu_ne, arI_mk, arL_mk, arY_mZ, arY_mB, alen_mI, fld_sfl_ne, fld_sfl_same, Option.isSome_some, pok_i, b1z, b01, z10, b1o, Int32.zero_add, vu_vu, upd_eq, upd_ne, true_or, or_true]
  refine lp (fun k g (a : Int32) => g = f ∧ m_sum all2 9 S 0 0 = m_sum all2 9 (S - k) k a) (fun k a => [.ref 0, .int a, .int (nI k)]) S ?_ ?_ 0 f 0 (by omega) ⟨rfl, rfl⟩
  · rintro k g a hk ⟨rfl, he⟩ hI
    have hc : (S ≤ k) = False := eq_false (by omega)
    have e := G.ld hk
    have k8 : k < 8 := by omega
    obtain ⟨m, hm⟩ : ∃ m, S - k = m + 1 := ⟨S - k - 1, by omega⟩
    rw [hm, m_sum] at he
    simp (disch := first | omega | decide | assumption | exact Nat.le_of_ble_eq_true rfl) only [s168_4, s168_5, s168_6, s168_9, s168_12, s168_15, s168_18, s168_19, s168_20, s168_23, s168_26, s168_29, s168_30, s168_31, s168_32, s168_33, h168_36, ow_some, true_and, and_true, and_self, if_true, if_false, not_true, not_false_eq_true, Bool.false_eq_true, eq_self, Option.toList, List.cons_append, List.nil_append, ix_in, ix_cl, lt_in, lt_cl, lt_add, ix_one, vu_eq, vu_ne, arI_mk, arL_mk, arY_mZ, arY_mB, alen_mI, fld_sfl_ne, fld_sfl_same, Option.isSome_some, pok_i, b1z, b01, z10, b1o, Int32.zero_add, vu_vu, upd_eq, upd_ne, true_or, or_true, V.v1, V.v6, V.v7, V.v8, V.v9, V.i1, V.i6, V.i7, V.i8, V.i9, V.r2, V.r3, V.r4, V.r5, V.pl, V.a2, V.a3, V.a4, V.a5, W.v0, W.v3, W.v10, W.v11, W.v12, W.v14, W.v15, W.v16, W.v17, W.v18, W.r1, W.r2, W.r4, W.r5, W.r6, W.r7, W.r8, W.r9, W.r13, W.a1, W.a2, W.a4, W.a5, W.a6, W.a7, W.a8, W.a9, W.a13, r4, hS, ix_le, hc, e]
    exact hI _ _ ⟨rfl, by rw [he, show S - (k + 1) = m by omega]⟩
  · rintro g a ⟨rfl, he⟩
    rw [he, Nat.sub_self, m_sum]
    simp (disch := first | omega | decide | assumption | exact Nat.le_of_ble_eq_true rfl) only [s168_4, s168_5, s168_6, s168_9, s168_12, s168_15, s168_39, s168_40, ow_some, true_and, and_true, and_self, if_true, if_false, not_true, not_false_eq_true, Bool.false_eq_true, eq_self, Option.toList, List.cons_append, List.nil_append, ix_in, ix_cl, lt_in, lt_cl, lt_add, ix_one, vu_eq, vu_ne, arI_mk, arL_mk, arY_mZ, arY_mB, alen_mI, fld_sfl_ne, fld_sfl_same, Option.isSome_some, pok_i, b1z, b01, z10, b1o, Int32.zero_add, vu_vu, upd_eq, upd_ne, true_or, or_true, V.v1, V.v6, V.v7, V.v8, V.v9, V.i1, V.i6, V.i7, V.i8, V.i9, V.r2, V.r3, V.r4, V.r5, V.pl, V.a2, V.a3, V.a4, V.a5, W.v0, W.v3, W.v10, W.v11, W.v12, W.v14, W.v15, W.v16, W.v17, W.v18, W.r1, W.r2, W.r4, W.r5, W.r6, W.r7, W.r8, W.r9, W.r13, W.a1, W.a2, W.a4, W.a5, W.a6, W.a7, W.a8, W.a9, W.a13, r4, hS, ix_le, Nat.le_refl]
theorem sp_bearsAll {pl C : Nat} {w v : Nat → Int32} {x r y : Nat → Nat → Int32} (H : HV f t) (L : LV f 112 y) (V : SV f 12 pl w x) (W : PV f pl v r C) (G : CR all2 S P w x v r C) (I : IS all2 S R P) (hd : AD 12 pl 112) {u1 u2 : Value} : TT X (d + 4) 169 0 [.ref 0, u1, u2] [] f N K (QL f N K (m_ba all2 S P)) := by
  have r4 := H.r4
  have r13 := H.r13
  have h8 := I.s8
  have hS : v 0 = nI S := by rw [G.v0]; exact I.eS
  simp (disch := first | omega | decide | assumption | exact Nat.le_of_ble_eq_true rfl) only [s169_0, s169_1, s169_4, s169_5, s169_8, ow_some, true_and, and_true, and_self, if_true, if_false, not_true, not_false_eq_true, Bool.false_eq_true, eq_self, Option.toList, List.cons_append, List.nil_append, ix_in, ix_cl, lt_in, lt_cl, lt_add, ix_one, vu_eq, vu_ne, arI_mk, arL_mk, arY_mZ, arY_mB, alen_mI, fld_sfl_ne, fld_sfl_same, Option.isSome_some, pok_i, b1z, b01, z10, b1o, Int32.zero_add, vu_vu, upd_eq, upd_ne, true_or, or_true, r4, r13]
  refine k169_9 L.cn (Nat.le_of_ble_eq_true rfl) (sp_later L V W G I hd (n := 0) (by decide)) ?_
  rintro f1 n1 k1 v1 ⟨rfl, rfl, s1, ⟨y1, L1, -, h4⟩, rfl⟩
  rw [lat_0] at h4
  have H1 := H.fr (f' := f1) (s1 0 (by omega))
  have V1 := V.fr (f' := f1) (fun b h1 h2 => s1 b (by omega))
  have W1 := W.fr (f' := f1) (fun b h1 h2 => s1 b (by omega))
  have r4' := H1.r4
  have r13' := H1.r13
  simp (disch := first | omega | decide | assumption | exact Nat.le_of_ble_eq_true rfl) only [s169_12, s169_13, s169_14, s169_15, h169_16, ow_some, true_and, and_true, and_self, if_true, if_false, not_true, not_false_eq_true, Bool.false_eq_true, eq_self, Option.toList, List.cons_append, List.nil_append, ix_in, ix_cl, lt_in, lt_cl, lt_add, ix_one, vu_eq, vu_ne, arI_mk, arL_mk, arY_mZ, arY_mB, alen_mI, fld_sfl_ne, fld_sfl_same, Option.isSome_some, pok_i, b1z, b01, z10, b1o, Int32.zero_add, vu_vu, upd_eq, upd_ne, true_or, or_true]
  refine lp (fun k g (a : Int32) => g = f1 ∧ a = fo (fun k a => a + m_bo all2 (nT all2) P k) 0 k) (fun k a => [.ref 0, .int a, .int (nI k)]) S ?_ ?_ 0 f1 0 (by omega) ⟨rfl, rfl⟩
  · rintro k g a hk ⟨rfl, he⟩ hI
    have hc : (S ≤ k) = False := eq_false (by omega)
    have e := h4 k hk
    have k8 : k < 8 := by omega
    simp (disch := first | omega | decide | assumption | exact Nat.le_of_ble_eq_true rfl) only [s169_17, s169_18, s169_19, s169_22, s169_25, s169_28, s169_31, s169_32, s169_33, s169_36, s169_39, s169_40, s169_41, s169_42, s169_43, h169_46, ow_some, true_and, and_true, and_self, if_true, if_false, not_true, not_false_eq_true, Bool.false_eq_true, eq_self, Option.toList, List.cons_append, List.nil_append, ix_in, ix_cl, lt_in, lt_cl, lt_add, ix_one, vu_eq, vu_ne, arI_mk, arL_mk, arY_mZ, arY_mB, alen_mI, fld_sfl_ne, fld_sfl_same, Option.isSome_some, pok_i, b1z, b01, z10, b1o, Int32.zero_add, vu_vu, upd_eq, upd_ne, true_or, or_true, V1.v1, V1.v6, V1.v7, V1.v8, V1.v9, V1.i1, V1.i6, V1.i7, V1.i8, V1.i9, V1.r2, V1.r3, V1.r4, V1.r5, V1.pl, V1.a2, V1.a3, V1.a4, V1.a5, W1.v0, W1.v3, W1.v10, W1.v11, W1.v12, W1.v14, W1.v15, W1.v16, W1.v17, W1.v18, W1.r1, W1.r2, W1.r4, W1.r5, W1.r6, W1.r7, W1.r8, W1.r9, W1.r13, W1.a1, W1.a2, W1.a4, W1.a5, W1.a6, W1.a7, W1.a8, W1.a9, W1.a13, L1.r0, L1.r1, L1.r2, L1.r3, L1.l0, L1.l1, L1.a0, L1.a1, L1.a2, L1.a3, L1.a4, r4', r13', hS, ix_le, hc, e]
    exact hI _ _ ⟨rfl, by rw [fo_s, ← he]⟩
  · rintro g a ⟨rfl, he⟩
    simp (disch := first | omega | decide | assumption | exact Nat.le_of_ble_eq_true rfl) only [s169_17, s169_18, s169_19, s169_22, s169_25, s169_28, s169_49, s169_50, ow_some, true_and, and_true, and_self, if_true, if_false, not_true, not_false_eq_true, Bool.false_eq_true, eq_self, Option.toList, List.cons_append, List.nil_append, ix_in, ix_cl, lt_in, lt_cl, lt_add, ix_one, vu_eq, vu_ne, arI_mk, arL_mk, arY_mZ, arY_mB, alen_mI, fld_sfl_ne, fld_sfl_same, Option.isSome_some, pok_i, b1z, b01, z10, b1o, Int32.zero_add, vu_vu, upd_eq, upd_ne, true_or, or_true, V1.v1, V1.v6, V1.v7, V1.v8, V1.v9, V1.i1, V1.i6, V1.i7, V1.i8, V1.i9, V1.r2, V1.r3, V1.r4, V1.r5, V1.pl, V1.a2, V1.a3, V1.a4, V1.a5, W1.v0, W1.v3, W1.v10, W1.v11, W1.v12, W1.v14, W1.v15, W1.v16, W1.v17, W1.v18, W1.r1, W1.r2, W1.r4, W1.r5, W1.r6, W1.r7, W1.r8, W1.r9, W1.r13, W1.a1, W1.a2, W1.a4, W1.a5, W1.a6, W1.a7, W1.a8, W1.a9, W1.a13, r4', hS, ix_le, Nat.le_refl]
    exact ⟨rfl, rfl, s1, ⟨y1, L1⟩, by rw [he]; rfl⟩
theorem sp_countC (Z : ST f N s S R P D B t) (Y : SCR f) {z : Int32} : TT X (d + 6) 167 0 [.ref 0, .int z] [] f N K (QG f N K s B (.int (o_count s S P z))) := by
  have I := Z.is
  have r4 := Z.1.r4
  obtain ⟨j, hj, h7, h8, hD, h92⟩ := Z.jx
  have v8 := Z.1.v8
  have v1 := Z.1.v1
  have fin : ∀ z : Value, QG f N K s B z f N K (some z) := fun z => qg_q Z Y (fun _ _ => rfl)
  obtain ⟨pl, w0, x0, v0, r0, C, V, W, G, -, m, hp, hb⟩ := Z.2.1
  simp (disch := first | omega | decide | assumption | exact Nat.le_of_ble_eq_true rfl) only [s167_0, ow_some, true_and, and_true, and_self, if_true, if_false, not_true, not_false_eq_true, Bool.false_eq_true, eq_self, Option.toList, List.cons_append, List.nil_append, ix_in, ix_cl, lt_in, lt_cl, lt_add, ix_one, vu_eq, vu_ne, arI_mk, arL_mk, arY_mZ, arY_mB, alen_mI, fld_sfl_ne, fld_sfl_same, Option.isSome_some, pok_i, b1z, b01, z10, b1o, Int32.zero_add, vu_vu, upd_eq, upd_ne, true_or, or_true]
  rw [s167_1]
  by_cases hw : z.toInt < 0 ∨ 13 ≤ z.toInt
  · rw [tsw_out _ _ (by simpa using hw)]
    have : o_count s S P z = -1 := by
      unfold o_count
      rw [if_neg (by omega), if_neg (by omega), if_neg (by omega), if_neg (by omega), if_neg (by omega), if_neg (by omega), if_neg (by omega), if_neg (by omega), if_neg (by omega), if_neg (by omega), if_neg (by omega), if_neg (by omega), if_neg (by omega)]
    rw [this]
    simp (disch := first | omega | decide | assumption | exact Nat.le_of_ble_eq_true rfl) only [s167_177, s167_178, ow_some, true_and, and_true, and_self, if_true, if_false, not_true, not_false_eq_true, Bool.false_eq_true, eq_self, Option.toList, List.cons_append, List.nil_append, ix_in, ix_cl, lt_in, lt_cl, lt_add, ix_one, vu_eq, vu_ne, arI_mk, arL_mk, arY_mZ, arY_mB, alen_mI, fld_sfl_ne, fld_sfl_same, Option.isSome_some, pok_i, b1z, b01, z10, b1o, Int32.zero_add, vu_vu, upd_eq, upd_ne, true_or, or_true]
    exact fin _
  · rcases (show z.toInt = 0 ∨ z.toInt = 1 ∨ z.toInt = 2 ∨ z.toInt = 3 ∨ z.toInt = 4 ∨ z.toInt = 5 ∨ z.toInt = 6 ∨ z.toInt = 7 ∨ z.toInt = 8 ∨ z.toInt = 9 ∨ z.toInt = 10 ∨ z.toInt = 11 ∨ z.toInt = 12 by omega) with h | h | h | h | h | h | h | h | h | h | h | h | h
    · rw [tsw_at _ _ 0 68 rfl (by omega), show o_count s S P z = s.1 1 by simp [o_count, h]]
      have e := G.v0
      simp (disch := first | omega | decide | assumption | exact Nat.le_of_ble_eq_true rfl) only [s167_68, s167_69, s167_72, s167_75, s167_78, ow_some, true_and, and_true, and_self, if_true, if_false, not_true, not_false_eq_true, Bool.false_eq_true, eq_self, Option.toList, List.cons_append, List.nil_append, ix_in, ix_cl, lt_in, lt_cl, lt_add, ix_one, vu_eq, vu_ne, arI_mk, arL_mk, arY_mZ, arY_mB, alen_mI, fld_sfl_ne, fld_sfl_same, Option.isSome_some, pok_i, b1z, b01, z10, b1o, Int32.zero_add, vu_vu, upd_eq, upd_ne, true_or, or_true, V.v1, V.v6, V.v7, V.v8, V.v9, V.i1, V.i6, V.i7, V.i8, V.i9, V.r2, V.r3, V.r4, V.r5, V.pl, V.a2, V.a3, V.a4, V.a5, W.v0, W.v3, W.v10, W.v11, W.v12, W.v14, W.v15, W.v16, W.v17, W.v18, W.r1, W.r2, W.r4, W.r5, W.r6, W.r7, W.r8, W.r9, W.r13, W.a1, W.a2, W.a4, W.a5, W.a6, W.a7, W.a8, W.a9, W.a13, r4, e]
      exact fin _
    · rw [tsw_at _ _ 1 79 rfl (by omega), show o_count s S P z = s.1 52 by simp [o_count, h]]
      have e := G.w1
      simp (disch := first | omega | decide | assumption | exact Nat.le_of_ble_eq_true rfl) only [s167_79, s167_80, s167_83, s167_86, ow_some, true_and, and_true, and_self, if_true, if_false, not_true, not_false_eq_true, Bool.false_eq_true, eq_self, Option.toList, List.cons_append, List.nil_append, ix_in, ix_cl, lt_in, lt_cl, lt_add, ix_one, vu_eq, vu_ne, arI_mk, arL_mk, arY_mZ, arY_mB, alen_mI, fld_sfl_ne, fld_sfl_same, Option.isSome_some, pok_i, b1z, b01, z10, b1o, Int32.zero_add, vu_vu, upd_eq, upd_ne, true_or, or_true, V.v1, V.v6, V.v7, V.v8, V.v9, V.i1, V.i6, V.i7, V.i8, V.i9, V.r2, V.r3, V.r4, V.r5, V.pl, V.a2, V.a3, V.a4, V.a5, r4, e]
      exact fin _
    · rw [tsw_at _ _ 2 87 rfl (by omega), show o_count s S P z = s.1 53 by simp [o_count, h]]
      have e := G.w6
      simp (disch := first | omega | decide | assumption | exact Nat.le_of_ble_eq_true rfl) only [s167_87, s167_88, s167_91, s167_94, ow_some, true_and, and_true, and_self, if_true, if_false, not_true, not_false_eq_true, Bool.false_eq_true, eq_self, Option.toList, List.cons_append, List.nil_append, ix_in, ix_cl, lt_in, lt_cl, lt_add, ix_one, vu_eq, vu_ne, arI_mk, arL_mk, arY_mZ, arY_mB, alen_mI, fld_sfl_ne, fld_sfl_same, Option.isSome_some, pok_i, b1z, b01, z10, b1o, Int32.zero_add, vu_vu, upd_eq, upd_ne, true_or, or_true, V.v1, V.v6, V.v7, V.v8, V.v9, V.i1, V.i6, V.i7, V.i8, V.i9, V.r2, V.r3, V.r4, V.r5, V.pl, V.a2, V.a3, V.a4, V.a5, r4, e]
      exact fin _
    · rw [tsw_at _ _ 3 95 rfl (by omega), show o_count s S P z = s.1 54 by simp [o_count, h]]
      have e := G.w9
      rcases I.fl with z | z
      · rw [z]
        simp (disch := first | omega | decide | assumption | exact Nat.le_of_ble_eq_true rfl) only [s167_95, s167_96, s167_99, s167_102, s167_109, s167_110, ow_some, true_and, and_true, and_self, if_true, if_false, not_true, not_false_eq_true, Bool.false_eq_true, eq_self, Option.toList, List.cons_append, List.nil_append, ix_in, ix_cl, lt_in, lt_cl, lt_add, ix_one, vu_eq, vu_ne, arI_mk, arL_mk, arY_mZ, arY_mB, alen_mI, fld_sfl_ne, fld_sfl_same, Option.isSome_some, pok_i, b1z, b01, z10, b1o, Int32.zero_add, vu_vu, upd_eq, upd_ne, true_or, or_true, V.v1, V.v6, V.v7, V.v8, V.v9, V.i1, V.i6, V.i7, V.i8, V.i9, V.r2, V.r3, V.r4, V.r5, V.pl, V.a2, V.a3, V.a4, V.a5, r4, e, z]
        exact fin _
      · rw [z]
        simp (disch := first | omega | decide | assumption | exact Nat.le_of_ble_eq_true rfl) only [s167_95, s167_96, s167_99, s167_102, s167_105, s167_106, s167_110, ow_some, true_and, and_true, and_self, if_true, if_false, not_true, not_false_eq_true, Bool.false_eq_true, eq_self, Option.toList, List.cons_append, List.nil_append, ix_in, ix_cl, lt_in, lt_cl, lt_add, ix_one, vu_eq, vu_ne, arI_mk, arL_mk, arY_mZ, arY_mB, alen_mI, fld_sfl_ne, fld_sfl_same, Option.isSome_some, pok_i, b1z, b01, z10, b1o, Int32.zero_add, vu_vu, upd_eq, upd_ne, true_or, or_true, V.v1, V.v6, V.v7, V.v8, V.v9, V.i1, V.i6, V.i7, V.i8, V.i9, V.r2, V.r3, V.r4, V.r5, V.pl, V.a2, V.a3, V.a4, V.a5, r4, e, z]
        exact fin _
    · rw [tsw_at _ _ 4 111 rfl (by omega), show o_count s S P z = s.1 55 by simp [o_count, h]]
      have e := G.w7
      simp (disch := first | omega | decide | assumption | exact Nat.le_of_ble_eq_true rfl) only [s167_111, s167_112, s167_115, s167_118, ow_some, true_and, and_true, and_self, if_true, if_false, not_true, not_false_eq_true, Bool.false_eq_true, eq_self, Option.toList, List.cons_append, List.nil_append, ix_in, ix_cl, lt_in, lt_cl, lt_add, ix_one, vu_eq, vu_ne, arI_mk, arL_mk, arY_mZ, arY_mB, alen_mI, fld_sfl_ne, fld_sfl_same, Option.isSome_some, pok_i, b1z, b01, z10, b1o, Int32.zero_add, vu_vu, upd_eq, upd_ne, true_or, or_true, V.v1, V.v6, V.v7, V.v8, V.v9, V.i1, V.i6, V.i7, V.i8, V.i9, V.r2, V.r3, V.r4, V.r5, V.pl, V.a2, V.a3, V.a4, V.a5, r4, e]
      exact fin _
    · rw [tsw_at _ _ 5 119 rfl (by omega), show o_count s S P z = s.1 2 by simp [o_count, h]]
      have e := G.v10
      simp (disch := first | omega | decide | assumption | exact Nat.le_of_ble_eq_true rfl) only [s167_119, s167_120, s167_123, s167_126, s167_129, ow_some, true_and, and_true, and_self, if_true, if_false, not_true, not_false_eq_true, Bool.false_eq_true, eq_self, Option.toList, List.cons_append, List.nil_append, ix_in, ix_cl, lt_in, lt_cl, lt_add, ix_one, vu_eq, vu_ne, arI_mk, arL_mk, arY_mZ, arY_mB, alen_mI, fld_sfl_ne, fld_sfl_same, Option.isSome_some, pok_i, b1z, b01, z10, b1o, Int32.zero_add, vu_vu, upd_eq, upd_ne, true_or, or_true, V.v1, V.v6, V.v7, V.v8, V.v9, V.i1, V.i6, V.i7, V.i8, V.i9, V.r2, V.r3, V.r4, V.r5, V.pl, V.a2, V.a3, V.a4, V.a5, W.v0, W.v3, W.v10, W.v11, W.v12, W.v14, W.v15, W.v16, W.v17, W.v18, W.r1, W.r2, W.r4, W.r5, W.r6, W.r7, W.r8, W.r9, W.r13, W.a1, W.a2, W.a4, W.a5, W.a6, W.a7, W.a8, W.a9, W.a13, r4, e]
      exact fin _
    · rw [tsw_at _ _ 6 130 rfl (by omega), show o_count s S P z = m_sum s.1 84 S 0 0 by simp [o_count, h]]
      simp (disch := first | omega | decide | assumption | exact Nat.le_of_ble_eq_true rfl) only [s167_130, s167_131, ow_some, true_and, and_true, and_self, if_true, if_false, not_true, not_false_eq_true, Bool.false_eq_true, eq_self, Option.toList, List.cons_append, List.nil_append, ix_in, ix_cl, lt_in, lt_cl, lt_add, ix_one, vu_eq, vu_ne, arI_mk, arL_mk, arY_mZ, arY_mB, alen_mI, fld_sfl_ne, fld_sfl_same, Option.isSome_some, pok_i, b1z, b01, z10, b1o, Int32.zero_add, vu_vu, upd_eq, upd_ne, true_or, or_true, r4]
      rw [p167_134 V.cn (Nat.le_of_ble_eq_true rfl) (sp_propsAl V G I)]
      simp (disch := first | omega | decide | assumption | exact Nat.le_of_ble_eq_true rfl) only [s167_137, ow_some, true_and, and_true, and_self, if_true, if_false, not_true, not_false_eq_true, Bool.false_eq_true, eq_self, Option.toList, List.cons_append, List.nil_append, ix_in, ix_cl, lt_in, lt_cl, lt_add, ix_one, vu_eq, vu_ne, arI_mk, arL_mk, arY_mZ, arY_mB, alen_mI, fld_sfl_ne, fld_sfl_same, Option.isSome_some, pok_i, b1z, b01, z10, b1o, Int32.zero_add, vu_vu, upd_eq, upd_ne, true_or, or_true]
      exact fin _
    · rw [tsw_at _ _ 7 138 rfl (by omega), show o_count s S P z = s.1 56 by simp [o_count, h]]
      have e := G.w8
      simp (disch := first | omega | decide | assumption | exact Nat.le_of_ble_eq_true rfl) only [s167_138, s167_139, s167_142, s167_145, ow_some, true_and, and_true, and_self, if_true, if_false, not_true, not_false_eq_true, Bool.false_eq_true, eq_self, Option.toList, List.cons_append, List.nil_append, ix_in, ix_cl, lt_in, lt_cl, lt_add, ix_one, vu_eq, vu_ne, arI_mk, arL_mk, arY_mZ, arY_mB, alen_mI, fld_sfl_ne, fld_sfl_same, Option.isSome_some, pok_i, b1z, b01, z10, b1o, Int32.zero_add, vu_vu, upd_eq, upd_ne, true_or, or_true, V.v1, V.v6, V.v7, V.v8, V.v9, V.i1, V.i6, V.i7, V.i8, V.i9, V.r2, V.r3, V.r4, V.r5, V.pl, V.a2, V.a3, V.a4, V.a5, r4, e]
      exact fin _
    · rw [tsw_at _ _ 8 146 rfl (by omega), show o_count s S P z = m_sum s.1 9 S 0 0 by simp [o_count, h]]
      simp (disch := first | omega | decide | assumption | exact Nat.le_of_ble_eq_true rfl) only [s167_146, ow_some, true_and, and_true, and_self, if_true, if_false, not_true, not_false_eq_true, Bool.false_eq_true, eq_self, Option.toList, List.cons_append, List.nil_append, ix_in, ix_cl, lt_in, lt_cl, lt_add, ix_one, vu_eq, vu_ne, arI_mk, arL_mk, arY_mZ, arY_mB, alen_mI, fld_sfl_ne, fld_sfl_same, Option.isSome_some, pok_i, b1z, b01, z10, b1o, Int32.zero_add, vu_vu, upd_eq, upd_ne, true_or, or_true]
      rw [p167_147 Z.1.cn (Nat.le_of_ble_eq_true rfl) (sp_loads Z.1 V W G I)]
      simp (disch := first | omega | decide | assumption | exact Nat.le_of_ble_eq_true rfl) only [s167_150, ow_some, true_and, and_true, and_self, if_true, if_false, not_true, not_false_eq_true, Bool.false_eq_true, eq_self, Option.toList, List.cons_append, List.nil_append, ix_in, ix_cl, lt_in, lt_cl, lt_add, ix_one, vu_eq, vu_ne, arI_mk, arL_mk, arY_mZ, arY_mB, alen_mI, fld_sfl_ne, fld_sfl_same, Option.isSome_some, pok_i, b1z, b01, z10, b1o, Int32.zero_add, vu_vu, upd_eq, upd_ne, true_or, or_true]
      exact fin _
    · rw [tsw_at _ _ 9 151 rfl (by omega), show o_count s S P z = m_ba s.1 S P by simp [o_count, h]]
      obtain ⟨y1, L1⟩ := Y.1
      simp (disch := first | omega | decide | assumption | exact Nat.le_of_ble_eq_true rfl) only [s167_151, ow_some, true_and, and_true, and_self, if_true, if_false, not_true, not_false_eq_true, Bool.false_eq_true, eq_self, Option.toList, List.cons_append, List.nil_append, ix_in, ix_cl, lt_in, lt_cl, lt_add, ix_one, vu_eq, vu_ne, arI_mk, arL_mk, arY_mZ, arY_mB, alen_mI, fld_sfl_ne, fld_sfl_same, Option.isSome_some, pok_i, b1z, b01, z10, b1o, Int32.zero_add, vu_vu, upd_eq, upd_ne, true_or, or_true]
      refine k167_152 Z.1.cn (Nat.le_of_ble_eq_true rfl) (sp_bearsAll Z.1 L1 V W G I (hp.ad (by omega) (by omega))) ?_
      rintro f1 n1 k1 v1 ⟨rfl, rfl, s1, h1, rfl⟩
      simp (disch := first | omega | decide | assumption | exact Nat.le_of_ble_eq_true rfl) only [s167_155, ow_some, true_and, and_true, and_self, if_true, if_false, not_true, not_false_eq_true, Bool.false_eq_true, eq_self, Option.toList, List.cons_append, List.nil_append, ix_in, ix_cl, lt_in, lt_cl, lt_add, ix_one, vu_eq, vu_ne, arI_mk, arL_mk, arY_mZ, arY_mB, alen_mI, fld_sfl_ne, fld_sfl_same, Option.isSome_some, pok_i, b1z, b01, z10, b1o, Int32.zero_add, vu_vu, upd_eq, upd_ne, true_or, or_true]
      exact qg_q Z (Y.e1 s1 h1) (fun b hb => s1 b (by omega))
    · rw [tsw_at _ _ 10 156 rfl (by omega), show o_count s S P z = s.1 92 by simp [o_count, h]]
      simp (disch := first | omega | decide | assumption | exact Nat.le_of_ble_eq_true rfl) only [s167_156, s167_157, s167_160, ow_some, true_and, and_true, and_self, if_true, if_false, not_true, not_false_eq_true, Bool.false_eq_true, eq_self, Option.toList, List.cons_append, List.nil_append, ix_in, ix_cl, lt_in, lt_cl, lt_add, ix_one, vu_eq, vu_ne, arI_mk, arL_mk, arY_mZ, arY_mB, alen_mI, fld_sfl_ne, fld_sfl_same, Option.isSome_some, pok_i, b1z, b01, z10, b1o, Int32.zero_add, vu_vu, upd_eq, upd_ne, true_or, or_true, v8, h8, h92]
      exact fin _
    · rw [tsw_at _ _ 11 161 rfl (by omega), show o_count s S P z = s.2.1.1 by simp [o_count, h]]
      obtain ⟨tb, F, -, q1, q2, -⟩ := Z.2.2.2.2.2.2.1
      simp (disch := first | omega | decide | assumption | exact Nat.le_of_ble_eq_true rfl) only [s167_161, s167_162, s167_165, ow_some, true_and, and_true, and_self, if_true, if_false, not_true, not_false_eq_true, Bool.false_eq_true, eq_self, Option.toList, List.cons_append, List.nil_append, ix_in, ix_cl, lt_in, lt_cl, lt_add, ix_one, vu_eq, vu_ne, arI_mk, arL_mk, arY_mZ, arY_mB, alen_mI, fld_sfl_ne, fld_sfl_same, Option.isSome_some, pok_i, b1z, b01, z10, b1o, Int32.zero_add, vu_vu, upd_eq, upd_ne, true_or, or_true, v1, q1, q2]
      exact fin _
    · rw [tsw_at _ _ 12 166 rfl (by omega), show o_count s S P z = s.1 0 by simp [o_count, h]]
      have e := G.v12
      simp (disch := first | omega | decide | assumption | exact Nat.le_of_ble_eq_true rfl) only [s167_166, s167_167, s167_170, s167_173, s167_176, ow_some, true_and, and_true, and_self, if_true, if_false, not_true, not_false_eq_true, Bool.false_eq_true, eq_self, Option.toList, List.cons_append, List.nil_append, ix_in, ix_cl, lt_in, lt_cl, lt_add, ix_one, vu_eq, vu_ne, arI_mk, arL_mk, arY_mZ, arY_mB, alen_mI, fld_sfl_ne, fld_sfl_same, Option.isSome_some, pok_i, b1z, b01, z10, b1o, Int32.zero_add, vu_vu, upd_eq, upd_ne, true_or, or_true, V.v1, V.v6, V.v7, V.v8, V.v9, V.i1, V.i6, V.i7, V.i8, V.i9, V.r2, V.r3, V.r4, V.r5, V.pl, V.a2, V.a3, V.a4, V.a5, W.v0, W.v3, W.v10, W.v11, W.v12, W.v14, W.v15, W.v16, W.v17, W.v18, W.r1, W.r2, W.r4, W.r5, W.r6, W.r7, W.r8, W.r9, W.r13, W.a1, W.a2, W.a4, W.a5, W.a6, W.a7, W.a8, W.a9, W.a13, r4, e]
      exact fin _
end DEED
