/-! the class: a step's numbers, the first crack -/
theorem ck_lt {all b : Nat → Int32} {S i x : Nat} : ∀ {m j : Nat}, m_ck all b S i m j = some x → x < j + m := by
  intro m
  induction m with
  | zero => intro j h; simp [m_ck] at h
  | succ m ih =>
    intro j h
    rw [m_ck] at h
    by_cases c : m_over all b S i j < 0
    · rw [if_pos c] at h
      have : j = x := by simpa using h
      omega
    · rw [if_neg c] at h
      have := ih h
      omega
section HOME
variable {X : Nat × (Nat → Int32)} {d N K pl C S R P : Nat} {f : Nat → e_C} {y x r : Nat → Nat → Int32} {t w v all : Nat → Int32}
theorem sp_stepC (H : HV f t) (L : LV f 112 y) (V : SV f 12 pl w x) (W : PV f pl v r C) (G : CR all S P w x v r C) (I : IS all S R P) (hd : AD 12 pl 112) {k z : Int32} : TT X (d + 5) 118 0 [.ref 0, .int k, .int z] [] f N K (QL f N K (o_step all S P k z)) := by
  have r4 := H.r4
  have h8 := I.s8
  have h1s := I.s1
  have hS : v 0 = nI S := by rw [G.v0]; exact I.eS
  have hP : w 1 = nI P := by rw [G.w1]; exact I.eP
  have fin : SI 114 119 f f ∧ ∃ y', LV f 112 y' := ⟨SI.rf, y, L⟩
  simp (disch := first | omega | decide | assumption | exact Nat.le_of_ble_eq_true rfl) only [s118_0, s118_1, s118_4, ow_some, true_and, and_true, and_self, if_true, if_false, not_true, not_false_eq_true, Bool.false_eq_true, eq_self, Option.toList, List.cons_append, List.nil_append, ix_in, ix_cl, lt_in, lt_cl, lt_add, ix_one, vu_eq, vu_ne, arI_mk, arL_mk, arY_mZ, arY_mB, alen_mI, fld_sfl_ne, fld_sfl_same, Option.isSome_some, pok_i, b1z, b01, z10, b1o, Int32.zero_add, vu_vu, upd_eq, upd_ne, true_or, or_true, r4]
  rw [p118_5 V.cn (Nat.le_of_ble_eq_true rfl) (sp_isStp V W hS h8)]
  unfold o_step
  by_cases h1 : 0 ≤ k.toInt ∧ k.toInt < S
  · obtain ⟨q, hq, rfl, hv⟩ := i9 h1.1 h1.2 (by omega)
    rw [if_pos h1, if_pos h1]
    simp only [hv, Int.toNat_natCast]
    simp (disch := first | omega | decide | assumption | exact Nat.le_of_ble_eq_true rfl) only [s118_8, s118_14, ow_some, true_and, and_true, and_self, if_true, if_false, not_true, not_false_eq_true, Bool.false_eq_true, eq_self, Option.toList, List.cons_append, List.nil_append, ix_in, ix_cl, lt_in, lt_cl, lt_add, ix_one, vu_eq, vu_ne, arI_mk, arL_mk, arY_mZ, arY_mB, alen_mI, fld_sfl_ne, fld_sfl_same, Option.isSome_some, pok_i, b1z, b01, z10, b1o, Int32.zero_add, vu_vu, upd_eq, upd_ne, true_or, or_true]
    rw [s118_15]
    have q8 : q < 8 := by omega
    rcases (show (z.toInt < 0 ∨ 5 ≤ z.toInt) ∨ z.toInt = 0 ∨ z.toInt = 1 ∨ z.toInt = 2 ∨ z.toInt = 3 ∨ z.toInt = 4 by omega) with h | h | h | h | h | h
    · rw [tsw_out _ _ (by simpa using h), if_neg (by omega), if_neg (by omega), if_neg (by omega), if_neg (by omega), if_neg (by omega)]
      simp (disch := first | omega | decide | assumption | exact Nat.le_of_ble_eq_true rfl) only [s118_101, s118_103, ow_some, true_and, and_true, and_self, if_true, if_false, not_true, not_false_eq_true, Bool.false_eq_true, eq_self, Option.toList, List.cons_append, List.nil_append, ix_in, ix_cl, lt_in, lt_cl, lt_add, ix_one, vu_eq, vu_ne, arI_mk, arL_mk, arY_mZ, arY_mB, alen_mI, fld_sfl_ne, fld_sfl_same, Option.isSome_some, pok_i, b1z, b01, z10, b1o, Int32.zero_add, vu_vu, upd_eq, upd_ne, true_or, or_true]
      exact ⟨rfl, rfl, fin.1, fin.2, rfl⟩
    · rw [tsw_at _ _ 0 48 rfl (by omega), if_pos h]
      have e := G.ld hq
      simp (disch := first | omega | decide | assumption | exact Nat.le_of_ble_eq_true rfl) only [s118_48, s118_49, s118_52, s118_55, s118_58, s118_59, s118_60, ow_some, true_and, and_true, and_self, if_true, if_false, not_true, not_false_eq_true, Bool.false_eq_true, eq_self, Option.toList, List.cons_append, List.nil_append, ix_in, ix_cl, lt_in, lt_cl, lt_add, ix_one, vu_eq, vu_ne, arI_mk, arL_mk, arY_mZ, arY_mB, alen_mI, fld_sfl_ne, fld_sfl_same, Option.isSome_some, pok_i, b1z, b01, z10, b1o, Int32.zero_add, vu_vu, upd_eq, upd_ne, true_or, or_true, V.v1, V.v6, V.v7, V.v8, V.v9, V.i1, V.i6, V.i7, V.i8, V.i9, V.r2, V.r3, V.r4, V.r5, V.pl, V.a2, V.a3, V.a4, V.a5, W.v0, W.v3, W.v10, W.v11, W.v12, W.v14, W.v15, W.v16, W.v17, W.v18, W.r1, W.r2, W.r4, W.r5, W.r6, W.r7, W.r8, W.r9, W.r13, W.a1, W.a2, W.a4, W.a5, W.a6, W.a7, W.a8, W.a9, W.a13, r4, e]
      exact ⟨rfl, rfl, fin.1, fin.2, rfl⟩
    · rw [tsw_at _ _ 1 61 rfl (by omega), if_neg (by omega), if_pos h]
      simp (disch := first | omega | decide | assumption | exact Nat.le_of_ble_eq_true rfl) only [s118_61, s118_62, ow_some, true_and, and_true, and_self, if_true, if_false, not_true, not_false_eq_true, Bool.false_eq_true, eq_self, Option.toList, List.cons_append, List.nil_append, ix_in, ix_cl, lt_in, lt_cl, lt_add, ix_one, vu_eq, vu_ne, arI_mk, arL_mk, arY_mZ, arY_mB, alen_mI, fld_sfl_ne, fld_sfl_same, Option.isSome_some, pok_i, b1z, b01, z10, b1o, Int32.zero_add, vu_vu, upd_eq, upd_ne, true_or, or_true]
      refine k118_63 H.cn (Nat.le_of_ble_eq_true rfl) (sp_stepBears H L V W G I hd hq) ?_
      rintro f1 n1 k1 v1 ⟨rfl, rfl, s1, L1, rfl⟩
      simp (disch := first | omega | decide | assumption | exact Nat.le_of_ble_eq_true rfl) only [s118_66, ow_some, true_and, and_true, and_self, if_true, if_false, not_true, not_false_eq_true, Bool.false_eq_true, eq_self, Option.toList, List.cons_append, List.nil_append, ix_in, ix_cl, lt_in, lt_cl, lt_add, ix_one, vu_eq, vu_ne, arI_mk, arL_mk, arY_mZ, arY_mB, alen_mI, fld_sfl_ne, fld_sfl_same, Option.isSome_some, pok_i, b1z, b01, z10, b1o, Int32.zero_add, vu_vu, upd_eq, upd_ne, true_or, or_true]
      exact ⟨rfl, rfl, s1, L1, rfl⟩
    · rw [tsw_at _ _ 2 67 rfl (by omega), if_neg (by omega), if_neg (by omega), if_pos h]
      have e := G.x5 q8
      simp (disch := first | omega | decide | assumption | exact Nat.le_of_ble_eq_true rfl) only [s118_67, s118_68, s118_71, s118_74, s118_75, s118_76, ow_some, true_and, and_true, and_self, if_true, if_false, not_true, not_false_eq_true, Bool.false_eq_true, eq_self, Option.toList, List.cons_append, List.nil_append, ix_in, ix_cl, lt_in, lt_cl, lt_add, ix_one, vu_eq, vu_ne, arI_mk, arL_mk, arY_mZ, arY_mB, alen_mI, fld_sfl_ne, fld_sfl_same, Option.isSome_some, pok_i, b1z, b01, z10, b1o, Int32.zero_add, vu_vu, upd_eq, upd_ne, true_or, or_true, V.v1, V.v6, V.v7, V.v8, V.v9, V.i1, V.i6, V.i7, V.i8, V.i9, V.r2, V.r3, V.r4, V.r5, V.pl, V.a2, V.a3, V.a4, V.a5, r4, e]
      exact ⟨rfl, rfl, fin.1, fin.2, rfl⟩
    · rw [tsw_at _ _ 3 77 rfl (by omega), if_neg (by omega), if_neg (by omega), if_neg (by omega), if_pos h]
      simp (disch := first | omega | decide | assumption | exact Nat.le_of_ble_eq_true rfl) only [s118_77, s118_78, s118_81, ow_some, true_and, and_true, and_self, if_true, if_false, not_true, not_false_eq_true, Bool.false_eq_true, eq_self, Option.toList, List.cons_append, List.nil_append, ix_in, ix_cl, lt_in, lt_cl, lt_add, ix_one, vu_eq, vu_ne, arI_mk, arL_mk, arY_mZ, arY_mB, alen_mI, fld_sfl_ne, fld_sfl_same, Option.isSome_some, pok_i, b1z, b01, z10, b1o, Int32.zero_add, vu_vu, upd_eq, upd_ne, true_or, or_true, r4]
      rw [p118_82 V.cn (Nat.le_of_ble_eq_true rfl) (sp_onStp V G I)]
      simp (disch := first | omega | decide | assumption | exact Nat.le_of_ble_eq_true rfl) only [s118_85, ow_some, true_and, and_true, and_self, if_true, if_false, not_true, not_false_eq_true, Bool.false_eq_true, eq_self, Option.toList, List.cons_append, List.nil_append, ix_in, ix_cl, lt_in, lt_cl, lt_add, ix_one, vu_eq, vu_ne, arI_mk, arL_mk, arY_mZ, arY_mB, alen_mI, fld_sfl_ne, fld_sfl_same, Option.isSome_some, pok_i, b1z, b01, z10, b1o, Int32.zero_add, vu_vu, upd_eq, upd_ne, true_or, or_true]
      exact ⟨rfl, rfl, fin.1, fin.2, rfl⟩
    · rw [tsw_at _ _ 4 86 rfl (by omega), if_neg (by omega), if_neg (by omega), if_neg (by omega), if_neg (by omega), if_pos h]
      have e := G.jt (k := q + 1) (by omega)
      have ej : jnt all S (q + 1) = if q = S - 1 then 0 else all (17 + q) := by
        unfold jnt
        by_cases hs : q = S - 1
        · rw [if_pos hs, if_neg (show ¬ q + 1 = 0 by omega), if_neg (show ¬ q + 1 < S by omega)]
        · rw [if_neg hs, if_neg (show ¬ q + 1 = 0 by omega), if_pos (show q + 1 < S by omega), show 16 + (q + 1) = 17 + q by omega]
      rw [ej] at e
      have q9 : q + 1 < 9 := by omega
      simp (disch := first | omega | decide | assumption | exact Nat.le_of_ble_eq_true rfl) only [s118_86, s118_87, s118_90, s118_93, s118_96, s118_97, s118_98, s118_99, s118_100, ow_some, true_and, and_true, and_self, if_true, if_false, not_true, not_false_eq_true, Bool.false_eq_true, eq_self, Option.toList, List.cons_append, List.nil_append, ix_in, ix_cl, lt_in, lt_cl, lt_add, ix_one, vu_eq, vu_ne, arI_mk, arL_mk, arY_mZ, arY_mB, alen_mI, fld_sfl_ne, fld_sfl_same, Option.isSome_some, pok_i, b1z, b01, z10, b1o, Int32.zero_add, vu_vu, upd_eq, upd_ne, true_or, or_true, V.v1, V.v6, V.v7, V.v8, V.v9, V.i1, V.i6, V.i7, V.i8, V.i9, V.r2, V.r3, V.r4, V.r5, V.pl, V.a2, V.a3, V.a4, V.a5, W.v0, W.v3, W.v10, W.v11, W.v12, W.v14, W.v15, W.v16, W.v17, W.v18, W.r1, W.r2, W.r4, W.r5, W.r6, W.r7, W.r8, W.r9, W.r13, W.a1, W.a2, W.a4, W.a5, W.a6, W.a7, W.a8, W.a9, W.a13, r4, e]
      exact ⟨rfl, rfl, fin.1, fin.2, rfl⟩
  · rw [if_neg h1, if_neg h1]
    simp (disch := first | omega | decide | assumption | exact Nat.le_of_ble_eq_true rfl) only [s118_8, s118_11, s118_13, ow_some, true_and, and_true, and_self, if_true, if_false, not_true, not_false_eq_true, Bool.false_eq_true, eq_self, Option.toList, List.cons_append, List.nil_append, ix_in, ix_cl, lt_in, lt_cl, lt_add, ix_one, vu_eq, vu_ne, arI_mk, arL_mk, arY_mZ, arY_mB, alen_mI, fld_sfl_ne, fld_sfl_same, Option.isSome_some, pok_i, b1z, b01, z10, b1o, Int32.zero_add, vu_vu, upd_eq, upd_ne, true_or, or_true]
    exact ⟨rfl, rfl, fin.1, fin.2, rfl⟩
theorem sp_crackC (H : HV f t) (L : LV f 112 y) (V : SV f 12 pl w x) (W : PV f pl v r C) (G : CR all S P w x v r C) (I : IS all S R P) (hd : AD 12 pl 112) {z : Int32} {u2 u3 : Value} : TT X (d + 4) 121 0 [.ref 0, .int z, u2, u3] [] f N K (QL f N K (o_crack all S P z)) := by
  have r4 := H.r4
  have r13 := H.r13
  have h8 := I.s8
  have hS : v 0 = nI S := by rw [G.v0]; exact I.eS
  unfold o_crack
  have l1 : ((1 : Int32) < z) = (1 < z.toInt) := by rw [Int32.lt_iff_toInt_lt]; rfl
  have l2 : (z < (0 : Int32)) = (z.toInt < 0) := by rw [Int32.lt_iff_toInt_lt]; rfl
  have l3 : (z ≤ (1 : Int32)) = (z.toInt ≤ 1) := by rw [Int32.le_iff_toInt_le]; rfl
  by_cases h1 : 0 ≤ z.toInt ∧ z.toInt ≤ 1
  · rw [if_pos h1]
    have a1 : (z.toInt < 0) = False := eq_false (by omega)
    have a2 : (z.toInt ≤ 1) = True := eq_true h1.2
    simp (disch := first | omega | decide | assumption | exact Nat.le_of_ble_eq_true rfl) only [s121_0, s121_1, s121_4, s121_5, s121_6, s121_12, s121_13, s121_16, s121_17, s121_20, ow_some, true_and, and_true, and_self, if_true, if_false, not_true, not_false_eq_true, Bool.false_eq_true, eq_self, Option.toList, List.cons_append, List.nil_append, ix_in, ix_cl, lt_in, lt_cl, lt_add, ix_one, vu_eq, vu_ne, arI_mk, arL_mk, arY_mZ, arY_mB, alen_mI, fld_sfl_ne, fld_sfl_same, Option.isSome_some, pok_i, b1z, b01, z10, b1o, Int32.zero_add, vu_vu, upd_eq, upd_ne, true_or, or_true, r4, r13, l1, l2, l3, a1, a2]
    refine k121_21 L.cn (Nat.le_of_ble_eq_true rfl) (sp_later L V W G I hd (n := 0) (by decide)) ?_
    rintro f1 n1 k1 v1 ⟨rfl, rfl, s1, ⟨y1, L1, -, h4⟩, rfl⟩
    rw [lat_0] at h4
    have H1 := H.fr (f' := f1) (s1 0 (by omega))
    have V1 := V.fr (f' := f1) (fun b h1 h2 => s1 b (by omega))
    have W1 := W.fr (f' := f1) (fun b h1 h2 => s1 b (by omega))
    have r4' := H1.r4
    have r13' := H1.r13
    simp (disch := first | omega | decide | assumption | exact Nat.le_of_ble_eq_true rfl) only [s121_24, s121_25, h121_26, ow_some, true_and, and_true, and_self, if_true, if_false, not_true, not_false_eq_true, Bool.false_eq_true, eq_self, Option.toList, List.cons_append, List.nil_append, ix_in, ix_cl, lt_in, lt_cl, lt_add, ix_one, vu_eq, vu_ne, arI_mk, arL_mk, arY_mZ, arY_mB, alen_mI, fld_sfl_ne, fld_sfl_same, Option.isSome_some, pok_i, b1z, b01, z10, b1o, Int32.zero_add, vu_vu, upd_eq, upd_ne, true_or, or_true]
    refine lp (fun i g (_ : Value) => g = f1 ∧ m_cs all (m_bo all (nT all) P) S S 0 = m_cs all (m_bo all (nT all) P) S (S - i) i) (fun i u => [.ref 0, .int z, .int (nI i), u]) S ?_ ?_ 0 f1 u3 (by omega) ⟨rfl, rfl⟩
    · rintro i g u hi ⟨rfl, he⟩ hI
      have hc : (S ≤ i) = False := eq_false (by omega)
      obtain ⟨m, hm⟩ : ∃ m, S - i = m + 1 := ⟨S - i - 1, by omega⟩
      rw [hm, m_cs] at he
      simp (disch := first | omega | decide | assumption | exact Nat.le_of_ble_eq_true rfl) only [s121_27, s121_28, s121_29, s121_32, s121_35, s121_38, s121_41, s121_42, s121_45, s121_46, s121_49, ow_some, true_and, and_true, and_self, if_true, if_false, not_true, not_false_eq_true, Bool.false_eq_true, eq_self, Option.toList, List.cons_append, List.nil_append, ix_in, ix_cl, lt_in, lt_cl, lt_add, ix_one, vu_eq, vu_ne, arI_mk, arL_mk, arY_mZ, arY_mB, alen_mI, fld_sfl_ne, fld_sfl_same, Option.isSome_some, pok_i, b1z, b01, z10, b1o, Int32.zero_add, vu_vu, upd_eq, upd_ne, true_or, or_true, V1.v1, V1.v6, V1.v7, V1.v8, V1.v9, V1.i1, V1.i6, V1.i7, V1.i8, V1.i9, V1.r2, V1.r3, V1.r4, V1.r5, V1.pl, V1.a2, V1.a3, V1.a4, V1.a5, W1.v0, W1.v3, W1.v10, W1.v11, W1.v12, W1.v14, W1.v15, W1.v16, W1.v17, W1.v18, W1.r1, W1.r2, W1.r4, W1.r5, W1.r6, W1.r7, W1.r8, W1.r9, W1.r13, W1.a1, W1.a2, W1.a4, W1.a5, W1.a6, W1.a7, W1.a8, W1.a9, W1.a13, r4', r13', hS, ix_le, hc]
      rw [p121_50 L1.cn (Nat.le_of_ble_eq_true rfl) (sp_crackFrom L1 V1 W1 G I h4 hi)]
      cases hk : m_ck all (m_bo all (nT all) P) S i (S - i) i with
      | none =>
        rw [hk] at he
        have e1 : oI none = -1 := rfl
        simp (disch := first | omega | decide | assumption | exact Nat.le_of_ble_eq_true rfl) only [s121_53, s121_54, s121_55, s121_56, s121_69, h121_72, ow_some, true_and, and_true, and_self, if_true, if_false, not_true, not_false_eq_true, Bool.false_eq_true, eq_self, Option.toList, List.cons_append, List.nil_append, ix_in, ix_cl, lt_in, lt_cl, lt_add, ix_one, vu_eq, vu_ne, arI_mk, arL_mk, arY_mZ, arY_mB, alen_mI, fld_sfl_ne, fld_sfl_same, Option.isSome_some, pok_i, b1z, b01, z10, b1o, Int32.zero_add, vu_vu, upd_eq, upd_ne, true_or, or_true, e1]
        exact hI _ _ ⟨rfl, by rw [he, show S - (i + 1) = m by omega]⟩
      | some j =>
        rw [hk] at he
        have he : m_cs all (m_bo all (nT all) P) S S 0 = some (i, j) := he
        rw [he]
        have e1 : oI (some j) = nI j := rfl
        have hj : j < 100 := by
          have := ck_lt hk
          omega
        have hne := ne_m1 (m := j) (by omega)
        by_cases w0 : z = 0
        · have w0' : (z = 0) = True := eq_true w0
          simp (disch := first | omega | decide | assumption | exact Nat.le_of_ble_eq_true rfl) only [s121_53, s121_54, s121_55, s121_56, s121_59, s121_60, s121_63, s121_64, s121_67, s121_68, ow_some, true_and, and_true, and_self, if_true, if_false, not_true, not_false_eq_true, Bool.false_eq_true, eq_self, Option.toList, List.cons_append, List.nil_append, ix_in, ix_cl, lt_in, lt_cl, lt_add, ix_one, vu_eq, vu_ne, arI_mk, arL_mk, arY_mZ, arY_mB, alen_mI, fld_sfl_ne, fld_sfl_same, Option.isSome_some, pok_i, b1z, b01, z10, b1o, Int32.zero_add, vu_vu, upd_eq, upd_ne, true_or, or_true, e1, hne, w0', ne_eq]
          exact ⟨rfl, rfl, s1, ⟨y1, L1⟩, rfl⟩
        · have w0' : (z = 0) = False := eq_false w0
          simp (disch := first | omega | decide | assumption | exact Nat.le_of_ble_eq_true rfl) only [s121_53, s121_54, s121_55, s121_56, s121_59, s121_60, s121_63, s121_64, s121_67, s121_68, ow_some, true_and, and_true, and_self, if_true, if_false, not_true, not_false_eq_true, Bool.false_eq_true, eq_self, Option.toList, List.cons_append, List.nil_append, ix_in, ix_cl, lt_in, lt_cl, lt_add, ix_one, vu_eq, vu_ne, arI_mk, arL_mk, arY_mZ, arY_mB, alen_mI, fld_sfl_ne, fld_sfl_same, Option.isSome_some, pok_i, b1z, b01, z10, b1o, Int32.zero_add, vu_vu, upd_eq, upd_ne, true_or, or_true, e1, hne, w0', ne_eq]
          exact ⟨rfl, rfl, s1, ⟨y1, L1⟩, rfl⟩
    · rintro g u ⟨rfl, he⟩
      rw [he, show S - S = 0 by omega]
      simp (disch := first | omega | decide | assumption | exact Nat.le_of_ble_eq_true rfl) only [s121_27, s121_28, s121_29, s121_32, s121_35, s121_38, s121_75, s121_76, ow_some, true_and, and_true, and_self, if_true, if_false, not_true, not_false_eq_true, Bool.false_eq_true, eq_self, Option.toList, List.cons_append, List.nil_append, ix_in, ix_cl, lt_in, lt_cl, lt_add, ix_one, vu_eq, vu_ne, arI_mk, arL_mk, arY_mZ, arY_mB, alen_mI, fld_sfl_ne, fld_sfl_same, Option.isSome_some, pok_i, b1z, b01, z10, b1o, Int32.zero_add, vu_vu, upd_eq, upd_ne, true_or, or_true, V1.v1, V1.v6, V1.v7, V1.v8, V1.v9, V1.i1, V1.i6, V1.i7, V1.i8, V1.i9, V1.r2, V1.r3, V1.r4, V1.r5, V1.pl, V1.a2, V1.a3, V1.a4, V1.a5, W1.v0, W1.v3, W1.v10, W1.v11, W1.v12, W1.v14, W1.v15, W1.v16, W1.v17, W1.v18, W1.r1, W1.r2, W1.r4, W1.r5, W1.r6, W1.r7, W1.r8, W1.r9, W1.r13, W1.a1, W1.a2, W1.a4, W1.a5, W1.a6, W1.a7, W1.a8, W1.a9, W1.a13, r4', hS, ix_le, Nat.le_refl]
      exact ⟨rfl, rfl, s1, ⟨y1, L1⟩, rfl⟩
  · rw [if_neg h1]
    by_cases a1 : z.toInt < 0
    · have a1' : (z.toInt < 0) = True := eq_true a1
      simp (disch := first | omega | decide | assumption | exact Nat.le_of_ble_eq_true rfl) only [s121_0, s121_1, s121_9, s121_11, ow_some, true_and, and_true, and_self, if_true, if_false, not_true, not_false_eq_true, Bool.false_eq_true, eq_self, Option.toList, List.cons_append, List.nil_append, ix_in, ix_cl, lt_in, lt_cl, lt_add, ix_one, vu_eq, vu_ne, arI_mk, arL_mk, arY_mZ, arY_mB, alen_mI, fld_sfl_ne, fld_sfl_same, Option.isSome_some, pok_i, b1z, b01, z10, b1o, Int32.zero_add, vu_vu, upd_eq, upd_ne, true_or, or_true, l2, a1']
      exact ⟨rfl, rfl, SI.rf, ⟨y, L⟩, rfl⟩
    · have a1' : (z.toInt < 0) = False := eq_false a1
      have a2 : (z.toInt ≤ 1) = False := eq_false (by omega)
      simp (disch := first | omega | decide | assumption | exact Nat.le_of_ble_eq_true rfl) only [s121_0, s121_1, s121_4, s121_5, s121_6, s121_9, s121_11, ow_some, true_and, and_true, and_self, if_true, if_false, not_true, not_false_eq_true, Bool.false_eq_true, eq_self, Option.toList, List.cons_append, List.nil_append, ix_in, ix_cl, lt_in, lt_cl, lt_add, ix_one, vu_eq, vu_ne, arI_mk, arL_mk, arY_mZ, arY_mB, alen_mI, fld_sfl_ne, fld_sfl_same, Option.isSome_some, pok_i, b1z, b01, z10, b1o, Int32.zero_add, vu_vu, upd_eq, upd_ne, true_or, or_true, l1, l2, l3, a1', a2]
      exact ⟨rfl, rfl, SI.rf, ⟨y, L⟩, rfl⟩
end HOME
