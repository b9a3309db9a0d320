/-! the class: a law run, what one bears, a scene's small questions -/
theorem sp_run {X : Nat × (Nat → Int32)} {d N K q cd C F M : Nat} {f : Nat → e_C} {y : Nat → Nat → Int32} {wt b : Bool} {cc cs w : Nat → Int32} {u4 u5 u6 u7 u8 u9 u10 u11 u12 : Value} (hq : cd < q ∨ q + 7 ≤ cd) (hC : F + M ≤ C) (hC9 : C ≤ 900) (hcs : ∀ i, i < M → cc (F + i) = tr (cs i)) (L : LV f q y) (hcd : arI (f cd) = some (C, cc)) (hw : ∀ i, i < 7 → y 0 i = w i) (ht : tyr wt cs M 0 [] = some [b]) : TT X d 14 0 [.ref (q + 1), .ref cd, .int (nI F), .int (nI (F + M)), u4, u5, u6, u7, u8, u9, u10, u11, u12] [] f N K (fun f' n' k' v => n' = N ∧ k' = K ∧ SI (q + 3) (q + 4) f f' ∧ (∃ y', LV f' q y' ∧ ∀ j, j ≠ 1 → y' j = y j) ∧ v = some (.int ((l_it w cs M 0 []).headD 0)) ∧ (b = true → (l_it w cs M 0 []).headD 0 = 0 ∨ (l_it w cs M 0 []).headD 0 = 1)) := by
  simp (disch := first | omega | decide | assumption | exact Nat.le_of_ble_eq_true rfl) only [s14_0, s14_1, s14_3, h14_4, ow_some, true_and, and_true, and_self, if_true, if_false, not_true, not_false_eq_true, Bool.false_eq_true, eq_self, Option.toList, List.cons_append, List.nil_append, ix_in, ix_cl, lt_in, lt_cl, lt_add, ix_one, vu_eq, vu_ne, arI_mk, arL_mk, arY_mZ, arY_mB, alen_mI, fld_sfl_ne, fld_sfl_same, Option.isSome_some, pok_i, b1z, b01, z10, b1o, Int32.zero_add, vu_vu, upd_eq, upd_ne, true_or, or_true]
  refine sp_runLoop (F := F) (M := M) (cs := cs) (w := w) hq hC hC9 hcs M 0 0 f y [] [] _ _ _ _ _ _ _ L hcd hw (by omega) ⟨rfl, fun i hi => by omega⟩ trivial (by omega) ht ?_
  intro f' y' v hs L' hy hl hb
  rw [hl]
  exact ⟨rfl, rfl, hs, ⟨y', L', hy⟩, rfl, hb⟩
def lr (all : Nat → Int32) (law C : Nat) (cc : Nat → Int32) (fm to : Int32) : Prop := (all (3 + law) = 0 ∧ fm = -1) ∨ (all (3 + law) = 1 ∧ ∃ F M, all (5 + law) = nI F ∧ all (7 + law) = nI M ∧ fm = nI F ∧ to = nI (F + M) ∧ F + M ≤ C ∧ C ≤ 900 ∧ (∀ i, i < M → cc (F + i) = tr (all (494 + F + i))) ∧ tyr (decide (law = 1)) (fun i => all (494 + F + i)) M 0 [] = some [decide (law = 1)])
/-- what a law tells, by its words -/
def c_law (all : Nat → Int32) (law : Nat) (w : Nat → Int32) : Int32 := (l_it w (fun i => all (494 + (all (5 + law)).toNatClampNeg + i)) (all (7 + law)).toNatClampNeg 0 []).headD 0
def c_str (all : Nat → Int32) (who build age step day wed : Int32) : Int32 := if all 3 = 0 then build else m_clip (c_law all 0 (c_words who build age step day wed 0))
theorem sp_strength {X : Nat × (Nat → Int32)} {d N K q p C : Nat} {f : Nat → e_C} {y : Nat → Nat → Int32} {all v : Nat → Int32} {r : Nat → Nat → Int32} {who build age step day wed : Int32} {u8 : Value} (L : LV f q y) (V : PV f p v r C) (hp : p + 9 < q ∨ q + 7 ≤ p) (hl : lr all 0 C (r 13) (v 15) (v 16)) : TT X (d + 1) 58 0 [.ref q, .ref p, .int who, .int build, .int age, .int step, .int day, .int wed, u8] [] f N K (fun f' n' k' z => n' = N ∧ k' = K ∧ SI (q + 2) (q + 4) f f' ∧ (∃ y', LV f' q y' ∧ ∀ j, 2 ≤ j → y' j = y j) ∧ z = some (.int (c_str all who build age step day wed))) := by
  unfold c_str
  rcases hl with ⟨h0, hf⟩ | ⟨h1, F, M, h5, h7, hfm, hto, hFM, hC9, hcs, hty⟩
  · rw [if_pos h0]
    simp (disch := first | omega | decide | assumption | exact Nat.le_of_ble_eq_true rfl) only [s58_0, s58_1, s58_4, s58_5, s58_8, s58_9, ow_some, true_and, and_true, and_self, if_true, if_false, not_true, not_false_eq_true, Bool.false_eq_true, eq_self, Option.toList, List.cons_append, List.nil_append, ix_in, ix_cl, lt_in, lt_cl, lt_add, ix_one, vu_eq, vu_ne, arI_mk, arL_mk, arY_mZ, arY_mB, alen_mI, fld_sfl_ne, fld_sfl_same, Option.isSome_some, pok_i, b1z, b01, z10, b1o, Int32.zero_add, vu_vu, upd_eq, upd_ne, true_or, or_true, V.v0, V.v3, V.v10, V.v11, V.v12, V.v14, V.v15, V.v16, V.v17, V.v18, V.r1, V.r2, V.r4, V.r5, V.r6, V.r7, V.r8, V.r9, V.r13, V.a1, V.a2, V.a4, V.a5, V.a6, V.a7, V.a8, V.a9, V.a13, hf]
    exact ⟨SI.rf, y, L, fun _ _ => rfl⟩
  · have h01 : ¬ all 3 = 0 := by
      have : all 3 = 1 := h1
      rw [this]; decide
    rw [if_neg h01]
    have hne := ne_m1 (m := F) (by omega)
    simp (disch := first | omega | decide | assumption | exact Nat.le_of_ble_eq_true rfl) only [s58_0, s58_1, s58_4, s58_5, s58_8, s58_9, s58_10, s58_11, s58_14, s58_15, s58_16, s58_18, s58_20, s58_22, s58_24, ow_some, true_and, and_true, and_self, if_true, if_false, not_true, not_false_eq_true, Bool.false_eq_true, eq_self, Option.toList, List.cons_append, List.nil_append, ix_in, ix_cl, lt_in, lt_cl, lt_add, ix_one, vu_eq, vu_ne, arI_mk, arL_mk, arY_mZ, arY_mB, alen_mI, fld_sfl_ne, fld_sfl_same, Option.isSome_some, pok_i, b1z, b01, z10, b1o, Int32.zero_add, vu_vu, upd_eq, upd_ne, true_or, or_true, V.v0, V.v3, V.v10, V.v11, V.v12, V.v14, V.v15, V.v16, V.v17, V.v18, V.r1, V.r2, V.r4, V.r5, V.r6, V.r7, V.r8, V.r9, V.r13, V.a1, V.a2, V.a4, V.a5, V.a6, V.a7, V.a8, V.a9, V.a13, L.r0, L.r1, L.r2, L.r3, L.l0, L.l1, L.a0, L.a1, L.a2, L.a3, L.a4, hfm, hne]
    refine k58_25 L.cl (Nat.le_of_ble_eq_true rfl) (sp_tell L) ?_
    rintro f1 n1 k1 v1 ⟨rfl, rfl, rfl, s1, g, L1, hg⟩
    have V1 := V.fr (f' := f1) (fun b h1 h2 => s1 b (by omega))
    simp (disch := first | omega | decide | assumption | exact Nat.le_of_ble_eq_true rfl) only [s58_28, s58_29, s58_32, s58_33, s58_36, s58_37, s58_40, s58_41, ow_some, true_and, and_true, and_self, if_true, if_false, not_true, not_false_eq_true, Bool.false_eq_true, eq_self, Option.toList, List.cons_append, List.nil_append, ix_in, ix_cl, lt_in, lt_cl, lt_add, ix_one, vu_eq, vu_ne, arI_mk, arL_mk, arY_mZ, arY_mB, alen_mI, fld_sfl_ne, fld_sfl_same, Option.isSome_some, pok_i, b1z, b01, z10, b1o, Int32.zero_add, vu_vu, upd_eq, upd_ne, true_or, or_true, V1.v0, V1.v3, V1.v10, V1.v11, V1.v12, V1.v14, V1.v15, V1.v16, V1.v17, V1.v18, V1.r1, V1.r2, V1.r4, V1.r5, V1.r6, V1.r7, V1.r8, V1.r9, V1.r13, V1.a1, V1.a2, V1.a4, V1.a5, V1.a6, V1.a7, V1.a8, V1.a9, V1.a13, L1.r0, L1.r1, L1.r2, L1.r3, L1.l0, L1.l1, L1.a0, L1.a1, L1.a2, L1.a3, L1.a4, hfm, hto]
    refine k58_44 L1.cl (Nat.le_of_ble_eq_true rfl) (sp_run (F := F) (M := M) (cs := fun i => all (494 + F + i)) (w := c_words who build age step day wed 0) (by omega) hFM hC9 hcs L1 V1.a13 (fun i hi => by rw [up2_eq]; exact hg i hi) hty) ?_
    rintro f2 n2 k2 v2 ⟨rfl, rfl, s2, ⟨y2, L2, hy2⟩, rfl, -⟩
    have e : (l_it (c_words who build age step day wed 0) (fun i => all (494 + F + i)) M 0 []).headD 0 = c_law all 0 (c_words who build age step day wed 0) := by
      unfold c_law
      rw [show all (5 + 0) = nI F from h5, show all (7 + 0) = nI M from h7, ix_cl (by omega), ix_cl (by omega)]
    rw [e]
    generalize c_law all 0 (c_words who build age step day wed 0) = z
    generalize hQ : (fun f' n' k' z' => n' = n2 ∧ k' = k2 ∧ SI (q + 2) (q + 4) f f' ∧ (∃ y', LV f' q y' ∧ ∀ j, 2 ≤ j → y' j = y j) ∧ z' = some (.int (m_clip z)) : t_Q) = Q
    have hpost : Q f2 n2 k2 (some (.int (m_clip z))) := by
      rw [← hQ]
      exact ⟨rfl, rfl, (s1.wd (by omega) (by omega)).tr (s2.wd (by omega) (by omega)), ⟨y2, L2, fun j hj => by rw [hy2 j (by omega), up2_ne (by omega)]⟩, rfl⟩
    clear hQ
    unfold m_clip at hpost
    simp (disch := first | omega | decide | assumption | exact Nat.le_of_ble_eq_true rfl) only [s58_47, s58_49, s58_51, s58_54, ow_some, true_and, and_true, and_self, if_true, if_false, not_true, not_false_eq_true, Bool.false_eq_true, eq_self, Option.toList, List.cons_append, List.nil_append, ix_in, ix_cl, lt_in, lt_cl, lt_add, ix_one, vu_eq, vu_ne, arI_mk, arL_mk, arY_mZ, arY_mB, alen_mI, fld_sfl_ne, fld_sfl_same, Option.isSome_some, pok_i, b1z, b01, z10, b1o, Int32.zero_add, vu_vu, upd_eq, upd_ne, true_or, or_true]
    by_cases h9 : z ≤ 999
    · have h9' : ¬ 999 < z := Int32.not_lt.mpr h9
      rw [if_neg h9'] at hpost
      simp only [h9, if_true]
      simp (disch := first | omega | decide | assumption | exact Nat.le_of_ble_eq_true rfl) only [s58_61, s58_63, ow_some, true_and, and_true, and_self, if_true, if_false, not_true, not_false_eq_true, Bool.false_eq_true, eq_self, Option.toList, List.cons_append, List.nil_append, ix_in, ix_cl, lt_in, lt_cl, lt_add, ix_one, vu_eq, vu_ne, arI_mk, arL_mk, arY_mZ, arY_mB, alen_mI, fld_sfl_ne, fld_sfl_same, Option.isSome_some, pok_i, b1z, b01, z10, b1o, Int32.zero_add, vu_vu, upd_eq, upd_ne, true_or, or_true]
      by_cases h0 : 0 ≤ z
      · have h0' : ¬ z < 0 := Int32.not_lt.mpr h0
        rw [if_neg h0'] at hpost
        simp only [h0, if_true]
        simp (disch := first | omega | decide | assumption | exact Nat.le_of_ble_eq_true rfl) only [s58_70, s58_72, ow_some, true_and, and_true, and_self, if_true, if_false, not_true, not_false_eq_true, Bool.false_eq_true, eq_self, Option.toList, List.cons_append, List.nil_append, ix_in, ix_cl, lt_in, lt_cl, lt_add, ix_one, vu_eq, vu_ne, arI_mk, arL_mk, arY_mZ, arY_mB, alen_mI, fld_sfl_ne, fld_sfl_same, Option.isSome_some, pok_i, b1z, b01, z10, b1o, Int32.zero_add, vu_vu, upd_eq, upd_ne, true_or, or_true]
        exact hpost
      · have h0' : z < 0 := Int32.not_le.mp h0
        rw [if_pos h0'] at hpost
        simp only [h0, if_false]
        simp (disch := first | omega | decide | assumption | exact Nat.le_of_ble_eq_true rfl) only [s58_66, s58_67, s58_72, ow_some, true_and, and_true, and_self, if_true, if_false, not_true, not_false_eq_true, Bool.false_eq_true, eq_self, Option.toList, List.cons_append, List.nil_append, ix_in, ix_cl, lt_in, lt_cl, lt_add, ix_one, vu_eq, vu_ne, arI_mk, arL_mk, arY_mZ, arY_mB, alen_mI, fld_sfl_ne, fld_sfl_same, Option.isSome_some, pok_i, b1z, b01, z10, b1o, Int32.zero_add, vu_vu, upd_eq, upd_ne, true_or, or_true]
        exact hpost
    · have h9' : 999 < z := Int32.not_le.mp h9
      have h0' : ¬ z < 0 := by
        rw [Int32.lt_iff_toInt_lt] at h9' ⊢
        rw [show (999 : Int32).toInt = 999 by decide] at h9'
        rw [show (0 : Int32).toInt = 0 by decide]
        omega
      rw [if_neg h0', if_pos h9'] at hpost
      simp only [h9, if_false]
      simp (disch := first | omega | decide | assumption | exact Nat.le_of_ble_eq_true rfl) only [s58_57, s58_60, ow_some, true_and, and_true, and_self, if_true, if_false, not_true, not_false_eq_true, Bool.false_eq_true, eq_self, Option.toList, List.cons_append, List.nil_append, ix_in, ix_cl, lt_in, lt_cl, lt_add, ix_one, vu_eq, vu_ne, arI_mk, arL_mk, arY_mZ, arY_mB, alen_mI, fld_sfl_ne, fld_sfl_same, Option.isSome_some, pok_i, b1z, b01, z10, b1o, Int32.zero_add, vu_vu, upd_eq, upd_ne, true_or, or_true]
      exact hpost
theorem i_lt0 {p : Int32} : (p < 0) = (p.toInt < 0) := by
  rw [Int32.lt_iff_toInt_lt]; rfl
theorem i_ge {p : Int32} {P : Nat} (h : P < 65536) : (nI P ≤ p) = ((P : Int) ≤ p.toInt) := by
  rw [Int32.le_iff_toInt_le, nI_toInt (by omega)]
section SCN
variable {X : Nat × (Nat → Int32)} {d N K a pl P S C T : Nat} {f : Nat → e_C} {w v : Nat → Int32} {x r : Nat → Nat → Int32}
theorem sp_isTold (V : SV f a pl w x) (hP : w 1 = nI P) (h9 : P ≤ 9) {p : Int32} : PU X d 69 [.ref a, .int p] f N K (some (.int (if 0 ≤ p.toInt ∧ p.toInt < P then 1 else 0))) := by
  unfold PU
  by_cases h0 : p.toInt < 0
  · have h1 : ¬ (0 ≤ p.toInt ∧ p.toInt < P) := by omega
    have h2 : (p < 0) = True := by rw [i_lt0]; exact eq_true h0
    rw [if_neg h1]
    simp (disch := first | omega | decide | assumption | exact Nat.le_of_ble_eq_true rfl) only [s69_0, s69_1, s69_4, s69_5, s69_6, s69_9, s69_12, s69_13, s69_16, s69_17, ow_some, true_and, and_true, and_self, if_true, if_false, not_true, not_false_eq_true, Bool.false_eq_true, eq_self, Option.toList, List.cons_append, List.nil_append, ix_in, ix_cl, lt_in, lt_cl, lt_add, ix_one, vu_eq, vu_ne, arI_mk, arL_mk, arY_mZ, arY_mB, alen_mI, fld_sfl_ne, fld_sfl_same, Option.isSome_some, pok_i, b1z, b01, z10, b1o, Int32.zero_add, vu_vu, upd_eq, upd_ne, true_or, or_true, V.v1, V.v6, V.v7, V.v8, V.v9, V.i1, V.i6, V.i7, V.i8, V.i9, V.r2, V.r3, V.r4, V.r5, V.pl, V.a2, V.a3, V.a4, V.a5, h2]
  · have h2 : (p < 0) = False := by rw [i_lt0]; exact eq_false h0
    by_cases h3 : (P : Int) ≤ p.toInt
    · have h4 : (nI P ≤ p) = True := by rw [i_ge (by omega)]; exact eq_true h3
      rw [if_neg (by omega)]
      simp (disch := first | omega | decide | assumption | exact Nat.le_of_ble_eq_true rfl) only [s69_0, s69_1, s69_4, s69_5, s69_6, s69_9, s69_12, s69_13, s69_16, s69_17, ow_some, true_and, and_true, and_self, if_true, if_false, not_true, not_false_eq_true, Bool.false_eq_true, eq_self, Option.toList, List.cons_append, List.nil_append, ix_in, ix_cl, lt_in, lt_cl, lt_add, ix_one, vu_eq, vu_ne, arI_mk, arL_mk, arY_mZ, arY_mB, alen_mI, fld_sfl_ne, fld_sfl_same, Option.isSome_some, pok_i, b1z, b01, z10, b1o, Int32.zero_add, vu_vu, upd_eq, upd_ne, true_or, or_true, V.v1, V.v6, V.v7, V.v8, V.v9, V.i1, V.i6, V.i7, V.i8, V.i9, V.r2, V.r3, V.r4, V.r5, V.pl, V.a2, V.a3, V.a4, V.a5, h2, hP, h4]
    · have h4 : (nI P ≤ p) = False := by rw [i_ge (by omega)]; exact eq_false h3
      rw [if_pos (by omega)]
      simp (disch := first | omega | decide | assumption | exact Nat.le_of_ble_eq_true rfl) only [s69_0, s69_1, s69_4, s69_5, s69_6, s69_9, s69_12, s69_13, s69_16, s69_17, ow_some, true_and, and_true, and_self, if_true, if_false, not_true, not_false_eq_true, Bool.false_eq_true, eq_self, Option.toList, List.cons_append, List.nil_append, ix_in, ix_cl, lt_in, lt_cl, lt_add, ix_one, vu_eq, vu_ne, arI_mk, arL_mk, arY_mZ, arY_mB, alen_mI, fld_sfl_ne, fld_sfl_same, Option.isSome_some, pok_i, b1z, b01, z10, b1o, Int32.zero_add, vu_vu, upd_eq, upd_ne, true_or, or_true, V.v1, V.v6, V.v7, V.v8, V.v9, V.i1, V.i6, V.i7, V.i8, V.i9, V.r2, V.r3, V.r4, V.r5, V.pl, V.a2, V.a3, V.a4, V.a5, h2, hP, h4]
theorem sp_isTh (V : SV f a pl w x) (hP : w 1 = nI P) (h9 : P ≤ 9) (hT : w 6 = nI T) (hT2 : T < 512) {p : Int32} : PU X (d + 1) 68 [.ref a, .int p] f N K (some (.int (if (0 ≤ p.toInt ∧ p.toInt < P) ∧ T.testBit p.toInt.toNat = true then 1 else 0))) := by
  unfold PU
  simp (disch := first | omega | decide | assumption | exact Nat.le_of_ble_eq_true rfl) only [s68_0, s68_1, ow_some, true_and, and_true, and_self, if_true, if_false, not_true, not_false_eq_true, Bool.false_eq_true, eq_self, Option.toList, List.cons_append, List.nil_append, ix_in, ix_cl, lt_in, lt_cl, lt_add, ix_one, vu_eq, vu_ne, arI_mk, arL_mk, arY_mZ, arY_mB, alen_mI, fld_sfl_ne, fld_sfl_same, Option.isSome_some, pok_i, b1z, b01, z10, b1o, Int32.zero_add, vu_vu, upd_eq, upd_ne, true_or, or_true, V.v1, V.v6, V.v7, V.v8, V.v9, V.i1, V.i6, V.i7, V.i8, V.i9, V.r2, V.r3, V.r4, V.r5, V.pl, V.a2, V.a3, V.a4, V.a5]
  rw [p68_2 V.cn (Nat.le_of_ble_eq_true rfl) (sp_isTold V hP h9)]
  by_cases h : 0 ≤ p.toInt ∧ p.toInt < P
  · obtain ⟨j, hj, rfl, hpi⟩ := i9 (v := p) (N := 9) h.1 (by omega) (by omega)
    have hb := bit_has T hT2 j hj
    have ej : (nI j).toInt.toNat = j := by rw [hpi]; rfl
    have hc : (0 ≤ (nI j).toInt ∧ (nI j).toInt < P) = True := eq_true h
    rw [ej]
    by_cases h2 : T.testBit j = true
    · have h2' : (¬ T.testBit j = true) = False := eq_false (fun z => z h2)
      simp (disch := first | omega | decide | assumption | exact Nat.le_of_ble_eq_true rfl) only [s68_5, s68_8, s68_9, s68_12, s68_13, s68_14, s68_15, s68_16, s68_19, s68_20, s68_23, s68_24, ow_some, true_and, and_true, and_self, if_true, if_false, not_true, not_false_eq_true, Bool.false_eq_true, eq_self, Option.toList, List.cons_append, List.nil_append, ix_in, ix_cl, lt_in, lt_cl, lt_add, ix_one, vu_eq, vu_ne, arI_mk, arL_mk, arY_mZ, arY_mB, alen_mI, fld_sfl_ne, fld_sfl_same, Option.isSome_some, pok_i, b1z, b01, z10, b1o, Int32.zero_add, vu_vu, upd_eq, upd_ne, true_or, or_true, V.v1, V.v6, V.v7, V.v8, V.v9, V.i1, V.i6, V.i7, V.i8, V.i9, V.r2, V.r3, V.r4, V.r5, V.pl, V.a2, V.a3, V.a4, V.a5, hc, hT, hb, h2', h2]
    · have h2' : (¬ T.testBit j = true) = True := eq_true h2
      simp (disch := first | omega | decide | assumption | exact Nat.le_of_ble_eq_true rfl) only [s68_5, s68_8, s68_9, s68_12, s68_13, s68_14, s68_15, s68_16, s68_19, s68_20, s68_23, s68_24, ow_some, true_and, and_true, and_self, if_true, if_false, not_true, not_false_eq_true, Bool.false_eq_true, eq_self, Option.toList, List.cons_append, List.nil_append, ix_in, ix_cl, lt_in, lt_cl, lt_add, ix_one, vu_eq, vu_ne, arI_mk, arL_mk, arY_mZ, arY_mB, alen_mI, fld_sfl_ne, fld_sfl_same, Option.isSome_some, pok_i, b1z, b01, z10, b1o, Int32.zero_add, vu_vu, upd_eq, upd_ne, true_or, or_true, V.v1, V.v6, V.v7, V.v8, V.v9, V.i1, V.i6, V.i7, V.i8, V.i9, V.r2, V.r3, V.r4, V.r5, V.pl, V.a2, V.a3, V.a4, V.a5, hc, hT, hb, h2', h2]
  · have hc : (0 ≤ p.toInt ∧ p.toInt < P) = False := eq_false h
    simp (disch := first | omega | decide | assumption | exact Nat.le_of_ble_eq_true rfl) only [s68_5, s68_8, s68_9, s68_12, s68_13, s68_14, s68_15, s68_16, s68_19, s68_20, s68_23, s68_24, ow_some, true_and, and_true, and_self, if_true, if_false, not_true, not_false_eq_true, Bool.false_eq_true, eq_self, Option.toList, List.cons_append, List.nil_append, ix_in, ix_cl, lt_in, lt_cl, lt_add, ix_one, vu_eq, vu_ne, arI_mk, arL_mk, arY_mZ, arY_mB, alen_mI, fld_sfl_ne, fld_sfl_same, Option.isSome_some, pok_i, b1z, b01, z10, b1o, Int32.zero_add, vu_vu, upd_eq, upd_ne, true_or, or_true, V.v1, V.v6, V.v7, V.v8, V.v9, V.i1, V.i6, V.i7, V.i8, V.i9, V.r2, V.r3, V.r4, V.r5, V.pl, V.a2, V.a3, V.a4, V.a5, hc, false_and]
theorem sp_isTj (V : SV f a pl w x) (hP : w 1 = nI P) (h9 : P ≤ 9) (hT : w 6 = nI T) (hT2 : T < 512) {j : Nat} (hj : j < P) : PU X (d + 1) 68 [.ref a, .int (nI j)] f N K (some (.int (if T.testBit j = true then 1 else 0))) := by
  have h := sp_isTh (X := X) (d := d) (N := N) (K := K) V hP h9 hT hT2 (p := nI j)
  rw [nI_toInt (by omega)] at h
  have e : ((0 ≤ (j : Int) ∧ (j : Int) < P) ∧ T.testBit (j : Int).toNat = true) = (T.testBit j = true) := by
    rw [eq_true (show 0 ≤ (j : Int) ∧ (j : Int) < P by omega), true_and]; rfl
  simp only [e] at h
  exact h
theorem sp_wed (V : SV f a pl w x) (W : PV f pl v r C) {all : Nat → Int32} (hm : ∀ p, p < 9 → r 9 p = all (43 + p)) {p : Nat} (hp : p < 9) (ho : all (43 + p) = -1 ∨ ∃ j, j < 9 ∧ all (43 + p) = nI j) (hT2 : T < 512) {u3 : Value} : PU X d 70 [.ref a, .int (nI p), .int (nI T), u3] f N K (some (.int (m_wed all p T))) := by
  have e := hm p hp
  unfold PU m_wed
  rcases ho with h | ⟨j, hj, h⟩
  · rw [if_pos h]
    rw [h] at e
    simp (disch := first | omega | decide | assumption | exact Nat.le_of_ble_eq_true rfl) only [s70_0, s70_1, s70_4, s70_7, s70_8, s70_9, s70_10, s70_11, s70_12, s70_15, s70_16, s70_17, s70_18, s70_19, s70_20, s70_23, s70_24, s70_27, s70_28, ow_some, true_and, and_true, and_self, if_true, if_false, not_true, not_false_eq_true, Bool.false_eq_true, eq_self, Option.toList, List.cons_append, List.nil_append, ix_in, ix_cl, lt_in, lt_cl, lt_add, ix_one, vu_eq, vu_ne, arI_mk, arL_mk, arY_mZ, arY_mB, alen_mI, fld_sfl_ne, fld_sfl_same, Option.isSome_some, pok_i, b1z, b01, z10, b1o, Int32.zero_add, vu_vu, upd_eq, upd_ne, true_or, or_true, V.v1, V.v6, V.v7, V.v8, V.v9, V.i1, V.i6, V.i7, V.i8, V.i9, V.r2, V.r3, V.r4, V.r5, V.pl, V.a2, V.a3, V.a4, V.a5, W.v0, W.v3, W.v10, W.v11, W.v12, W.v14, W.v15, W.v16, W.v17, W.v18, W.r1, W.r2, W.r4, W.r5, W.r6, W.r7, W.r8, W.r9, W.r13, W.a1, W.a2, W.a4, W.a5, W.a6, W.a7, W.a8, W.a9, W.a13, e]
  · have hne := ne_m1 (m := j) (by omega)
    rw [h] at e
    rw [h, if_neg (by rw [hne]; exact id), ix_cl (by omega)]
    have hb := bit_has T hT2 j hj
    by_cases h2 : T.testBit j = true
    · have h2' : (¬ T.testBit j = true) = False := eq_false (fun z => z h2)
      simp (disch := first | omega | decide | assumption | exact Nat.le_of_ble_eq_true rfl) only [s70_0, s70_1, s70_4, s70_7, s70_8, s70_9, s70_10, s70_11, s70_12, s70_15, s70_16, s70_17, s70_18, s70_19, s70_20, s70_23, s70_24, s70_27, s70_28, ow_some, true_and, and_true, and_self, if_true, if_false, not_true, not_false_eq_true, Bool.false_eq_true, eq_self, Option.toList, List.cons_append, List.nil_append, ix_in, ix_cl, lt_in, lt_cl, lt_add, ix_one, vu_eq, vu_ne, arI_mk, arL_mk, arY_mZ, arY_mB, alen_mI, fld_sfl_ne, fld_sfl_same, Option.isSome_some, pok_i, b1z, b01, z10, b1o, Int32.zero_add, vu_vu, upd_eq, upd_ne, true_or, or_true, V.v1, V.v6, V.v7, V.v8, V.v9, V.i1, V.i6, V.i7, V.i8, V.i9, V.r2, V.r3, V.r4, V.r5, V.pl, V.a2, V.a3, V.a4, V.a5, W.v0, W.v3, W.v10, W.v11, W.v12, W.v14, W.v15, W.v16, W.v17, W.v18, W.r1, W.r2, W.r4, W.r5, W.r6, W.r7, W.r8, W.r9, W.r13, W.a1, W.a2, W.a4, W.a5, W.a6, W.a7, W.a8, W.a9, W.a13, e, hne, hb, h2', h2]
    · have h2' : (¬ T.testBit j = true) = True := eq_true h2
      simp (disch := first | omega | decide | assumption | exact Nat.le_of_ble_eq_true rfl) only [s70_0, s70_1, s70_4, s70_7, s70_8, s70_9, s70_10, s70_11, s70_12, s70_15, s70_16, s70_17, s70_18, s70_19, s70_20, s70_23, s70_24, s70_27, s70_28, ow_some, true_and, and_true, and_self, if_true, if_false, not_true, not_false_eq_true, Bool.false_eq_true, eq_self, Option.toList, List.cons_append, List.nil_append, ix_in, ix_cl, lt_in, lt_cl, lt_add, ix_one, vu_eq, vu_ne, arI_mk, arL_mk, arY_mZ, arY_mB, alen_mI, fld_sfl_ne, fld_sfl_same, Option.isSome_some, pok_i, b1z, b01, z10, b1o, Int32.zero_add, vu_vu, upd_eq, upd_ne, true_or, or_true, V.v1, V.v6, V.v7, V.v8, V.v9, V.i1, V.i6, V.i7, V.i8, V.i9, V.r2, V.r3, V.r4, V.r5, V.pl, V.a2, V.a3, V.a4, V.a5, W.v0, W.v3, W.v10, W.v11, W.v12, W.v14, W.v15, W.v16, W.v17, W.v18, W.r1, W.r2, W.r4, W.r5, W.r6, W.r7, W.r8, W.r9, W.r13, W.a1, W.a2, W.a4, W.a5, W.a6, W.a7, W.a8, W.a9, W.a13, e, hne, hb, h2', h2]
theorem sp_ageOf (V : SV f a pl w x) {p : Nat} (hp : p < 9) : PU X d 71 [.ref a, .int (nI p)] f N K (some (.int (w 8 - x 4 p))) := by
  unfold PU
  simp (disch := first | omega | decide | assumption | exact Nat.le_of_ble_eq_true rfl) only [s71_0, s71_1, s71_4, s71_5, s71_8, s71_9, s71_10, s71_11, ow_some, true_and, and_true, and_self, if_true, if_false, not_true, not_false_eq_true, Bool.false_eq_true, eq_self, Option.toList, List.cons_append, List.nil_append, ix_in, ix_cl, lt_in, lt_cl, lt_add, ix_one, vu_eq, vu_ne, arI_mk, arL_mk, arY_mZ, arY_mB, alen_mI, fld_sfl_ne, fld_sfl_same, Option.isSome_some, pok_i, b1z, b01, z10, b1o, Int32.zero_add, vu_vu, upd_eq, upd_ne, true_or, or_true, V.v1, V.v6, V.v7, V.v8, V.v9, V.i1, V.i6, V.i7, V.i8, V.i9, V.r2, V.r3, V.r4, V.r5, V.pl, V.a2, V.a3, V.a4, V.a5]
theorem sp_isStp (V : SV f a pl w x) (W : PV f pl v r C) (hS : v 0 = nI S) (h8 : S ≤ 8) {p : Int32} : PU X d 72 [.ref a, .int p] f N K (some (.int (if 0 ≤ p.toInt ∧ p.toInt < S then 1 else 0))) := by
  unfold PU
  by_cases h0 : p.toInt < 0
  · have h1 : ¬ (0 ≤ p.toInt ∧ p.toInt < S) := by omega
    have h2 : (p < 0) = True := by rw [i_lt0]; exact eq_true h0
    rw [if_neg h1]
    simp (disch := first | omega | decide | assumption | exact Nat.le_of_ble_eq_true rfl) only [s72_0, s72_1, s72_4, s72_5, s72_6, s72_9, s72_12, s72_15, s72_16, s72_19, s72_20, ow_some, true_and, and_true, and_self, if_true, if_false, not_true, not_false_eq_true, Bool.false_eq_true, eq_self, Option.toList, List.cons_append, List.nil_append, ix_in, ix_cl, lt_in, lt_cl, lt_add, ix_one, vu_eq, vu_ne, arI_mk, arL_mk, arY_mZ, arY_mB, alen_mI, fld_sfl_ne, fld_sfl_same, Option.isSome_some, pok_i, b1z, b01, z10, b1o, Int32.zero_add, vu_vu, upd_eq, upd_ne, true_or, or_true, V.v1, V.v6, V.v7, V.v8, V.v9, V.i1, V.i6, V.i7, V.i8, V.i9, V.r2, V.r3, V.r4, V.r5, V.pl, V.a2, V.a3, V.a4, V.a5, W.v0, W.v3, W.v10, W.v11, W.v12, W.v14, W.v15, W.v16, W.v17, W.v18, W.r1, W.r2, W.r4, W.r5, W.r6, W.r7, W.r8, W.r9, W.r13, W.a1, W.a2, W.a4, W.a5, W.a6, W.a7, W.a8, W.a9, W.a13, h2]
  · have h2 : (p < 0) = False := by rw [i_lt0]; exact eq_false h0
    by_cases h3 : (S : Int) ≤ p.toInt
    · have h4 : (nI S ≤ p) = True := by rw [i_ge (by omega)]; exact eq_true h3
      rw [if_neg (by omega)]
      simp (disch := first | omega | decide | assumption | exact Nat.le_of_ble_eq_true rfl) only [s72_0, s72_1, s72_4, s72_5, s72_6, s72_9, s72_12, s72_15, s72_16, s72_19, s72_20, ow_some, true_and, and_true, and_self, if_true, if_false, not_true, not_false_eq_true, Bool.false_eq_true, eq_self, Option.toList, List.cons_append, List.nil_append, ix_in, ix_cl, lt_in, lt_cl, lt_add, ix_one, vu_eq, vu_ne, arI_mk, arL_mk, arY_mZ, arY_mB, alen_mI, fld_sfl_ne, fld_sfl_same, Option.isSome_some, pok_i, b1z, b01, z10, b1o, Int32.zero_add, vu_vu, upd_eq, upd_ne, true_or, or_true, V.v1, V.v6, V.v7, V.v8, V.v9, V.i1, V.i6, V.i7, V.i8, V.i9, V.r2, V.r3, V.r4, V.r5, V.pl, V.a2, V.a3, V.a4, V.a5, W.v0, W.v3, W.v10, W.v11, W.v12, W.v14, W.v15, W.v16, W.v17, W.v18, W.r1, W.r2, W.r4, W.r5, W.r6, W.r7, W.r8, W.r9, W.r13, W.a1, W.a2, W.a4, W.a5, W.a6, W.a7, W.a8, W.a9, W.a13, h2, hS, h4]
    · have h4 : (nI S ≤ p) = False := by rw [i_ge (by omega)]; exact eq_false h3
      rw [if_pos (by omega)]
      simp (disch := first | omega | decide | assumption | exact Nat.le_of_ble_eq_true rfl) only [s72_0, s72_1, s72_4, s72_5, s72_6, s72_9, s72_12, s72_15, s72_16, s72_19, s72_20, ow_some, true_and, and_true, and_self, if_true, if_false, not_true, not_false_eq_true, Bool.false_eq_true, eq_self, Option.toList, List.cons_append, List.nil_append, ix_in, ix_cl, lt_in, lt_cl, lt_add, ix_one, vu_eq, vu_ne, arI_mk, arL_mk, arY_mZ, arY_mB, alen_mI, fld_sfl_ne, fld_sfl_same, Option.isSome_some, pok_i, b1z, b01, z10, b1o, Int32.zero_add, vu_vu, upd_eq, upd_ne, true_or, or_true, V.v1, V.v6, V.v7, V.v8, V.v9, V.i1, V.i6, V.i7, V.i8, V.i9, V.r2, V.r3, V.r4, V.r5, V.pl, V.a2, V.a3, V.a4, V.a5, W.v0, W.v3, W.v10, W.v11, W.v12, W.v14, W.v15, W.v16, W.v17, W.v18, W.r1, W.r2, W.r4, W.r5, W.r6, W.r7, W.r8, W.r9, W.r13, W.a1, W.a2, W.a4, W.a5, W.a6, W.a7, W.a8, W.a9, W.a13, h2, hS, h4]
end SCN
