/-! the class: its own cell, and the questions of the staircase -/
def HV (f : Nat → e_C) (t : Nat → Int32) : Prop := (∀ i ∈ [1, 2, 3, 7, 8], fld (f 0) 11 i = some (.int (t i))) ∧ ∀ r ∈ [((0 : Nat), (1 : Nat)), ((4 : Nat), (12 : Nat)), ((5 : Nat), (17 : Nat)), ((6 : Nat), (22 : Nat)), ((9 : Nat), (78 : Nat)), ((10 : Nat), (89 : Nat)), ((11 : Nat), (90 : Nat)), ((12 : Nat), (99 : Nat)), ((13 : Nat), (112 : Nat)), ((14 : Nat), (119 : Nat)), ((15 : Nat), (127 : Nat)), ((16 : Nat), (136 : Nat)), ((17 : Nat), (148 : Nat)), ((18 : Nat), (159 : Nat))], fld (f 0) 11 r.1 = some (.ref r.2)
theorem HV.v1 {f : Nat → e_C} {t : Nat → Int32} (h : HV f t) : fld (f 0) 11 1 = some (.int (t 1)) := h.1 1 (by decide)
theorem HV.v2 {f : Nat → e_C} {t : Nat → Int32} (h : HV f t) : fld (f 0) 11 2 = some (.int (t 2)) := h.1 2 (by decide)
theorem HV.v3 {f : Nat → e_C} {t : Nat → Int32} (h : HV f t) : fld (f 0) 11 3 = some (.int (t 3)) := h.1 3 (by decide)
theorem HV.v7 {f : Nat → e_C} {t : Nat → Int32} (h : HV f t) : fld (f 0) 11 7 = some (.int (t 7)) := h.1 7 (by decide)
theorem HV.v8 {f : Nat → e_C} {t : Nat → Int32} (h : HV f t) : fld (f 0) 11 8 = some (.int (t 8)) := h.1 8 (by decide)
theorem HV.r0 {f : Nat → e_C} {t : Nat → Int32} (h : HV f t) : fld (f 0) 11 0 = some (.ref 1) := h.2 (0, 1) (by decide)
theorem HV.r4 {f : Nat → e_C} {t : Nat → Int32} (h : HV f t) : fld (f 0) 11 4 = some (.ref 12) := h.2 (4, 12) (by decide)
theorem HV.r5 {f : Nat → e_C} {t : Nat → Int32} (h : HV f t) : fld (f 0) 11 5 = some (.ref 17) := h.2 (5, 17) (by decide)
theorem HV.r6 {f : Nat → e_C} {t : Nat → Int32} (h : HV f t) : fld (f 0) 11 6 = some (.ref 22) := h.2 (6, 22) (by decide)
theorem HV.r9 {f : Nat → e_C} {t : Nat → Int32} (h : HV f t) : fld (f 0) 11 9 = some (.ref 78) := h.2 (9, 78) (by decide)
theorem HV.r10 {f : Nat → e_C} {t : Nat → Int32} (h : HV f t) : fld (f 0) 11 10 = some (.ref 89) := h.2 (10, 89) (by decide)
theorem HV.r11 {f : Nat → e_C} {t : Nat → Int32} (h : HV f t) : fld (f 0) 11 11 = some (.ref 90) := h.2 (11, 90) (by decide)
theorem HV.r12 {f : Nat → e_C} {t : Nat → Int32} (h : HV f t) : fld (f 0) 11 12 = some (.ref 99) := h.2 (12, 99) (by decide)
theorem HV.r13 {f : Nat → e_C} {t : Nat → Int32} (h : HV f t) : fld (f 0) 11 13 = some (.ref 112) := h.2 (13, 112) (by decide)
theorem HV.r14 {f : Nat → e_C} {t : Nat → Int32} (h : HV f t) : fld (f 0) 11 14 = some (.ref 119) := h.2 (14, 119) (by decide)
theorem HV.r15 {f : Nat → e_C} {t : Nat → Int32} (h : HV f t) : fld (f 0) 11 15 = some (.ref 127) := h.2 (15, 127) (by decide)
theorem HV.r16 {f : Nat → e_C} {t : Nat → Int32} (h : HV f t) : fld (f 0) 11 16 = some (.ref 136) := h.2 (16, 136) (by decide)
theorem HV.r17 {f : Nat → e_C} {t : Nat → Int32} (h : HV f t) : fld (f 0) 11 17 = some (.ref 148) := h.2 (17, 148) (by decide)
theorem HV.r18 {f : Nat → e_C} {t : Nat → Int32} (h : HV f t) : fld (f 0) 11 18 = some (.ref 159) := h.2 (18, 159) (by decide)
theorem HV.cn {f : Nat → e_C} {t : Nat → Int32} (h : HV f t) : cno (f 0) = some 11 := cno_fld (j := 0) (by rw [h.r0]; rfl)
theorem HV.fr {f f' : Nat → e_C} {t : Nat → Int32} (h : HV f t) (e : f' 0 = f 0) : HV f' t := by unfold HV; rw [e]; exact h
/-- what a question of the scales ends with -/
def QL (f : Nat → e_C) (N K : Nat) (z : Int32) : t_Q := fun f' n' k' v => n' = N ∧ k' = K ∧ SI 114 119 f f' ∧ (∃ y', LV f' 112 y') ∧ v = some (.int z)
section HOME
variable {X : Nat × (Nat → Int32)} {d N K pl C S R P : Nat} {f : Nat → e_C} {y x r : Nat → Nat → Int32} {t w v all : Nat → Int32}
theorem sp_faultC (H : HV f t) {z : Int32} : PU X d 116 [.ref 0, .int z] f N K (some (.int (if z = 0 then t 2 else if z = 1 then t 3 else -1))) := by
  unfold PU
  have v2 := H.v2
  have v3 := H.v3
  by_cases h0 : z = 0
  · have h0' : (z = 0) = True := eq_true h0
    rw [if_pos h0]
    simp (disch := first | omega | decide | assumption | exact Nat.le_of_ble_eq_true rfl) only [s116_0, s116_1, s116_4, s116_5, s116_8, ow_some, true_and, and_true, and_self, if_true, if_false, not_true, not_false_eq_true, Bool.false_eq_true, eq_self, Option.toList, List.cons_append, List.nil_append, ix_in, ix_cl, lt_in, lt_cl, lt_add, ix_one, vu_eq, vu_ne, arI_mk, arL_mk, arY_mZ, arY_mB, alen_mI, fld_sfl_ne, fld_sfl_same, Option.isSome_some, pok_i, b1z, b01, z10, b1o, Int32.zero_add, vu_vu, upd_eq, upd_ne, true_or, or_true, h0', v2, ne_eq]
  · have h0' : (z = 0) = False := eq_false h0
    rw [if_neg h0]
    by_cases h1 : z = 1
    · have h1' : (z = 1) = True := eq_true h1
      rw [if_pos h1]
      simp (disch := first | omega | decide | assumption | exact Nat.le_of_ble_eq_true rfl) only [s116_0, s116_1, s116_9, s116_10, s116_11, s116_14, s116_15, s116_18, s116_21, s116_22, ow_some, true_and, and_true, and_self, if_true, if_false, not_true, not_false_eq_true, Bool.false_eq_true, eq_self, Option.toList, List.cons_append, List.nil_append, ix_in, ix_cl, lt_in, lt_cl, lt_add, ix_one, vu_eq, vu_ne, arI_mk, arL_mk, arY_mZ, arY_mB, alen_mI, fld_sfl_ne, fld_sfl_same, Option.isSome_some, pok_i, b1z, b01, z10, b1o, Int32.zero_add, vu_vu, upd_eq, upd_ne, true_or, or_true, h0', h1', v3, ne_eq]
    · have h1' : (z = 1) = False := eq_false h1
      rw [if_neg h1]
      simp (disch := first | omega | decide | assumption | exact Nat.le_of_ble_eq_true rfl) only [s116_0, s116_1, s116_9, s116_10, s116_11, s116_14, s116_15, s116_18, s116_21, s116_22, ow_some, true_and, and_true, and_self, if_true, if_false, not_true, not_false_eq_true, Bool.false_eq_true, eq_self, Option.toList, List.cons_append, List.nil_append, ix_in, ix_cl, lt_in, lt_cl, lt_add, ix_one, vu_eq, vu_ne, arI_mk, arL_mk, arY_mZ, arY_mB, alen_mI, fld_sfl_ne, fld_sfl_same, Option.isSome_some, pok_i, b1z, b01, z10, b1o, Int32.zero_add, vu_vu, upd_eq, upd_ne, true_or, or_true, h0', h1', ne_eq]
theorem sp_standsC (H : HV f t) (V : SV f 12 pl w x) (G : CR all S P w x v r C) (hm : mfl all S P) : PU X d 120 [.ref 0] f N K (some (.int (o_stands all S P))) := by
  unfold PU o_stands
  have r4 := H.r4
  have g9 := G.w9
  rcases hm with ⟨h1, h2⟩ | ⟨h1, h2⟩
  · rw [if_pos ⟨h1, h2⟩]
    simp (disch := first | omega | decide | assumption | exact Nat.le_of_ble_eq_true rfl) only [s120_0, s120_1, s120_4, s120_7, s120_10, s120_11, s120_14, s120_15, ow_some, true_and, and_true, and_self, if_true, if_false, not_true, not_false_eq_true, Bool.false_eq_true, eq_self, Option.toList, List.cons_append, List.nil_append, ix_in, ix_cl, lt_in, lt_cl, lt_add, ix_one, vu_eq, vu_ne, arI_mk, arL_mk, arY_mZ, arY_mB, alen_mI, fld_sfl_ne, fld_sfl_same, Option.isSome_some, pok_i, b1z, b01, z10, b1o, Int32.zero_add, vu_vu, upd_eq, upd_ne, true_or, or_true, V.v1, V.v6, V.v7, V.v8, V.v9, V.i1, V.i6, V.i7, V.i8, V.i9, V.r2, V.r3, V.r4, V.r5, V.pl, V.a2, V.a3, V.a4, V.a5, r4, g9, h1]
  · have h3 : ¬ (all 54 = 0 ∧ m_hold all S P (nT all) = true) := fun z => by rw [h2] at z; exact absurd z.2 (by decide)
    rw [if_neg h3]
    simp (disch := first | omega | decide | assumption | exact Nat.le_of_ble_eq_true rfl) only [s120_0, s120_1, s120_4, s120_7, s120_10, s120_11, s120_14, s120_15, ow_some, true_and, and_true, and_self, if_true, if_false, not_true, not_false_eq_true, Bool.false_eq_true, eq_self, Option.toList, List.cons_append, List.nil_append, ix_in, ix_cl, lt_in, lt_cl, lt_add, ix_one, vu_eq, vu_ne, arI_mk, arL_mk, arY_mZ, arY_mB, alen_mI, fld_sfl_ne, fld_sfl_same, Option.isSome_some, pok_i, b1z, b01, z10, b1o, Int32.zero_add, vu_vu, upd_eq, upd_ne, true_or, or_true, V.v1, V.v6, V.v7, V.v8, V.v9, V.i1, V.i6, V.i7, V.i8, V.i9, V.r2, V.r3, V.r4, V.r5, V.pl, V.a2, V.a3, V.a4, V.a5, r4, g9, h1]
theorem sp_spareC (H : HV f t) (L : LV f 112 y) (V : SV f 12 pl w x) (W : PV f pl v r C) (G : CR all S P w x v r C) (I : IS all S R P) (hd : AD 12 pl 112) : TT X (d + 4) 122 0 [.ref 0] [] f N K (QL f N K (m_sp all S P (nT all))) := by
  have r4 := H.r4
  have r13 := H.r13
  simp (disch := first | omega | decide | assumption | exact Nat.le_of_ble_eq_true rfl) only [s122_0, s122_1, s122_4, s122_5, s122_8, ow_some, true_and, and_true, and_self, if_true, if_false, not_true, not_false_eq_true, Bool.false_eq_true, eq_self, Option.toList, List.cons_append, List.nil_append, ix_in, ix_cl, lt_in, lt_cl, lt_add, ix_one, vu_eq, vu_ne, arI_mk, arL_mk, arY_mZ, arY_mB, alen_mI, fld_sfl_ne, fld_sfl_same, Option.isSome_some, pok_i, b1z, b01, z10, b1o, Int32.zero_add, vu_vu, upd_eq, upd_ne, true_or, or_true, r4, r13]
  refine k122_9 L.cn (Nat.le_of_ble_eq_true rfl) (sp_later L V W G I hd (n := 0) (by decide)) ?_
  rintro f1 n1 k1 v1 ⟨rfl, rfl, s1, ⟨y1, L1, -⟩, rfl⟩
  rw [lat_0]
  simp (disch := first | omega | decide | assumption | exact Nat.le_of_ble_eq_true rfl) only [s122_12, ow_some, true_and, and_true, and_self, if_true, if_false, not_true, not_false_eq_true, Bool.false_eq_true, eq_self, Option.toList, List.cons_append, List.nil_append, ix_in, ix_cl, lt_in, lt_cl, lt_add, ix_one, vu_eq, vu_ne, arI_mk, arL_mk, arY_mZ, arY_mB, alen_mI, fld_sfl_ne, fld_sfl_same, Option.isSome_some, pok_i, b1z, b01, z10, b1o, Int32.zero_add, vu_vu, upd_eq, upd_ne, true_or, or_true]
  exact ⟨rfl, rfl, s1, ⟨y1, L1⟩, rfl⟩
theorem sp_stepBears (H : HV f t) (L : LV f 112 y) (V : SV f 12 pl w x) (W : PV f pl v r C) (G : CR all S P w x v r C) (I : IS all S R P) (hd : AD 12 pl 112) {k : Nat} (hk : k < S) : TT X (d + 4) 119 0 [.ref 0, .int (nI k)] [] f N K (QL f N K (m_bo all (nT all) P k)) := by
  have r4 := H.r4
  have r13 := H.r13
  have h8 := I.s8
  simp (disch := first | omega | decide | assumption | exact Nat.le_of_ble_eq_true rfl) only [s119_0, s119_1, s119_4, s119_5, s119_8, ow_some, true_and, and_true, and_self, if_true, if_false, not_true, not_false_eq_true, Bool.false_eq_true, eq_self, Option.toList, List.cons_append, List.nil_append, ix_in, ix_cl, lt_in, lt_cl, lt_add, ix_one, vu_eq, vu_ne, arI_mk, arL_mk, arY_mZ, arY_mB, alen_mI, fld_sfl_ne, fld_sfl_same, Option.isSome_some, pok_i, b1z, b01, z10, b1o, Int32.zero_add, vu_vu, upd_eq, upd_ne, true_or, or_true, r4, r13]
  refine k119_9 L.cn (Nat.le_of_ble_eq_true rfl) (sp_later L V W G I hd (n := 0) (by decide)) ?_
  rintro f1 n1 k1 v1 ⟨rfl, rfl, s1, ⟨y1, L1, -, h4⟩, rfl⟩
  have r13' := (H.fr (s1 0 (by omega))).r13
  have e4 := h4 k hk
  rw [lat_0] at e4
  have k8 : k < 8 := by omega
  simp (disch := first | omega | decide | assumption | exact Nat.le_of_ble_eq_true rfl) only [s119_12, s119_13, s119_14, s119_17, s119_20, s119_21, s119_22, ow_some, true_and, and_true, and_self, if_true, if_false, not_true, not_false_eq_true, Bool.false_eq_true, eq_self, Option.toList, List.cons_append, List.nil_append, ix_in, ix_cl, lt_in, lt_cl, lt_add, ix_one, vu_eq, vu_ne, arI_mk, arL_mk, arY_mZ, arY_mB, alen_mI, fld_sfl_ne, fld_sfl_same, Option.isSome_some, pok_i, b1z, b01, z10, b1o, Int32.zero_add, vu_vu, upd_eq, upd_ne, true_or, or_true, L1.r0, L1.r1, L1.r2, L1.r3, L1.l0, L1.l1, L1.a0, L1.a1, L1.a2, L1.a3, L1.a4, r13', e4]
  exact ⟨rfl, rfl, s1, ⟨y1, L1⟩, rfl⟩
end HOME
