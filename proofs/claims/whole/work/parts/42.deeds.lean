/-! the reference: the deeds -/
theorem m_vd_cong {cs cs' : Nat → Int32} : ∀ (m k h : Nat), (∀ i, k ≤ i → i < k + m → cs i = cs' i) → m_vd cs m k h → m_vd cs' m k h := by
  intro m
  induction m with
  | zero => intro k h _ hv; exact hv
  | succ m ih =>
    intro k h hc hv
    unfold m_vd at hv ⊢
    have e : cs' k = cs k := (hc k (by omega) (by omega)).symm
    rw [e]
    have hc' : ∀ i, k + 1 ≤ i → i < k + 1 + m → cs i = cs' i := fun i h1 h2 => hc i (by omega) (by omega)
    rcases hv with ⟨a, b, c, e⟩ | ⟨a, b, e⟩ | ⟨a, b, c, e⟩
    · exact Or.inl ⟨a, b, c, ih _ _ hc' e⟩
    · exact Or.inr (Or.inl ⟨a, b, ih _ _ hc' e⟩)
    · exact Or.inr (Or.inr ⟨a, b, c, ih _ _ hc' e⟩)
/-- the places that AL looks at -/
def al_i (i : Nat) : Prop := i = 1 ∨ (3 ≤ i ∧ i ≤ 8) ∨ (43 ≤ i ∧ i ≤ 52) ∨ (57 ≤ i ∧ i ≤ 65) ∨ (494 ≤ i ∧ i < 1394)
theorem AL.cg {all all' : Nat → Int32} {S P : Nat} (A : AL all S P) (h : ∀ i, al_i i → all' i = all i) : AL all' S P := by
  obtain ⟨A1, A2, A3, A4, A5, A6, A7, A8⟩ := A
  unfold al_i at h
  refine ⟨by rw [h 1 (by omega)]; exact A1, A2, A3, by rw [h 52 (by omega)]; exact A4, A5, fun p hp => ?_, fun p hp => ?_, fun l hl => ?_⟩
  · rw [h (57 + p) (by omega)]; exact A6 p hp
  · rw [h (43 + p) (by omega)]; exact A7 p hp
  · rw [h (3 + l) (by omega)]
    rcases A8 l hl with h0 | ⟨h1, F, Mn, h2, h3, h4, h5⟩
    · exact Or.inl h0
    · refine Or.inr ⟨h1, F, Mn, by rw [h (5 + l) (by omega)]; exact h2, by rw [h (7 + l) (by omega)]; exact h3, h4, ?_⟩
      exact m_vd_cong _ _ _ (fun i _ hi => (h (494 + F + i) (by omega)).symm) h5
theorem AL.up {all : Nat → Int32} {S P a : Nat} {x : Int32} (A : AL all S P) (h : ¬ al_i a) : AL (upd all a x) S P := A.cg (fun i hi => upd_ne (fun e => h (e ▸ hi)))
def m_on (all : Nat → Int32) (T P k : Nat) : Nat := sel (fun p => T.testBit p && decide (all (57 + p) = nI k)) P
theorem sp_onStep {X : Nat × (Nat → Int32)} {d n k : Nat} {f : Nat → e_C} {s : m_T} {S P T j : Nat} {a2 a3 : Value} (V : MV f s) (A : AL s.1 S P) (hT : s.1 53 = nI T) (hT2 : T < 512) : PU X (d + 2) 218 [.ref 171, .int (nI j), a2, a3] f n k (some (.int (nI (m_on s.1 T P j)))) := by
  obtain ⟨A1, A2, A3, A4, A5, A6, -⟩ := A
  unfold PU
  simp (disch := first | omega | decide | assumption | exact Nat.le_of_ble_eq_true rfl) only [s218_0, s218_1, s218_2, h218_3, s218_4, s218_5, s218_6, s218_9, s218_11, s218_12, s218_15, s218_16, s218_17, s218_21, s218_24, s218_25, s218_28, s218_30, s218_31, s218_32, s218_33, s218_34, s218_37, s218_38, s218_39, s218_40, s218_43, s218_44, s218_45, s218_46, h218_49, s218_52, s218_53, ow_some, true_and, and_true, and_self, if_true, if_false, not_true, not_false_eq_true, Bool.false_eq_true, eq_self, Option.toList, List.cons_append, List.nil_append, ix_in, ix_cl, lt_in, lt_cl, lt_add, ix_one, vu_eq, vu_ne, arI_mk, arL_mk, arY_mZ, arY_mB, alen_mI, fld_sfl_ne, fld_sfl_same, Option.isSome_some, pok_i, b1z, b01, z10, b1o, Int32.zero_add, vu_vu, upd_eq, upd_ne, V.r1, V.r2, V.r3, V.r4, V.r16, V.r17, V.r18, V.r19, V.r20, V.r23, V.r24, V.r25, V.r26, V.r27, V.r28, V.r29, V.r30, V.c172, V.c173, V.c174, V.c186, V.c187, V.c188, V.n5, V.n13, V.n14, V.i0, V.i5, V.i6, V.i7, V.i8, V.i9, V.i10, V.i11, V.i12, V.i13, V.i14, V.i15, V.i21, V.i22]
  refine lp (fun p g x => g = f ∧ x = sel (fun p => T.testBit p && decide (s.1 (57 + p) = nI j)) p) (fun p x => [.ref 171, .int (nI j), .int (nI x), .int (nI p)]) P ?_ ?_ 0 f 0 (by omega) ⟨rfl, rfl⟩
  · rintro p g x hp ⟨rfl, rfl⟩ hI
    have hc : (P ≤ p) = False := eq_false (by omega)
    have hlt : sel (fun p => T.testBit p && decide (s.1 (57 + p) = nI j)) p < 512 := Nat.lt_of_lt_of_le sel_lt (pw9 (by omega))
    have hb := (bit_set _ hlt p (by omega)).1
    simp (disch := first | omega | decide | assumption | exact Nat.le_of_ble_eq_true rfl) only [s218_0, s218_1, s218_2, h218_3, s218_4, s218_5, s218_6, s218_9, s218_11, s218_12, s218_15, s218_16, s218_17, s218_21, s218_24, s218_25, s218_28, s218_30, s218_31, s218_32, s218_33, s218_34, s218_37, s218_38, s218_39, s218_40, s218_43, s218_44, s218_45, s218_46, h218_49, s218_52, s218_53, ow_some, true_and, and_true, and_self, if_true, if_false, not_true, not_false_eq_true, Bool.false_eq_true, eq_self, Option.toList, List.cons_append, List.nil_append, ix_in, ix_cl, lt_in, lt_cl, lt_add, ix_one, vu_eq, vu_ne, arI_mk, arL_mk, arY_mZ, arY_mB, alen_mI, fld_sfl_ne, fld_sfl_same, Option.isSome_some, pok_i, b1z, b01, z10, b1o, Int32.zero_add, vu_vu, upd_eq, upd_ne, V.r1, V.r2, V.r3, V.r4, V.r16, V.r17, V.r18, V.r19, V.r20, V.r23, V.r24, V.r25, V.r26, V.r27, V.r28, V.r29, V.r30, V.c172, V.c173, V.c174, V.c186, V.c187, V.c188, V.n5, V.n13, V.n14, V.i0, V.i5, V.i6, V.i7, V.i8, V.i9, V.i10, V.i11, V.i12, V.i13, V.i14, V.i15, V.i21, V.i22, A4, ix_le, hc]
    rw [p218_18 (cno_MR V.mr) (Nat.le_of_ble_eq_true rfl) (sp_isThere V.mr V.c172 hT hT2 (show p < 9 by omega))]
    simp (disch := first | omega | decide | assumption | exact Nat.le_of_ble_eq_true rfl) only [s218_0, s218_1, s218_2, h218_3, s218_4, s218_5, s218_6, s218_9, s218_11, s218_12, s218_15, s218_16, s218_17, s218_21, s218_24, s218_25, s218_28, s218_30, s218_31, s218_32, s218_33, s218_34, s218_37, s218_38, s218_39, s218_40, s218_43, s218_44, s218_45, s218_46, h218_49, s218_52, s218_53, ow_some, true_and, and_true, and_self, if_true, if_false, not_true, not_false_eq_true, Bool.false_eq_true, eq_self, Option.toList, List.cons_append, List.nil_append, ix_in, ix_cl, lt_in, lt_cl, lt_add, ix_one, vu_eq, vu_ne, arI_mk, arL_mk, arY_mZ, arY_mB, alen_mI, fld_sfl_ne, fld_sfl_same, Option.isSome_some, pok_i, b1z, b01, z10, b1o, Int32.zero_add, vu_vu, upd_eq, upd_ne, V.r1, V.r2, V.r3, V.r4, V.r16, V.r17, V.r18, V.r19, V.r20, V.r23, V.r24, V.r25, V.r26, V.r27, V.r28, V.r29, V.r30, V.c172, V.c173, V.c174, V.c186, V.c187, V.c188, V.n5, V.n13, V.n14, V.i0, V.i5, V.i6, V.i7, V.i8, V.i9, V.i10, V.i11, V.i12, V.i13, V.i14, V.i15, V.i21, V.i22]
    by_cases h1 : T.testBit p = true
    · by_cases h2 : s.1 (57 + p) = nI j
      · simp only [h1, h2, not_true, if_false, hb, ix_one]
        refine hI _ _ ⟨rfl, ?_⟩
        rw [sel_s]; simp [h1, h2]
      · simp only [h1, h2, not_true, not_false_eq_true, if_false, if_true, or_zero32, ix_one]
        refine hI _ _ ⟨rfl, ?_⟩
        rw [sel_s]; simp [h2]
    · simp only [h1, not_false_eq_true, if_true, or_zero32, ix_one]
      refine hI _ _ ⟨rfl, ?_⟩
      rw [sel_s]; simp [h1]
  · rintro g x ⟨rfl, rfl⟩
    simp (disch := first | omega | decide | assumption | exact Nat.le_of_ble_eq_true rfl) only [s218_0, s218_1, s218_2, h218_3, s218_4, s218_5, s218_6, s218_9, s218_11, s218_12, s218_15, s218_16, s218_17, s218_21, s218_24, s218_25, s218_28, s218_30, s218_31, s218_32, s218_33, s218_34, s218_37, s218_38, s218_39, s218_40, s218_43, s218_44, s218_45, s218_46, h218_49, s218_52, s218_53, ow_some, true_and, and_true, and_self, if_true, if_false, not_true, not_false_eq_true, Bool.false_eq_true, eq_self, Option.toList, List.cons_append, List.nil_append, ix_in, ix_cl, lt_in, lt_cl, lt_add, ix_one, vu_eq, vu_ne, arI_mk, arL_mk, arY_mZ, arY_mB, alen_mI, fld_sfl_ne, fld_sfl_same, Option.isSome_some, pok_i, b1z, b01, z10, b1o, Int32.zero_add, vu_vu, upd_eq, upd_ne, V.r1, V.r2, V.r3, V.r4, V.r16, V.r17, V.r18, V.r19, V.r20, V.r23, V.r24, V.r25, V.r26, V.r27, V.r28, V.r29, V.r30, V.c172, V.c173, V.c174, V.c186, V.c187, V.c188, V.n5, V.n13, V.n14, V.i0, V.i5, V.i6, V.i7, V.i8, V.i9, V.i10, V.i11, V.i12, V.i13, V.i14, V.i15, V.i21, V.i22, A4, ix_le, Nat.le_refl]
    rfl
/-- the reference keeps what deeds change -/
theorem sp_keeps {X : Nat × (Nat → Int32)} {d N K : Nat} {f : Nat → e_C} {s : m_T} {a1 : Value} (V : MV f s) : TT X d 224 0 [.ref 171, a1] [] f N K (fun f' n' k' v => n' = N ∧ k' = K ∧ v = none ∧ SW f f' ∧ MV f' s ∧ ∃ w, arI (f' 180) = some (40, w) ∧ ∀ i, i < 40 → w i = s.1 (52 + i)) := by
  obtain ⟨w0, hw0⟩ := V.e180
  simp (disch := first | omega | decide | assumption | exact Nat.le_of_ble_eq_true rfl) only [s224_0, h224_1, s224_2, s224_3, s224_5, s224_8, s224_9, s224_12, s224_13, s224_14, s224_17, s224_19, s224_20, s224_21, s224_22, s224_23, h224_26, s224_29, ow_some, true_and, and_true, and_self, if_true, if_false, not_true, not_false_eq_true, Bool.false_eq_true, eq_self, Option.toList, List.cons_append, List.nil_append, ix_in, ix_cl, lt_in, lt_cl, lt_add, ix_one, vu_eq, vu_ne, arI_mk, arL_mk, arY_mZ, arY_mB, alen_mI, fld_sfl_ne, fld_sfl_same, Option.isSome_some, pok_i, b1z, b01, z10, b1o, Int32.zero_add, vu_vu, upd_eq, upd_ne, V.r1, V.r2, V.r3, V.r4, V.r16, V.r17, V.r18, V.r19, V.r20, V.r23, V.r24, V.r25, V.r26, V.r27, V.r28, V.r29, V.r30, V.c172, V.c173, V.c174, V.c186, V.c187, V.c188, V.n5, V.n13, V.n14, V.i0, V.i5, V.i6, V.i7, V.i8, V.i9, V.i10, V.i11, V.i12, V.i13, V.i14, V.i15, V.i21, V.i22]
  refine lp (fun p g (w : Nat → Int32) => SW f g ∧ MV g s ∧ arI (g 180) = some (40, w) ∧ ∀ i, i < p → w i = s.1 (52 + i)) (fun p x => [.ref 171, .int (nI p)]) 40 ?_ ?_ 0 f w0 (by omega) ⟨SW.rf, V, hw0, fun i hi => by omega⟩
  · rintro p g w hp ⟨sm, V1, hw, hv⟩ hI
    have hc : (40 ≤ p) = False := eq_false (by omega)
    simp (disch := first | omega | decide | assumption | exact Nat.le_of_ble_eq_true rfl) only [s224_0, h224_1, s224_2, s224_3, s224_5, s224_8, s224_9, s224_12, s224_13, s224_14, s224_17, s224_19, s224_20, s224_21, s224_22, s224_23, h224_26, s224_29, ow_some, true_and, and_true, and_self, if_true, if_false, not_true, not_false_eq_true, Bool.false_eq_true, eq_self, Option.toList, List.cons_append, List.nil_append, ix_in, ix_cl, lt_in, lt_cl, lt_add, ix_one, vu_eq, vu_ne, arI_mk, arL_mk, arY_mZ, arY_mB, alen_mI, fld_sfl_ne, fld_sfl_same, Option.isSome_some, pok_i, b1z, b01, z10, b1o, Int32.zero_add, vu_vu, upd_eq, upd_ne, V1.r1, V1.r2, V1.r3, V1.r4, V1.r16, V1.r17, V1.r18, V1.r19, V1.r20, V1.r23, V1.r24, V1.r25, V1.r26, V1.r27, V1.r28, V1.r29, V1.r30, V1.c172, V1.c173, V1.c174, V1.c186, V1.c187, V1.c188, V1.n5, V1.n13, V1.n14, V1.i0, V1.i5, V1.i6, V1.i7, V1.i8, V1.i9, V1.i10, V1.i11, V1.i12, V1.i13, V1.i14, V1.i15, V1.i21, V1.i22, lt_le, hc, hw]
    refine hI _ (upd w p (s.1 (52 + p))) ⟨sm.tr (SW.up (by omega) (by omega)), V1.up ⟨_, rfl⟩, by rw [vu_eq]; rfl, fun i hi => ?_⟩
    by_cases h : i = p
    · subst h; rw [upd_eq]
    · rw [upd_ne h]; exact hv i (by omega)
  · rintro g w ⟨sm, V1, hw, hv⟩
    simp (disch := first | omega | decide | assumption | exact Nat.le_of_ble_eq_true rfl) only [s224_0, h224_1, s224_2, s224_3, s224_5, s224_8, s224_9, s224_12, s224_13, s224_14, s224_17, s224_19, s224_20, s224_21, s224_22, s224_23, h224_26, s224_29, ow_some, true_and, and_true, and_self, if_true, if_false, not_true, not_false_eq_true, Bool.false_eq_true, eq_self, Option.toList, List.cons_append, List.nil_append, ix_in, ix_cl, lt_in, lt_cl, lt_add, ix_one, vu_eq, vu_ne, arI_mk, arL_mk, arY_mZ, arY_mB, alen_mI, fld_sfl_ne, fld_sfl_same, Option.isSome_some, pok_i, b1z, b01, z10, b1o, Int32.zero_add, vu_vu, upd_eq, upd_ne, V1.r1, V1.r2, V1.r3, V1.r4, V1.r16, V1.r17, V1.r18, V1.r19, V1.r20, V1.r23, V1.r24, V1.r25, V1.r26, V1.r27, V1.r28, V1.r29, V1.r30, V1.c172, V1.c173, V1.c174, V1.c186, V1.c187, V1.c188, V1.n5, V1.n13, V1.n14, V1.i0, V1.i5, V1.i6, V1.i7, V1.i8, V1.i9, V1.i10, V1.i11, V1.i12, V1.i13, V1.i14, V1.i15, V1.i21, V1.i22, lt_le, Nat.le_refl]
    exact ⟨sm, V1, w, hw, hv⟩
def m_back (all w : Nat → Int32) (m : Nat) : Nat → Int32 := fun a => if 52 ≤ a ∧ a < 52 + m then w (a - 52) else all a
theorem m_back_s {all w : Nat → Int32} {m : Nat} : upd (m_back all w m) (52 + m) (w m) = m_back all w (m + 1) := by
  funext a
  by_cases h : a = 52 + m
  · subst h; rw [upd_eq, m_back, if_pos (by omega)]; congr 1; omega
  · rw [upd_ne h, m_back, m_back]
    by_cases h2 : 52 ≤ a ∧ a < 52 + m
    · rw [if_pos h2, if_pos (by omega)]
    · rw [if_neg h2, if_neg (by omega)]
theorem sp_isAgain {X : Nat × (Nat → Int32)} {d N K : Nat} {f : Nat → e_C} {s : m_T} {w : Nat → Int32} {a1 : Value} (V : MV f s) (hw : arI (f 180) = some (40, w)) : TT X d 247 0 [.ref 171, a1] [] f N K (MP N K f (m_back s.1 w 40, s.2) none) := by
  simp (disch := first | omega | decide | assumption | exact Nat.le_of_ble_eq_true rfl) only [s247_0, h247_1, s247_2, s247_3, s247_5, s247_8, s247_9, s247_12, s247_14, s247_15, s247_16, s247_17, s247_20, s247_21, s247_22, s247_23, h247_26, s247_29, ow_some, true_and, and_true, and_self, if_true, if_false, not_true, not_false_eq_true, Bool.false_eq_true, eq_self, Option.toList, List.cons_append, List.nil_append, ix_in, ix_cl, lt_in, lt_cl, lt_add, ix_one, vu_eq, vu_ne, arI_mk, arL_mk, arY_mZ, arY_mB, alen_mI, fld_sfl_ne, fld_sfl_same, Option.isSome_some, pok_i, b1z, b01, z10, b1o, Int32.zero_add, vu_vu, upd_eq, upd_ne, V.r1, V.r2, V.r3, V.r4, V.r16, V.r17, V.r18, V.r19, V.r20, V.r23, V.r24, V.r25, V.r26, V.r27, V.r28, V.r29, V.r30, V.c172, V.c173, V.c174, V.c186, V.c187, V.c188, V.n5, V.n13, V.n14, V.i0, V.i5, V.i6, V.i7, V.i8, V.i9, V.i10, V.i11, V.i12, V.i13, V.i14, V.i15, V.i21, V.i22]
  refine lp (fun p g (_ : Unit) => SM f g ∧ MV g (m_back s.1 w p, s.2) ∧ arI (g 180) = some (40, w)) (fun p x => [.ref 171, .int (nI p)]) 40 ?_ ?_ 0 f () (by omega) ⟨SM.rf, ?_, hw⟩
  · rintro p g _ hp ⟨sm, V1, hw⟩ hI
    have hc : (40 ≤ p) = False := eq_false (by omega)
    simp (disch := first | omega | decide | assumption | exact Nat.le_of_ble_eq_true rfl) only [s247_0, h247_1, s247_2, s247_3, s247_5, s247_8, s247_9, s247_12, s247_14, s247_15, s247_16, s247_17, s247_20, s247_21, s247_22, s247_23, h247_26, s247_29, ow_some, true_and, and_true, and_self, if_true, if_false, not_true, not_false_eq_true, Bool.false_eq_true, eq_self, Option.toList, List.cons_append, List.nil_append, ix_in, ix_cl, lt_in, lt_cl, lt_add, ix_one, vu_eq, vu_ne, arI_mk, arL_mk, arY_mZ, arY_mB, alen_mI, fld_sfl_ne, fld_sfl_same, Option.isSome_some, pok_i, b1z, b01, z10, b1o, Int32.zero_add, vu_vu, upd_eq, upd_ne, V1.r1, V1.r2, V1.r3, V1.r4, V1.r16, V1.r17, V1.r18, V1.r19, V1.r20, V1.r23, V1.r24, V1.r25, V1.r26, V1.r27, V1.r28, V1.r29, V1.r30, V1.c172, V1.c173, V1.c174, V1.c186, V1.c187, V1.c188, V1.n5, V1.n13, V1.n14, V1.i0, V1.i5, V1.i6, V1.i7, V1.i8, V1.i9, V1.i10, V1.i11, V1.i12, V1.i13, V1.i14, V1.i15, V1.i21, V1.i22, lt_le, hc, hw, m_back_s]
    exact hI _ () ⟨sm.tr (SM.up (by omega) (by omega)), V1.all, by rw [vu_ne (by decide)]; exact hw⟩
  · rintro g _ ⟨sm, V1, hw⟩
    simp (disch := first | omega | decide | assumption | exact Nat.le_of_ble_eq_true rfl) only [s247_0, h247_1, s247_2, s247_3, s247_5, s247_8, s247_9, s247_12, s247_14, s247_15, s247_16, s247_17, s247_20, s247_21, s247_22, s247_23, h247_26, s247_29, ow_some, true_and, and_true, and_self, if_true, if_false, not_true, not_false_eq_true, Bool.false_eq_true, eq_self, Option.toList, List.cons_append, List.nil_append, ix_in, ix_cl, lt_in, lt_cl, lt_add, ix_one, vu_eq, vu_ne, arI_mk, arL_mk, arY_mZ, arY_mB, alen_mI, fld_sfl_ne, fld_sfl_same, Option.isSome_some, pok_i, b1z, b01, z10, b1o, Int32.zero_add, vu_vu, upd_eq, upd_ne, V1.r1, V1.r2, V1.r3, V1.r4, V1.r16, V1.r17, V1.r18, V1.r19, V1.r20, V1.r23, V1.r24, V1.r25, V1.r26, V1.r27, V1.r28, V1.r29, V1.r30, V1.c172, V1.c173, V1.c174, V1.c186, V1.c187, V1.c188, V1.n5, V1.n13, V1.n14, V1.i0, V1.i5, V1.i6, V1.i7, V1.i8, V1.i9, V1.i10, V1.i11, V1.i12, V1.i13, V1.i14, V1.i15, V1.i21, V1.i22, lt_le, Nat.le_refl]
    exact ⟨rfl, rfl, sm, V1, rfl⟩
  · have : m_back s.1 w 0 = s.1 := by funext a; rw [m_back, if_neg (by omega)]
    rw [this]; exact V
