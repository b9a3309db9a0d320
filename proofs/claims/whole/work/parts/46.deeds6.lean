/-! the reference: deeds one behind another -/
def nT (all : Nat → Int32) : Nat := (all 53).toNatClampNeg
def WF (all : Nat → Int32) (S P : Nat) : Prop := AL all S P ∧ all 53 = nI (nT all) ∧ nT all < 2 ^ P
theorem WF.T {all : Nat → Int32} {S P : Nat} (W : WF all S P) : nT all < 512 := Nat.lt_of_lt_of_le W.2.2 (pw9 W.1.2.2.2.2.1)
theorem nT_of {all : Nat → Int32} {T : Nat} (h : all 53 = nI T) (hT : T < 2147483648) : nT all = T := by unfold nT; rw [h]; exact ix_cl hT
theorem WF.mk' {all : Nat → Int32} {S P T : Nat} (A : AL all S P) (h : all 53 = nI T) (hT : T < 2 ^ P) : WF all S P := by
  have := Nat.lt_of_lt_of_le hT (pw9 A.2.2.2.2.1)
  refine ⟨A, ?_, ?_⟩
  · rw [nT_of h (by omega)]; exact h
  · rw [nT_of h (by omega)]; exact hT
theorem clr_le (T p : Nat) : clr T p ≤ T := by
  unfold clr; split
  · exact Nat.sub_le _ _
  · exact Nat.le_refl _
theorem MV.inr {f : Nat → e_C} {s : m_T} (h : MV f s) : ∃ c, f 171 = .inr c := by
  have h1 := h.r1
  unfold fld at h1
  split at h1
  · next c2 fs hc => exact ⟨_, hc⟩
  · cases h1
theorem MV.ko {f f' : Nat → e_C} {s : m_T} {N : Nat} (h : MV f s) (hN : 189 ≤ N) (hk : ∀ a, a < N → ∀ c, f a = .inr c → f' a = .inr c) : f' 171 = f 171 := by
  obtain ⟨c, hc⟩ := h.inr
  rw [hc]; exact hk 171 (by omega) c hc
/-- a deed done -/
def m_does (all : Nat → Int32) (S P : Nat) (v : Int) : Nat → Int32 := if v = -1 then m_day all S P (nT all) else if v < 100 then m_see all S P (nT all) v.toNat else if v < 200 then m_move all S P (nT all) ((v - 100) / 10).toNat (v % 10).toNat else m_prop all S P (nT all) (v - 200).toNat
theorem w_not_0 {all : Nat → Int32} {S P T : Nat} {v : Int} (h : w_not all S P T v = 0) : v = -1 ∨ (0 ≤ v ∧ v < P) ∨ (100 ≤ v ∧ v ≤ 199 ∧ (v - 100) / 10 < P ∧ v % 10 < S) ∨ (200 ≤ v ∧ v < 200 + S) := by
  unfold w_not at h
  by_cases h1 : v = -1
  · exact Or.inl h1
  rw [if_neg h1] at h
  by_cases h2 : 0 ≤ v ∧ v ≤ 9
  · rw [if_pos h2] at h
    unfold w_see at h
    by_cases h3 : 0 ≤ v ∧ v < P
    · exact Or.inr (Or.inl h3)
    · rw [if_neg h3] at h; exact absurd h (by decide)
  rw [if_neg h2] at h
  by_cases h3 : 100 ≤ v ∧ v ≤ 199
  · rw [if_pos h3] at h
    unfold w_move at h
    by_cases h4 : (0 ≤ (v - 100) / 10 ∧ (v - 100) / 10 < P) ∧ (0 ≤ v % 10 ∧ v % 10 < S)
    · exact Or.inr (Or.inr (Or.inl ⟨h3.1, h3.2, h4.1.2, h4.2.2⟩))
    · rw [if_neg h4] at h; exact absurd h (by decide)
  rw [if_neg h3] at h
  by_cases h4 : 200 ≤ v ∧ v ≤ 209
  · rw [if_pos h4] at h
    unfold w_prop at h
    by_cases h5 : 0 ≤ v - 200 ∧ v - 200 < S
    · exact Or.inr (Or.inr (Or.inr ⟨h4.1, by omega⟩))
    · rw [if_neg h5] at h; exact absurd h (by decide)
  · rw [if_neg h4] at h; exact absurd h (by decide)
theorem WF.does {all : Nat → Int32} {S P T : Nat} {v : Int} (W : WF all S P) (h : w_not all S P T v = 0) : WF (m_does all S P v) S P := by
  obtain ⟨A, h53, hlt⟩ := W
  have A3 := A.2.2.1
  have A5 := A.2.2.2.2.1
  have h9 := pw9 A5
  rcases w_not_0 h with h1 | h1 | h1 | h1
  · subst h1
    unfold m_does
    rw [if_pos rfl]
    refine WF.mk' (T := nT all) (((A.up (by unfold al_i; omega)).up (by unfold al_i; omega)).fall) ?_ hlt
    unfold m_day
    rw [fall_ne (by omega), upd_ne (by omega), upd_ne (by omega)]; exact h53
  · unfold m_does
    rw [if_neg (by omega), if_pos (by omega)]
    refine WF.mk' (T := clr (nT all) v.toNat) (((A.up (by unfold al_i; omega)).up (by unfold al_i; omega)).fall) ?_ (Nat.lt_of_le_of_lt (clr_le _ _) hlt)
    rw [m_see, fall_ne (by omega), upd_ne (by omega), upd_eq]
  · unfold m_does
    rw [if_neg (by omega), if_neg (by omega), if_pos (by omega)]
    refine WF.mk' (T := nT all) ((A.step (by omega) (by omega)).fall) ?_ hlt
    rw [m_move, fall_ne (by omega), upd_ne (by omega)]; exact h53
  · unfold m_does
    rw [if_neg (by omega), if_neg (by omega), if_neg (by omega)]
    refine WF.mk' (T := nT all) ((A.up (by unfold al_i; omega)).fall) ?_ hlt
    rw [m_prop, fall_ne (by omega), upd_ne (by omega)]; exact h53
theorem d_dv : ∀ m, m < 200 → 100 ≤ m → (nI m - 100) / 10 = nI ((m - 100) / 10) ∧ nI m - nI m / 10 * 10 = nI (m % 10) := by decide +kernel
theorem d_pr : ∀ m, m < 210 → 200 ≤ m → nI m - 200 = nI (m - 200) := by decide +kernel
theorem sp_does {X : Nat × (Nat → Int32)} {d N K : Nat} {f : Nat → e_C} {s : m_T} {S P T : Nat} {v : Int} {x : Int32} (V : MV f s) (W : WF s.1 S P) (h : w_not s.1 S P T v = 0) (hx : x.toInt = v) : TT X (d + 8) 246 0 [.ref 171, .int x] [] f N K (MP N K f (m_does s.1 S P v, s.2) none) := by
  have hT2 := W.T
  obtain ⟨A, hT, hlt⟩ := W
  have A3 := A.2.2.1
  have A5 := A.2.2.2.2.1
  have t10 : ((10 : Int32) = 0) = False := eq_false (by decide)
  rcases w_not_0 h with h1 | h1 | h1 | h1
  · have : x = -1 := Int32.toInt_inj.mp (by rw [hx, h1]; decide)
    subst this
    unfold m_does
    rw [if_pos h1]
    simp (disch := first | omega | decide | assumption | exact Nat.le_of_ble_eq_true rfl) only [s246_0, s246_1, s246_2, s246_5, ow_some, true_and, and_true, and_self, if_true, if_false, not_true, not_false_eq_true, Bool.false_eq_true, eq_self, Option.toList, List.cons_append, List.nil_append, ix_in, ix_cl, lt_in, lt_cl, lt_add, ix_one, vu_eq, vu_ne, arI_mk, arL_mk, arY_mZ, arY_mB, alen_mI, fld_sfl_ne, fld_sfl_same, Option.isSome_some, pok_i, b1z, b01, z10, b1o, Int32.zero_add, vu_vu, upd_eq, upd_ne, V.r1, V.r2, V.r3, V.r4, V.r16, V.r17, V.r18, V.r19, V.r20, V.r23, V.r24, V.r25, V.r26, V.r27, V.r28, V.r29, V.r30, V.c172, V.c173, V.c174, V.c186, V.c187, V.c188, V.n5, V.n13, V.n14, V.i0, V.i5, V.i6, V.i7, V.i8, V.i9, V.i10, V.i11, V.i12, V.i13, V.i14, V.i15, V.i21, V.i22]
    refine k246_6 (cno_MR V.mr) (Nat.le_of_ble_eq_true rfl) (sp_goesDay V A hT hT2) ?_
    rintro f' n' k' w ⟨rfl, rfl, sm, V1, rfl⟩
    simp (disch := first | omega | decide | assumption | exact Nat.le_of_ble_eq_true rfl) only [s246_9, s246_60, ow_some, true_and, and_true, and_self, if_true, if_false, not_true, not_false_eq_true, Bool.false_eq_true, eq_self, Option.toList, List.cons_append, List.nil_append, ix_in, ix_cl, lt_in, lt_cl, lt_add, ix_one, vu_eq, vu_ne, arI_mk, arL_mk, arY_mZ, arY_mB, alen_mI, fld_sfl_ne, fld_sfl_same, Option.isSome_some, pok_i, b1z, b01, z10, b1o, Int32.zero_add, vu_vu, upd_eq, upd_ne, V1.r1, V1.r2, V1.r3, V1.r4, V1.r16, V1.r17, V1.r18, V1.r19, V1.r20, V1.r23, V1.r24, V1.r25, V1.r26, V1.r27, V1.r28, V1.r29, V1.r30, V1.c172, V1.c173, V1.c174, V1.c186, V1.c187, V1.c188, V1.n5, V1.n13, V1.n14, V1.i0, V1.i5, V1.i6, V1.i7, V1.i8, V1.i9, V1.i10, V1.i11, V1.i12, V1.i13, V1.i14, V1.i15, V1.i21, V1.i22]
    exact ⟨rfl, rfl, sm, V1, rfl⟩
  all_goals
    obtain ⟨m, rfl, hm⟩ : ∃ m : Nat, x = nI m ∧ v = m := ⟨v.toNat, Int32.toInt_inj.mp (by rw [hx, nI_toInt (by omega)]; omega), by omega⟩
    subst hm
    have e1 : (nI m = -1) = False := ne_m1 (by omega)
    unfold m_does
    rw [if_neg (by omega)]
  · have c1 : (100 ≤ m) = False := eq_false (by omega)
    rw [if_pos (by omega)]
    simp (disch := first | omega | decide | assumption | exact Nat.le_of_ble_eq_true rfl) only [s246_0, s246_1, s246_2, s246_5, s246_9, s246_12, s246_13, s246_15, s246_18, s246_19, ow_some, true_and, and_true, and_self, if_true, if_false, not_true, not_false_eq_true, Bool.false_eq_true, eq_self, Option.toList, List.cons_append, List.nil_append, ix_in, ix_cl, lt_in, lt_cl, lt_add, ix_one, vu_eq, vu_ne, arI_mk, arL_mk, arY_mZ, arY_mB, alen_mI, fld_sfl_ne, fld_sfl_same, Option.isSome_some, pok_i, b1z, b01, z10, b1o, Int32.zero_add, vu_vu, upd_eq, upd_ne, V.r1, V.r2, V.r3, V.r4, V.r16, V.r17, V.r18, V.r19, V.r20, V.r23, V.r24, V.r25, V.r26, V.r27, V.r28, V.r29, V.r30, V.c172, V.c173, V.c174, V.c186, V.c187, V.c188, V.n5, V.n13, V.n14, V.i0, V.i5, V.i6, V.i7, V.i8, V.i9, V.i10, V.i11, V.i12, V.i13, V.i14, V.i15, V.i21, V.i22, e1, lt_le, c1]
    refine k246_20 (cno_MR V.mr) (Nat.le_of_ble_eq_true rfl) (sp_sees V A hT hT2 (by omega)) ?_
    rintro f' n' k' w ⟨rfl, rfl, sm, V1, rfl⟩
    simp (disch := first | omega | decide | assumption | exact Nat.le_of_ble_eq_true rfl) only [s246_23, s246_60, ow_some, true_and, and_true, and_self, if_true, if_false, not_true, not_false_eq_true, Bool.false_eq_true, eq_self, Option.toList, List.cons_append, List.nil_append, ix_in, ix_cl, lt_in, lt_cl, lt_add, ix_one, vu_eq, vu_ne, arI_mk, arL_mk, arY_mZ, arY_mB, alen_mI, fld_sfl_ne, fld_sfl_same, Option.isSome_some, pok_i, b1z, b01, z10, b1o, Int32.zero_add, vu_vu, upd_eq, upd_ne, V1.r1, V1.r2, V1.r3, V1.r4, V1.r16, V1.r17, V1.r18, V1.r19, V1.r20, V1.r23, V1.r24, V1.r25, V1.r26, V1.r27, V1.r28, V1.r29, V1.r30, V1.c172, V1.c173, V1.c174, V1.c186, V1.c187, V1.c188, V1.n5, V1.n13, V1.n14, V1.i0, V1.i5, V1.i6, V1.i7, V1.i8, V1.i9, V1.i10, V1.i11, V1.i12, V1.i13, V1.i14, V1.i15, V1.i21, V1.i22]
    exact ⟨rfl, rfl, sm, V1, rfl⟩
  · have c1 : (100 ≤ m) = True := eq_true (by omega)
    have c2 : (200 ≤ m) = False := eq_false (by omega)
    obtain ⟨q1, q2⟩ := d_dv m (by omega) (by omega)
    rw [if_neg (by omega), if_pos (by omega)]
    simp (disch := first | omega | decide | assumption | exact Nat.le_of_ble_eq_true rfl) only [s246_0, s246_1, s246_2, s246_5, s246_9, s246_12, s246_13, s246_15, s246_18, s246_19, s246_23, s246_26, s246_27, s246_30, s246_33, s246_34, s246_35, s246_37, s246_38, s246_40, s246_41, s246_42, s246_44, ow_some, true_and, and_true, and_self, if_true, if_false, not_true, not_false_eq_true, Bool.false_eq_true, eq_self, Option.toList, List.cons_append, List.nil_append, ix_in, ix_cl, lt_in, lt_cl, lt_add, ix_one, vu_eq, vu_ne, arI_mk, arL_mk, arY_mZ, arY_mB, alen_mI, fld_sfl_ne, fld_sfl_same, Option.isSome_some, pok_i, b1z, b01, z10, b1o, Int32.zero_add, vu_vu, upd_eq, upd_ne, V.r1, V.r2, V.r3, V.r4, V.r16, V.r17, V.r18, V.r19, V.r20, V.r23, V.r24, V.r25, V.r26, V.r27, V.r28, V.r29, V.r30, V.c172, V.c173, V.c174, V.c186, V.c187, V.c188, V.n5, V.n13, V.n14, V.i0, V.i5, V.i6, V.i7, V.i8, V.i9, V.i10, V.i11, V.i12, V.i13, V.i14, V.i15, V.i21, V.i22, e1, lt_le, c1, c2, t10, ne_eq, q1, q2]
    have g1 : (((m : Int) - 100) / 10).toNat = (m - 100) / 10 := by omega
    have g2 : ((m : Int) % 10).toNat = m % 10 := by omega
    rw [g1, g2]
    refine k246_45 (cno_MR V.mr) (Nat.le_of_ble_eq_true rfl) (sp_moves V A hT hT2 (by omega) (by omega)) ?_
    rintro f' n' k' w ⟨rfl, rfl, sm, V1, rfl⟩
    simp (disch := first | omega | decide | assumption | exact Nat.le_of_ble_eq_true rfl) only [s246_48, s246_60, ow_some, true_and, and_true, and_self, if_true, if_false, not_true, not_false_eq_true, Bool.false_eq_true, eq_self, Option.toList, List.cons_append, List.nil_append, ix_in, ix_cl, lt_in, lt_cl, lt_add, ix_one, vu_eq, vu_ne, arI_mk, arL_mk, arY_mZ, arY_mB, alen_mI, fld_sfl_ne, fld_sfl_same, Option.isSome_some, pok_i, b1z, b01, z10, b1o, Int32.zero_add, vu_vu, upd_eq, upd_ne, V1.r1, V1.r2, V1.r3, V1.r4, V1.r16, V1.r17, V1.r18, V1.r19, V1.r20, V1.r23, V1.r24, V1.r25, V1.r26, V1.r27, V1.r28, V1.r29, V1.r30, V1.c172, V1.c173, V1.c174, V1.c186, V1.c187, V1.c188, V1.n5, V1.n13, V1.n14, V1.i0, V1.i5, V1.i6, V1.i7, V1.i8, V1.i9, V1.i10, V1.i11, V1.i12, V1.i13, V1.i14, V1.i15, V1.i21, V1.i22]
    exact ⟨rfl, rfl, sm, V1, rfl⟩
  · have c1 : (100 ≤ m) = True := eq_true (by omega)
    have c2 : (200 ≤ m) = True := eq_true (by omega)
    have q1 := d_pr m (by omega) (by omega)
    rw [if_neg (by omega), if_neg (by omega)]
    simp (disch := first | omega | decide | assumption | exact Nat.le_of_ble_eq_true rfl) only [s246_0, s246_1, s246_2, s246_5, s246_9, s246_12, s246_13, s246_15, s246_18, s246_19, s246_23, s246_26, s246_27, s246_30, s246_33, s246_34, s246_35, s246_37, s246_38, s246_40, s246_41, s246_42, s246_44, s246_48, s246_51, s246_52, s246_53, s246_56, ow_some, true_and, and_true, and_self, if_true, if_false, not_true, not_false_eq_true, Bool.false_eq_true, eq_self, Option.toList, List.cons_append, List.nil_append, ix_in, ix_cl, lt_in, lt_cl, lt_add, ix_one, vu_eq, vu_ne, arI_mk, arL_mk, arY_mZ, arY_mB, alen_mI, fld_sfl_ne, fld_sfl_same, Option.isSome_some, pok_i, b1z, b01, z10, b1o, Int32.zero_add, vu_vu, upd_eq, upd_ne, V.r1, V.r2, V.r3, V.r4, V.r16, V.r17, V.r18, V.r19, V.r20, V.r23, V.r24, V.r25, V.r26, V.r27, V.r28, V.r29, V.r30, V.c172, V.c173, V.c174, V.c186, V.c187, V.c188, V.n5, V.n13, V.n14, V.i0, V.i5, V.i6, V.i7, V.i8, V.i9, V.i10, V.i11, V.i12, V.i13, V.i14, V.i15, V.i21, V.i22, e1, lt_le, c1, c2, q1]
    have g1 : ((m : Int) - 200).toNat = m - 200 := by omega
    rw [g1]
    refine k246_57 (cno_MR V.mr) (Nat.le_of_ble_eq_true rfl) (sp_propsUp V A hT hT2 (by omega)) ?_
    rintro f' n' k' w ⟨rfl, rfl, sm, V1, rfl⟩
    simp (disch := first | omega | decide | assumption | exact Nat.le_of_ble_eq_true rfl) only [s246_60, ow_some, true_and, and_true, and_self, if_true, if_false, not_true, not_false_eq_true, Bool.false_eq_true, eq_self, Option.toList, List.cons_append, List.nil_append, ix_in, ix_cl, lt_in, lt_cl, lt_add, ix_one, vu_eq, vu_ne, arI_mk, arL_mk, arY_mZ, arY_mB, alen_mI, fld_sfl_ne, fld_sfl_same, Option.isSome_some, pok_i, b1z, b01, z10, b1o, Int32.zero_add, vu_vu, upd_eq, upd_ne, V1.r1, V1.r2, V1.r3, V1.r4, V1.r16, V1.r17, V1.r18, V1.r19, V1.r20, V1.r23, V1.r24, V1.r25, V1.r26, V1.r27, V1.r28, V1.r29, V1.r30, V1.c172, V1.c173, V1.c174, V1.c186, V1.c187, V1.c188, V1.n5, V1.n13, V1.n14, V1.i0, V1.i5, V1.i6, V1.i7, V1.i8, V1.i9, V1.i10, V1.i11, V1.i12, V1.i13, V1.i14, V1.i15, V1.i21, V1.i22]
    exact ⟨rfl, rfl, sm, V1, rfl⟩
/-- deeds told: how many, why no more, what comes of them -/
def m_tell (q : Nat → Int64) (S P : Nat) : Nat → Nat → (Nat → Int32) → Nat × Int32 × (Nat → Int32)
  | 0, k, all => (k, 0, all)
  | m + 1, k, all => if w_not all S P (nT all) (q k).toInt = 0 then m_tell q S P m (k + 1) (m_does all S P (q k).toInt) else (k, w_not all S P (nT all) (q k).toInt, all)
theorem w_rng {all : Nat → Int32} {S P T : Nat} {v : Int} (hP : P ≤ 9) (hS : S ≤ 8) (h : w_not all S P T v = 0) : -1 ≤ v ∧ v < 210 := by
  rcases w_not_0 h with h1 | h1 | h1 | h1 <;> omega
theorem sp_tells {X : Nat × (Nat → Int32)} {d N K : Nat} {f : Nat → e_C} {s : m_T} {S P t M : Nat} {a2 : Value} (V : MV f s) (W : WF s.1 S P) (hN : 189 ≤ N) (ht : t < 4) (hM : s.2.2.2.2.2.1 t = nI M) (hM2 : M ≤ 40) : TT X (d + 9) 244 0 [.ref 171, .int (nI t), a2] [] f N K (fun f' n' k' v => n' = N ∧ k' = K ∧ SM f f' ∧ MV f' ((m_tell (fun i => s.2.2.2.2.2.2 (40 * t + i)) S P M 0 s.1).2.2, s.2) ∧ v = some (.int (nI (m_tell (fun i => s.2.2.2.2.2.2 (40 * t + i)) S P M 0 s.1).1)) ∧ fld (f' 171) 12 21 = some (.int (m_tell (fun i => s.2.2.2.2.2.2 (40 * t + i)) S P M 0 s.1).2.1)) := by
  have e40 : (40 : Int32) * nI t = nI (40 * t) := by rw [lit_nI 40, pk_mul]
  simp (disch := first | omega | decide | assumption | exact Nat.le_of_ble_eq_true rfl) only [s244_0, s244_1, s244_2, s244_5, h244_6, ow_some, true_and, and_true, and_self, if_true, if_false, not_true, not_false_eq_true, Bool.false_eq_true, eq_self, Option.toList, List.cons_append, List.nil_append, ix_in, ix_cl, lt_in, lt_cl, lt_add, ix_one, vu_eq, vu_ne, arI_mk, arL_mk, arY_mZ, arY_mB, alen_mI, fld_sfl_ne, fld_sfl_same, Option.isSome_some, pok_i, b1z, b01, z10, b1o, Int32.zero_add, vu_vu, upd_eq, upd_ne, V.r1, V.r2, V.r3, V.r4, V.r16, V.r17, V.r18, V.r19, V.r20, V.r23, V.r24, V.r25, V.r26, V.r27, V.r28, V.r29, V.r30, V.c172, V.c173, V.c174, V.c186, V.c187, V.c188, V.n5, V.n13, V.n14, V.i0, V.i5, V.i6, V.i7, V.i8, V.i9, V.i10, V.i11, V.i12, V.i13, V.i14, V.i15, V.i21, V.i22]
  have V0 := V.num (j := 21) (x := 0) (by decide)
  have sm0 : SM f (va_up f 171 (sfl (f 171) 21 (.int 0))) := SM.up (by omega) (by omega)
  have h21 : fld (va_up f 171 (sfl (f 171) 21 (.int 0)) 171) 12 21 = some (.int 0) := by rw [vu_eq, fld_sfl_same V.i21]
  generalize va_up f 171 (sfl (f 171) 21 (.int 0)) = f0 at V0 sm0 h21 ⊢
  refine lp (fun k g (all : Nat → Int32) => SM f g ∧ MV g (all, s.2) ∧ WF all S P ∧ fld (g 171) 12 21 = some (.int 0) ∧ m_tell (fun i => s.2.2.2.2.2.2 (40 * t + i)) S P M 0 s.1 = m_tell (fun i => s.2.2.2.2.2.2 (40 * t + i)) S P (M - k) k all) (fun k x => [.ref 171, .int (nI t), .int (nI k)]) M ?_ ?_ 0 f0 s.1 (by omega) ⟨sm0, V0, W, h21, rfl⟩
  · rintro k g all hk ⟨sm, V1, W1, -, he⟩ hI
    have hc : (M ≤ k) = False := eq_false (by omega)
    obtain ⟨m, hm⟩ : ∃ m, M - k = m + 1 := ⟨M - k - 1, by omega⟩
    rw [hm, m_tell] at he
    simp (disch := first | omega | decide | assumption | exact Nat.le_of_ble_eq_true rfl) only [s244_7, s244_8, s244_9, s244_12, s244_13, s244_14, s244_17, s244_18, s244_19, s244_20, s244_23, s244_25, s244_26, s244_27, s244_28, s244_29, ow_some, true_and, and_true, and_self, if_true, if_false, not_true, not_false_eq_true, Bool.false_eq_true, eq_self, Option.toList, List.cons_append, List.nil_append, ix_in, ix_cl, lt_in, lt_cl, lt_add, ix_one, vu_eq, vu_ne, arI_mk, arL_mk, arY_mZ, arY_mB, alen_mI, fld_sfl_ne, fld_sfl_same, Option.isSome_some, pok_i, b1z, b01, z10, b1o, Int32.zero_add, vu_vu, upd_eq, upd_ne, V1.r1, V1.r2, V1.r3, V1.r4, V1.r16, V1.r17, V1.r18, V1.r19, V1.r20, V1.r23, V1.r24, V1.r25, V1.r26, V1.r27, V1.r28, V1.r29, V1.r30, V1.c172, V1.c173, V1.c174, V1.c186, V1.c187, V1.c188, V1.n5, V1.n13, V1.n14, V1.i0, V1.i5, V1.i6, V1.i7, V1.i8, V1.i9, V1.i10, V1.i11, V1.i12, V1.i13, V1.i14, V1.i15, V1.i21, V1.i22, hM, ix_le, hc, e40, nI_add]
    refine k244_30 (cno_MR V1.mr) (Nat.le_of_ble_eq_true rfl) (sp_whyNot V1 W1.1 W1.2.1 W1.T) ?_
    rintro g1 n' k' w ⟨rfl, rfl, sm1, V2, rfl⟩
    simp (disch := first | omega | decide | assumption | exact Nat.le_of_ble_eq_true rfl) only [s244_33, s244_36, s244_37, ow_some, true_and, and_true, and_self, if_true, if_false, not_true, not_false_eq_true, Bool.false_eq_true, eq_self, Option.toList, List.cons_append, List.nil_append, ix_in, ix_cl, lt_in, lt_cl, lt_add, ix_one, vu_eq, vu_ne, arI_mk, arL_mk, arY_mZ, arY_mB, alen_mI, fld_sfl_ne, fld_sfl_same, Option.isSome_some, pok_i, b1z, b01, z10, b1o, Int32.zero_add, vu_vu, upd_eq, upd_ne, V2.r1, V2.r2, V2.r3, V2.r4, V2.r16, V2.r17, V2.r18, V2.r19, V2.r20, V2.r23, V2.r24, V2.r25, V2.r26, V2.r27, V2.r28, V2.r29, V2.r30, V2.c172, V2.c173, V2.c174, V2.c186, V2.c187, V2.c188, V2.n5, V2.n13, V2.n14, V2.i0, V2.i5, V2.i6, V2.i7, V2.i8, V2.i9, V2.i10, V2.i11, V2.i12, V2.i13, V2.i14, V2.i15, V2.i21, V2.i22]
    have V3 := V2.num (j := 21) (x := w_not all S P (nT all) (s.2.2.2.2.2.2 (40 * t + k)).toInt) (by decide)
    have sm3 : SM f (va_up g1 171 (sfl (g1 171) 21 (.int (w_not all S P (nT all) (s.2.2.2.2.2.2 (40 * t + k)).toInt)))) := (sm.tr sm1).tr (SM.up (by omega) (by omega))
    have h21' : fld (va_up g1 171 (sfl (g1 171) 21 (.int (w_not all S P (nT all) (s.2.2.2.2.2.2 (40 * t + k)).toInt))) 171) 12 21 = some (.int (w_not all S P (nT all) (s.2.2.2.2.2.2 (40 * t + k)).toInt)) := by rw [vu_eq, fld_sfl_same V2.i21]
    generalize va_up g1 171 (sfl (g1 171) 21 (.int (w_not all S P (nT all) (s.2.2.2.2.2.2 (40 * t + k)).toInt))) = g2 at V3 sm3 h21' ⊢
    have z21 := fld_sfl_same (v := .int (w_not all S P (nT all) (s.2.2.2.2.2.2 (40 * t + k)).toInt)) V2.i21
    simp (disch := first | omega | decide | assumption | exact Nat.le_of_ble_eq_true rfl) only [s244_37, s244_40, s244_43, s244_44, ow_some, true_and, and_true, and_self, if_true, if_false, not_true, not_false_eq_true, Bool.false_eq_true, eq_self, Option.toList, List.cons_append, List.nil_append, ix_in, ix_cl, lt_in, lt_cl, lt_add, ix_one, vu_eq, vu_ne, arI_mk, arL_mk, arY_mZ, arY_mB, alen_mI, fld_sfl_ne, fld_sfl_same, Option.isSome_some, pok_i, b1z, b01, z10, b1o, Int32.zero_add, vu_vu, upd_eq, upd_ne, V3.r1, V3.r2, V3.r3, V3.r4, V3.r16, V3.r17, V3.r18, V3.r19, V3.r20, V3.r23, V3.r24, V3.r25, V3.r26, V3.r27, V3.r28, V3.r29, V3.r30, V3.c172, V3.c173, V3.c174, V3.c186, V3.c187, V3.c188, V3.n5, V3.n13, V3.n14, V3.i0, V3.i5, V3.i6, V3.i7, V3.i8, V3.i9, V3.i10, V3.i11, V3.i12, V3.i13, V3.i14, V3.i15, V3.i21, V3.i22, z21]
    by_cases h0 : w_not all S P (nT all) (s.2.2.2.2.2.2 (40 * t + k)).toInt = 0
    · simp only [h0, if_true]
      rw [if_pos h0] at he
      rw [h0] at h21'
      simp (disch := first | omega | decide | assumption | exact Nat.le_of_ble_eq_true rfl) only [s244_45, s244_46, s244_47, s244_50, s244_52, s244_53, s244_54, s244_55, s244_56, s244_57, ow_some, true_and, and_true, and_self, if_true, if_false, not_true, not_false_eq_true, Bool.false_eq_true, eq_self, Option.toList, List.cons_append, List.nil_append, ix_in, ix_cl, lt_in, lt_cl, lt_add, ix_one, vu_eq, vu_ne, arI_mk, arL_mk, arY_mZ, arY_mB, alen_mI, fld_sfl_ne, fld_sfl_same, Option.isSome_some, pok_i, b1z, b01, z10, b1o, Int32.zero_add, vu_vu, upd_eq, upd_ne, V3.r1, V3.r2, V3.r3, V3.r4, V3.r16, V3.r17, V3.r18, V3.r19, V3.r20, V3.r23, V3.r24, V3.r25, V3.r26, V3.r27, V3.r28, V3.r29, V3.r30, V3.c172, V3.c173, V3.c174, V3.c186, V3.c187, V3.c188, V3.n5, V3.n13, V3.n14, V3.i0, V3.i5, V3.i6, V3.i7, V3.i8, V3.i9, V3.i10, V3.i11, V3.i12, V3.i13, V3.i14, V3.i15, V3.i21, V3.i22, e40, nI_add]
      obtain ⟨r1, r2⟩ := w_rng W1.1.2.2.2.2.1 W1.1.2.2.1 h0
      refine k244_58 (cno_MR V3.mr) (Nat.le_of_ble_eq_true rfl) ((sp_does V3 W1 h0 (by rw [Int64.toInt_toInt32]; exact Int.bmod_eq_of_le (by omega) (by omega))).np _ np_M (by decide)) ?_
      rintro g3 n' k' w ⟨⟨rfl, rfl, sm4, V4, rfl⟩, ko⟩
      simp (disch := first | omega | decide | assumption | exact Nat.le_of_ble_eq_true rfl) only [s244_61, h244_64, ow_some, true_and, and_true, and_self, if_true, if_false, not_true, not_false_eq_true, Bool.false_eq_true, eq_self, Option.toList, List.cons_append, List.nil_append, ix_in, ix_cl, lt_in, lt_cl, lt_add, ix_one, vu_eq, vu_ne, arI_mk, arL_mk, arY_mZ, arY_mB, alen_mI, fld_sfl_ne, fld_sfl_same, Option.isSome_some, pok_i, b1z, b01, z10, b1o, Int32.zero_add, vu_vu, upd_eq, upd_ne, V4.r1, V4.r2, V4.r3, V4.r4, V4.r16, V4.r17, V4.r18, V4.r19, V4.r20, V4.r23, V4.r24, V4.r25, V4.r26, V4.r27, V4.r28, V4.r29, V4.r30, V4.c172, V4.c173, V4.c174, V4.c186, V4.c187, V4.c188, V4.n5, V4.n13, V4.n14, V4.i0, V4.i5, V4.i6, V4.i7, V4.i8, V4.i9, V4.i10, V4.i11, V4.i12, V4.i13, V4.i14, V4.i15, V4.i21, V4.i22]
      refine hI g3 _ ⟨sm3.tr sm4, V4, W1.does h0, by rw [V3.ko hN ko]; exact h21', ?_⟩
      rw [he, show M - (k + 1) = m by omega]
    · simp only [h0, if_false]
      rw [if_neg h0] at he
      rw [he]
      exact ⟨sm3, V3, rfl, h21'⟩
  · rintro g all ⟨sm, V1, W1, h21, he⟩
    rw [Nat.sub_self, m_tell] at he
    simp (disch := first | omega | decide | assumption | exact Nat.le_of_ble_eq_true rfl) only [s244_7, s244_8, s244_9, s244_12, s244_13, s244_14, s244_67, s244_68, s244_71, s244_72, s244_73, ow_some, true_and, and_true, and_self, if_true, if_false, not_true, not_false_eq_true, Bool.false_eq_true, eq_self, Option.toList, List.cons_append, List.nil_append, ix_in, ix_cl, lt_in, lt_cl, lt_add, ix_one, vu_eq, vu_ne, arI_mk, arL_mk, arY_mZ, arY_mB, alen_mI, fld_sfl_ne, fld_sfl_same, Option.isSome_some, pok_i, b1z, b01, z10, b1o, Int32.zero_add, vu_vu, upd_eq, upd_ne, V1.r1, V1.r2, V1.r3, V1.r4, V1.r16, V1.r17, V1.r18, V1.r19, V1.r20, V1.r23, V1.r24, V1.r25, V1.r26, V1.r27, V1.r28, V1.r29, V1.r30, V1.c172, V1.c173, V1.c174, V1.c186, V1.c187, V1.c188, V1.n5, V1.n13, V1.n14, V1.i0, V1.i5, V1.i6, V1.i7, V1.i8, V1.i9, V1.i10, V1.i11, V1.i12, V1.i13, V1.i14, V1.i15, V1.i21, V1.i22, hM, ix_le, Nat.le_refl]
    rw [he]
    exact ⟨sm, V1, rfl, h21⟩
/-- the draws -/
def d_x (x : Int32) : Int32 := 1103515245 * x + 12345
def d_v (x : Int32) : Nat := (d_x x).toUInt32.toNat / 65536
theorem d_sh (x : Int32) : ((d_x x).toUInt32 >>> (Int32.toUInt32 16 &&& Int32.toUInt32 31)).toInt32 = nI (d_v x) := by
  have h : ∀ u : UInt32, (u >>> (Int32.toUInt32 16 &&& Int32.toUInt32 31)).toInt32 = nI (u.toNat / 65536) := by
    intro u
    apply Int32.toBitVec_inj.mp
    apply BitVec.eq_of_toNat_eq
    have hu := u.toNat_lt
    have e16 : (Int32.toUInt32 16 &&& Int32.toUInt32 31) = 16 := by decide
    rw [e16]
    show (u >>> 16).toNat = (BitVec.ofNat 32 (u.toNat / 65536)).toNat
    have h2 : u.toNat / 65536 < 4294967296 := by omega
    rw [UInt32.toNat_shiftRight, BitVec.toNat_ofNat]
    have e2 : (16 : UInt32).toNat % 32 = 16 := by decide
    rw [e2, Nat.shiftRight_eq_div_pow]
    exact (Nat.mod_eq_of_lt h2).symm
  exact h _
theorem d_lt (x : Int32) : d_v x < 65536 := by
  unfold d_v
  have := (d_x x).toUInt32.toNat_lt
  omega
theorem sp_draw {X : Nat × (Nat → Int32)} {d N K : Nat} {f : Nat → e_C} {s : m_T} {x : Int32} {b : Nat} (V : MV f s) (hx : fld (f 171) 12 22 = some (.int x)) (hb : 0 < b) (hb2 : b < 100) : TT X d 251 0 [.ref 171, .int (nI b)] [] f N K (fun f' n' k' v => n' = N ∧ k' = K ∧ SM f f' ∧ MV f' s ∧ v = some (.int (nI (d_v x % b))) ∧ fld (f' 171) 12 22 = some (.int (d_x x)) ∧ SX [171] f f') := by
  have hb0 : (nI b ≠ 0) = True := eq_true (fun z => by
    have z2 : nI b = nI 0 := z
    rw [ix_eq (by omega) (by omega)] at z2; omega)
  have hlt := d_lt x
  have hs := fld_sfl_same (v := .int (d_x x)) V.i22
  have hsh := d_sh x
  have hrem : nI (d_v x) - nI (d_v x) / nI b * nI b = nI (d_v x % b) := pk_rem (by omega) hb (by omega)
  unfold d_x at hs hsh
  simp (disch := first | omega | decide | assumption | exact Nat.le_of_ble_eq_true rfl) only [s251_0, s251_1, s251_4, s251_5, s251_8, s251_9, s251_12, s251_13, s251_16, s251_17, s251_20, s251_22, s251_23, s251_24, s251_25, ow_some, true_and, and_true, and_self, if_true, if_false, not_true, not_false_eq_true, Bool.false_eq_true, eq_self, Option.toList, List.cons_append, List.nil_append, ix_in, ix_cl, lt_in, lt_cl, lt_add, ix_one, vu_eq, vu_ne, arI_mk, arL_mk, arY_mZ, arY_mB, alen_mI, fld_sfl_ne, fld_sfl_same, Option.isSome_some, pok_i, b1z, b01, z10, b1o, Int32.zero_add, vu_vu, upd_eq, upd_ne, V.r1, V.r2, V.r3, V.r4, V.r16, V.r17, V.r18, V.r19, V.r20, V.r23, V.r24, V.r25, V.r26, V.r27, V.r28, V.r29, V.r30, V.c172, V.c173, V.c174, V.c186, V.c187, V.c188, V.n5, V.n13, V.n14, V.i0, V.i5, V.i6, V.i7, V.i8, V.i9, V.i10, V.i11, V.i12, V.i13, V.i14, V.i15, V.i21, V.i22, hx, hs, hsh, hb0, hrem]
  exact ⟨SM.up (by omega) (by omega), V.num (by decide), rfl, SX.up (by simp)⟩
