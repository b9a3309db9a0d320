/-! longs -/
def lI (n : Nat) : Int64 := Int64.ofNat n
theorem lI_toInt {n : Nat} (h : n < 9223372036854775808) : (lI n).toInt = n := Int64.toInt_ofNat_of_lt h
theorem lI_of {x : Int64} {n : Nat} (h : n < 9223372036854775808) (hx : x.toInt = n) : x = lI n := Int64.toInt_inj.mp (by rw [hx, lI_toInt h])
theorem lI_add (a b : Nat) : lI a + lI b = lI (a + b) := (Int64.ofNat_add a b).symm
theorem lI_mul (a b : Nat) : lI a * lI b = lI (a * b) := (Int64.ofNat_mul a b).symm
theorem lI_div {a b : Nat} (ha : a < 9223372036854775808) (hb : b < 9223372036854775808) : lI a / lI b = lI (a / b) := by
  have hd : a / b < 9223372036854775808 := Nat.lt_of_le_of_lt (Nat.div_le_self a b) ha
  apply lI_of hd
  rw [Int64.toInt_div, lI_toInt ha, lI_toInt hb, ← Int.ofNat_tdiv]
  generalize a / b = q at *
  exact Int.bmod_eq_of_le (by omega) (by omega)
theorem lI_rem {a b : Nat} (ha : a < 9223372036854775808) (hb : b < 9223372036854775808) : lI a - lI a / lI b * lI b = lI (a % b) := by
  rw [lI_div ha hb, lI_mul]
  have h1 : a / b * b ≤ a := Nat.div_mul_le_self a b
  have h2 : a - a / b * b = a % b := by
    have := Nat.mod_add_div a b
    rw [Nat.mul_comm] at this
    omega
  have h3 : a % b ≤ a := Nat.mod_le a b
  apply lI_of (by omega)
  rw [Int64.toInt_sub, lI_toInt ha, lI_toInt (by omega)]
  have : ((a : Int) - ((a / b * b : Nat) : Int)) = ((a % b : Nat) : Int) := by omega
  rw [this]
  exact Int.bmod_eq_of_le (by omega) (by omega)
theorem lI_ne {b : Nat} (hb : b < 9223372036854775808) (h : 0 < b) : (lI b ≠ 0) = True := eq_true (fun z => by
  have h1 : (lI b).toInt = (0 : Int64).toInt := by rw [z]
  rw [lI_toInt hb] at h1
  have h2 : (0 : Int64).toInt = 0 := by decide
  omega)
theorem lg_eq {x y : Int64} : (lg_cmp x y = 0) = (x.toInt = y.toInt) := by
  apply propext
  rw [lg_cmp_eq]
  exact ⟨fun h => by rw [h], fun h => Int64.toInt_inj.mp h⟩
theorem lg_le {x y : Int64} : (lg_cmp x y ≤ 0) = (x.toInt ≤ y.toInt) := by
  unfold lg_cmp
  apply propext
  by_cases h1 : x = y
  · subst h1; simp
  · have h2 : x.toInt ≠ y.toInt := fun z => h1 (Int64.toInt_inj.mp z)
    by_cases h3 : y < x
    · have h4 := Int64.lt_iff_toInt_lt.mp h3
      simp [h1, h3]; omega
    · have h4 : ¬ y.toInt < x.toInt := fun z => h3 (Int64.lt_iff_toInt_lt.mpr z)
      simp [h1, h3]; omega
theorem lg_gt {x y : Int64} : (0 < lg_cmp x y) = (y.toInt < x.toInt) := by
  have h := lg_le (x := x) (y := y)
  apply propext
  constructor
  · intro h1
    apply Int.not_le.mp
    intro h2
    rw [← h] at h2
    rw [Int32.lt_iff_toInt_lt] at h1
    rw [Int32.le_iff_toInt_le] at h2
    omega
  · intro h1
    rw [Int32.lt_iff_toInt_lt]
    apply Int.not_le.mp
    intro h2
    have h3 : lg_cmp x y ≤ 0 := by rw [Int32.le_iff_toInt_le]; exact h2
    rw [h] at h3
    omega
/-! the reference: shares -/
theorem sp_common {X : Nat × (Nat → Int32)} {N K : Nat} {f : Nat → e_C} {u v : UInt64} : ∀ (n d a b : Nat), b < 2 ^ n → a < 4611686018427387904 → b < 4611686018427387904 → PU X (d + 2 * n + 1) 287 [.long (lI a), .double u, .long (lI b), .double v] f N K (some (.long (lI (Nat.gcd a b)))) := by
  have z0 : (0 : Int64).toInt = 0 := by decide
  have base : ∀ (d a : Nat) (u v : UInt64), PU X d 287 [.long (lI a), .double u, .long (lI 0), .double v] f N K (some (.long (lI (Nat.gcd a 0)))) := by
    intro d a u v
    unfold PU
    have h0 : (lg_cmp (lI 0) 0 = 0) = True := eq_true (by decide)
    rw [Nat.gcd_zero_right]
    simp (disch := first | omega | decide | assumption | exact Nat.le_of_ble_eq_true rfl) only [s287_0, s287_1, s287_2, s287_3, s287_6, s287_7, s287_10, s287_11, s287_12, s287_13, s287_17, ow_some, true_and, and_true, and_self, if_true, if_false, not_true, not_false_eq_true, Bool.false_eq_true, eq_self, Option.toList, List.cons_append, List.nil_append, ix_in, ix_cl, lt_in, lt_cl, lt_add, ix_one, vu_eq, vu_ne, arI_mk, arL_mk, arY_mZ, arY_mB, alen_mI, fld_sfl_ne, fld_sfl_same, Option.isSome_some, pok_i, b1z, b01, z10, b1o, Int32.zero_add, vu_vu, upd_eq, upd_ne, true_or, or_true, h0]
  have one : ∀ (d a b : Nat) (u v : UInt64), 0 < b → a < 4611686018427387904 → b < 4611686018427387904 → PU X d 287 [.long (lI b), .double 0, .long (lI (a % b)), .double 0] f N K (some (.long (lI (Nat.gcd b (a % b))))) → PU X (d + 1) 287 [.long (lI a), .double u, .long (lI b), .double v] f N K (some (.long (lI (Nat.gcd a b)))) := by
    intro d a b u v hb ha hb2 h
    unfold PU
    have h0 : (lg_cmp (lI b) 0 = 0) = False := by rw [lg_eq, lI_toInt (by omega), z0]; exact eq_false (by omega)
    have hne := lI_ne (b := b) (by omega) hb
    have hr := lI_rem (a := a) (b := b) (by omega) (by omega)
    simp (disch := first | omega | decide | assumption | exact Nat.le_of_ble_eq_true rfl) only [s287_0, s287_1, s287_2, s287_3, s287_6, s287_7, s287_10, s287_11, s287_12, s287_13, ow_some, true_and, and_true, and_self, if_true, if_false, not_true, not_false_eq_true, Bool.false_eq_true, eq_self, Option.toList, List.cons_append, List.nil_append, ix_in, ix_cl, lt_in, lt_cl, lt_add, ix_one, vu_eq, vu_ne, arI_mk, arL_mk, arY_mZ, arY_mB, alen_mI, fld_sfl_ne, fld_sfl_same, Option.isSome_some, pok_i, b1z, b01, z10, b1o, Int32.zero_add, vu_vu, upd_eq, upd_ne, true_or, or_true, h0, hne, hr]
    rw [p287_14 (Nat.le_of_ble_eq_true rfl) h]
    simp (disch := first | omega | decide | assumption | exact Nat.le_of_ble_eq_true rfl) only [s287_17, ow_some, true_and, and_true, and_self, if_true, if_false, not_true, not_false_eq_true, Bool.false_eq_true, eq_self, Option.toList, List.cons_append, List.nil_append, ix_in, ix_cl, lt_in, lt_cl, lt_add, ix_one, vu_eq, vu_ne, arI_mk, arL_mk, arY_mZ, arY_mB, alen_mI, fld_sfl_ne, fld_sfl_same, Option.isSome_some, pok_i, b1z, b01, z10, b1o, Int32.zero_add, vu_vu, upd_eq, upd_ne, true_or, or_true]
    rw [Nat.gcd_comm a b, Nat.gcd_rec b a, Nat.gcd_comm]
  intro n
  induction n generalizing u v with
  | zero =>
    intro d a b hn ha hb
    have : b = 0 := by simpa using hn
    subst this
    exact base _ _ _ _
  | succ n ih =>
    intro d a b hn ha hb
    by_cases h0 : b = 0
    · subst h0; exact base _ _ _ _
    · have hr := Nat.mod_lt a (show 0 < b by omega)
      rw [show d + 2 * (n + 1) + 1 = (d + 2 * n + 2) + 1 by omega]
      apply one _ a b u v (by omega) ha hb
      by_cases h1 : a % b < 2 ^ n
      · rw [show d + 2 * n + 2 = (d + 1) + 2 * n + 1 by omega]
        exact ih (d + 1) b (a % b) h1 hb (by omega)
      · have h2 : 0 < a % b := by
          have := Nat.two_pow_pos n
          omega
        rw [show d + 2 * n + 2 = (d + 2 * n + 1) + 1 by omega]
        apply one _ b (a % b) 0 0 h2 hb (by omega)
        have h3 : b % (a % b) < 2 ^ n := by
          rw [Nat.pow_succ] at hn
          rw [Nat.mod_eq_sub_mod (by omega), Nat.mod_eq_of_lt (by omega)]
          omega
        exact ih d (a % b) (b % (a % b)) h3 (by omega) (by omega)
def m_sh (all : Nat → Int32) (S P p set : Nat) : Bool := sub set (clr (nT all) p) && !m_h all S P set && m_h all S P (set ||| 2 ^ p)
theorem sp_shareOf {X : Nat × (Nat → Int32)} {d N K : Nat} {f : Nat → e_C} {s : m_T} {S P : Nat} (V : MV f s) (W : WF s.1 S P) {p : Nat} (hp : p < P) {h : Nat → Int32} (hh : arZ (f 181) = some (512, h)) (hv : ∀ i, i < 2 ^ P → h i = bI (m_h s.1 S P i)) {a2 a3 a4 : Value} : PU X (d + 1) 286 [.ref 171, .int (nI p), a2, a3, a4] f N K (some (.int (nI (cnt (m_sh s.1 S P p) (2 ^ P))))) := by
  unfold PU
  have A4 := W.1.2.2.2.1
  have h9 := W.1.2.2.2.2.1
  have hp9 := pw9 h9
  have e2 := p2 P (by omega)
  have ep := p2 p (by omega)
  have hy := arY_Z hh
  have hcl := bit_clr (nT s.1) W.T p (by omega)
  have hpp : 2 ^ p < 2 ^ P := Nat.pow_lt_pow_right (by decide) hp
  simp (disch := first | omega | decide | assumption | exact Nat.le_of_ble_eq_true rfl) only [s286_0, s286_1, s286_2, s286_3, s286_6, s286_8, s286_9, s286_10, s286_11, s286_12, s286_13, s286_14, s286_15, s286_16, h286_17, ow_some, true_and, and_true, and_self, if_true, if_false, not_true, not_false_eq_true, Bool.false_eq_true, eq_self, Option.toList, List.cons_append, List.nil_append, ix_in, ix_cl, lt_in, lt_cl, lt_add, ix_one, vu_eq, vu_ne, arI_mk, arL_mk, arY_mZ, arY_mB, alen_mI, fld_sfl_ne, fld_sfl_same, Option.isSome_some, pok_i, b1z, b01, z10, b1o, Int32.zero_add, vu_vu, upd_eq, upd_ne, true_or, or_true, V.r1, V.r2, V.r3, V.r4, V.r16, V.r17, V.r18, V.r19, V.r20, V.r23, V.r24, V.r25, V.r26, V.r27, V.r28, V.r29, V.r30, V.c172, V.c173, V.c174, V.c186, V.c187, V.c188, V.n5, V.n13, V.n14, V.i0, V.i5, V.i6, V.i7, V.i8, V.i9, V.i10, V.i11, V.i12, V.i13, V.i14, V.i15, V.i21, V.i22, W.2.1, hcl.1]
  refine lp (fun j g (_ : Unit) => g = f) (fun j _ => [.ref 171, .int (nI p), .int (nI (cnt (m_sh s.1 S P p) j)), .int (nI (clr (nT s.1) p)), .int (nI j)]) (2 ^ P) ?_ ?_ 0 f () (Nat.zero_le _) rfl
  · rintro j g _ hj rfl hI
    have hc : (2 ^ P ≤ j) = False := eq_false (by omega)
    have hcs := cnt_s (c := m_sh s.1 S P p) (n := j)
    have no : m_sh s.1 S P p j = false → TT X (d + 1) 286 71 [.ref 171, .int (nI p), .int (nI (cnt (m_sh s.1 S P p) j)), .int (nI (clr (nT s.1) p)), .int (nI j)] [.int (nI (cnt (m_sh s.1 S P p) j))] g N K (fun f' n' k' v => f' = g ∧ n' = N ∧ k' = K ∧ v = some (.int (nI (cnt (m_sh s.1 S P p) (2 ^ P))))) := by
      intro hn
      rw [hn] at hcs
      simp only [Bool.false_eq_true, if_false] at hcs
      simp (disch := first | omega | decide | assumption | exact Nat.le_of_ble_eq_true rfl) only [s286_71, s286_72, s286_73, s286_74, h286_77, ow_some, true_and, and_true, and_self, if_true, if_false, not_true, not_false_eq_true, Bool.false_eq_true, eq_self, Option.toList, List.cons_append, List.nil_append, ix_in, ix_cl, lt_in, lt_cl, lt_add, ix_one, vu_eq, vu_ne, arI_mk, arL_mk, arY_mZ, arY_mB, alen_mI, fld_sfl_ne, fld_sfl_same, Option.isSome_some, pok_i, b1z, b01, z10, b1o, Int32.zero_add, vu_vu, upd_eq, upd_ne, true_or, or_true, V.r1, V.r2, V.r3, V.r4, V.r16, V.r17, V.r18, V.r19, V.r20, V.r23, V.r24, V.r25, V.r26, V.r27, V.r28, V.r29, V.r30, V.c172, V.c173, V.c174, V.c186, V.c187, V.c188, V.n5, V.n13, V.n14, V.i0, V.i5, V.i6, V.i7, V.i8, V.i9, V.i10, V.i11, V.i12, V.i13, V.i14, V.i15, V.i21, V.i22, Int32.add_zero]
      rw [← hcs]
      exact hI _ () rfl
    simp (disch := first | omega | decide | assumption | exact Nat.le_of_ble_eq_true rfl) only [s286_19, s286_21, s286_22, s286_23, s286_26, s286_28, s286_29, s286_30, s286_33, s286_34, s286_36, ow_some, true_and, and_true, and_self, if_true, if_false, not_true, not_false_eq_true, Bool.false_eq_true, eq_self, Option.toList, List.cons_append, List.nil_append, ix_in, ix_cl, lt_in, lt_cl, lt_add, ix_one, vu_eq, vu_ne, arI_mk, arL_mk, arY_mZ, arY_mB, alen_mI, fld_sfl_ne, fld_sfl_same, Option.isSome_some, pok_i, b1z, b01, z10, b1o, Int32.zero_add, vu_vu, upd_eq, upd_ne, true_or, or_true, V.r1, V.r2, V.r3, V.r4, V.r16, V.r17, V.r18, V.r19, V.r20, V.r23, V.r24, V.r25, V.r26, V.r27, V.r28, V.r29, V.r30, V.c172, V.c173, V.c174, V.c186, V.c187, V.c188, V.n5, V.n13, V.n14, V.i0, V.i5, V.i6, V.i7, V.i8, V.i9, V.i10, V.i11, V.i12, V.i13, V.i14, V.i15, V.i21, V.i22, A4, e2, ix_le, hc]
    rw [p286_37 (Nat.le_of_ble_eq_true rfl) (sp_isPartN (show j < 512 by omega) hcl.2)]
    by_cases h1 : sub j (clr (nT s.1) p) = true
    · simp (disch := first | omega | decide | assumption | exact Nat.le_of_ble_eq_true rfl) only [s286_40, s286_43, s286_44, s286_47, y286_49, s286_50, ow_some, true_and, and_true, and_self, if_true, if_false, not_true, not_false_eq_true, Bool.false_eq_true, eq_self, Option.toList, List.cons_append, List.nil_append, ix_in, ix_cl, lt_in, lt_cl, lt_add, ix_one, vu_eq, vu_ne, arI_mk, arL_mk, arY_mZ, arY_mB, alen_mI, fld_sfl_ne, fld_sfl_same, Option.isSome_some, pok_i, b1z, b01, z10, b1o, Int32.zero_add, vu_vu, upd_eq, upd_ne, true_or, or_true, V.r1, V.r2, V.r3, V.r4, V.r16, V.r17, V.r18, V.r19, V.r20, V.r23, V.r24, V.r25, V.r26, V.r27, V.r28, V.r29, V.r30, V.c172, V.c173, V.c174, V.c186, V.c187, V.c188, V.n5, V.n13, V.n14, V.i0, V.i5, V.i6, V.i7, V.i8, V.i9, V.i10, V.i11, V.i12, V.i13, V.i14, V.i15, V.i21, V.i22, h1, hy, hv, bI0]
      by_cases h2 : m_h s.1 S P j = false
      · have hor : (j ||| 2 ^ p) < 2 ^ P := Nat.or_lt_two_pow hj hpp
        simp (disch := first | omega | decide | assumption | exact Nat.le_of_ble_eq_true rfl) only [s286_53, s286_54, s286_57, s286_59, s286_60, s286_61, s286_62, y286_63, s286_64, ow_some, true_and, and_true, and_self, if_true, if_false, not_true, not_false_eq_true, Bool.false_eq_true, eq_self, Option.toList, List.cons_append, List.nil_append, ix_in, ix_cl, lt_in, lt_cl, lt_add, ix_one, vu_eq, vu_ne, arI_mk, arL_mk, arY_mZ, arY_mB, alen_mI, fld_sfl_ne, fld_sfl_same, Option.isSome_some, pok_i, b1z, b01, z10, b1o, Int32.zero_add, vu_vu, upd_eq, upd_ne, true_or, or_true, V.r1, V.r2, V.r3, V.r4, V.r16, V.r17, V.r18, V.r19, V.r20, V.r23, V.r24, V.r25, V.r26, V.r27, V.r28, V.r29, V.r30, V.c172, V.c173, V.c174, V.c186, V.c187, V.c188, V.n5, V.n13, V.n14, V.i0, V.i5, V.i6, V.i7, V.i8, V.i9, V.i10, V.i11, V.i12, V.i13, V.i14, V.i15, V.i21, V.i22, h2, ep, or_nI, hy, hv, bI0]
        by_cases h3 : m_h s.1 S P (j ||| 2 ^ p) = false
        · simp only [h3, if_true]
          exact no (by unfold m_sh; rw [h3]; simp)
        · rw [Bool.not_eq_false] at h3
          have hy2 : m_sh s.1 S P p j = true := by unfold m_sh; rw [h1, h2, h3]; rfl
          rw [hy2] at hcs
          simp only [if_true] at hcs
          simp (disch := first | omega | decide | assumption | exact Nat.le_of_ble_eq_true rfl) only [s286_67, s286_68, s286_71, s286_72, s286_73, s286_74, h286_77, ow_some, true_and, and_true, and_self, if_true, if_false, not_true, not_false_eq_true, Bool.false_eq_true, eq_self, Option.toList, List.cons_append, List.nil_append, ix_in, ix_cl, lt_in, lt_cl, lt_add, ix_one, vu_eq, vu_ne, arI_mk, arL_mk, arY_mZ, arY_mB, alen_mI, fld_sfl_ne, fld_sfl_same, Option.isSome_some, pok_i, b1z, b01, z10, b1o, Int32.zero_add, vu_vu, upd_eq, upd_ne, true_or, or_true, V.r1, V.r2, V.r3, V.r4, V.r16, V.r17, V.r18, V.r19, V.r20, V.r23, V.r24, V.r25, V.r26, V.r27, V.r28, V.r29, V.r30, V.c172, V.c173, V.c174, V.c186, V.c187, V.c188, V.n5, V.n13, V.n14, V.i0, V.i5, V.i6, V.i7, V.i8, V.i9, V.i10, V.i11, V.i12, V.i13, V.i14, V.i15, V.i21, V.i22, h3, Bool.true_eq_false]
          rw [← hcs]
          exact hI _ () rfl
      · simp only [h2, if_false, not_false_eq_true, if_true]
        exact no (by rw [Bool.not_eq_false] at h2; unfold m_sh; rw [h2]; simp)
    · simp (disch := first | omega | decide | assumption | exact Nat.le_of_ble_eq_true rfl) only [s286_40, ow_some, true_and, and_true, and_self, if_true, if_false, not_true, not_false_eq_true, Bool.false_eq_true, eq_self, Option.toList, List.cons_append, List.nil_append, ix_in, ix_cl, lt_in, lt_cl, lt_add, ix_one, vu_eq, vu_ne, arI_mk, arL_mk, arY_mZ, arY_mB, alen_mI, fld_sfl_ne, fld_sfl_same, Option.isSome_some, pok_i, b1z, b01, z10, b1o, Int32.zero_add, vu_vu, upd_eq, upd_ne, true_or, or_true, V.r1, V.r2, V.r3, V.r4, V.r16, V.r17, V.r18, V.r19, V.r20, V.r23, V.r24, V.r25, V.r26, V.r27, V.r28, V.r29, V.r30, V.c172, V.c173, V.c174, V.c186, V.c187, V.c188, V.n5, V.n13, V.n14, V.i0, V.i5, V.i6, V.i7, V.i8, V.i9, V.i10, V.i11, V.i12, V.i13, V.i14, V.i15, V.i21, V.i22, h1]
      exact no (by rw [Bool.not_eq_true] at h1; unfold m_sh; rw [h1]; rfl)
  · rintro g _ rfl
    simp (disch := first | omega | decide | assumption | exact Nat.le_of_ble_eq_true rfl) only [s286_19, s286_21, s286_22, s286_23, s286_26, s286_28, s286_29, s286_30, s286_80, s286_81, ow_some, true_and, and_true, and_self, if_true, if_false, not_true, not_false_eq_true, Bool.false_eq_true, eq_self, Option.toList, List.cons_append, List.nil_append, ix_in, ix_cl, lt_in, lt_cl, lt_add, ix_one, vu_eq, vu_ne, arI_mk, arL_mk, arY_mZ, arY_mB, alen_mI, fld_sfl_ne, fld_sfl_same, Option.isSome_some, pok_i, b1z, b01, z10, b1o, Int32.zero_add, vu_vu, upd_eq, upd_ne, true_or, or_true, V.r1, V.r2, V.r3, V.r4, V.r16, V.r17, V.r18, V.r19, V.r20, V.r23, V.r24, V.r25, V.r26, V.r27, V.r28, V.r29, V.r30, V.c172, V.c173, V.c174, V.c186, V.c187, V.c188, V.n5, V.n13, V.n14, V.i0, V.i5, V.i6, V.i7, V.i8, V.i9, V.i10, V.i11, V.i12, V.i13, V.i14, V.i15, V.i21, V.i22, A4, e2, ix_le, Nat.le_refl]
def o_pillar (all : Nat → Int32) (S P : Nat) : Int32 := oI (m_best (fun p => if (nT all).testBit p then nI (cnt (m_sh all S P p) (2 ^ P)) else -1) P).1
theorem sp_pillar {X : Nat × (Nat → Int32)} {d N K : Nat} {f : Nat → e_C} {s : m_T} {S P : Nat} (V : MV f s) (W : WF s.1 S P) {a1 a2 a3 a4 : Value} : TT X (d + 8) 288 0 [.ref 171, a1, a2, a3, a4] [] f N K (MZ N K f (s.1, o_pillar s.1 S P) s.2) := by
  simp only [s288_0, s288_1, s288_2, V.i0, pok_i, true_and]
  have sm0 : SM f (va_up f 171 (sfl (f 171) 0 (.int 0))) := SM.up (by omega) (by omega)
  have V0 := V.num (j := 0) (x := 0) (by decide)
  generalize va_up f 171 (sfl (f 171) 0 (.int 0)) = f0 at sm0 V0 ⊢
  simp (disch := first | omega | decide | assumption | exact Nat.le_of_ble_eq_true rfl) only [s288_5, ow_some, true_and, and_true, and_self, if_true, if_false, not_true, not_false_eq_true, Bool.false_eq_true, eq_self, Option.toList, List.cons_append, List.nil_append, ix_in, ix_cl, lt_in, lt_cl, lt_add, ix_one, vu_eq, vu_ne, arI_mk, arL_mk, arY_mZ, arY_mB, alen_mI, fld_sfl_ne, fld_sfl_same, Option.isSome_some, pok_i, b1z, b01, z10, b1o, Int32.zero_add, vu_vu, upd_eq, upd_ne, true_or, or_true, V0.r1, V0.r2, V0.r3, V0.r4, V0.r16, V0.r17, V0.r18, V0.r19, V0.r20, V0.r23, V0.r24, V0.r25, V0.r26, V0.r27, V0.r28, V0.r29, V0.r30, V0.c172, V0.c173, V0.c174, V0.c186, V0.c187, V0.c188, V0.n5, V0.n13, V0.n14, V0.i0, V0.i5, V0.i6, V0.i7, V0.i8, V0.i9, V0.i10, V0.i11, V0.i12, V0.i13, V0.i14, V0.i15, V0.i21, V0.i22]
  refine k288_6 (cno_MR V0.mr) (Nat.le_of_ble_eq_true rfl) (sp_laysHold V0 W) ?_
  rintro f1 n1 k1 v1 ⟨rfl, rfl, rfl, sn1, V1, h, hh, hv⟩
  have A4 := W.1.2.2.2.1
  have h9 := W.1.2.2.2.2.1
  unfold o_pillar
  simp (disch := first | omega | decide | assumption | exact Nat.le_of_ble_eq_true rfl) only [s288_9, s288_10, s288_11, s288_12, s288_13, h288_14, ow_some, true_and, and_true, and_self, if_true, if_false, not_true, not_false_eq_true, Bool.false_eq_true, eq_self, Option.toList, List.cons_append, List.nil_append, ix_in, ix_cl, lt_in, lt_cl, lt_add, ix_one, vu_eq, vu_ne, arI_mk, arL_mk, arY_mZ, arY_mB, alen_mI, fld_sfl_ne, fld_sfl_same, Option.isSome_some, pok_i, b1z, b01, z10, b1o, Int32.zero_add, vu_vu, upd_eq, upd_ne, true_or, or_true, V1.r1, V1.r2, V1.r3, V1.r4, V1.r16, V1.r17, V1.r18, V1.r19, V1.r20, V1.r23, V1.r24, V1.r25, V1.r26, V1.r27, V1.r28, V1.r29, V1.r30, V1.c172, V1.c173, V1.c174, V1.c186, V1.c187, V1.c188, V1.n5, V1.n13, V1.n14, V1.i0, V1.i5, V1.i6, V1.i7, V1.i8, V1.i9, V1.i10, V1.i11, V1.i12, V1.i13, V1.i14, V1.i15, V1.i21, V1.i22]
  refine lp (fun p g (z : (Option Nat × Int32) × Value) => g = f1 ∧ z.1 = m_best (fun p => if (nT s.1).testBit p then nI (cnt (m_sh s.1 S P p) (2 ^ P)) else -1) p) (fun p z => [.ref 171, .int (oI z.1.1), .int z.1.2, .int (nI p), z.2]) P ?_ ?_ 0 f1 ((none, -1), a4) (by omega) ⟨rfl, rfl⟩
  · rintro p g ⟨z, u⟩ hp ⟨rfl, hz⟩ hI
    simp only at hz
    have hc : (P ≤ p) = False := eq_false (by omega)
    have fin : ∀ x, x = (if (nT s.1).testBit p then nI (cnt (m_sh s.1 S P p) (2 ^ P)) else -1) → TT X (d + 8) 288 43 [.ref 171, .int (oI z.1), .int z.2, .int (nI p), u] [.int x] g n1 k1 (MZ n1 k1 f (s.1, oI (m_best (fun p => if (nT s.1).testBit p then nI (cnt (m_sh s.1 S P p) (2 ^ P)) else -1) P).1) s.2) := by
      intro x hx
      by_cases hlt : z.2 < x
      · simp (disch := first | omega | decide | assumption | exact Nat.le_of_ble_eq_true rfl) only [s288_43, s288_45, s288_47, s288_48, s288_51, s288_54, s288_55, s288_56, s288_58, s288_59, h288_62, ow_some, true_and, and_true, and_self, if_true, if_false, not_true, not_false_eq_true, Bool.false_eq_true, eq_self, Option.toList, List.cons_append, List.nil_append, ix_in, ix_cl, lt_in, lt_cl, lt_add, ix_one, vu_eq, vu_ne, arI_mk, arL_mk, arY_mZ, arY_mB, alen_mI, fld_sfl_ne, fld_sfl_same, Option.isSome_some, pok_i, b1z, b01, z10, b1o, Int32.zero_add, vu_vu, upd_eq, upd_ne, true_or, or_true, V1.r1, V1.r2, V1.r3, V1.r4, V1.r16, V1.r17, V1.r18, V1.r19, V1.r20, V1.r23, V1.r24, V1.r25, V1.r26, V1.r27, V1.r28, V1.r29, V1.r30, V1.c172, V1.c173, V1.c174, V1.c186, V1.c187, V1.c188, V1.n5, V1.n13, V1.n14, V1.i0, V1.i5, V1.i6, V1.i7, V1.i8, V1.i9, V1.i10, V1.i11, V1.i12, V1.i13, V1.i14, V1.i15, V1.i21, V1.i22, hlt]
        refine hI g ((some p, x), .int x) ⟨rfl, ?_⟩
        rw [m_best_s, ← hz, ← hx, if_pos hlt]
      · simp (disch := first | omega | decide | assumption | exact Nat.le_of_ble_eq_true rfl) only [s288_43, s288_45, s288_47, s288_48, s288_51, s288_59, h288_62, ow_some, true_and, and_true, and_self, if_true, if_false, not_true, not_false_eq_true, Bool.false_eq_true, eq_self, Option.toList, List.cons_append, List.nil_append, ix_in, ix_cl, lt_in, lt_cl, lt_add, ix_one, vu_eq, vu_ne, arI_mk, arL_mk, arY_mZ, arY_mB, alen_mI, fld_sfl_ne, fld_sfl_same, Option.isSome_some, pok_i, b1z, b01, z10, b1o, Int32.zero_add, vu_vu, upd_eq, upd_ne, true_or, or_true, V1.r1, V1.r2, V1.r3, V1.r4, V1.r16, V1.r17, V1.r18, V1.r19, V1.r20, V1.r23, V1.r24, V1.r25, V1.r26, V1.r27, V1.r28, V1.r29, V1.r30, V1.c172, V1.c173, V1.c174, V1.c186, V1.c187, V1.c188, V1.n5, V1.n13, V1.n14, V1.i0, V1.i5, V1.i6, V1.i7, V1.i8, V1.i9, V1.i10, V1.i11, V1.i12, V1.i13, V1.i14, V1.i15, V1.i21, V1.i22, hlt]
        refine hI g (z, .int x) ⟨rfl, ?_⟩
        rw [m_best_s, ← hz, ← hx, if_neg hlt]
    simp (disch := first | omega | decide | assumption | exact Nat.le_of_ble_eq_true rfl) only [s288_15, s288_16, s288_17, s288_20, s288_22, s288_23, s288_26, s288_27, ow_some, true_and, and_true, and_self, if_true, if_false, not_true, not_false_eq_true, Bool.false_eq_true, eq_self, Option.toList, List.cons_append, List.nil_append, ix_in, ix_cl, lt_in, lt_cl, lt_add, ix_one, vu_eq, vu_ne, arI_mk, arL_mk, arY_mZ, arY_mB, alen_mI, fld_sfl_ne, fld_sfl_same, Option.isSome_some, pok_i, b1z, b01, z10, b1o, Int32.zero_add, vu_vu, upd_eq, upd_ne, true_or, or_true, V1.r1, V1.r2, V1.r3, V1.r4, V1.r16, V1.r17, V1.r18, V1.r19, V1.r20, V1.r23, V1.r24, V1.r25, V1.r26, V1.r27, V1.r28, V1.r29, V1.r30, V1.c172, V1.c173, V1.c174, V1.c186, V1.c187, V1.c188, V1.n5, V1.n13, V1.n14, V1.i0, V1.i5, V1.i6, V1.i7, V1.i8, V1.i9, V1.i10, V1.i11, V1.i12, V1.i13, V1.i14, V1.i15, V1.i21, V1.i22, A4, ix_le, hc]
    rw [p288_28 (cno_MR V1.mr) (Nat.le_of_ble_eq_true rfl) (sp_isThere V1.mr V1.c172 W.2.1 W.T (show p < 9 by omega))]
    by_cases h2 : (nT s.1).testBit p = true
    · simp (disch := first | omega | decide | assumption | exact Nat.le_of_ble_eq_true rfl) only [s288_31, s288_34, s288_35, ow_some, true_and, and_true, and_self, if_true, if_false, not_true, not_false_eq_true, Bool.false_eq_true, eq_self, Option.toList, List.cons_append, List.nil_append, ix_in, ix_cl, lt_in, lt_cl, lt_add, ix_one, vu_eq, vu_ne, arI_mk, arL_mk, arY_mZ, arY_mB, alen_mI, fld_sfl_ne, fld_sfl_same, Option.isSome_some, pok_i, b1z, b01, z10, b1o, Int32.zero_add, vu_vu, upd_eq, upd_ne, true_or, or_true, V1.r1, V1.r2, V1.r3, V1.r4, V1.r16, V1.r17, V1.r18, V1.r19, V1.r20, V1.r23, V1.r24, V1.r25, V1.r26, V1.r27, V1.r28, V1.r29, V1.r30, V1.c172, V1.c173, V1.c174, V1.c186, V1.c187, V1.c188, V1.n5, V1.n13, V1.n14, V1.i0, V1.i5, V1.i6, V1.i7, V1.i8, V1.i9, V1.i10, V1.i11, V1.i12, V1.i13, V1.i14, V1.i15, V1.i21, V1.i22, h2]
      rw [p288_36 (cno_MR V1.mr) (Nat.le_of_ble_eq_true rfl) (sp_shareOf V1 W hp hh hv)]
      simp (disch := first | omega | decide | assumption | exact Nat.le_of_ble_eq_true rfl) only [s288_39, ow_some, true_and, and_true, and_self, if_true, if_false, not_true, not_false_eq_true, Bool.false_eq_true, eq_self, Option.toList, List.cons_append, List.nil_append, ix_in, ix_cl, lt_in, lt_cl, lt_add, ix_one, vu_eq, vu_ne, arI_mk, arL_mk, arY_mZ, arY_mB, alen_mI, fld_sfl_ne, fld_sfl_same, Option.isSome_some, pok_i, b1z, b01, z10, b1o, Int32.zero_add, vu_vu, upd_eq, upd_ne, true_or, or_true, V1.r1, V1.r2, V1.r3, V1.r4, V1.r16, V1.r17, V1.r18, V1.r19, V1.r20, V1.r23, V1.r24, V1.r25, V1.r26, V1.r27, V1.r28, V1.r29, V1.r30, V1.c172, V1.c173, V1.c174, V1.c186, V1.c187, V1.c188, V1.n5, V1.n13, V1.n14, V1.i0, V1.i5, V1.i6, V1.i7, V1.i8, V1.i9, V1.i10, V1.i11, V1.i12, V1.i13, V1.i14, V1.i15, V1.i21, V1.i22]
      exact fin _ (by rw [if_pos h2])
    · simp (disch := first | omega | decide | assumption | exact Nat.le_of_ble_eq_true rfl) only [s288_31, s288_42, ow_some, true_and, and_true, and_self, if_true, if_false, not_true, not_false_eq_true, Bool.false_eq_true, eq_self, Option.toList, List.cons_append, List.nil_append, ix_in, ix_cl, lt_in, lt_cl, lt_add, ix_one, vu_eq, vu_ne, arI_mk, arL_mk, arY_mZ, arY_mB, alen_mI, fld_sfl_ne, fld_sfl_same, Option.isSome_some, pok_i, b1z, b01, z10, b1o, Int32.zero_add, vu_vu, upd_eq, upd_ne, true_or, or_true, V1.r1, V1.r2, V1.r3, V1.r4, V1.r16, V1.r17, V1.r18, V1.r19, V1.r20, V1.r23, V1.r24, V1.r25, V1.r26, V1.r27, V1.r28, V1.r29, V1.r30, V1.c172, V1.c173, V1.c174, V1.c186, V1.c187, V1.c188, V1.n5, V1.n13, V1.n14, V1.i0, V1.i5, V1.i6, V1.i7, V1.i8, V1.i9, V1.i10, V1.i11, V1.i12, V1.i13, V1.i14, V1.i15, V1.i21, V1.i22, h2]
      exact fin _ (by rw [if_neg h2])
  · rintro g ⟨z, u⟩ ⟨rfl, hz⟩
    simp only at hz
    simp (disch := first | omega | decide | assumption | exact Nat.le_of_ble_eq_true rfl) only [s288_15, s288_16, s288_17, s288_20, s288_22, s288_23, s288_65, s288_66, ow_some, true_and, and_true, and_self, if_true, if_false, not_true, not_false_eq_true, Bool.false_eq_true, eq_self, Option.toList, List.cons_append, List.nil_append, ix_in, ix_cl, lt_in, lt_cl, lt_add, ix_one, vu_eq, vu_ne, arI_mk, arL_mk, arY_mZ, arY_mB, alen_mI, fld_sfl_ne, fld_sfl_same, Option.isSome_some, pok_i, b1z, b01, z10, b1o, Int32.zero_add, vu_vu, upd_eq, upd_ne, true_or, or_true, V1.r1, V1.r2, V1.r3, V1.r4, V1.r16, V1.r17, V1.r18, V1.r19, V1.r20, V1.r23, V1.r24, V1.r25, V1.r26, V1.r27, V1.r28, V1.r29, V1.r30, V1.c172, V1.c173, V1.c174, V1.c186, V1.c187, V1.c188, V1.n5, V1.n13, V1.n14, V1.i0, V1.i5, V1.i6, V1.i7, V1.i8, V1.i9, V1.i10, V1.i11, V1.i12, V1.i13, V1.i14, V1.i15, V1.i21, V1.i22, A4, ix_le, Nat.le_refl]
    rw [hz]
    exact ⟨rfl, rfl, sm0.w.tr (sn1.w (by omega) (by omega)), V1, rfl⟩
def o_share (all : Nat → Int32) (S P : Nat) (p w : Int32) : Int32 := if (0 ≤ p.toInt ∧ p.toInt < P) ∧ (0 ≤ w.toInt ∧ w.toInt ≤ 1) then (if (nT all).testBit p.toInt.toNat = true then nI ((if w = 0 then cnt (m_sh all S P p.toInt.toNat) (2 ^ P) else 2 ^ (bits (nT all) - 1)) / Nat.gcd (cnt (m_sh all S P p.toInt.toNat) (2 ^ P)) (2 ^ (bits (nT all) - 1))) else -5) else -2
theorem bits_pos : ∀ T, T < 512 → ∀ p, p < 9 → T.testBit p = true → 0 < bits T := by decide +kernel
theorem nI_lI {n : Nat} (h : n < 65536) : (nI n).toInt64 = lI n := lI_of (by omega) (nI_64 h)
theorem lI_nI {n : Nat} (h : n < 65536) : (lI n).toInt32 = nI n := by rw [← nI_lI h, nI_6432]
theorem sp_share {X : Nat × (Nat → Int32)} {d N K : Nat} {f : Nat → e_C} {s : m_T} {S P : Nat} (V : MV f s) (W : WF s.1 S P) {p w : Int32} {a3 a4 a5 : Value} : TT X (d + 30) 285 0 [.ref 171, .int p, .int w, a3, a4, a5] [] f N K (MZ N K f (s.1, o_share s.1 S P p w) s.2) := by
  simp only [s285_0, s285_1, s285_2, V.i0, pok_i, true_and]
  have sm0 : SM f (va_up f 171 (sfl (f 171) 0 (.int 0))) := SM.up (by omega) (by omega)
  have V0 := V.num (j := 0) (x := 0) (by decide)
  generalize va_up f 171 (sfl (f 171) 0 (.int 0)) = f0 at sm0 V0 ⊢
  simp (disch := first | omega | decide | assumption | exact Nat.le_of_ble_eq_true rfl) only [s285_5, s285_6, s285_7, ow_some, true_and, and_true, and_self, if_true, if_false, not_true, not_false_eq_true, Bool.false_eq_true, eq_self, Option.toList, List.cons_append, List.nil_append, ix_in, ix_cl, lt_in, lt_cl, lt_add, ix_one, vu_eq, vu_ne, arI_mk, arL_mk, arY_mZ, arY_mB, alen_mI, fld_sfl_ne, fld_sfl_same, Option.isSome_some, pok_i, b1z, b01, z10, b1o, Int32.zero_add, vu_vu, upd_eq, upd_ne, true_or, or_true, V0.r1, V0.r2, V0.r3, V0.r4, V0.r16, V0.r17, V0.r18, V0.r19, V0.r20, V0.r23, V0.r24, V0.r25, V0.r26, V0.r27, V0.r28, V0.r29, V0.r30, V0.c172, V0.c173, V0.c174, V0.c186, V0.c187, V0.c188, V0.n5, V0.n13, V0.n14, V0.i0, V0.i5, V0.i6, V0.i7, V0.i8, V0.i9, V0.i10, V0.i11, V0.i12, V0.i13, V0.i14, V0.i15, V0.i21, V0.i22]
  rw [p285_8 (cno_MR V0.mr) (Nat.le_of_ble_eq_true rfl) (sp_isPersonT V0 W.1)]
  simp only [Int32.toInt_toInt64]
  have h9 := W.1.2.2.2.2.1
  unfold o_share
  by_cases h1 : 0 ≤ p.toInt ∧ p.toInt < P
  · simp (disch := first | omega | decide | assumption | exact Nat.le_of_ble_eq_true rfl) only [s285_11, s285_14, ow_some, true_and, and_true, and_self, if_true, if_false, not_true, not_false_eq_true, Bool.false_eq_true, eq_self, Option.toList, List.cons_append, List.nil_append, ix_in, ix_cl, lt_in, lt_cl, lt_add, ix_one, vu_eq, vu_ne, arI_mk, arL_mk, arY_mZ, arY_mB, alen_mI, fld_sfl_ne, fld_sfl_same, Option.isSome_some, pok_i, b1z, b01, z10, b1o, Int32.zero_add, vu_vu, upd_eq, upd_ne, true_or, or_true, V0.r1, V0.r2, V0.r3, V0.r4, V0.r16, V0.r17, V0.r18, V0.r19, V0.r20, V0.r23, V0.r24, V0.r25, V0.r26, V0.r27, V0.r28, V0.r29, V0.r30, V0.c172, V0.c173, V0.c174, V0.c186, V0.c187, V0.c188, V0.n5, V0.n13, V0.n14, V0.i0, V0.i5, V0.i6, V0.i7, V0.i8, V0.i9, V0.i10, V0.i11, V0.i12, V0.i13, V0.i14, V0.i15, V0.i21, V0.i22, h1]
    rw [p285_15 (Nat.le_of_ble_eq_true rfl) sp_isWhat]
    simp only [wh1]
    by_cases h2 : 0 ≤ w.toInt ∧ w.toInt ≤ 1
    · obtain ⟨q, hq, rfl, hv⟩ := i9 h1.1 h1.2 (by omega)
      simp only [hv, Int.toNat_natCast, h2, and_self, if_true]
      simp (disch := first | omega | decide | assumption | exact Nat.le_of_ble_eq_true rfl) only [s285_18, s285_21, s285_23, s285_24, s285_25, ow_some, true_and, and_true, and_self, if_true, if_false, not_true, not_false_eq_true, Bool.false_eq_true, eq_self, Option.toList, List.cons_append, List.nil_append, ix_in, ix_cl, lt_in, lt_cl, lt_add, ix_one, vu_eq, vu_ne, arI_mk, arL_mk, arY_mZ, arY_mB, alen_mI, fld_sfl_ne, fld_sfl_same, Option.isSome_some, pok_i, b1z, b01, z10, b1o, Int32.zero_add, vu_vu, upd_eq, upd_ne, true_or, or_true, V0.r1, V0.r2, V0.r3, V0.r4, V0.r16, V0.r17, V0.r18, V0.r19, V0.r20, V0.r23, V0.r24, V0.r25, V0.r26, V0.r27, V0.r28, V0.r29, V0.r30, V0.c172, V0.c173, V0.c174, V0.c186, V0.c187, V0.c188, V0.n5, V0.n13, V0.n14, V0.i0, V0.i5, V0.i6, V0.i7, V0.i8, V0.i9, V0.i10, V0.i11, V0.i12, V0.i13, V0.i14, V0.i15, V0.i21, V0.i22, h2]
      rw [p285_26 (cno_MR V0.mr) (Nat.le_of_ble_eq_true rfl) (sp_isThere V0.mr V0.c172 W.2.1 W.T (show q < 9 by omega))]
      by_cases h3 : (nT s.1).testBit q = true
      · rw [if_pos h3]
        simp (disch := first | omega | decide | assumption | exact Nat.le_of_ble_eq_true rfl) only [s285_29, s285_32, s285_34, s285_35, ow_some, true_and, and_true, and_self, if_true, if_false, not_true, not_false_eq_true, Bool.false_eq_true, eq_self, Option.toList, List.cons_append, List.nil_append, ix_in, ix_cl, lt_in, lt_cl, lt_add, ix_one, vu_eq, vu_ne, arI_mk, arL_mk, arY_mZ, arY_mB, alen_mI, fld_sfl_ne, fld_sfl_same, Option.isSome_some, pok_i, b1z, b01, z10, b1o, Int32.zero_add, vu_vu, upd_eq, upd_ne, true_or, or_true, V0.r1, V0.r2, V0.r3, V0.r4, V0.r16, V0.r17, V0.r18, V0.r19, V0.r20, V0.r23, V0.r24, V0.r25, V0.r26, V0.r27, V0.r28, V0.r29, V0.r30, V0.c172, V0.c173, V0.c174, V0.c186, V0.c187, V0.c188, V0.n5, V0.n13, V0.n14, V0.i0, V0.i5, V0.i6, V0.i7, V0.i8, V0.i9, V0.i10, V0.i11, V0.i12, V0.i13, V0.i14, V0.i15, V0.i21, V0.i22, h3]
        refine k285_36 (cno_MR V0.mr) (Nat.le_of_ble_eq_true rfl) (sp_laysHold V0 W) ?_
        rintro f1 n1 k1 v1 ⟨rfl, rfl, rfl, sn1, V1, h, hh, hhv⟩
        simp (disch := first | omega | decide | assumption | exact Nat.le_of_ble_eq_true rfl) only [s285_39, s285_40, ow_some, true_and, and_true, and_self, if_true, if_false, not_true, not_false_eq_true, Bool.false_eq_true, eq_self, Option.toList, List.cons_append, List.nil_append, ix_in, ix_cl, lt_in, lt_cl, lt_add, ix_one, vu_eq, vu_ne, arI_mk, arL_mk, arY_mZ, arY_mB, alen_mI, fld_sfl_ne, fld_sfl_same, Option.isSome_some, pok_i, b1z, b01, z10, b1o, Int32.zero_add, vu_vu, upd_eq, upd_ne, true_or, or_true, V1.r1, V1.r2, V1.r3, V1.r4, V1.r16, V1.r17, V1.r18, V1.r19, V1.r20, V1.r23, V1.r24, V1.r25, V1.r26, V1.r27, V1.r28, V1.r29, V1.r30, V1.c172, V1.c173, V1.c174, V1.c186, V1.c187, V1.c188, V1.n5, V1.n13, V1.n14, V1.i0, V1.i5, V1.i6, V1.i7, V1.i8, V1.i9, V1.i10, V1.i11, V1.i12, V1.i13, V1.i14, V1.i15, V1.i21, V1.i22]
        rw [p285_41 (cno_MR V1.mr) (Nat.le_of_ble_eq_true rfl) (sp_shareOf V1 W hq hh hhv)]
        simp (disch := first | omega | decide | assumption | exact Nat.le_of_ble_eq_true rfl) only [s285_44, s285_45, s285_46, s285_47, s285_50, s285_52, ow_some, true_and, and_true, and_self, if_true, if_false, not_true, not_false_eq_true, Bool.false_eq_true, eq_self, Option.toList, List.cons_append, List.nil_append, ix_in, ix_cl, lt_in, lt_cl, lt_add, ix_one, vu_eq, vu_ne, arI_mk, arL_mk, arY_mZ, arY_mB, alen_mI, fld_sfl_ne, fld_sfl_same, Option.isSome_some, pok_i, b1z, b01, z10, b1o, Int32.zero_add, vu_vu, upd_eq, upd_ne, true_or, or_true, V1.r1, V1.r2, V1.r3, V1.r4, V1.r16, V1.r17, V1.r18, V1.r19, V1.r20, V1.r23, V1.r24, V1.r25, V1.r26, V1.r27, V1.r28, V1.r29, V1.r30, V1.c172, V1.c173, V1.c174, V1.c186, V1.c187, V1.c188, V1.n5, V1.n13, V1.n14, V1.i0, V1.i5, V1.i6, V1.i7, V1.i8, V1.i9, V1.i10, V1.i11, V1.i12, V1.i13, V1.i14, V1.i15, V1.i21, V1.i22, W.2.1]
        rw [p285_53 (Nat.le_of_ble_eq_true rfl) (sp_bitsOf W.T)]
        have hbp := bits_pos _ W.T q (by omega) h3
        have hb9 := bits_lt (T := nT s.1)
        have e1 : nI (m_bits (nT s.1) 9) - 1 = nI (bits (nT s.1) - 1) := by rw [lit_nI 1]; exact pk_sub hbp
        have e2 := p2 (bits (nT s.1) - 1) (by omega)
        have hc512 : cnt (m_sh s.1 S P q) (2 ^ P) ≤ 512 := Nat.le_trans cnt_le (pw9 h9)
        have hw512 : 2 ^ (bits (nT s.1) - 1) ≤ 512 := pw9 (by omega)
        have hwp : 0 < 2 ^ (bits (nT s.1) - 1) := Nat.two_pow_pos _
        generalize cnt (m_sh s.1 S P q) (2 ^ P) = above at *
        generalize 2 ^ (bits (nT s.1) - 1) = whole at *
        have g1 : 0 < Nat.gcd above whole := Nat.gcd_pos_of_pos_right _ hwp
        have g2 : Nat.gcd above whole ≤ whole := Nat.gcd_le_right _ hwp
        simp (disch := first | omega | decide | assumption | exact Nat.le_of_ble_eq_true rfl) only [s285_56, s285_57, s285_58, s285_59, s285_61, s285_62, s285_63, s285_65, ow_some, true_and, and_true, and_self, if_true, if_false, not_true, not_false_eq_true, Bool.false_eq_true, eq_self, Option.toList, List.cons_append, List.nil_append, ix_in, ix_cl, lt_in, lt_cl, lt_add, ix_one, vu_eq, vu_ne, arI_mk, arL_mk, arY_mZ, arY_mB, alen_mI, fld_sfl_ne, fld_sfl_same, Option.isSome_some, pok_i, b1z, b01, z10, b1o, Int32.zero_add, vu_vu, upd_eq, upd_ne, true_or, or_true, V1.r1, V1.r2, V1.r3, V1.r4, V1.r16, V1.r17, V1.r18, V1.r19, V1.r20, V1.r23, V1.r24, V1.r25, V1.r26, V1.r27, V1.r28, V1.r29, V1.r30, V1.c172, V1.c173, V1.c174, V1.c186, V1.c187, V1.c188, V1.n5, V1.n13, V1.n14, V1.i0, V1.i5, V1.i6, V1.i7, V1.i8, V1.i9, V1.i10, V1.i11, V1.i12, V1.i13, V1.i14, V1.i15, V1.i21, V1.i22, e1, e2, nI_lI]
        rw [p285_66 (Nat.le_of_ble_eq_true rfl) (sp_common 10 (d + 8) above whole (by omega) (by omega) (by omega))]
        have hne : (nI (Nat.gcd above whole) ≠ 0) = True := eq_true (fun z => by
          have z2 := tl_eq (c := 0) (m := Nat.gcd above whole) (by decide) (by omega)
          rw [z2] at z; omega)
        have d1 : nI above / nI (Nat.gcd above whole) = nI (above / Nat.gcd above whole) := pk_div (by omega) (by omega) (by omega)
        have d2 : nI whole / nI (Nat.gcd above whole) = nI (whole / Nat.gcd above whole) := pk_div (by omega) (by omega) (by omega)
        by_cases h0 : w = 0
        · simp only [h0, if_true]
          simp (disch := first | omega | decide | assumption | exact Nat.le_of_ble_eq_true rfl) only [s285_69, s285_70, s285_72, s285_73, s285_76, s285_77, s285_80, s285_82, s285_84, s285_85, ow_some, true_and, and_true, and_self, if_true, if_false, not_true, not_false_eq_true, Bool.false_eq_true, eq_self, Option.toList, List.cons_append, List.nil_append, ix_in, ix_cl, lt_in, lt_cl, lt_add, ix_one, vu_eq, vu_ne, arI_mk, arL_mk, arY_mZ, arY_mB, alen_mI, fld_sfl_ne, fld_sfl_same, Option.isSome_some, pok_i, b1z, b01, z10, b1o, Int32.zero_add, vu_vu, upd_eq, upd_ne, true_or, or_true, V1.r1, V1.r2, V1.r3, V1.r4, V1.r16, V1.r17, V1.r18, V1.r19, V1.r20, V1.r23, V1.r24, V1.r25, V1.r26, V1.r27, V1.r28, V1.r29, V1.r30, V1.c172, V1.c173, V1.c174, V1.c186, V1.c187, V1.c188, V1.n5, V1.n13, V1.n14, V1.i0, V1.i5, V1.i6, V1.i7, V1.i8, V1.i9, V1.i10, V1.i11, V1.i12, V1.i13, V1.i14, V1.i15, V1.i21, V1.i22, lI_nI, hne, d1, d2]
          exact ⟨rfl, rfl, sm0.w.tr (sn1.w (by omega) (by omega)), V1, rfl⟩
        · simp only [h0, if_false]
          simp (disch := first | omega | decide | assumption | exact Nat.le_of_ble_eq_true rfl) only [s285_69, s285_70, s285_72, s285_73, s285_76, s285_77, s285_80, s285_82, s285_84, s285_85, ow_some, true_and, and_true, and_self, if_true, if_false, not_true, not_false_eq_true, Bool.false_eq_true, eq_self, Option.toList, List.cons_append, List.nil_append, ix_in, ix_cl, lt_in, lt_cl, lt_add, ix_one, vu_eq, vu_ne, arI_mk, arL_mk, arY_mZ, arY_mB, alen_mI, fld_sfl_ne, fld_sfl_same, Option.isSome_some, pok_i, b1z, b01, z10, b1o, Int32.zero_add, vu_vu, upd_eq, upd_ne, true_or, or_true, V1.r1, V1.r2, V1.r3, V1.r4, V1.r16, V1.r17, V1.r18, V1.r19, V1.r20, V1.r23, V1.r24, V1.r25, V1.r26, V1.r27, V1.r28, V1.r29, V1.r30, V1.c172, V1.c173, V1.c174, V1.c186, V1.c187, V1.c188, V1.n5, V1.n13, V1.n14, V1.i0, V1.i5, V1.i6, V1.i7, V1.i8, V1.i9, V1.i10, V1.i11, V1.i12, V1.i13, V1.i14, V1.i15, V1.i21, V1.i22, h0, lI_nI, hne, d1, d2]
          exact ⟨rfl, rfl, sm0.w.tr (sn1.w (by omega) (by omega)), V1, rfl⟩
      · rw [if_neg h3]
        simp (disch := first | omega | decide | assumption | exact Nat.le_of_ble_eq_true rfl) only [s285_29, s285_32, s285_34, ow_some, true_and, and_true, and_self, if_true, if_false, not_true, not_false_eq_true, Bool.false_eq_true, eq_self, Option.toList, List.cons_append, List.nil_append, ix_in, ix_cl, lt_in, lt_cl, lt_add, ix_one, vu_eq, vu_ne, arI_mk, arL_mk, arY_mZ, arY_mB, alen_mI, fld_sfl_ne, fld_sfl_same, Option.isSome_some, pok_i, b1z, b01, z10, b1o, Int32.zero_add, vu_vu, upd_eq, upd_ne, true_or, or_true, V0.r1, V0.r2, V0.r3, V0.r4, V0.r16, V0.r17, V0.r18, V0.r19, V0.r20, V0.r23, V0.r24, V0.r25, V0.r26, V0.r27, V0.r28, V0.r29, V0.r30, V0.c172, V0.c173, V0.c174, V0.c186, V0.c187, V0.c188, V0.n5, V0.n13, V0.n14, V0.i0, V0.i5, V0.i6, V0.i7, V0.i8, V0.i9, V0.i10, V0.i11, V0.i12, V0.i13, V0.i14, V0.i15, V0.i21, V0.i22, h3]
        exact ⟨rfl, rfl, sm0.w, V0, rfl⟩
    · simp (disch := first | omega | decide | assumption | exact Nat.le_of_ble_eq_true rfl) only [s285_18, s285_21, s285_23, ow_some, true_and, and_true, and_self, if_true, if_false, not_true, not_false_eq_true, Bool.false_eq_true, eq_self, Option.toList, List.cons_append, List.nil_append, ix_in, ix_cl, lt_in, lt_cl, lt_add, ix_one, vu_eq, vu_ne, arI_mk, arL_mk, arY_mZ, arY_mB, alen_mI, fld_sfl_ne, fld_sfl_same, Option.isSome_some, pok_i, b1z, b01, z10, b1o, Int32.zero_add, vu_vu, upd_eq, upd_ne, true_or, or_true, V0.r1, V0.r2, V0.r3, V0.r4, V0.r16, V0.r17, V0.r18, V0.r19, V0.r20, V0.r23, V0.r24, V0.r25, V0.r26, V0.r27, V0.r28, V0.r29, V0.r30, V0.c172, V0.c173, V0.c174, V0.c186, V0.c187, V0.c188, V0.n5, V0.n13, V0.n14, V0.i0, V0.i5, V0.i6, V0.i7, V0.i8, V0.i9, V0.i10, V0.i11, V0.i12, V0.i13, V0.i14, V0.i15, V0.i21, V0.i22, h2, and_false]
      exact ⟨rfl, rfl, sm0.w, V0, rfl⟩
  · simp (disch := first | omega | decide | assumption | exact Nat.le_of_ble_eq_true rfl) only [s285_11, s285_21, s285_23, ow_some, true_and, and_true, and_self, if_true, if_false, not_true, not_false_eq_true, Bool.false_eq_true, eq_self, Option.toList, List.cons_append, List.nil_append, ix_in, ix_cl, lt_in, lt_cl, lt_add, ix_one, vu_eq, vu_ne, arI_mk, arL_mk, arY_mZ, arY_mB, alen_mI, fld_sfl_ne, fld_sfl_same, Option.isSome_some, pok_i, b1z, b01, z10, b1o, Int32.zero_add, vu_vu, upd_eq, upd_ne, true_or, or_true, V0.r1, V0.r2, V0.r3, V0.r4, V0.r16, V0.r17, V0.r18, V0.r19, V0.r20, V0.r23, V0.r24, V0.r25, V0.r26, V0.r27, V0.r28, V0.r29, V0.r30, V0.c172, V0.c173, V0.c174, V0.c186, V0.c187, V0.c188, V0.n5, V0.n13, V0.n14, V0.i0, V0.i5, V0.i6, V0.i7, V0.i8, V0.i9, V0.i10, V0.i11, V0.i12, V0.i13, V0.i14, V0.i15, V0.i21, V0.i22, h1, false_and]
    exact ⟨rfl, rfl, sm0.w, V0, rfl⟩
