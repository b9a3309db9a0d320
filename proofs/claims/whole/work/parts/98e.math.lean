/-! the class: the greatest common part -/
theorem lg_lt {x y : Int64} : (lg_cmp x y < 0) = (x.toInt < y.toInt) := by
  unfold lg_cmp
  apply propext
  by_cases h1 : x = y
  · subst h1; simp
  · have h2 : x.toInt ≠ y.toInt := fun z => h1 (Int64.toInt_inj.mp z)
    by_cases h3 : y < x
    · have h4 := Int64.lt_iff_toInt_lt.mp h3
      simp [h1, h3]; omega
    · have h4 : ¬ y.toInt < x.toInt := fun z => h3 (Int64.lt_iff_toInt_lt.mpr z)
      simp [h1, h3]; omega
theorem sp_maxL {X : Nat × (Nat → Int32)} {d N K : Nat} {f : Nat → e_C} {g : Nat} {u v : UInt64} (hg : g < 4611686018427387904) (h : 0 < g) : PU X d 306 [.long (lI g), .double u, .long 1, .double v] f N K (some (.long (lI g))) := by
  unfold PU
  have z1 : (1 : Int64).toInt = 1 := by decide
  have h0 : (lg_cmp (lI g) 1 < 0) = False := by rw [lg_lt, lI_toInt (by omega), z1]; exact eq_false (by omega)
  simp (disch := first | omega | decide | assumption | exact Nat.le_of_ble_eq_true rfl) only [s306_0, s306_1, s306_2, s306_3, s306_6, s306_7, s306_10, s306_11, ow_some, true_and, and_true, and_self, if_true, if_false, not_true, not_false_eq_true, Bool.false_eq_true, eq_self, Option.toList, List.cons_append, List.nil_append, ix_in, ix_cl, lt_in, lt_cl, lt_add, ix_one, vu_eq, vu_ne, arI_mk, arL_mk, arY_mZ, arY_mB, alen_mI, fld_sfl_ne, fld_sfl_same, Option.isSome_some, pok_i, b1z, b01, z10, b1o, Int32.zero_add, vu_vu, upd_eq, upd_ne, true_or, or_true, h0]
theorem sp_commonPart {X : Nat × (Nat → Int32)} {d N K a b : Nat} {f : Nat → e_C} {u v : UInt64} {u4 u5 u6 : Value} (ha : a < 4611686018427387904) (hb : b < 4611686018427387904) (h0 : 0 < Nat.gcd a b) : PU X (d + 1) 158 [.long (lI a), .double u, .long (lI b), .double v, u4, u5, u6] f N K (some (.long (lI (Nat.gcd a b)))) := by
  unfold PU
  have z0 : (0 : Int64).toInt = 0 := by decide
  have main : ∀ (n j a b : Nat) (u v : UInt64) (u5 u6 : Value), b < 2 ^ n → j + 2 * n ≤ 200 → a < 4611686018427387904 → b < 4611686018427387904 → 0 < Nat.gcd a b → TH X (d + 1) 158 3 [.long (lI a), .double u, .long (lI b), .double v, .int (nI j), u5, u6] [] f N K (fun f' n' k' z => f' = f ∧ n' = N ∧ k' = K ∧ z = some (.long (lI (Nat.gcd a b)))) := by
    have base : ∀ (j a : Nat) (u v : UInt64) (u5 u6 : Value), j ≤ 200 → a < 4611686018427387904 → 0 < a → TH X (d + 1) 158 3 [.long (lI a), .double u, .long (lI 0), .double v, .int (nI j), u5, u6] [] f N K (fun f' n' k' z => f' = f ∧ n' = N ∧ k' = K ∧ z = some (.long (lI (Nat.gcd a 0)))) := by
      intro j a u v u5 u6 hj ha h0
      unfold TH
      rw [Nat.gcd_zero_right]
      have e0 : (lg_cmp (lI 0) 0 = 0) = True := eq_true (by decide)
      by_cases hc : j < 200
      · have hc' : (200 ≤ j) = False := eq_false (by omega)
        simp (disch := first | omega | decide | assumption | exact Nat.le_of_ble_eq_true rfl) only [s158_3, s158_5, s158_8, s158_11, s158_12, s158_13, s158_14, s158_33, s158_34, ow_some, true_and, and_true, and_self, if_true, if_false, not_true, not_false_eq_true, Bool.false_eq_true, eq_self, Option.toList, List.cons_append, List.nil_append, ix_in, ix_cl, lt_in, lt_cl, lt_add, ix_one, vu_eq, vu_ne, arI_mk, arL_mk, arY_mZ, arY_mB, alen_mI, fld_sfl_ne, fld_sfl_same, Option.isSome_some, pok_i, b1z, b01, z10, b1o, Int32.zero_add, vu_vu, upd_eq, upd_ne, true_or, or_true, lt_le, hc', e0]
        rw [p158_35 (Nat.le_of_ble_eq_true rfl) (sp_maxL ha h0)]
        simp (disch := first | omega | decide | assumption | exact Nat.le_of_ble_eq_true rfl) only [s158_38, ow_some, true_and, and_true, and_self, if_true, if_false, not_true, not_false_eq_true, Bool.false_eq_true, eq_self, Option.toList, List.cons_append, List.nil_append, ix_in, ix_cl, lt_in, lt_cl, lt_add, ix_one, vu_eq, vu_ne, arI_mk, arL_mk, arY_mZ, arY_mB, alen_mI, fld_sfl_ne, fld_sfl_same, Option.isSome_some, pok_i, b1z, b01, z10, b1o, Int32.zero_add, vu_vu, upd_eq, upd_ne, true_or, or_true]
      · have hc' : (200 ≤ j) = True := eq_true (by omega)
        simp (disch := first | omega | decide | assumption | exact Nat.le_of_ble_eq_true rfl) only [s158_3, s158_5, s158_8, s158_33, s158_34, ow_some, true_and, and_true, and_self, if_true, if_false, not_true, not_false_eq_true, Bool.false_eq_true, eq_self, Option.toList, List.cons_append, List.nil_append, ix_in, ix_cl, lt_in, lt_cl, lt_add, ix_one, vu_eq, vu_ne, arI_mk, arL_mk, arY_mZ, arY_mB, alen_mI, fld_sfl_ne, fld_sfl_same, Option.isSome_some, pok_i, b1z, b01, z10, b1o, Int32.zero_add, vu_vu, upd_eq, upd_ne, true_or, or_true, lt_le, hc']
        rw [p158_35 (Nat.le_of_ble_eq_true rfl) (sp_maxL ha h0)]
        simp (disch := first | omega | decide | assumption | exact Nat.le_of_ble_eq_true rfl) only [s158_38, ow_some, true_and, and_true, and_self, if_true, if_false, not_true, not_false_eq_true, Bool.false_eq_true, eq_self, Option.toList, List.cons_append, List.nil_append, ix_in, ix_cl, lt_in, lt_cl, lt_add, ix_one, vu_eq, vu_ne, arI_mk, arL_mk, arY_mZ, arY_mB, alen_mI, fld_sfl_ne, fld_sfl_same, Option.isSome_some, pok_i, b1z, b01, z10, b1o, Int32.zero_add, vu_vu, upd_eq, upd_ne, true_or, or_true]
    have one : ∀ (j a b : Nat) (u v : UInt64) (u5 u6 : Value), 0 < b → j < 200 → a < 4611686018427387904 → b < 4611686018427387904 → (∀ (u v : UInt64) (u5 u6 : Value), TH X (d + 1) 158 3 [.long (lI b), .double u, .long (lI (a % b)), .double v, .int (nI (j + 1)), u5, u6] [] f N K (fun f' n' k' z => f' = f ∧ n' = N ∧ k' = K ∧ z = some (.long (lI (Nat.gcd b (a % b)))))) → TH X (d + 1) 158 3 [.long (lI a), .double u, .long (lI b), .double v, .int (nI j), u5, u6] [] f N K (fun f' n' k' z => f' = f ∧ n' = N ∧ k' = K ∧ z = some (.long (lI (Nat.gcd a b)))) := by
      intro j a b u v u5 u6 hb hj ha hb2 h
      unfold TH
      have h0 : (lg_cmp (lI b) 0 = 0) = False := by rw [lg_eq, lI_toInt (by omega), z0]; exact eq_false (by omega)
      have hne := lI_ne (b := b) (by omega) hb
      have hr := lI_rem (a := a) (b := b) (by omega) (by omega)
      have hc' : (200 ≤ j) = False := eq_false (by omega)
      rw [show Nat.gcd a b = Nat.gcd b (a % b) by rw [Nat.gcd_comm a b, Nat.gcd_rec b a, Nat.gcd_comm]]
      simp (disch := first | omega | decide | assumption | exact Nat.le_of_ble_eq_true rfl) only [s158_3, s158_5, s158_8, s158_11, s158_12, s158_13, s158_14, s158_17, s158_18, s158_19, s158_20, s158_22, s158_23, s158_24, s158_26, s158_27, h158_30, ow_some, true_and, and_true, and_self, if_true, if_false, not_true, not_false_eq_true, Bool.false_eq_true, eq_self, Option.toList, List.cons_append, List.nil_append, ix_in, ix_cl, lt_in, lt_cl, lt_add, ix_one, vu_eq, vu_ne, arI_mk, arL_mk, arY_mZ, arY_mB, alen_mI, fld_sfl_ne, fld_sfl_same, Option.isSome_some, pok_i, b1z, b01, z10, b1o, Int32.zero_add, vu_vu, upd_eq, upd_ne, true_or, or_true, lt_le, hc', h0, hne, hr]
      exact h _ _ _ _
    intro n
    induction n with
    | zero =>
      intro j a b u v u5 u6 hn hj ha hb h0
      have : b = 0 := by simpa using hn
      subst this
      rw [Nat.gcd_zero_right] at h0
      exact base j a u v u5 u6 (by omega) ha h0
    | succ n ih =>
      intro j a b u v u5 u6 hn hj ha hb h0
      by_cases hz : b = 0
      · subst hz; rw [Nat.gcd_zero_right] at h0; exact base j a u v u5 u6 (by omega) ha h0
      · have hr := Nat.mod_lt a (show 0 < b by omega)
        have e1 : Nat.gcd a b = Nat.gcd b (a % b) := by rw [Nat.gcd_comm a b, Nat.gcd_rec b a, Nat.gcd_comm]
        rw [e1] at h0
        refine one j a b u v u5 u6 (by omega) (by omega) ha hb (fun u v u5 u6 => ?_)
        by_cases h1 : a % b < 2 ^ n
        · exact ih (j + 1) b (a % b) u v u5 u6 h1 (by omega) hb (by omega) h0
        · have h2 : 0 < a % b := by
            have := Nat.two_pow_pos n
            omega
          have e2 : Nat.gcd b (a % b) = Nat.gcd (a % b) (b % (a % b)) := by rw [Nat.gcd_comm b (a % b), Nat.gcd_rec (a % b) b, Nat.gcd_comm]
          rw [e2] at h0
          refine one (j + 1) b (a % b) u v u5 u6 h2 (by omega) hb (by omega) (fun u v u5 u6 => ?_)
          have h3 : b % (a % b) < 2 ^ n := by
            rw [Nat.pow_succ] at hn
            rw [Nat.mod_eq_sub_mod (by omega), Nat.mod_eq_of_lt (by omega)]
            omega
          exact ih (j + 1 + 1) (a % b) (b % (a % b)) u v u5 u6 h3 (by omega) (by omega) (by omega) h0
  simp (disch := first | omega | decide | assumption | exact Nat.le_of_ble_eq_true rfl) only [s158_0, h158_1, ow_some, true_and, and_true, and_self, if_true, if_false, not_true, not_false_eq_true, Bool.false_eq_true, eq_self, Option.toList, List.cons_append, List.nil_append, ix_in, ix_cl, lt_in, lt_cl, lt_add, ix_one, vu_eq, vu_ne, arI_mk, arL_mk, arY_mZ, arY_mB, alen_mI, fld_sfl_ne, fld_sfl_same, Option.isSome_some, pok_i, b1z, b01, z10, b1o, Int32.zero_add, vu_vu, upd_eq, upd_ne, true_or, or_true]
  exact main 62 0 a b u v u5 u6 hb (by omega) ha hb h0
