/-! the class: a day passes for those who wait -/
theorem pok_a {p : Nat} : (e_pok (.array .int) (.ref p) = true) = True := eq_true rfl
section EVT
variable {f : Nat → e_C} {mm kk : Int32} {A O z : Nat} {sb cb ra oa : Nat → Int32}
/-- the fields alone -/
def EF (f : Nat → e_C) (mm kk : Int32) (A O : Nat) : Prop := fld (f 136) 7 0 = some (.ref 137) ∧ fld (f 136) 7 1 = some (.ref 144) ∧ fld (f 136) 7 2 = some (.int mm) ∧ fld (f 136) 7 3 = some (.ref 145) ∧ fld (f 136) 7 4 = some (.int kk) ∧ fld (f 136) 7 5 = some (.ref A) ∧ fld (f 136) 7 6 = some (.ref O)
theorem EF.s5 (h : EF f mm kk A O) : EF (va_up f 136 (sfl (f 136) 5 (.ref z))) mm kk z O := by
  obtain ⟨e0, e1, e2, e3, e4, e5, e6⟩ := h
  refine ⟨?_, ?_, ?_, ?_, ?_, ?_, ?_⟩
  · rw [vu_eq, fld_sfl_ne (by decide)]; exact e0
  · rw [vu_eq, fld_sfl_ne (by decide)]; exact e1
  · rw [vu_eq, fld_sfl_ne (by decide)]; exact e2
  · rw [vu_eq, fld_sfl_ne (by decide)]; exact e3
  · rw [vu_eq, fld_sfl_ne (by decide)]; exact e4
  · rw [vu_eq]; exact fld_sfl_same (by rw [e5]; rfl)
  · rw [vu_eq, fld_sfl_ne (by decide)]; exact e6
theorem EF.s6 (h : EF f mm kk A O) : EF (va_up f 136 (sfl (f 136) 6 (.ref z))) mm kk A z := by
  obtain ⟨e0, e1, e2, e3, e4, e5, e6⟩ := h
  refine ⟨?_, ?_, ?_, ?_, ?_, ?_, ?_⟩
  · rw [vu_eq, fld_sfl_ne (by decide)]; exact e0
  · rw [vu_eq, fld_sfl_ne (by decide)]; exact e1
  · rw [vu_eq, fld_sfl_ne (by decide)]; exact e2
  · rw [vu_eq, fld_sfl_ne (by decide)]; exact e3
  · rw [vu_eq, fld_sfl_ne (by decide)]; exact e4
  · rw [vu_eq, fld_sfl_ne (by decide)]; exact e5
  · rw [vu_eq]; exact fld_sfl_same (by rw [e6]; rfl)
end EVT
theorem mx_m {n : Nat} (h : n < 100) : mxI (-1) (nI n) = nI n := by
  unfold mxI
  rw [if_pos (by rw [Int32.lt_iff_toInt_lt, nI_toInt (by omega)]; show (-1 : Int) < n; omega)]
theorem mx_n {a b : Nat} (ha : a < 100) (hb : b < 100) : mxI (nI a) (nI b) = nI (max a b) := by
  unfold mxI
  by_cases h : a < b
  · rw [if_pos (by rw [Int32.lt_iff_toInt_lt, nI_toInt (by omega), nI_toInt (by omega)]; omega), Nat.max_eq_right (by omega)]
  · rw [if_neg (by rw [Int32.lt_iff_toInt_lt, nI_toInt (by omega), nI_toInt (by omega)]; omega), Nat.max_eq_left (by omega)]
/-- what a day makes of the numbers reached, from the first q0 of them -/
def DR (m k q : Nat) (dy : Int32) (sb cb ra : Nat → Int32) (q0 : Nat) (ra' : Nat → Int32) : Prop := (∀ c, c < 5 → ra' c = -1 ∨ ∃ r b r0, r ≤ m ∧ ra' c = nI r ∧ b < q0 ∧ ra b = nI r0 ∧ r0 ≤ m ∧ sdd m k b r0 q dy sb cb c ∧ r = min m (r0 + q - 2 * (c - b))) ∧ ∀ b r0 c, b < q0 → r0 ≤ m → ra b = nI r0 → c < 5 → sdd m k b r0 q dy sb cb c → ∃ r, ra' c = nI r ∧ min m (r0 + q - 2 * (c - b)) ≤ r ∧ r ≤ m
theorem sp_passDay {X : Nat × (Nat → Int32)} {d N K m k q A O : Nat} {f : Nat → e_C} {dy : Int32} {sb cb ra oa : Nat → Int32} (E : EV f (nI m) (nI k) A O sb cb ra oa) (hm : m ≤ 9) (hk : k ≤ 4) (hra : ∀ c, c ≤ k → ra c = -1 ∨ ∃ r, r ≤ m ∧ ra c = nI r) (hq : q ≤ 9) {u3 : Value} : TT X (d + 2) 82 0 [.ref 136, .int dy, .int (nI q), u3] [] f N K (fun f' n' k' z => n' = N ∧ k' = K ∧ z = none ∧ SE f f' ∧ ∃ ra', EV f' (nI m) (nI k) O A sb cb ra' ra ∧ DR m k q dy sb cb ra (k + 1) ra') := by
  simp (disch := first | omega | decide | assumption | exact Nat.le_of_ble_eq_true rfl) only [s82_0, h82_1, ow_some, true_and, and_true, and_self, if_true, if_false, not_true, not_false_eq_true, Bool.false_eq_true, eq_self, Option.toList, List.cons_append, List.nil_append, ix_in, ix_cl, lt_in, lt_cl, lt_add, ix_one, vu_eq, vu_ne, arI_mk, arL_mk, arY_mZ, arY_mB, alen_mI, fld_sfl_ne, fld_sfl_same, Option.isSome_some, pok_i, b1z, b01, z10, b1o, Int32.zero_add, vu_vu, upd_eq, upd_ne, true_or, or_true]
  refine lp (fun j e (o : Nat → Int32) => SI O (O + 1) f e ∧ EV e (nI m) (nI k) A O sb cb ra o ∧ ∀ i, i < j → o i = -1) (fun j _ => [.ref 136, .int dy, .int (nI q), .int (nI j)]) 5 ?_ ?_ 0 f oa (by omega) ⟨SI.rf, E, fun i hi => by omega⟩
  · rintro j e o hj ⟨s1, F1, h1⟩ hI
    obtain ⟨⟨f0, f1, f2, f3, f4, f5, f6⟩, b1, b2, b3, b4, -⟩ := id F1
    have c1 : ((4 : Int32) < nI j) = False := eq_false (by rw [Int32.lt_iff_toInt_lt, nI_toInt (by omega)]; show ¬ (4 : Int) < j; omega)
    simp (disch := first | omega | decide | assumption | exact Nat.le_of_ble_eq_true rfl) only [s82_2, s82_3, s82_4, s82_7, s82_8, s82_11, s82_12, s82_13, s82_14, h82_17, ow_some, true_and, and_true, and_self, if_true, if_false, not_true, not_false_eq_true, Bool.false_eq_true, eq_self, Option.toList, List.cons_append, List.nil_append, ix_in, ix_cl, lt_in, lt_cl, lt_add, ix_one, vu_eq, vu_ne, arI_mk, arL_mk, arY_mZ, arY_mB, alen_mI, fld_sfl_ne, fld_sfl_same, Option.isSome_some, pok_i, b1z, b01, z10, b1o, Int32.zero_add, vu_vu, upd_eq, upd_ne, true_or, or_true, c1, f6, b4]
    refine hI _ (upd o j (-1)) ⟨s1.tr (SI.up (by omega) (by omega)), F1.on (SI.up (by omega) (by omega)) (by rw [vu_eq]; rfl), fun i hi => ?_⟩
    by_cases h : i = j
    · subst h; rw [upd_eq]
    · rw [upd_ne h]; exact h1 i (by omega)
  · rintro e o ⟨s1, F1, h1⟩
    have c1 : ((4 : Int32) < nI 5) = True := by decide
    simp (disch := first | omega | decide | assumption | exact Nat.le_of_ble_eq_true rfl) only [s82_2, s82_3, s82_4, s82_20, h82_21, ow_some, true_and, and_true, and_self, if_true, if_false, not_true, not_false_eq_true, Bool.false_eq_true, eq_self, Option.toList, List.cons_append, List.nil_append, ix_in, ix_cl, lt_in, lt_cl, lt_add, ix_one, vu_eq, vu_ne, arI_mk, arL_mk, arY_mZ, arY_mB, alen_mI, fld_sfl_ne, fld_sfl_same, Option.isSome_some, pok_i, b1z, b01, z10, b1o, Int32.zero_add, vu_vu, upd_eq, upd_ne, true_or, or_true, c1]
    refine lp (fun b e (o : Nat → Int32) => SI O (O + 1) f e ∧ EV e (nI m) (nI k) A O sb cb ra o ∧ DR m k q dy sb cb ra b o) (fun b _ => [.ref 136, .int dy, .int (nI q), .int (nI b)]) (k + 1) ?_ ?_ 0 e o (by omega) ⟨s1, F1, fun c hc => Or.inl (h1 c hc), fun b r0 c hb => by omega⟩
    · rintro b e o hb ⟨s2, F2, D1, D2⟩ hI
      obtain ⟨⟨f0, f1, f2, f3, f4, f5, f6⟩, b1, b2, b3, b4, -⟩ := id F2
      have c2 : (nI k < nI b) = False := by rw [ix_lt (by omega) (by omega)]; exact eq_false (by omega)
      have i5 : b < 5 := by omega
      rcases hra b (by omega) with hr | ⟨r0, hr0, hr⟩
      · simp (disch := first | omega | decide | assumption | exact Nat.le_of_ble_eq_true rfl) only [s82_22, s82_23, s82_24, s82_27, s82_30, s82_31, s82_34, s82_35, s82_36, s82_37, s82_47, h82_50, ow_some, true_and, and_true, and_self, if_true, if_false, not_true, not_false_eq_true, Bool.false_eq_true, eq_self, Option.toList, List.cons_append, List.nil_append, ix_in, ix_cl, lt_in, lt_cl, lt_add, ix_one, vu_eq, vu_ne, arI_mk, arL_mk, arY_mZ, arY_mB, alen_mI, fld_sfl_ne, fld_sfl_same, Option.isSome_some, pok_i, b1z, b01, z10, b1o, Int32.zero_add, vu_vu, upd_eq, upd_ne, true_or, or_true, c2, f4, f5, b3, hr]
        refine hI _ o ⟨s2, F2, fun c hc => ?_, fun b' r0 c hb' h0 he => ?_⟩
        · rcases D1 c hc with h | ⟨r, b', r0, x1, x2, x3, x4⟩
          · exact Or.inl h
          · exact Or.inr ⟨r, b', r0, x1, x2, by omega, x4⟩
        · by_cases hbb : b' = b
          · subst hbb
            rw [hr] at he
            have := ne_m1 (m := r0) (by omega)
            exact absurd he.symm (by rw [this]; exact id)
          · exact D2 b' r0 c (by omega) h0 he
      · have hne := ne_m1 (m := r0) (by omega)
        simp (disch := first | omega | decide | assumption | exact Nat.le_of_ble_eq_true rfl) only [s82_22, s82_23, s82_24, s82_27, s82_30, s82_31, s82_34, s82_35, s82_36, s82_37, s82_40, s82_41, s82_42, s82_43, ow_some, true_and, and_true, and_self, if_true, if_false, not_true, not_false_eq_true, Bool.false_eq_true, eq_self, Option.toList, List.cons_append, List.nil_append, ix_in, ix_cl, lt_in, lt_cl, lt_add, ix_one, vu_eq, vu_ne, arI_mk, arL_mk, arY_mZ, arY_mB, alen_mI, fld_sfl_ne, fld_sfl_same, Option.isSome_some, pok_i, b1z, b01, z10, b1o, Int32.zero_add, vu_vu, upd_eq, upd_ne, true_or, or_true, c2, f4, f5, b3, hr, hne]
        refine k82_44 F2.cn (Nat.le_of_ble_eq_true rfl) (sp_seeDay F2 hm hk (by omega) hr hr0 hq) ?_
        rintro g n1 k1 v1 ⟨rfl, rfl, rfl, s3, o', F3, ho⟩
        simp (disch := first | omega | decide | assumption | exact Nat.le_of_ble_eq_true rfl) only [s82_47, h82_50, ow_some, true_and, and_true, and_self, if_true, if_false, not_true, not_false_eq_true, Bool.false_eq_true, eq_self, Option.toList, List.cons_append, List.nil_append, ix_in, ix_cl, lt_in, lt_cl, lt_add, ix_one, vu_eq, vu_ne, arI_mk, arL_mk, arY_mZ, arY_mB, alen_mI, fld_sfl_ne, fld_sfl_same, Option.isSome_some, pok_i, b1z, b01, z10, b1o, Int32.zero_add, vu_vu, upd_eq, upd_ne, true_or, or_true]
        have mono : ∀ c r, c < 5 → r ≤ m → o c = nI r → ∃ r', o' c = nI r' ∧ r ≤ r' ∧ r' ≤ m := by
          intro c r hc hrm he
          by_cases hs : sdd m k b r0 q dy sb cb c
          · refine ⟨max r (min m (r0 + q - 2 * (c - b))), ?_, by omega, by omega⟩
            rw [(ho c hc).1 hs, he, mx_n (by omega) (by omega)]
          · exact ⟨r, by rw [(ho c hc).2 hs, he], Nat.le_refl _, hrm⟩
        refine hI _ o' ⟨s2.tr s3, F3, fun c hc => ?_, fun b' r1 c hb' h0 he hc hs => ?_⟩
        · by_cases hs : sdd m k b r0 q dy sb cb c
          · right
            have e1 := (ho c hc).1 hs
            rcases D1 c hc with h | ⟨r, b', r1, x1, x2, x3, x4⟩
            · rw [h, mx_m (by omega)] at e1
              exact ⟨_, b, r0, by omega, e1, by omega, hr, hr0, hs, rfl⟩
            · rw [x2, mx_n (by omega) (by omega)] at e1
              by_cases hx : r ≤ min m (r0 + q - 2 * (c - b))
              · rw [Nat.max_eq_right hx] at e1
                exact ⟨_, b, r0, by omega, e1, by omega, hr, hr0, hs, rfl⟩
              · rw [Nat.max_eq_left (by omega)] at e1
                exact ⟨r, b', r1, x1, e1, by omega, x4⟩
          · have e1 := (ho c hc).2 hs
            rcases D1 c hc with h | ⟨r, b', r1, x1, x2, x3, x4⟩
            · left; rw [e1]; exact h
            · right; exact ⟨r, b', r1, x1, by rw [e1]; exact x2, by omega, x4⟩
        · by_cases hbb : b' = b
          · subst hbb
            have er : r1 = r0 := by
              have := he.symm.trans hr
              have := congrArg Int32.toInt this
              rw [nI_toInt (by omega), nI_toInt (by omega)] at this
              omega
            subst er
            have e1 := (ho c hc).1 hs
            rcases D1 c hc with h | ⟨r, b2', r2, x1, x2, x3, x4⟩
            · rw [h, mx_m (by omega)] at e1
              exact ⟨_, e1, Nat.le_refl _, by omega⟩
            · rw [x2, mx_n (by omega) (by omega)] at e1
              exact ⟨_, e1, by omega, by omega⟩
          · obtain ⟨r, y1, y2, y3⟩ := D2 b' r1 c (by omega) h0 he hc hs
            obtain ⟨r', z1, z2, z3⟩ := mono c r hc y3 y1
            exact ⟨r', z1, by omega, z3⟩
    · rintro e o ⟨s2, F2, D⟩
      have c2 : (nI k < nI (k + 1)) = True := by rw [ix_lt (by omega) (by omega)]; exact eq_true (by omega)
      obtain ⟨⟨f0, f1, f2, f3, f4, f5, f6⟩, b1, b2, b3, b4, hAO⟩ := id F2
      have i5 : (fld (e 136) 7 5).isSome = true := by rw [f5]; rfl
      simp (disch := first | omega | decide | assumption | exact Nat.le_of_ble_eq_true rfl) only [s82_22, s82_23, s82_24, s82_27, s82_53, s82_54, s82_57, s82_58, s82_59, s82_60, s82_63, ow_some, true_and, and_true, and_self, if_true, if_false, not_true, not_false_eq_true, Bool.false_eq_true, eq_self, Option.toList, List.cons_append, List.nil_append, ix_in, ix_cl, lt_in, lt_cl, lt_add, ix_one, vu_eq, vu_ne, arI_mk, arL_mk, arY_mZ, arY_mB, alen_mI, fld_sfl_ne, fld_sfl_same, Option.isSome_some, pok_i, b1z, b01, z10, b1o, Int32.zero_add, vu_vu, upd_eq, upd_ne, true_or, or_true, c2, f4, f5, f6, i5, pok_a]
      have E1 : EF e (nI m) (nI k) A O := F2.1
      have E2 := E1.s5 (z := O)
      have sx : SE e (va_up e 136 (sfl (e 136) 5 (.ref O))) := SE.up (Or.inl rfl)
      have y1 : ∀ b, b ≠ 136 → va_up e 136 (sfl (e 136) 5 (.ref O)) b = e b := fun b hb => vu_ne hb
      generalize va_up e 136 (sfl (e 136) 5 (.ref O)) = e2 at E2 sx y1 ⊢
      have i6 : (fld (e2 136) 7 6).isSome = true := by rw [E2.2.2.2.2.2.2]; rfl
      simp (disch := first | omega | decide | assumption | exact Nat.le_of_ble_eq_true rfl) only [s82_66, s82_67, s82_68, s82_71, ow_some, true_and, and_true, and_self, if_true, if_false, not_true, not_false_eq_true, Bool.false_eq_true, eq_self, Option.toList, List.cons_append, List.nil_append, ix_in, ix_cl, lt_in, lt_cl, lt_add, ix_one, vu_eq, vu_ne, arI_mk, arL_mk, arY_mZ, arY_mB, alen_mI, fld_sfl_ne, fld_sfl_same, Option.isSome_some, pok_i, b1z, b01, z10, b1o, Int32.zero_add, vu_vu, upd_eq, upd_ne, true_or, or_true, i6, pok_a]
      refine ⟨((SE.si s2 (by omega) (by omega)).tr sx).tr (SE.up (Or.inl rfl)), o, ⟨E2.s6, ?_, ?_, ?_, ?_, by omega⟩, D⟩
      · rw [vu_ne (by decide), y1 _ (by decide)]; exact b1
      · rw [vu_ne (by decide), y1 _ (by decide)]; exact b2
      · rw [vu_ne (by omega), y1 _ (by omega)]; exact b4
      · rw [vu_ne (by omega), y1 _ (by omega)]; exact b3
