/-! the class: who is served on a day -/
/-- so many couples may have been seen behind a day -/
def sdd (m k b r0 q : Nat) (dy : Int32) (sb cb : Nat → Int32) (c : Nat) : Prop := (r0 < m → dy ≤ sb r0) ∧ b ≤ c ∧ c ≤ k ∧ 2 * (c - b) ≤ q ∧ ∀ j, b ≤ j → j < c → dy ≤ cb j
theorem EV.on {f f' : Nat → e_C} {mm kk : Int32} {A O : Nat} {sb cb ra oa g : Nat → Int32} (E : EV f mm kk A O sb cb ra oa) (s : SI O (O + 1) f f') (ha : arI (f' O) = some (5, g)) : EV f' mm kk A O sb cb ra g := by
  obtain ⟨e, a1, a2, a3, a4, h⟩ := E
  refine ⟨by rw [s 136 (by omega)]; exact e, by rw [s 144 (by omega)]; exact a1, by rw [s 145 (by omega)]; exact a2, by rw [s A (by omega)]; exact a3, ha, h⟩
theorem sx_1 : ∀ b, b < 5 → ∀ t, t < 6 → (2 : Int32) * (nI (b + t) - nI b) = nI (2 * t) := by decide
theorem sx_2 : ∀ r, r < 10 → ∀ q, q < 10 → ∀ t, t < 5 → 2 * t ≤ q → nI r + nI q - nI (2 * t) = nI (r + q - 2 * t) := by decide +kernel
theorem mn_n {a b : Nat} (ha : a < 100) (hb : b < 100) : mnI (nI a) (nI b) = nI (min a b) := by
  unfold mnI
  by_cases h : b < a
  · rw [if_pos (by rw [Int32.lt_iff_toInt_lt, nI_toInt (by omega), nI_toInt (by omega)]; omega), Nat.min_eq_right (by omega)]
  · rw [if_neg (by rw [Int32.lt_iff_toInt_lt, nI_toInt (by omega), nI_toInt (by omega)]; omega), Nat.min_eq_left (by omega)]
theorem sp_seeDay {X : Nat × (Nat → Int32)} {d N K m k b r0 q A O : Nat} {f : Nat → e_C} {dy : Int32} {sb cb ra oa : Nat → Int32} (E : EV f (nI m) (nI k) A O sb cb ra oa) (hm : m ≤ 9) (hk : k ≤ 4) (hb : b ≤ k) (hr : ra b = nI r0) (hr0 : r0 ≤ m) (hq : q ≤ 9) {u4 u5 u6 : Value} : TT X (d + 1) 83 0 [.ref 136, .int (nI b), .int dy, .int (nI q), u4, u5, u6] [] f N K (fun f' n' k' z => n' = N ∧ k' = K ∧ z = none ∧ SI O (O + 1) f f' ∧ ∃ oa', EV f' (nI m) (nI k) A O sb cb ra oa' ∧ ∀ c, c < 5 → (sdd m k b r0 q dy sb cb c → oa' c = mxI (oa c) (nI (min m (r0 + q - 2 * (c - b))))) ∧ (¬ sdd m k b r0 q dy sb cb c → oa' c = oa c)) := by
  obtain ⟨⟨e0, e1, e2, e3, e4, e5, e6⟩, a1, a2, a3, a4, hAO⟩ := id E
  have main : (r0 < m → dy ≤ sb r0) → ∀ u5 u6 : Value, TH X (d + 1) 83 32 [.ref 136, .int (nI b), .int dy, .int (nI q), .int (nI r0), .int (nI b), u6] [] f N K (fun f' n' k' z => n' = N ∧ k' = K ∧ z = none ∧ SI O (O + 1) f f' ∧ ∃ oa', EV f' (nI m) (nI k) A O sb cb ra oa' ∧ ∀ c, c < 5 → (sdd m k b r0 q dy sb cb c → oa' c = mxI (oa c) (nI (min m (r0 + q - 2 * (c - b))))) ∧ (¬ sdd m k b r0 q dy sb cb c → oa' c = oa c)) := by
    intro hok u5 u6
    refine lp (fun t e (z : (Nat → Int32) × Value) => SI O (O + 1) f e ∧ EV e (nI m) (nI k) A O sb cb ra z.1 ∧ (∀ t', t' < t → sdd m k b r0 q dy sb cb (b + t')) ∧ (∀ t', t' < t → z.1 (b + t') = mxI (oa (b + t')) (nI (min m (r0 + q - 2 * t')))) ∧ ∀ c, (c < b ∨ b + t ≤ c) → z.1 c = oa c) (fun t z => [.ref 136, .int (nI b), .int dy, .int (nI q), .int (nI r0), .int (nI (b + t)), z.2]) (k + 1 - b) ?_ ?_ 0 f (oa, u6) (by omega) ⟨SI.rf, E, fun t ht => by omega, fun t ht => by omega, fun c _ => rfl⟩
    · rintro t e ⟨ob, u⟩ ht ⟨s1, F1, h1, h2, h3⟩ hI
      dsimp only at F1 h2 h3 hI ⊢
      obtain ⟨⟨f0, f1, f2, f3, f4, f5, f6⟩, b1, b2, b3, b4, -⟩ := id F1
      -- an end
      have fin : ¬ sdd m k b r0 q dy sb cb (b + t) → SI O (O + 1) f e ∧ ∃ oa', EV e (nI m) (nI k) A O sb cb ra oa' ∧ ∀ c, c < 5 → (sdd m k b r0 q dy sb cb c → oa' c = mxI (oa c) (nI (min m (r0 + q - 2 * (c - b))))) ∧ (¬ sdd m k b r0 q dy sb cb c → oa' c = oa c) := by
        intro hn
        refine ⟨s1, ob, F1, fun c hc => ⟨fun hs => ?_, fun hs => ?_⟩⟩
        · have hlt : c < b + t := by
            refine Decidable.byContradiction (fun hge => hn ?_)
            obtain ⟨x1, x2, x3, x4, x5⟩ := hs
            exact ⟨x1, by omega, by omega, by omega, fun j q1 q2 => x5 j q1 (by omega)⟩
          have hbc := hs.2.1
          have := h2 (c - b) (by omega)
          rw [show b + (c - b) = c by omega] at this
          exact this
        · by_cases hlt : b ≤ c ∧ c < b + t
          · have := h1 (c - b) (by omega)
            rw [show b + (c - b) = c by omega] at this
            exact absurd this hs
          · exact h3 c (by omega)
      have x1 := sx_1 b (by omega) t (by omega)
      have c1 : (nI k < nI (b + t)) = False := eq_false (by rw [Int32.lt_iff_toInt_lt, nI_toInt (by omega), nI_toInt (by omega)]; omega)
      have i5 : b + t < 5 := by omega
      by_cases h4 : 2 * t ≤ q
      · have c2 : (nI q < nI (2 * t)) = False := eq_false (by rw [Int32.lt_iff_toInt_lt, nI_toInt (by omega), nI_toInt (by omega)]; omega)
        have x2 := sx_2 r0 (by omega) q (by omega) t (by omega) h4
        have step : (∀ j, b ≤ j → j < b + t → dy ≤ cb j) → TT X (d + 1) 83 71 [.ref 136, .int (nI b), .int dy, .int (nI q), .int (nI r0), .int (nI (b + t)), u] [] e N K (fun f' n' k' z => n' = N ∧ k' = K ∧ z = none ∧ SI O (O + 1) f f' ∧ ∃ oa', EV f' (nI m) (nI k) A O sb cb ra oa' ∧ ∀ c, c < 5 → (sdd m k b r0 q dy sb cb c → oa' c = mxI (oa c) (nI (min m (r0 + q - 2 * (c - b))))) ∧ (¬ sdd m k b r0 q dy sb cb c → oa' c = oa c)) := by
          intro hj
          simp (disch := first | omega | decide | assumption | exact Nat.le_of_ble_eq_true rfl) only [s83_71, s83_72, s83_75, s83_77, s83_78, s83_79, s83_80, s83_82, s83_83, s83_84, s83_85, ow_some, true_and, and_true, and_self, if_true, if_false, not_true, not_false_eq_true, Bool.false_eq_true, eq_self, Option.toList, List.cons_append, List.nil_append, ix_in, ix_cl, lt_in, lt_cl, lt_add, ix_one, vu_eq, vu_ne, arI_mk, arL_mk, arY_mZ, arY_mB, alen_mI, fld_sfl_ne, fld_sfl_same, Option.isSome_some, pok_i, b1z, b01, z10, b1o, Int32.zero_add, vu_vu, upd_eq, upd_ne, true_or, or_true, f2, x1, x2]
          rw [p83_86 (Nat.le_of_ble_eq_true rfl) sp_min, mn_n (by omega) (by omega)]
          simp (disch := first | omega | decide | assumption | exact Nat.le_of_ble_eq_true rfl) only [s83_89, s83_91, s83_92, s83_95, s83_97, s83_98, s83_101, s83_103, s83_104, ow_some, true_and, and_true, and_self, if_true, if_false, not_true, not_false_eq_true, Bool.false_eq_true, eq_self, Option.toList, List.cons_append, List.nil_append, ix_in, ix_cl, lt_in, lt_cl, lt_add, ix_one, vu_eq, vu_ne, arI_mk, arL_mk, arY_mZ, arY_mB, alen_mI, fld_sfl_ne, fld_sfl_same, Option.isSome_some, pok_i, b1z, b01, z10, b1o, Int32.zero_add, vu_vu, upd_eq, upd_ne, true_or, or_true, f6, b4]
          rw [p83_106 (Nat.le_of_ble_eq_true rfl) sp_max]
          simp (disch := first | omega | decide | assumption | exact Nat.le_of_ble_eq_true rfl) only [s83_109, s83_110, h83_113, ow_some, true_and, and_true, and_self, if_true, if_false, not_true, not_false_eq_true, Bool.false_eq_true, eq_self, Option.toList, List.cons_append, List.nil_append, ix_in, ix_cl, lt_in, lt_cl, lt_add, ix_one, vu_eq, vu_ne, arI_mk, arL_mk, arY_mZ, arY_mB, alen_mI, fld_sfl_ne, fld_sfl_same, Option.isSome_some, pok_i, b1z, b01, z10, b1o, Int32.zero_add, vu_vu, upd_eq, upd_ne, true_or, or_true, b4]
          refine hI _ (upd ob (b + t) (mxI (ob (b + t)) (nI (min m (r0 + q - 2 * t)))), _) ⟨s1.tr (SI.up (by omega) (by omega)), F1.on (SI.up (by omega) (by omega)) (by rw [vu_eq]; rfl), fun t' ht' => ?_, fun t' ht' => ?_, fun c hc => ?_⟩
          · by_cases ht2 : t' = t
            · subst ht2; exact ⟨hok, by omega, by omega, by omega, hj⟩
            · exact h1 t' (by omega)
          · show upd ob (b + t) (mxI (ob (b + t)) (nI (min m (r0 + q - 2 * t)))) (b + t') = _
            by_cases ht2 : t' = t
            · subst ht2; rw [upd_eq, h3 (b + t') (by omega)]
            · rw [upd_ne (by omega)]; exact h2 t' (by omega)
          · show upd ob (b + t) (mxI (ob (b + t)) (nI (min m (r0 + q - 2 * t)))) c = _
            rw [upd_ne (by omega)]; exact h3 c (by omega)
        by_cases h0 : t = 0
        · have c3 : (nI (b + t) ≤ nI b) = True := by rw [ix_le (by omega) (by omega)]; exact eq_true (by omega)
          simp (disch := first | omega | decide | assumption | exact Nat.le_of_ble_eq_true rfl) only [s83_32, s83_34, s83_35, s83_38, s83_41, s83_42, s83_44, s83_45, s83_46, s83_47, s83_48, s83_51, s83_53, s83_54, ow_some, true_and, and_true, and_self, if_true, if_false, not_true, not_false_eq_true, Bool.false_eq_true, eq_self, Option.toList, List.cons_append, List.nil_append, ix_in, ix_cl, lt_in, lt_cl, lt_add, ix_one, vu_eq, vu_ne, arI_mk, arL_mk, arY_mZ, arY_mB, alen_mI, fld_sfl_ne, fld_sfl_same, Option.isSome_some, pok_i, b1z, b01, z10, b1o, Int32.zero_add, vu_vu, upd_eq, upd_ne, true_or, or_true, f4, c1, c2, c3, x1]
          exact step (fun j q1 q2 => by omega)
        · have c3 : (nI (b + t) ≤ nI b) = False := by rw [ix_le (by omega) (by omega)]; exact eq_false (by omega)
          obtain ⟨i, hi⟩ : ∃ i, b + t = i + 1 := ⟨b + t - 1, by omega⟩
          have x3 : nI (b + t) - 1 = nI i := by rw [hi, ← ix_one]; exact Int32.add_sub_cancel _ _
          have i4 : i < 4 := by omega
          by_cases h5 : dy ≤ cb i
          · have h5' : (dy ≤ cb i) = True := eq_true h5
            simp (disch := first | omega | decide | assumption | exact Nat.le_of_ble_eq_true rfl) only [s83_32, s83_34, s83_35, s83_38, s83_41, s83_42, s83_44, s83_45, s83_46, s83_47, s83_48, s83_51, s83_53, s83_54, s83_57, s83_58, s83_61, s83_63, s83_64, s83_65, s83_66, s83_67, ow_some, true_and, and_true, and_self, if_true, if_false, not_true, not_false_eq_true, Bool.false_eq_true, eq_self, Option.toList, List.cons_append, List.nil_append, ix_in, ix_cl, lt_in, lt_cl, lt_add, ix_one, vu_eq, vu_ne, arI_mk, arL_mk, arY_mZ, arY_mB, alen_mI, fld_sfl_ne, fld_sfl_same, Option.isSome_some, pok_i, b1z, b01, z10, b1o, Int32.zero_add, vu_vu, upd_eq, upd_ne, true_or, or_true, f3, f4, b2, c1, c2, c3, x1, x3, h5']
            refine step (fun j q1 q2 => ?_)
            by_cases hji : j = i
            · rw [hji]; exact h5
            · exact (h1 (t - 1) (by omega)).2.2.2.2 j q1 (by omega)
          · have h5' : (dy ≤ cb i) = False := eq_false h5
            simp (disch := first | omega | decide | assumption | exact Nat.le_of_ble_eq_true rfl) only [s83_32, s83_34, s83_35, s83_38, s83_41, s83_42, s83_44, s83_45, s83_46, s83_47, s83_48, s83_51, s83_53, s83_54, s83_57, s83_58, s83_61, s83_63, s83_64, s83_65, s83_66, s83_67, s83_70, ow_some, true_and, and_true, and_self, if_true, if_false, not_true, not_false_eq_true, Bool.false_eq_true, eq_self, Option.toList, List.cons_append, List.nil_append, ix_in, ix_cl, lt_in, lt_cl, lt_add, ix_one, vu_eq, vu_ne, arI_mk, arL_mk, arY_mZ, arY_mB, alen_mI, fld_sfl_ne, fld_sfl_same, Option.isSome_some, pok_i, b1z, b01, z10, b1o, Int32.zero_add, vu_vu, upd_eq, upd_ne, true_or, or_true, f3, f4, b2, c1, c2, c3, x1, x3, h5']
            exact fin (fun hs => h5 (hs.2.2.2.2 i (by omega) (by omega)))
      · have c2 : (nI q < nI (2 * t)) = True := eq_true (by rw [Int32.lt_iff_toInt_lt, nI_toInt (by omega), nI_toInt (by omega)]; omega)
        simp (disch := first | omega | decide | assumption | exact Nat.le_of_ble_eq_true rfl) only [s83_32, s83_34, s83_35, s83_38, s83_41, s83_42, s83_44, s83_45, s83_46, s83_47, s83_48, s83_116, ow_some, true_and, and_true, and_self, if_true, if_false, not_true, not_false_eq_true, Bool.false_eq_true, eq_self, Option.toList, List.cons_append, List.nil_append, ix_in, ix_cl, lt_in, lt_cl, lt_add, ix_one, vu_eq, vu_ne, arI_mk, arL_mk, arY_mZ, arY_mB, alen_mI, fld_sfl_ne, fld_sfl_same, Option.isSome_some, pok_i, b1z, b01, z10, b1o, Int32.zero_add, vu_vu, upd_eq, upd_ne, true_or, or_true, f4, c1, c2, x1]
        exact fin (fun hs => by have := hs.2.2.2.1; omega)
    · rintro e ⟨ob, u⟩ ⟨s1, F1, h1, h2, h3⟩
      dsimp only at F1 h2 h3 ⊢
      obtain ⟨⟨f0, f1, f2, f3, f4, f5, f6⟩, b1, b2, b3, b4, -⟩ := id F1
      have c1 : (nI k < nI (b + (k + 1 - b))) = True := eq_true (by rw [Int32.lt_iff_toInt_lt, nI_toInt (by omega), nI_toInt (by omega)]; omega)
      simp (disch := first | omega | decide | assumption | exact Nat.le_of_ble_eq_true rfl) only [s83_32, s83_34, s83_35, s83_38, s83_116, ow_some, true_and, and_true, and_self, if_true, if_false, not_true, not_false_eq_true, Bool.false_eq_true, eq_self, Option.toList, List.cons_append, List.nil_append, ix_in, ix_cl, lt_in, lt_cl, lt_add, ix_one, vu_eq, vu_ne, arI_mk, arL_mk, arY_mZ, arY_mB, alen_mI, fld_sfl_ne, fld_sfl_same, Option.isSome_some, pok_i, b1z, b01, z10, b1o, Int32.zero_add, vu_vu, upd_eq, upd_ne, true_or, or_true, f4, c1]
      refine ⟨s1, ob, F1, fun c hc => ⟨fun hs => ?_, fun hs => ?_⟩⟩
      · have := h2 (c - b) (by have := hs.2.1; have := hs.2.2.1; omega)
        rw [show b + (c - b) = c by have := hs.2.1; omega] at this
        exact this
      · by_cases hlt : b ≤ c ∧ c < b + (k + 1 - b)
        · have := h1 (c - b) (by omega)
          rw [show b + (c - b) = c by omega] at this
          exact absurd this hs
        · exact h3 c (by omega)
  have ib : b < 5 := by omega
  by_cases h1 : r0 < m
  · have c1 : (nI m ≤ nI r0) = False := by rw [ix_le (by omega) (by omega)]; exact eq_false (by omega)
    have i9 : r0 < 9 := by omega
    by_cases h2 : dy ≤ sb r0
    · have h2' : (dy ≤ sb r0) = True := eq_true h2
      simp (disch := first | omega | decide | assumption | exact Nat.le_of_ble_eq_true rfl) only [s83_0, s83_1, s83_4, s83_5, s83_6, s83_8, s83_10, s83_11, s83_14, s83_17, s83_18, s83_21, s83_23, s83_24, s83_25, s83_29, h83_30, ow_some, true_and, and_true, and_self, if_true, if_false, not_true, not_false_eq_true, Bool.false_eq_true, eq_self, Option.toList, List.cons_append, List.nil_append, ix_in, ix_cl, lt_in, lt_cl, lt_add, ix_one, vu_eq, vu_ne, arI_mk, arL_mk, arY_mZ, arY_mB, alen_mI, fld_sfl_ne, fld_sfl_same, Option.isSome_some, pok_i, b1z, b01, z10, b1o, Int32.zero_add, vu_vu, upd_eq, upd_ne, true_or, or_true, e1, e2, e5, a1, a3, hr, c1, h2']
      exact main (fun _ => h2) u5 u6
    · have h2' : (dy ≤ sb r0) = False := eq_false h2
      simp (disch := first | omega | decide | assumption | exact Nat.le_of_ble_eq_true rfl) only [s83_0, s83_1, s83_4, s83_5, s83_6, s83_8, s83_10, s83_11, s83_14, s83_17, s83_18, s83_21, s83_23, s83_24, s83_25, s83_28, ow_some, true_and, and_true, and_self, if_true, if_false, not_true, not_false_eq_true, Bool.false_eq_true, eq_self, Option.toList, List.cons_append, List.nil_append, ix_in, ix_cl, lt_in, lt_cl, lt_add, ix_one, vu_eq, vu_ne, arI_mk, arL_mk, arY_mZ, arY_mB, alen_mI, fld_sfl_ne, fld_sfl_same, Option.isSome_some, pok_i, b1z, b01, z10, b1o, Int32.zero_add, vu_vu, upd_eq, upd_ne, true_or, or_true, e1, e2, e5, a1, a3, hr, c1, h2']
      exact ⟨SI.rf, oa, E, fun c hc => ⟨fun hs => absurd (hs.1 h1) h2, fun _ => rfl⟩⟩
  · have c1 : (nI m ≤ nI r0) = True := by rw [ix_le (by omega) (by omega)]; exact eq_true (by omega)
    simp (disch := first | omega | decide | assumption | exact Nat.le_of_ble_eq_true rfl) only [s83_0, s83_1, s83_4, s83_5, s83_6, s83_8, s83_10, s83_11, s83_14, s83_29, h83_30, ow_some, true_and, and_true, and_self, if_true, if_false, not_true, not_false_eq_true, Bool.false_eq_true, eq_self, Option.toList, List.cons_append, List.nil_append, ix_in, ix_cl, lt_in, lt_cl, lt_add, ix_one, vu_eq, vu_ne, arI_mk, arL_mk, arY_mZ, arY_mB, alen_mI, fld_sfl_ne, fld_sfl_same, Option.isSome_some, pok_i, b1z, b01, z10, b1o, Int32.zero_add, vu_vu, upd_eq, upd_ne, true_or, or_true, e2, e5, a3, hr, c1]
    exact main (fun h => absurd h h1) u5 u6
