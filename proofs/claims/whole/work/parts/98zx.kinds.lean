/-! the class's words, numbers, signs -/
section TXT
variable {X : Nat × (Nat → Int32)} {d N K : Nat} {f : Nat → e_C} {tb tx : Nat → Int32} {L a : Nat}
theorem wa_to (B : TB f tb tx L) {Q : t_Q} {u4 u5 u6 u7 : Value} : ∀ m i, i + m = L → TT X (d + 1) 24 22 [.ref 1, .int (nI L), .int (nI a), .int (nI (we tx L m i)), u4, u5, u6, u7] [] f N K Q → TT X (d + 1) 24 2 [.ref 1, .int (nI L), .int (nI a), .int (nI i), u4, u5, u6, u7] [] f N K Q := by
  have hL := B.2.1
  have hy := arY_B B.1
  intro m
  induction m with
  | zero =>
    intro i hi h
    have c1 : (L ≤ i) = True := eq_true (by omega)
    simp (disch := first | omega | decide | assumption | exact Nat.le_of_ble_eq_true rfl) only [s24_2, s24_3, s24_4, ow_some, true_and, and_true, and_self, if_true, if_false, not_true, not_false_eq_true, Bool.false_eq_true, eq_self, Option.toList, List.cons_append, List.nil_append, ix_in, ix_cl, lt_in, lt_cl, lt_add, ix_one, vu_eq, vu_ne, arI_mk, arL_mk, arY_mZ, arY_mB, alen_mI, fld_sfl_ne, fld_sfl_same, Option.isSome_some, pok_i, b1z, b01, z10, b1o, Int32.zero_add, vu_vu, upd_eq, upd_ne, true_or, or_true, ix_le, c1]
    exact h
  | succ m ih =>
    intro i hi h
    have c1 : (L ≤ i) = False := eq_false (by omega)
    have hb := (B.at (i := i) (by omega)).1
    rw [we_s m] at h
    simp (disch := first | omega | decide | assumption | exact Nat.le_of_ble_eq_true rfl) only [s24_2, s24_3, s24_4, s24_7, s24_8, y24_9, ow_some, true_and, and_true, and_self, if_true, if_false, not_true, not_false_eq_true, Bool.false_eq_true, eq_self, Option.toList, List.cons_append, List.nil_append, ix_in, ix_cl, lt_in, lt_cl, lt_add, ix_one, vu_eq, vu_ne, arI_mk, arL_mk, arY_mZ, arY_mB, alen_mI, fld_sfl_ne, fld_sfl_same, Option.isSome_some, pok_i, b1z, b01, z10, b1o, Int32.zero_add, vu_vu, upd_eq, upd_ne, true_or, or_true, hy, ix_le, c1]
    rw [p24_10 (Nat.le_of_ble_eq_true rfl) sp_isLetter]
    by_cases hS : isS (tb i) = true
    · rw [if_pos ⟨by omega, by rw [hb]; exact hS⟩] at h
      rw [if_pos hS]
      simp (disch := first | omega | decide | assumption | exact Nat.le_of_ble_eq_true rfl) only [s24_13, s24_16, h24_19, ow_some, true_and, and_true, and_self, if_true, if_false, not_true, not_false_eq_true, Bool.false_eq_true, eq_self, Option.toList, List.cons_append, List.nil_append, ix_in, ix_cl, lt_in, lt_cl, lt_add, ix_one, vu_eq, vu_ne, arI_mk, arL_mk, arY_mZ, arY_mB, alen_mI, fld_sfl_ne, fld_sfl_same, Option.isSome_some, pok_i, b1z, b01, z10, b1o, Int32.zero_add, vu_vu, upd_eq, upd_ne, true_or, or_true]
      exact ih (i + 1) (by omega) h
    · rw [if_neg (fun z => hS (by rw [← hb]; exact z.2))] at h
      rw [if_neg hS]
      simp (disch := first | omega | decide | assumption | exact Nat.le_of_ble_eq_true rfl) only [s24_13, ow_some, true_and, and_true, and_self, if_true, if_false, not_true, not_false_eq_true, Bool.false_eq_true, eq_self, Option.toList, List.cons_append, List.nil_append, ix_in, ix_cl, lt_in, lt_cl, lt_add, ix_one, vu_eq, vu_ne, arI_mk, arL_mk, arY_mZ, arY_mB, alen_mI, fld_sfl_ne, fld_sfl_same, Option.isSome_some, pok_i, b1z, b01, z10, b1o, Int32.zero_add, vu_vu, upd_eq, upd_ne, true_or, or_true]
      exact h
def sme (tx : Nat → Int32) (a e i : Nat) : Bool := allB (fun o => decide (a + o < e) && decide (tx (a + o) = s_at 2 (ks (pj (wp i).1) + o))) (wp i).2
theorem allB_s {c : Nat → Bool} {n : Nat} : allB c (n + 1) = (allB c n && c n) := by
  rw [Bool.eq_iff_iff, Bool.and_eq_true, allB_iff, allB_iff]
  constructor
  · intro h; exact ⟨fun j hj => h j (by omega), h n (by omega)⟩
  · rintro ⟨h1, h2⟩ j hj
    by_cases e : j = n
    · rw [e]; exact h2
    · exact h1 j (by omega)
theorem sp_wordAt (B : TB f tb tx L) (ha : a < L) {u3 u4 u5 u6 u7 : Value} : PU X (d + 4) 24 [.ref 1, .int (nI L), .int (nI a), u3, u4, u5, u6, u7] f N K (some (.int (ckt (nI (m_key tx a (we tx L (L - a) a)))))) := by
  unfold PU
  have hL := B.2.1
  have hy := arY_B B.1
  have q0 : (0 : Nat) < 4 := by decide
  have l0 : s_len 0 = 103 := s_lens.1
  have chr : ∀ p, p < 103 → PU X (d + 3) 311 [.retAddr 0, .int (nI p)] f N K (some (.int (s_at 0 p))) := fun p hp => sp_charAt q0 (by rw [l0]; exact hp)
  have len : PU X (d + 3) 309 [.retAddr 0] f N K (some (.int (nI 103))) := by have := sp_length (X := X) (d := d + 2) (N := N) (K := K) (f := f) q0; rwa [l0] at this
  have hwe := we_le (tx := tx) (sz := L) (L - a) a (by omega)
  have hws := we_sp (tx := tx) (sz := L) (L - a) a (by omega)
  simp (disch := first | omega | decide | assumption | exact Nat.le_of_ble_eq_true rfl) only [s24_0, h24_1, ow_some, true_and, and_true, and_self, if_true, if_false, not_true, not_false_eq_true, Bool.false_eq_true, eq_self, Option.toList, List.cons_append, List.nil_append, ix_in, ix_cl, lt_in, lt_cl, lt_add, ix_one, vu_eq, vu_ne, arI_mk, arL_mk, arY_mZ, arY_mB, alen_mI, fld_sfl_ne, fld_sfl_same, Option.isSome_some, pok_i, b1z, b01, z10, b1o, Int32.zero_add, vu_vu, upd_eq, upd_ne, true_or, or_true]
  refine wa_to (d := d + 3) B (L - a) a (by omega) ?_
  generalize we tx L (L - a) a = e at hwe hws ⊢
  have i100 : (100 : Int32) = nI 100 := rfl
  have hsub : nI e - nI a = nI (e - a) := nI_subN hwe.1 (by omega)
  have z0 := z0i
  have hbt : ∀ o, a + o < e → tb (a + o) = tx (a + o) := fun o ho => by
    obtain ⟨b1, -, -, -, b5, -⟩ := B.at (i := a + o) (by omega)
    exact (b5 (Or.inl (by rw [← b1]; exact hws.1 (a + o) (by omega) ho))).symm
  simp (disch := first | omega | decide | assumption | exact Nat.le_of_ble_eq_true rfl) only [s24_22, s24_24, s24_26, s24_27, s24_29, h24_30, ow_some, true_and, and_true, and_self, if_true, if_false, not_true, not_false_eq_true, Bool.false_eq_true, eq_self, Option.toList, List.cons_append, List.nil_append, ix_in, ix_cl, lt_in, lt_cl, lt_add, ix_one, vu_eq, vu_ne, arI_mk, arL_mk, arY_mZ, arY_mB, alen_mI, fld_sfl_ne, fld_sfl_same, Option.isSome_some, pok_i, b1z, b01, z10, b1o, Int32.zero_add, vu_vu, upd_eq, upd_ne, true_or, or_true]
  rw [i100, z0]
  refine lp (fun i h (x : Int32 × Value) => h = f ∧ x.1 = (if sme tx a e i = true then nI (wp i).2 else -1) ∧ ∀ j, j < (wp i).1 → kq tx a e (pj j) = false) (fun i x => [.ref 1, .int (nI L), .int (nI a), .int (nI e), .int (nI (100 + (wp i).1)), .int x.1, .int (nI i), x.2]) 103 ?_ ?_ 0 f (nI 0, u7) (by omega) ⟨rfl, rfl, fun j hj => absurd hj (by rw [wp_0.1]; omega)⟩
  · rintro i h ⟨x, u⟩ hi ⟨rfl, hx, hno⟩ hI
    simp only at hx
    obtain ⟨w1, w2, w3, w4⟩ := wp_ok i hi
    have c1 : (103 ≤ i) = False := eq_false (by omega)
    simp (disch := first | omega | decide | assumption | exact Nat.le_of_ble_eq_true rfl) only [s24_32, s24_34, ow_some, true_and, and_true, and_self, if_true, if_false, not_true, not_false_eq_true, Bool.false_eq_true, eq_self, Option.toList, List.cons_append, List.nil_append, ix_in, ix_cl, lt_in, lt_cl, lt_add, ix_one, vu_eq, vu_ne, arI_mk, arL_mk, arY_mZ, arY_mB, alen_mI, fld_sfl_ne, fld_sfl_same, Option.isSome_some, pok_i, b1z, b01, z10, b1o, Int32.zero_add, vu_vu, upd_eq, upd_ne, true_or, or_true]
    rw [p24_36 q0 (Nat.le_of_ble_eq_true rfl) len]
    simp (disch := first | omega | decide | assumption | exact Nat.le_of_ble_eq_true rfl) only [s24_39, s24_42, s24_44, ow_some, true_and, and_true, and_self, if_true, if_false, not_true, not_false_eq_true, Bool.false_eq_true, eq_self, Option.toList, List.cons_append, List.nil_append, ix_in, ix_cl, lt_in, lt_cl, lt_add, ix_one, vu_eq, vu_ne, arI_mk, arL_mk, arY_mZ, arY_mB, alen_mI, fld_sfl_ne, fld_sfl_same, Option.isSome_some, pok_i, b1z, b01, z10, b1o, Int32.zero_add, vu_vu, upd_eq, upd_ne, true_or, or_true, ix_le, c1]
    rw [p24_46 q0 (Nat.le_of_ble_eq_true rfl) (chr i hi)]
    by_cases h32 : s_at 0 i = 32
    · obtain ⟨v1, v2⟩ := w4 h32
      have e32 : (s_at 0 i = 32) = True := eq_true h32
      by_cases hm : kq tx a e (pj (wp i).1) = true
      · obtain ⟨k1, k2⟩ := kq_iff.mp hm
        have hs : sme tx a e i = true := by
          unfold sme
          rw [allB_iff]
          intro o ho
          rw [v1] at ho
          unfold wl at ho
          rw [decide_eq_true (show a + o < e by omega), decide_eq_true (k2 o ho)]
          rfl
        rw [hs, if_pos rfl] at hx
        have exx : (x = nI (e - a)) = True := eq_true (by rw [hx, v1]; unfold wl; rw [k1])
        simp (disch := first | omega | decide | assumption | exact Nat.le_of_ble_eq_true rfl) only [s24_49, s24_51, s24_53, s24_55, s24_95, s24_97, s24_98, s24_99, s24_100, s24_103, s24_105, ow_some, true_and, and_true, and_self, if_true, if_false, not_true, not_false_eq_true, Bool.false_eq_true, eq_self, Option.toList, List.cons_append, List.nil_append, ix_in, ix_cl, lt_in, lt_cl, lt_add, ix_one, vu_eq, vu_ne, arI_mk, arL_mk, arY_mZ, arY_mB, alen_mI, fld_sfl_ne, fld_sfl_same, Option.isSome_some, pok_i, b1z, b01, z10, b1o, Int32.zero_add, vu_vu, upd_eq, upd_ne, true_or, or_true, e32, hsub, exx, ne_eq]
        rw [key_yes (pj_ck _ w1).1 hm, (pj_ck _ w1).2.2]
      · have hm' : kq tx a e (pj (wp i).1) = false := by cases hh : kq tx a e (pj (wp i).1); rfl; exact absurd hh hm
        have exx : (x = nI (e - a)) = False := by
          apply eq_false
          intro z
          cases hs : sme tx a e i with
          | false =>
            rw [hs, if_neg (by decide), z] at hx
            have := congrArg Int32.toInt hx
            rw [nI_toInt (by omega)] at this
            have em1 : (-1 : Int32).toInt = -1 := by decide
            omega
          | true =>
            rw [hs, if_pos rfl, z] at hx
            have h9 : wl (wp i).1 < 1000 := by
              have : ∀ j, j < 21 → wl j < 1000 := by decide +kernel
              exact this _ w1
            have hea : e - a = (wp i).2 := by
              have := congrArg Int32.toInt hx
              rw [nI_toInt (by omega), nI_toInt (by omega)] at this
              omega
            apply hm
            rw [kq_iff]
            refine ⟨by rw [hea, v1]; rfl, fun o ho => ?_⟩
            unfold sme at hs
            rw [allB_iff] at hs
            have := hs o (by rw [v1]; exact ho)
            rw [Bool.and_eq_true, decide_eq_true_eq, decide_eq_true_eq] at this
            exact this.2
        simp (disch := first | omega | decide | assumption | exact Nat.le_of_ble_eq_true rfl) only [s24_49, s24_51, s24_53, s24_55, s24_95, s24_97, s24_98, s24_99, s24_100, s24_106, s24_109, s24_110, s24_112, h24_115, ow_some, true_and, and_true, and_self, if_true, if_false, not_true, not_false_eq_true, Bool.false_eq_true, eq_self, Option.toList, List.cons_append, List.nil_append, ix_in, ix_cl, lt_in, lt_cl, lt_add, ix_one, vu_eq, vu_ne, arI_mk, arL_mk, arY_mZ, arY_mB, alen_mI, fld_sfl_ne, fld_sfl_same, Option.isSome_some, pok_i, b1z, b01, z10, b1o, Int32.zero_add, vu_vu, upd_eq, upd_ne, true_or, or_true, e32, hsub, exx, ne_eq]
        have hJ := hI h (nI 0, .int 32) ⟨rfl, ?_, ?_⟩
        · rw [v2] at hJ
          rw [h32]
          exact hJ
        · show nI 0 = _
          unfold sme
          rw [v2]
          rfl
        · intro j hj
          rw [v2] at hj
          by_cases ej : j = (wp i).1
          · rw [ej]; exact hm'
          · exact hno j (by have hj' : j < (wp i).1 + 1 := hj; omega)
    · obtain ⟨v1, v2, v3⟩ := w3 h32
      have e32 : (s_at 0 i = 32) = False := eq_false h32
      have hstep : sme tx a e (i + 1) = (sme tx a e i && (decide (a + (wp i).2 < e) && decide (tx (a + (wp i).2) = s_at 0 i))) := by
        unfold sme
        rw [v2, v3]
        exact allB_s
      have no : sme tx a e (i + 1) = false → TT X (d + 4) 24 89 [.ref 1, .int (nI L), .int (nI a), .int (nI e), .int (nI (100 + (wp i).1)), .int x, .int (nI i), .int (s_at 0 i)] [] h N K (fun f' n' k' v => f' = h ∧ n' = N ∧ k' = K ∧ v = some (.int (ckt (nI (m_key tx a e))))) := by
        intro hf
        simp (disch := first | omega | decide | assumption | exact Nat.le_of_ble_eq_true rfl) only [s24_89, s24_90, s24_92, s24_112, h24_115, ow_some, true_and, and_true, and_self, if_true, if_false, not_true, not_false_eq_true, Bool.false_eq_true, eq_self, Option.toList, List.cons_append, List.nil_append, ix_in, ix_cl, lt_in, lt_cl, lt_add, ix_one, vu_eq, vu_ne, arI_mk, arL_mk, arY_mZ, arY_mB, alen_mI, fld_sfl_ne, fld_sfl_same, Option.isSome_some, pok_i, b1z, b01, z10, b1o, Int32.zero_add, vu_vu, upd_eq, upd_ne, true_or, or_true]
        have hJ := hI h (-1, .int (s_at 0 i)) ⟨rfl, by rw [hf, if_neg (by decide)], fun j hj => hno j (by rw [v2] at hj; exact hj)⟩
        rw [v2] at hJ
        exact hJ
      cases hs : sme tx a e i with
      | false =>
        rw [hs, if_neg (by decide)] at hx
        rw [hs, Bool.false_and] at hstep
        have em1 : (x < 0) = True := eq_true (by rw [hx]; decide)
        simp (disch := first | omega | decide | assumption | exact Nat.le_of_ble_eq_true rfl) only [s24_49, s24_51, s24_53, s24_55, s24_58, s24_60, ow_some, true_and, and_true, and_self, if_true, if_false, not_true, not_false_eq_true, Bool.false_eq_true, eq_self, Option.toList, List.cons_append, List.nil_append, ix_in, ix_cl, lt_in, lt_cl, lt_add, ix_one, vu_eq, vu_ne, arI_mk, arL_mk, arY_mZ, arY_mB, alen_mI, fld_sfl_ne, fld_sfl_same, Option.isSome_some, pok_i, b1z, b01, z10, b1o, Int32.zero_add, vu_vu, upd_eq, upd_ne, true_or, or_true, e32, em1]
        exact no hstep
      | true =>
        rw [hs, if_pos rfl] at hx
        rw [hs, Bool.true_and] at hstep
        have h9 : wl (wp i).1 < 1000 := by
          have : ∀ j, j < 21 → wl j < 1000 := by decide +kernel
          exact this _ w1
        have em1 : (nI (wp i).2 < 0) = False := by rw [tl_lt (c := 0) (by decide) (by omega)]; exact eq_false (by omega)
        by_cases h1 : a + (wp i).2 < e
        · have c2 : (e ≤ a + (wp i).2) = False := eq_false (by omega)
          by_cases h2 : tx (a + (wp i).2) = s_at 0 i
          · have h2' : (tb (a + (wp i).2) = s_at 0 i) = True := eq_true (by rw [hbt _ h1]; exact h2)
            rw [decide_eq_true h1, decide_eq_true h2] at hstep
            rw [hx]
            simp (disch := first | omega | decide | assumption | exact Nat.le_of_ble_eq_true rfl) only [s24_49, s24_51, s24_53, s24_55, s24_58, s24_60, s24_63, s24_64, s24_66, s24_67, s24_68, s24_71, s24_72, s24_73, s24_75, y24_76, s24_77, s24_79, s24_82, s24_84, s24_85, s24_86, s24_90, s24_92, s24_112, h24_115, ow_some, true_and, and_true, and_self, if_true, if_false, not_true, not_false_eq_true, Bool.false_eq_true, eq_self, Option.toList, List.cons_append, List.nil_append, ix_in, ix_cl, lt_in, lt_cl, lt_add, ix_one, vu_eq, vu_ne, arI_mk, arL_mk, arY_mZ, arY_mB, alen_mI, fld_sfl_ne, fld_sfl_same, Option.isSome_some, pok_i, b1z, b01, z10, b1o, Int32.zero_add, vu_vu, upd_eq, upd_ne, true_or, or_true, e32, em1, nI_add, ix_le, c2, h2', hy, ne_eq]
            have hJ := hI h (nI ((wp i).2 + 1), .int (s_at 0 i)) ⟨rfl, by rw [hstep, v2]; rfl, fun j hj => hno j (by rw [v2] at hj; exact hj)⟩
            rw [v2] at hJ
            exact hJ
          · have h2' : (tb (a + (wp i).2) = s_at 0 i) = False := eq_false (by rw [hbt _ h1]; exact h2)
            rw [decide_eq_false h2, Bool.and_false] at hstep
            rw [hx] at no ⊢
            simp (disch := first | omega | decide | assumption | exact Nat.le_of_ble_eq_true rfl) only [s24_49, s24_51, s24_53, s24_55, s24_58, s24_60, s24_63, s24_64, s24_66, s24_67, s24_68, s24_71, s24_72, s24_73, s24_75, y24_76, s24_77, s24_79, ow_some, true_and, and_true, and_self, if_true, if_false, not_true, not_false_eq_true, Bool.false_eq_true, eq_self, Option.toList, List.cons_append, List.nil_append, ix_in, ix_cl, lt_in, lt_cl, lt_add, ix_one, vu_eq, vu_ne, arI_mk, arL_mk, arY_mZ, arY_mB, alen_mI, fld_sfl_ne, fld_sfl_same, Option.isSome_some, pok_i, b1z, b01, z10, b1o, Int32.zero_add, vu_vu, upd_eq, upd_ne, true_or, or_true, e32, em1, nI_add, ix_le, c2, h2', hy, ne_eq]
            exact no hstep
        · have c2 : (e ≤ a + (wp i).2) = True := eq_true (by omega)
          rw [decide_eq_false h1, Bool.false_and] at hstep
          rw [hx] at no ⊢
          simp (disch := first | omega | decide | assumption | exact Nat.le_of_ble_eq_true rfl) only [s24_49, s24_51, s24_53, s24_55, s24_58, s24_60, s24_63, s24_64, s24_66, s24_67, s24_68, ow_some, true_and, and_true, and_self, if_true, if_false, not_true, not_false_eq_true, Bool.false_eq_true, eq_self, Option.toList, List.cons_append, List.nil_append, ix_in, ix_cl, lt_in, lt_cl, lt_add, ix_one, vu_eq, vu_ne, arI_mk, arL_mk, arY_mZ, arY_mB, alen_mI, fld_sfl_ne, fld_sfl_same, Option.isSome_some, pok_i, b1z, b01, z10, b1o, Int32.zero_add, vu_vu, upd_eq, upd_ne, true_or, or_true, e32, em1, nI_add, ix_le, c2, hy, ne_eq]
          exact no hstep
  · rintro h ⟨x, u⟩ ⟨rfl, hx, hno⟩
    rw [wp_0.2] at hno
    have c1 : (103 ≤ 103) = True := eq_true (Nat.le_refl _)
    simp (disch := first | omega | decide | assumption | exact Nat.le_of_ble_eq_true rfl) only [s24_32, s24_34, ow_some, true_and, and_true, and_self, if_true, if_false, not_true, not_false_eq_true, Bool.false_eq_true, eq_self, Option.toList, List.cons_append, List.nil_append, ix_in, ix_cl, lt_in, lt_cl, lt_add, ix_one, vu_eq, vu_ne, arI_mk, arL_mk, arY_mZ, arY_mB, alen_mI, fld_sfl_ne, fld_sfl_same, Option.isSome_some, pok_i, b1z, b01, z10, b1o, Int32.zero_add, vu_vu, upd_eq, upd_ne, true_or, or_true]
    rw [p24_36 q0 (Nat.le_of_ble_eq_true rfl) len]
    simp (disch := first | omega | decide | assumption | exact Nat.le_of_ble_eq_true rfl) only [s24_39, s24_118, s24_119, ow_some, true_and, and_true, and_self, if_true, if_false, not_true, not_false_eq_true, Bool.false_eq_true, eq_self, Option.toList, List.cons_append, List.nil_append, ix_in, ix_cl, lt_in, lt_cl, lt_add, ix_one, vu_eq, vu_ne, arI_mk, arL_mk, arY_mZ, arY_mB, alen_mI, fld_sfl_ne, fld_sfl_same, Option.isSome_some, pok_i, b1z, b01, z10, b1o, Int32.zero_add, vu_vu, upd_eq, upd_ne, true_or, or_true, ix_le, c1]
    rw [key_no (fun j hj => hno j hj)]
    rfl
theorem na_lp (B : TB f tb tx L) (ha : a < L) : ∀ m i (n : Int32), a ≤ i → i ≤ a + 3 → i + m = L → TT X (d + 1) 25 5 [.ref 1, .int (nI L), .int (nI a), .int n, .int (nI i)] [] f N K (fun f' n' k' v => f' = f ∧ n' = N ∧ k' = K ∧ v = some (.int (if (dg tx L a m i n).1 - a ≤ 3 then 1000 + (dg tx L a m i n).2 else 2))) := by
  have hL := B.2.1
  have hy := arY_B B.1
  intro m
  induction m with
  | zero =>
    intro i n h1 h2 h3
    have c1 : (L ≤ i) = True := eq_true (by omega)
    have e : (if (dg tx L a 0 i n).1 - a ≤ 3 then 1000 + (dg tx L a 0 i n).2 else 2) = 1000 + n := if_pos (show i - a ≤ 3 by omega)
    rw [e]
    simp (disch := first | omega | decide | assumption | exact Nat.le_of_ble_eq_true rfl) only [s25_5, s25_7, s25_8, s25_50, s25_53, s25_54, s25_55, ow_some, true_and, and_true, and_self, if_true, if_false, not_true, not_false_eq_true, Bool.false_eq_true, eq_self, Option.toList, List.cons_append, List.nil_append, ix_in, ix_cl, lt_in, lt_cl, lt_add, ix_one, vu_eq, vu_ne, arI_mk, arL_mk, arY_mZ, arY_mB, alen_mI, fld_sfl_ne, fld_sfl_same, Option.isSome_some, pok_i, b1z, b01, z10, b1o, Int32.zero_add, vu_vu, upd_eq, upd_ne, true_or, or_true, ix_le, c1]
  | succ m ih =>
    intro i n h1 h2 h3
    have c1 : (L ≤ i) = False := eq_false (by omega)
    obtain ⟨-, b2, -, -, b5, -⟩ := B.at (i := i) (by omega)
    rw [dg_s m]
    simp (disch := first | omega | decide | assumption | exact Nat.le_of_ble_eq_true rfl) only [s25_5, s25_7, s25_8, s25_11, s25_12, y25_14, ow_some, true_and, and_true, and_self, if_true, if_false, not_true, not_false_eq_true, Bool.false_eq_true, eq_self, Option.toList, List.cons_append, List.nil_append, ix_in, ix_cl, lt_in, lt_cl, lt_add, ix_one, vu_eq, vu_ne, arI_mk, arL_mk, arY_mZ, arY_mB, alen_mI, fld_sfl_ne, fld_sfl_same, Option.isSome_some, pok_i, b1z, b01, z10, b1o, Int32.zero_add, vu_vu, upd_eq, upd_ne, true_or, or_true, hy, ix_le, c1]
    rw [p25_15 (Nat.le_of_ble_eq_true rfl) sp_isDigitC]
    by_cases hD : isD (tb i) = true
    · rw [if_pos (show i < L ∧ isD (tx i) = true from ⟨by omega, by rw [b2]; exact hD⟩)]
      rw [if_pos hD]
      have hsub : nI i - nI a = nI (i - a) := nI_subN h1 (by omega)
      by_cases h3' : i - a < 3
      · have c3 : (i - a < 3) = True := eq_true h3'
        rw [if_pos h3']
        have en : n * 10 + tb i - 48 = 10 * n + tx i - 48 := by rw [b5 (Or.inr hD), Int32.mul_comm]
        simp (disch := first | omega | decide | assumption | exact Nat.le_of_ble_eq_true rfl) only [s25_18, s25_21, s25_23, s25_24, s25_25, s25_26, s25_31, s25_32, s25_34, s25_35, s25_36, y25_38, s25_39, s25_40, s25_42, s25_43, s25_44, h25_47, ow_some, true_and, and_true, and_self, if_true, if_false, not_true, not_false_eq_true, Bool.false_eq_true, eq_self, Option.toList, List.cons_append, List.nil_append, ix_in, ix_cl, lt_in, lt_cl, lt_add, ix_one, vu_eq, vu_ne, arI_mk, arL_mk, arY_mZ, arY_mB, alen_mI, fld_sfl_ne, fld_sfl_same, Option.isSome_some, pok_i, b1z, b01, z10, b1o, Int32.zero_add, vu_vu, upd_eq, upd_ne, true_or, or_true, hy, hsub, tl_lt, c3, en]
        exact ih (i + 1) _ (by omega) (by omega) (by omega)
      · have c3 : (i - a < 3) = False := eq_false h3'
        rw [if_neg h3']
        have hle := (dg_le (tx := tx) (sz := L) (a := a) m (i + 1) n (by omega)).1
        have e : (if (dg tx L a m (i + 1) n).1 - a ≤ 3 then 1000 + (dg tx L a m (i + 1) n).2 else 2) = 2 := if_neg (by omega)
        rw [e]
        simp (disch := first | omega | decide | assumption | exact Nat.le_of_ble_eq_true rfl) only [s25_18, s25_21, s25_23, s25_24, s25_25, s25_26, s25_29, s25_30, ow_some, true_and, and_true, and_self, if_true, if_false, not_true, not_false_eq_true, Bool.false_eq_true, eq_self, Option.toList, List.cons_append, List.nil_append, ix_in, ix_cl, lt_in, lt_cl, lt_add, ix_one, vu_eq, vu_ne, arI_mk, arL_mk, arY_mZ, arY_mB, alen_mI, fld_sfl_ne, fld_sfl_same, Option.isSome_some, pok_i, b1z, b01, z10, b1o, Int32.zero_add, vu_vu, upd_eq, upd_ne, true_or, or_true, hsub, tl_lt, c3]
    · rw [if_neg (show ¬ (i < L ∧ isD (tx i) = true) from fun z => hD (by rw [← b2]; exact z.2))]
      rw [if_neg hD]
      have e : (if ((i, n) : Nat × Int32).1 - a ≤ 3 then 1000 + ((i, n) : Nat × Int32).2 else 2) = 1000 + n := if_pos (show i - a ≤ 3 by omega)
      rw [e]
      simp (disch := first | omega | decide | assumption | exact Nat.le_of_ble_eq_true rfl) only [s25_18, s25_50, s25_53, s25_54, s25_55, ow_some, true_and, and_true, and_self, if_true, if_false, not_true, not_false_eq_true, Bool.false_eq_true, eq_self, Option.toList, List.cons_append, List.nil_append, ix_in, ix_cl, lt_in, lt_cl, lt_add, ix_one, vu_eq, vu_ne, arI_mk, arL_mk, arY_mZ, arY_mB, alen_mI, fld_sfl_ne, fld_sfl_same, Option.isSome_some, pok_i, b1z, b01, z10, b1o, Int32.zero_add, vu_vu, upd_eq, upd_ne, true_or, or_true]
theorem sp_numberAt (B : TB f tb tx L) (ha : a < L) {u3 u4 : Value} : PU X (d + 1) 25 [.ref 1, .int (nI L), .int (nI a), u3, u4] f N K (some (.int (if (dg tx L a (L - a) a 0).1 - a ≤ 3 then 1000 + (dg tx L a (L - a) a 0).2 else 2))) := by
  unfold PU
  simp (disch := first | omega | decide | assumption | exact Nat.le_of_ble_eq_true rfl) only [s25_0, s25_1, s25_2, h25_3, ow_some, true_and, and_true, and_self, if_true, if_false, not_true, not_false_eq_true, Bool.false_eq_true, eq_self, Option.toList, List.cons_append, List.nil_append, ix_in, ix_cl, lt_in, lt_cl, lt_add, ix_one, vu_eq, vu_ne, arI_mk, arL_mk, arY_mZ, arY_mB, alen_mI, fld_sfl_ne, fld_sfl_same, Option.isSome_some, pok_i, b1z, b01, z10, b1o, Int32.zero_add, vu_vu, upd_eq, upd_ne, true_or, or_true]
  exact na_lp B ha (L - a) a 0 (Nat.le_refl _) (by omega) (by omega)
/-- a token's kind -/
theorem sp_kindAt (B : TB f tb tx L) {c : Cu} (h1 : c.1 < L) (h2 : ¬ wht (tx c.1)) (h : (isS (tx c.1) = true ∧ c.2.1 = we tx L (L - c.1) c.1 ∧ c.2.2.1 = nI (m_key tx c.1 c.2.1)) ∨ (¬ isS (tx c.1) = true ∧ isD (tx c.1) = true ∧ c.2.1 = (dg tx L c.1 (L - c.1) c.1 0).1 ∧ c.2.2.1 = (if c.2.1 - c.1 ≤ 3 then 23 else 25) ∧ c.2.2.2 = (dg tx L c.1 (L - c.1) c.1 0).2) ∨ (¬ isS (tx c.1) = true ∧ ¬ isD (tx c.1) = true ∧ c.2.1 = c.1 + 1 ∧ c.2.2.1 = si (tx c.1) 12)) {u3 : Value} : PU X (d + 6) 23 [.ref 1, .int (nI L), .int (nI c.1), u3] f N K (some (.int (ck c))) := by
  unfold PU
  have hL := B.2.1
  have hy := arY_B B.1
  obtain ⟨b1, b2, b3, b4, b5, b6⟩ := B.at h1
  simp (disch := first | omega | decide | assumption | exact Nat.le_of_ble_eq_true rfl) only [s23_0, s23_1, y23_2, ow_some, true_and, and_true, and_self, if_true, if_false, not_true, not_false_eq_true, Bool.false_eq_true, eq_self, Option.toList, List.cons_append, List.nil_append, ix_in, ix_cl, lt_in, lt_cl, lt_add, ix_one, vu_eq, vu_ne, arI_mk, arL_mk, arY_mZ, arY_mB, alen_mI, fld_sfl_ne, fld_sfl_same, Option.isSome_some, pok_i, b1z, b01, z10, b1o, Int32.zero_add, vu_vu, upd_eq, upd_ne, true_or, or_true, hy]
  rw [p23_3 (Nat.le_of_ble_eq_true rfl) sp_isLetter]
  rcases h with ⟨hS, e1, e2⟩ | ⟨hS, hD, e1, e2, e3⟩ | ⟨hS, hD, e1, e2⟩
  · rw [b1] at hS
    rw [if_pos hS]
    simp (disch := first | omega | decide | assumption | exact Nat.le_of_ble_eq_true rfl) only [s23_6, s23_9, s23_10, s23_11, ow_some, true_and, and_true, and_self, if_true, if_false, not_true, not_false_eq_true, Bool.false_eq_true, eq_self, Option.toList, List.cons_append, List.nil_append, ix_in, ix_cl, lt_in, lt_cl, lt_add, ix_one, vu_eq, vu_ne, arI_mk, arL_mk, arY_mZ, arY_mB, alen_mI, fld_sfl_ne, fld_sfl_same, Option.isSome_some, pok_i, b1z, b01, z10, b1o, Int32.zero_add, vu_vu, upd_eq, upd_ne, true_or, or_true]
    rw [p23_12 (Nat.le_of_ble_eq_true rfl) (sp_wordAt (d := d + 1) B h1)]
    have hck : ck c = ckt (nI (m_key tx c.1 (we tx L (L - c.1) c.1))) := by
      unfold ck
      rw [if_neg ?_, e2, e1]
      rw [e2, lit_nI 23]
      intro z
      have hk := key_le (tx := tx) (a := c.1) (b := c.2.1)
      rw [ix_eq (by omega) (by omega)] at z
      omega
    rw [hck]
    simp (disch := first | omega | decide | assumption | exact Nat.le_of_ble_eq_true rfl) only [s23_15, ow_some, true_and, and_true, and_self, if_true, if_false, not_true, not_false_eq_true, Bool.false_eq_true, eq_self, Option.toList, List.cons_append, List.nil_append, ix_in, ix_cl, lt_in, lt_cl, lt_add, ix_one, vu_eq, vu_ne, arI_mk, arL_mk, arY_mZ, arY_mB, alen_mI, fld_sfl_ne, fld_sfl_same, Option.isSome_some, pok_i, b1z, b01, z10, b1o, Int32.zero_add, vu_vu, upd_eq, upd_ne, true_or, or_true]
  · rw [b1] at hS
    rw [b2] at hD
    rw [if_neg hS]
    simp (disch := first | omega | decide | assumption | exact Nat.le_of_ble_eq_true rfl) only [s23_6, s23_16, s23_17, y23_18, ow_some, true_and, and_true, and_self, if_true, if_false, not_true, not_false_eq_true, Bool.false_eq_true, eq_self, Option.toList, List.cons_append, List.nil_append, ix_in, ix_cl, lt_in, lt_cl, lt_add, ix_one, vu_eq, vu_ne, arI_mk, arL_mk, arY_mZ, arY_mB, alen_mI, fld_sfl_ne, fld_sfl_same, Option.isSome_some, pok_i, b1z, b01, z10, b1o, Int32.zero_add, vu_vu, upd_eq, upd_ne, true_or, or_true, hy]
    rw [p23_19 (Nat.le_of_ble_eq_true rfl) sp_isDigitC, if_pos hD]
    simp (disch := first | omega | decide | assumption | exact Nat.le_of_ble_eq_true rfl) only [s23_22, s23_25, s23_26, s23_27, ow_some, true_and, and_true, and_self, if_true, if_false, not_true, not_false_eq_true, Bool.false_eq_true, eq_self, Option.toList, List.cons_append, List.nil_append, ix_in, ix_cl, lt_in, lt_cl, lt_add, ix_one, vu_eq, vu_ne, arI_mk, arL_mk, arY_mZ, arY_mB, alen_mI, fld_sfl_ne, fld_sfl_same, Option.isSome_some, pok_i, b1z, b01, z10, b1o, Int32.zero_add, vu_vu, upd_eq, upd_ne, true_or, or_true]
    rw [p23_28 (Nat.le_of_ble_eq_true rfl) (sp_numberAt (d := d + 4) B h1)]
    have hck : ck c = (if (dg tx L c.1 (L - c.1) c.1 0).1 - c.1 ≤ 3 then 1000 + (dg tx L c.1 (L - c.1) c.1 0).2 else 2) := by
      unfold ck
      rw [e2, e1]
      by_cases h3 : (dg tx L c.1 (L - c.1) c.1 0).1 - c.1 ≤ 3
      · rw [if_pos h3, if_pos rfl, if_pos h3, e3]
      · rw [if_neg h3, if_neg (by decide), if_neg h3]
        decide
    rw [hck]
    simp (disch := first | omega | decide | assumption | exact Nat.le_of_ble_eq_true rfl) only [s23_31, ow_some, true_and, and_true, and_self, if_true, if_false, not_true, not_false_eq_true, Bool.false_eq_true, eq_self, Option.toList, List.cons_append, List.nil_append, ix_in, ix_cl, lt_in, lt_cl, lt_add, ix_one, vu_eq, vu_ne, arI_mk, arL_mk, arY_mZ, arY_mB, alen_mI, fld_sfl_ne, fld_sfl_same, Option.isSome_some, pok_i, b1z, b01, z10, b1o, Int32.zero_add, vu_vu, upd_eq, upd_ne, true_or, or_true]
  · rw [b1] at hS
    rw [b2] at hD
    have hw : ¬ wht (tb c.1) := fun z => h2 (by rcases z with z | z; exact Or.inl (b3.mpr z); exact Or.inr (b4.mpr z))
    obtain ⟨⟨k, k1, k2, k3⟩, k4⟩ := b6 hS hD hw
    have hck : ck c = if 0 < tb c.1 ∧ 0 ≤ ixo 1 (tb c.1) then tb c.1 else 2 := by
      unfold ck
      rw [if_neg ?_, e2, k4]
      rw [e2, k3, lit_nI 23]
      intro z
      have hl := kv_lo k k1
      rw [ix_eq (by omega) (by omega)] at z
      omega
    rw [hck, if_neg hS]
    simp (disch := first | omega | decide | assumption | exact Nat.le_of_ble_eq_true rfl) only [s23_6, s23_16, s23_17, y23_18, ow_some, true_and, and_true, and_self, if_true, if_false, not_true, not_false_eq_true, Bool.false_eq_true, eq_self, Option.toList, List.cons_append, List.nil_append, ix_in, ix_cl, lt_in, lt_cl, lt_add, ix_one, vu_eq, vu_ne, arI_mk, arL_mk, arY_mZ, arY_mB, alen_mI, fld_sfl_ne, fld_sfl_same, Option.isSome_some, pok_i, b1z, b01, z10, b1o, Int32.zero_add, vu_vu, upd_eq, upd_ne, true_or, or_true, hy]
    rw [p23_19 (Nat.le_of_ble_eq_true rfl) sp_isDigitC, if_neg hD]
    by_cases hp : 0 < tb c.1
    · have hp' : (tb c.1 ≤ 0) = False := eq_false (by rw [i_nlt] at hp; exact hp)
      obtain ⟨⟨r1, r2⟩, -⟩ := B.2.2 c.1 h1
      rw [Int32.lt_iff_toInt_lt, show (0 : Int32).toInt = 0 by decide] at hp
      obtain ⟨m, hm, hm1, hm2⟩ := i9 (v := tb c.1) (N := 128) (by omega) (by omega) (by omega)
      have hc16 := (nar7 m hm).2
      have hio := sp_indexOf (X := X) (d := d) (N := N) (K := K) (f := f) (q := 1) (m := m) (by omega) hm
      have hp2 : 0 < tb c.1 := by rw [Int32.lt_iff_toInt_lt, show (0 : Int32).toInt = 0 by decide]; omega
      by_cases hi : 0 ≤ ixo 1 (tb c.1)
      · rw [if_pos ⟨hp2, hi⟩]
        have hi' : (ixo 1 (nI m) < 0) = False := eq_false (by rw [i_nlt, ← hm1]; exact fun z => z hi)
        simp (disch := first | omega | decide | assumption | exact Nat.le_of_ble_eq_true rfl) only [s23_22, s23_32, s23_33, y23_34, s23_35, s23_38, s23_40, s23_41, y23_42, ow_some, true_and, and_true, and_self, if_true, if_false, not_true, not_false_eq_true, Bool.false_eq_true, eq_self, Option.toList, List.cons_append, List.nil_append, ix_in, ix_cl, lt_in, lt_cl, lt_add, ix_one, vu_eq, vu_ne, arI_mk, arL_mk, arY_mZ, arY_mB, alen_mI, fld_sfl_ne, fld_sfl_same, Option.isSome_some, pok_i, b1z, b01, z10, b1o, Int32.zero_add, vu_vu, upd_eq, upd_ne, true_or, or_true, hy, hp']
        rw [s23_43, hm1, hc16, p23_44 (by omega) (Nat.le_of_ble_eq_true rfl) hio]
        simp (disch := first | omega | decide | assumption | exact Nat.le_of_ble_eq_true rfl) only [s23_47, s23_50, s23_51, s23_55, s23_56, s23_57, s23_60, s23_61, y23_62, s23_63, s23_67, ow_some, true_and, and_true, and_self, if_true, if_false, not_true, not_false_eq_true, Bool.false_eq_true, eq_self, Option.toList, List.cons_append, List.nil_append, ix_in, ix_cl, lt_in, lt_cl, lt_add, ix_one, vu_eq, vu_ne, arI_mk, arL_mk, arY_mZ, arY_mB, alen_mI, fld_sfl_ne, fld_sfl_same, Option.isSome_some, pok_i, b1z, b01, z10, b1o, Int32.zero_add, vu_vu, upd_eq, upd_ne, true_or, or_true, hy, hi', hm1]
      · rw [if_neg (fun z => hi z.2)]
        have hi' : (ixo 1 (nI m) < 0) = True := eq_true (by rw [i_nlt, ← hm1]; exact hi)
        simp (disch := first | omega | decide | assumption | exact Nat.le_of_ble_eq_true rfl) only [s23_22, s23_32, s23_33, y23_34, s23_35, s23_38, s23_40, s23_41, y23_42, ow_some, true_and, and_true, and_self, if_true, if_false, not_true, not_false_eq_true, Bool.false_eq_true, eq_self, Option.toList, List.cons_append, List.nil_append, ix_in, ix_cl, lt_in, lt_cl, lt_add, ix_one, vu_eq, vu_ne, arI_mk, arL_mk, arY_mZ, arY_mB, alen_mI, fld_sfl_ne, fld_sfl_same, Option.isSome_some, pok_i, b1z, b01, z10, b1o, Int32.zero_add, vu_vu, upd_eq, upd_ne, true_or, or_true, hy, hp']
        rw [s23_43, hm1, hc16, p23_44 (by omega) (Nat.le_of_ble_eq_true rfl) hio]
        simp (disch := first | omega | decide | assumption | exact Nat.le_of_ble_eq_true rfl) only [s23_47, s23_54, s23_55, s23_56, s23_57, s23_66, s23_67, ow_some, true_and, and_true, and_self, if_true, if_false, not_true, not_false_eq_true, Bool.false_eq_true, eq_self, Option.toList, List.cons_append, List.nil_append, ix_in, ix_cl, lt_in, lt_cl, lt_add, ix_one, vu_eq, vu_ne, arI_mk, arL_mk, arY_mZ, arY_mB, alen_mI, fld_sfl_ne, fld_sfl_same, Option.isSome_some, pok_i, b1z, b01, z10, b1o, Int32.zero_add, vu_vu, upd_eq, upd_ne, true_or, or_true, hy, hi']
    · have hp' : (tb c.1 ≤ 0) = True := eq_true (by rw [i_nlt] at hp; exact Classical.not_not.mp hp)
      rw [if_neg (fun z => hp z.1)]
      simp (disch := first | omega | decide | assumption | exact Nat.le_of_ble_eq_true rfl) only [s23_22, s23_32, s23_33, y23_34, s23_35, s23_54, s23_55, s23_56, s23_57, s23_66, s23_67, ow_some, true_and, and_true, and_self, if_true, if_false, not_true, not_false_eq_true, Bool.false_eq_true, eq_self, Option.toList, List.cons_append, List.nil_append, ix_in, ix_cl, lt_in, lt_cl, lt_add, ix_one, vu_eq, vu_ne, arI_mk, arL_mk, arY_mZ, arY_mB, alen_mI, fld_sfl_ne, fld_sfl_same, Option.isSome_some, pok_i, b1z, b01, z10, b1o, Int32.zero_add, vu_vu, upd_eq, upd_ne, true_or, or_true, hy, hp']
end TXT
