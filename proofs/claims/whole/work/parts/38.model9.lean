theorem sp_slLoop {X : Nat × (Nat → Int32)} {d N0 K0 : Nat} {f : Nat → e_C} {Q : t_Q} {all b : Nat → Int32} {S P i : Nat} {x : Int32} (mr : MR f) (ma : arI (f 172) = some (4182, all)) (mb : arI (f 179) = some (8, b)) (A : AL all S P) (hi : i < S) : ∀ (m j : Nat) (s : Int32), j + m = S → i ≤ j → (∀ u, TT X (d + 1) 203 10 [.ref 171, .int x, .int (m_sl all b S i m j s), .int (nI (i + 1)), u] [] f N0 K0 Q) → TT X (d + 1) 203 23 [.ref 171, .int x, .int s, .int (nI i), .int (nI j)] [] f N0 K0 Q := by
  have m1 := mr.1
  have A1 := A.1
  have A3 := A.2.2.1
  intro m
  induction m with
  | zero =>
    intro j s hj hij hQ
    have hc : (S ≤ j) = True := eq_true (by omega)
    simp (disch := first | omega | decide) only [s203_23, s203_25, s203_26, s203_29, s203_30, s203_31, s203_63, s203_66, m1, ow_some, ma, lt_in, lt_cl, true_and, A1, ix_le, hc, if_true, ix_one]
    exact hQ _
  | succ m ih =>
    intro j s hj hij hQ
    have hc : (S ≤ j) = False := eq_false (by omega)
    have e2 : ∀ (lv rest : List Value) (Q : t_Q), e_cat rest ≤ 8 → TT X (d + 1) 203 38 lv (.int (nI j) :: .int (nI i) :: .ref 171 :: rest) f N0 K0 Q = TT X (d + 1) 203 41 lv (.int (m_over all b S i j) :: rest) f N0 K0 Q := fun lv rest Q h => p203_38 (cno_MR mr) h (sp_overOf mr ma mb A hij (by omega))
    have e3 : ∀ (lv rest : List Value) (Q : t_Q), e_cat rest ≤ 8 → TT X (d + 1) 203 49 lv (.int (nI j) :: .int (nI i) :: .ref 171 :: rest) f N0 K0 Q = TT X (d + 1) 203 52 lv (.int (m_over all b S i j) :: rest) f N0 K0 Q := fun lv rest Q h => p203_49 (cno_MR mr) h (sp_overOf mr ma mb A hij (by omega))
    have e0 : e_cat [] ≤ 8 := by decide
    simp (disch := first | omega | decide) only [s203_23, s203_25, s203_26, s203_29, s203_30, s203_31, m1, ow_some, ma, lt_in, lt_cl, true_and, A1, ix_le, hc, if_false]
    simp (disch := first | omega | decide | exact e0) only [s203_34, s203_35, s203_36, s203_41, s203_42, e2]
    by_cases h : s ≤ m_over all b S i j
    · have h' : ¬ m_over all b S i j < s := Int32.not_lt.mpr h
      simp only [h, if_true, s203_55, s203_56, s203_57, s203_60, ix_one]
      refine ih (j + 1) _ (by omega) (by omega) ?_
      rw [m_sl, if_neg h'] at hQ
      exact hQ
    · have h' : m_over all b S i j < s := Int32.not_le.mp h
      simp (disch := first | omega | decide | exact e0) only [h, if_false, s203_45, s203_46, s203_47, s203_52, s203_56, s203_57, s203_60, ix_one, e3]
      refine ih (j + 1) _ (by omega) (by omega) ?_
      rw [m_sl, if_pos h'] at hQ
      exact hQ
theorem sp_soLoop {X : Nat × (Nat → Int32)} {d N0 K0 : Nat} {f : Nat → e_C} {Q : t_Q} {all b : Nat → Int32} {S P : Nat} {x : Int32} (mr : MR f) (ma : arI (f 172) = some (4182, all)) (mb : arI (f 179) = some (8, b)) (A : AL all S P) : ∀ (m i : Nat) (s : Int32) (u : Value), i + m = S → Q f N0 K0 (some (.int (m_so all b S m i s))) → TT X (d + 1) 203 10 [.ref 171, .int x, .int s, .int (nI i), u] [] f N0 K0 Q := by
  have m1 := mr.1
  have A1 := A.1
  have A3 := A.2.2.1
  intro m
  induction m with
  | zero =>
    intro i s u hi hQ
    have hc : (S ≤ i) = True := eq_true (by omega)
    simp (disch := first | omega | decide) only [s203_10, s203_11, s203_12, s203_15, s203_16, s203_17, s203_69, s203_70, m1, ow_some, ma, lt_in, lt_cl, true_and, A1, ix_le, hc, if_true]
    exact hQ
  | succ m ih =>
    intro i s u hi hQ
    have hc : (S ≤ i) = False := eq_false (by omega)
    simp (disch := first | omega | decide) only [s203_10, s203_11, s203_12, s203_15, s203_16, s203_17, m1, ow_some, ma, lt_in, lt_cl, true_and, A1, ix_le, hc, if_false]
    simp only [s203_20, s203_21]
    refine sp_slLoop mr ma mb A (by omega) (S - i) i s (by omega) (Nat.le_refl _) ?_
    intro u2
    exact ih (i + 1) _ u2 (by omega) hQ
theorem m_ov_cong {all b b' : Nat → Int32} (h : ∀ k, k < 8 → b k = b' k) : ∀ (m k : Nat) (s : Int32), k + m ≤ 8 → m_ov all b m k s = m_ov all b' m k s := by
  intro m
  induction m with
  | zero => intro k s _; rfl
  | succ m ih => intro k s hk; rw [m_ov, m_ov, h k (by omega)]; exact ih _ _ (by omega)
theorem m_over_cong {all b b' : Nat → Int32} {S i j : Nat} (h : ∀ k, k < 8 → b k = b' k) (hij : i ≤ j) (hj : j < 8) : m_over all b S i j = m_over all b' S i j := m_ov_cong h _ _ _ (by omega)
theorem m_sl_cong {all b b' : Nat → Int32} {S i : Nat} (h : ∀ k, k < 8 → b k = b' k) : ∀ (m j : Nat) (s : Int32), i ≤ j → j + m ≤ 8 → m_sl all b S i m j s = m_sl all b' S i m j s := by
  intro m
  induction m with
  | zero => intro j s _ _; rfl
  | succ m ih => intro j s hi hj; rw [m_sl, m_sl, m_over_cong h hi (by omega)]; exact ih _ _ (by omega) (by omega)
theorem m_so_cong {all b b' : Nat → Int32} {S : Nat} (hS : S ≤ 8) (h : ∀ k, k < 8 → b k = b' k) : ∀ (m i : Nat) (s : Int32), i + m ≤ S → m_so all b S m i s = m_so all b' S m i s := by
  intro m
  induction m with
  | zero => intro i s _; rfl
  | succ m ih => intro i s hi; rw [m_so, m_so, m_sl_cong h _ _ _ (Nat.le_refl _) (by omega)]; exact ih _ _ (by omega)
/-- to spare, were the set there -/
def m_sp (all : Nat → Int32) (S P T : Nat) : Int32 := m_spare all (m_bo all T P) S
theorem sp_spareOf {X : Nat × (Nat → Int32)} {d N0 K0 : Nat} {f : Nat → e_C} {all : Nat → Int32} {S P T : Nat} {a2 a3 a4 : Value} (M : MS f all) (A : AL all S P) (hT : T < 512) :
    TT X (d + 4) 203 0 [.ref 171, .int (nI T), a2, a3, a4] [] f N0 K0 (fun f' n' k' v => n' = N0 ∧ k' = K0 ∧ SX [177, 178, 179] f f' ∧ MS f' all ∧ v = some (.int (m_sp all S P T))) := by
  simp only [s203_0, s203_1]
  refine k203_2 (cno_MR M.1) (Nat.le_of_ble_eq_true rfl) (sp_lays M A hT) ?_
  rintro f' n' k' v ⟨rfl, rfl, rfl, hs, M1, b, hb, hv⟩
  simp only [Option.toList, List.nil_append, s203_5, s203_7, s203_8, s203_9]
  refine sp_soLoop M1.1 M1.2.1 hb A S 0 _ _ (by omega) ⟨rfl, rfl, hs, M1, ?_⟩
  rw [m_sp, m_spare, m_so_cong A.2.2.1 hv S 0 _ (by omega)]
/-- it stands, were the set there -/
def m_hold (all : Nat → Int32) (S P T : Nat) : Bool := decide (0 ≤ m_sp all S P T)
theorem sp_holdsBy {X : Nat × (Nat → Int32)} {d N0 K0 : Nat} {f : Nat → e_C} {all : Nat → Int32} {S P T : Nat} (M : MS f all) (A : AL all S P) (hT : T < 512) :
    TT X (d + 5) 202 0 [.ref 171, .int (nI T)] [] f N0 K0 (fun f' n' k' v => n' = N0 ∧ k' = K0 ∧ SX [177, 178, 179] f f' ∧ MS f' all ∧ v = some (.int (if m_hold all S P T then 1 else 0))) := by
  simp only [s202_0, s202_1]
  refine k202_2 (cno_MR M.1) (Nat.le_of_ble_eq_true rfl) (sp_spareOf M A hT) ?_
  rintro f' n' k' v ⟨rfl, rfl, hs, M1, rfl⟩
  simp only [Option.toList, List.cons_append, List.nil_append, s202_5, s202_8, s202_9, s202_12, s202_13, m_hold]
  by_cases h : m_sp all S P T < 0
  · have h' : ¬ 0 ≤ m_sp all S P T := Int32.not_le.mpr h
    simp [h, h', hs, M1]
  · have h' : 0 ≤ m_sp all S P T := Int32.not_lt.mp h
    simp [h, h', hs, M1]
