/-! the reference: to spare -/
def m_ov (all b : Nat → Int32) : Nat → Nat → Int32 → Int32
  | 0, _, s => s
  | m + 1, k, s => m_ov all b m (k + 1) (s + (b k - all (9 + k)))
def m_over (all b : Nat → Int32) (S i j : Nat) : Int32 := m_ov all b (j + 1 - i) i ((if i = 0 then 0 else all (16 + i)) + (if j + 1 < S then all (17 + j) else 0))
theorem sp_ovLoop {X : Nat × (Nat → Int32)} {d N0 K0 : Nat} {f : Nat → e_C} {Q : t_Q} {all b : Nat → Int32} {j : Nat} {x : Int32} (mr : MR f) (ma : arI (f 172) = some (4182, all)) (mb : arI (f 179) = some (8, b)) (hj : j < 8) : ∀ (m kk : Nat) (s : Int32), kk + m = j + 1 → Q f N0 K0 (some (.int (m_ov all b m kk s))) → TT X d 211 49 [.ref 171, .int x, .int (nI j), .int s, .int (nI kk)] [] f N0 K0 Q := by
  have m1 := mr.1
  have m8 := mr.2.2.2.2.2.2.2.1
  intro m
  induction m with
  | zero =>
    intro kk s hk hq
    have hc : (j < kk) = True := eq_true (by omega)
    simp (disch := first | omega | decide) only [s211_49, s211_51, s211_52, s211_82, s211_83, ix_lt, hc, if_true]
    exact hq
  | succ m ih =>
    intro kk s hk hq
    have hc : (j < kk) = False := eq_false (by omega)
    simp (disch := first | omega | decide) only [s211_49, s211_51, s211_52, ix_lt, hc, if_false]
    simp (disch := first | omega | decide) only [s211_55, s211_56, s211_57, s211_60, s211_62, s211_63, s211_64, s211_67, s211_69, s211_71, s211_72, s211_73, s211_74, s211_75, s211_76, s211_79, m1, m8, ow_some, ma, mb, lt_add, ix_in, ix_cl, true_and, ix_one]
    exact ih (kk + 1) _ (by omega) hq
theorem sp_overOf {X : Nat × (Nat → Int32)} {d N0 K0 : Nat} {f : Nat → e_C} {all b : Nat → Int32} {S P i j : Nat} {a3 a4 : Value} (mr : MR f) (ma : arI (f 172) = some (4182, all)) (mb : arI (f 179) = some (8, b)) (A : AL all S P) (hij : i ≤ j) (hj : j < S) : PU X d 211 [.ref 171, .int (nI i), .int (nI j), a3, a4] f N0 K0 (some (.int (m_over all b S i j))) := by
  obtain ⟨A1, A2, A3, -⟩ := A
  have m1 := mr.1
  have e1 : nI (17 + i) - 1 = nI (17 + i - 1) := by rw [show (1 : Int32) = nI 1 from rfl, pk_sub (by omega)]
  have e2 : nI S - 1 = nI (S - 1) := by rw [show (1 : Int32) = nI 1 from rfl, pk_sub (by omega)]
  have e3 : (nI i ≤ 0) = (i ≤ 0) := le_lt (c := 0) (by omega) (by omega)
  unfold PU
  have h2 : ∀ (x : Int32) (Q : t_Q), Q f N0 K0 (some (.int (m_ov all b (j + 1 - i) i (x + (if j + 1 < S then all (17 + j) else 0))))) → TT X d 211 19 [.ref 171, .int (nI i), .int (nI j), a3, a4] [.int x] f N0 K0 Q := by
    intro x Q hQ
    simp (disch := first | omega | decide) only [s211_19, s211_20, s211_21, s211_24, s211_25, s211_26, s211_27, s211_28, m1, ow_some, ma, lt_in, lt_cl, true_and, A1, e2, ix_le]
    by_cases h : j + 1 < S
    · have hc : (S - 1 ≤ j) = False := eq_false (by omega)
      rw [if_pos h] at hQ
      simp (disch := first | omega | decide) only [s211_31, s211_32, s211_35, s211_37, s211_38, s211_39, s211_40, s211_43, s211_44, s211_45, s211_46, s211_47, hc, if_false, m1, ow_some, ma, lt_add, ix_in, ix_cl, true_and]
      exact sp_ovLoop mr ma mb (by omega) (j + 1 - i) i _ (by omega) hQ
    · have hc : (S - 1 ≤ j) = True := eq_true (by omega)
      rw [if_neg h] at hQ
      simp (disch := first | omega | decide) only [s211_43, s211_44, s211_45, s211_46, s211_47, hc, if_true]
      exact sp_ovLoop mr ma mb (by omega) (j + 1 - i) i _ (by omega) hQ
  simp (disch := first | omega | decide) only [s211_0, s211_1, e3]
  by_cases h0 : i = 0
  · subst h0
    simp only [Nat.le_refl, if_true, s211_18]
    exact h2 _ _ ⟨rfl, rfl, rfl, by simp [m_over]⟩
  · have hc : (i ≤ 0) = False := eq_false (by omega)
    simp (disch := first | omega | decide) only [hc, if_false, s211_4, s211_5, s211_8, s211_10, s211_11, s211_12, s211_13, s211_14, s211_15, m1, ow_some, ma, lt_add, e1, ix_in, ix_cl, true_and]
    refine h2 _ _ ⟨rfl, rfl, rfl, ?_⟩
    rw [m_over, if_neg h0, show 17 + i - 1 = 16 + i by omega]
def m_sl (all b : Nat → Int32) (S i : Nat) : Nat → Nat → Int32 → Int32
  | 0, _, s => s
  | m + 1, j, s => m_sl all b S i m (j + 1) (if m_over all b S i j < s then m_over all b S i j else s)
def m_so (all b : Nat → Int32) (S : Nat) : Nat → Nat → Int32 → Int32
  | 0, _, s => s
  | m + 1, i, s => m_so all b S m (i + 1) (m_sl all b S i (S - i) i s)
/-- to spare -/
def m_spare (all b : Nat → Int32) (S : Nat) : Int32 := m_so all b S S 0 268435456
