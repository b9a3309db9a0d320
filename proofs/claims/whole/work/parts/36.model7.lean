theorem sp_lays1 {X : Nat × (Nat → Int32)} {d N0 K0 : Nat} {Q : t_Q} {all : Nat → Int32} {x : Int32} : ∀ (m j : Nat) (f : Nat → e_C) (b : Nat → Int32), j + m = 8 → MR f → arI (f 172) = some (4182, all) → arI (f 179) = some (8, b) → (∀ i, i < j → b i = 10 * all (84 + i)) → (∀ f' b', SX [179] f f' → arI (f' 179) = some (8, b') → (∀ i, i < 8 → b' i = 10 * all (84 + i)) → TT X d 204 34 [.ref 171, .int x, .int (nI 0)] [] f' N0 K0 Q) → TT X d 204 2 [.ref 171, .int x, .int (nI j)] [] f N0 K0 Q := by
  intro m
  induction m with
  | zero =>
    intro j f b hj mr ma mb hb hQ
    have hc : (8 ≤ j) = True := eq_true (by omega)
    simp (disch := first | omega | decide) only [s204_2, s204_3, s204_5, s204_32, s204_33, lt_le, hc, if_true]
    exact hQ f b SX.rf mb (fun i hi => hb i (by omega))
  | succ m ih =>
    intro j f b hj mr ma mb hb hQ
    have m1 := mr.1
    have m8 := mr.2.2.2.2.2.2.2.1
    have hc : (8 ≤ j) = False := eq_false (by omega)
    simp (disch := first | omega | decide) only [s204_2, s204_3, s204_5, lt_le, hc, if_false]
    simp (disch := first | omega | decide) only [s204_8, s204_9, s204_12, s204_13, s204_15, s204_16, s204_19, s204_21, s204_22, s204_23, s204_24, s204_25, s204_26, s204_29, m1, m8, ow_some, ma, mb, lt_add, ix_in, ix_cl, true_and, ix_one]
    have hs : SX [179] f (va_up f 179 (.inl (.int, 8, .inl (upd b j (10 * all (84 + j)))))) := SX.up (by simp)
    refine ih (j + 1) _ (upd b j (10 * all (84 + j))) (by omega) (mr.same hs (by decide)) (by rw [hs 172 (by decide)]; exact ma) (by rw [vu_eq]; rfl) ?_ ?_
    · intro i hi
      by_cases h : i = j
      · subst h; simp [upd]
      · simp only [upd, if_neg h]; exact hb i (by omega)
    · intro f' b' hs' hb' hv'
      exact hQ f' b' (hs.tr hs') hb' hv'
theorem sp_lays2 {X : Nat × (Nat → Int32)} {d N0 K0 : Nat} {Q : t_Q} {all : Nat → Int32} {S P T : Nat} (A : AL all S P) (hT : T < 512) : ∀ (m j : Nat) (f : Nat → e_C) (b : Nat → Int32), j + m = P → MS f all → arI (f 179) = some (8, b) → (∀ i, i < 8 → b i = m_bo all T j i) → (∀ f' b', SX [177, 178, 179] f f' → MS f' all → arI (f' 179) = some (8, b') → (∀ i, i < 8 → b' i = m_bo all T P i) → Q f' N0 K0 none) → TT X (d + 3) 204 34 [.ref 171, .int (nI T), .int (nI j)] [] f N0 K0 Q := by
  have A0 := A
  obtain ⟨A1, A2, A3, A4, A5, A6, A7, A8⟩ := A
  intro m
  induction m with
  | zero =>
    intro j f b hj M mb hb hQ
    obtain rfl : j = P := by omega
    have m1 := M.1.1
    have ma := M.2.1
    simp (disch := first | omega | decide) only [s204_34, s204_35, s204_36, s204_39, s204_41, s204_42, s204_83, m1, ow_some, ma, lt_in, lt_cl, true_and, A4, ix_le, Nat.le_refl, if_true]
    exact hQ f b SX.rf M mb hb
  | succ m ih =>
    intro j f b hj M mb hb hQ
    have m1 := M.1.1
    have m8 := M.1.2.2.2.2.2.2.2.1
    have ma := M.2.1
    have hc : (P ≤ j) = False := eq_false (by omega)
    simp (disch := first | omega | decide) only [s204_34, s204_35, s204_36, s204_39, s204_41, s204_42, s204_45, s204_46, s204_47, m1, ow_some, ma, lt_in, lt_cl, true_and, A4, ix_le, hc, if_false]
    rw [p204_48 (Nat.le_of_ble_eq_true rfl) (sp_isIn hT (show j < 9 by omega))]
    simp only [Option.toList, List.cons_append, List.nil_append]
    by_cases hbit : T.testBit j = true
    · obtain ⟨s, hs, hst⟩ := A6 j (by omega)
      have h10 : ¬ (1 : Int32) = 0 := by decide
      simp (disch := first | omega | decide) only [s204_51, s204_54, s204_55, s204_58, s204_59, s204_62, s204_64, s204_65, s204_66, s204_67, s204_68, s204_69, s204_70, s204_71, hbit, if_true, h10, if_false, m1, m8, ow_some, ma, mb, lt_add, ix_in, ix_cl, true_and, hst]
      refine k204_72 (cno_MR M.1) (Nat.le_of_ble_eq_true rfl) (sp_bearsIn M A0 (by omega) hT) ?_
      rintro f' n' k' v ⟨rfl, rfl, hs1, M1, rfl⟩
      have mb1 : arI (f' 179) = some (8, b) := by rw [hs1 179 (by decide)]; exact mb
      simp (disch := first | omega | decide) only [Option.toList, List.cons_append, List.nil_append, s204_75, s204_76, s204_77, s204_80, ow_some, mb1, ix_in, ix_cl, true_and, ix_one]
      have hs2 : SX [179] f' (va_up f' 179 (.inl (.int, 8, .inl (upd b s (b s + m_bears all j T))))) := SX.up (by simp)
      have M2 : MS (va_up f' 179 (.inl (.int, 8, .inl (upd b s (b s + m_bears all j T))))) all := M1.same hs2 (by decide) (by decide) (Or.inl (by decide)) (Or.inl (by decide)) (Or.inr ⟨_, by rw [vu_eq]; rfl⟩)
      have hs3 : SX [177, 178, 179] f (va_up f' 179 (.inl (.int, 8, .inl (upd b s (b s + m_bears all j T))))) := fun a ha => by
        have h1 : a ∉ [177, 178] := by simp at ha ⊢; exact ⟨ha.1, ha.2.1⟩
        have h2 : a ∉ [179] := by simp at ha ⊢; exact ha.2.2
        rw [hs2 a h2, hs1 a h1]
      refine ih (j + 1) _ (upd b s (b s + m_bears all j T)) (by omega) M2 (by rw [vu_eq]; rfl) ?_ ?_
      · intro i hi
        rw [m_bo, if_pos hbit, hst, ix_cl (by omega), ← hb s (by omega)]
        by_cases h : i = s
        · subst h; simp [upd]
        · simp only [upd, if_neg h]; exact hb i hi
      · intro f2 b2 hs4 M4 hb4 hv4
        exact hQ f2 b2 (hs3.tr hs4) M4 hb4 hv4
    · simp only [s204_51, s204_77, s204_80, hbit, if_false, if_true, ix_one, Bool.false_eq_true]
      refine ih (j + 1) f b (by omega) M mb ?_ hQ
      intro i hi
      rw [m_bo, if_neg hbit]
      exact hb i hi
theorem sp_lays {X : Nat × (Nat → Int32)} {d N0 K0 : Nat} {f : Nat → e_C} {all : Nat → Int32} {S P T : Nat} {a2 : Value} (M : MS f all) (A : AL all S P) (hT : T < 512) :
    TT X (d + 3) 204 0 [.ref 171, .int (nI T), a2] [] f N0 K0 (fun f' n' k' v => n' = N0 ∧ k' = K0 ∧ v = none ∧ SX [177, 178, 179] f f' ∧ MS f' all ∧ ∃ b, arI (f' 179) = some (8, b) ∧ ∀ i, i < 8 → b i = m_bo all T P i) := by
  obtain ⟨b0, mb⟩ := M.2.2.2.2
  simp only [s204_0, s204_1]
  refine sp_lays1 8 0 f b0 rfl M.1 M.2.1 mb (fun i hi => by omega) ?_
  intro f1 b1 hs1 hb1 hv1
  have M1 : MS f1 all := M.same hs1 (by decide) (by decide) (Or.inl (by decide)) (Or.inl (by decide)) (Or.inr ⟨_, hb1⟩)
  refine sp_lays2 A hT P 0 f1 b1 (by omega) M1 hb1 (fun i hi => hv1 i hi) ?_
  intro f2 b2 hs2 M2 hb2 hv2
  refine ⟨rfl, rfl, rfl, fun a ha => ?_, M2, b2, hb2, hv2⟩
  have h1 : a ∉ [179] := by simp at ha ⊢; exact ha.2.2
  rw [hs2 a ha, hs1 a h1]
