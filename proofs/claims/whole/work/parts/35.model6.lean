/-! the reference: what one bears, what steps bear -/
def AL (all : Nat → Int32) (S P : Nat) : Prop := all 1 = nI S ∧ 1 ≤ S ∧ S ≤ 8 ∧ all 52 = nI P ∧ P ≤ 9 ∧ (∀ p, p < P → ∃ s, s < S ∧ all (57 + p) = nI s) ∧ (∀ p, p < 9 → all (43 + p) = -1 ∨ ∃ j, j < 9 ∧ all (43 + p) = nI j) ∧ ∀ law, law < 2 → all (3 + law) = 0 ∨ (all (3 + law) = 1 ∧ ∃ F Mn, all (5 + law) = nI F ∧ all (7 + law) = nI Mn ∧ F + Mn ≤ 900 ∧ m_vd (fun i => all (494 + F + i)) Mn 0 0)
def m_clip (x : Int32) : Int32 := if x < 0 then 0 else if 999 < x then 999 else x
/-- what p bears, were the set there -/
def m_bears (all : Nat → Int32) (p S : Nat) : Int32 := m_clip (if all 3 = 0 then all (66 + p) else l_law all (all 5).toNatClampNeg (all 7).toNatClampNeg p (m_wed all p S))
theorem sp_bearsIn {X : Nat × (Nat → Int32)} {d N0 K0 : Nat} {f : Nat → e_C} {all : Nat → Int32} {S P p T : Nat} {a3 : Value} (M : MS f all) (A : AL all S P) (hp : p < 9) (hT : T < 512) :
    TT X (d + 2) 206 0 [.ref 171, .int (nI p), .int (nI T), a3] [] f N0 K0 (fun f' n' k' v => n' = N0 ∧ k' = K0 ∧ SX [177, 178] f f' ∧ MS f' all ∧ v = some (.int (m_bears all p T))) := by
  have M0 := M
  obtain ⟨mr, ma, -⟩ := M
  have m1 := mr.1
  obtain ⟨-, -, -, -, -, -, A7, A8⟩ := A
  have tail : ∀ (f' : Nat → e_C) (x : Int32) (Q : t_Q), Q f' N0 K0 (some (.int (m_clip x))) → TT X (d + 2) 206 33 [.ref 171, .int (nI p), .int (nI T), a3] [.int x] f' N0 K0 Q := by
    intro f' x Q hQ
    unfold m_clip at hQ
    simp only [s206_33, s206_34, s206_35, s206_38, s206_39, s206_42, s206_43, s206_46, s206_49, s206_52, s206_55, s206_56]
    by_cases h0 : 0 ≤ x
    · have h0' : ¬ x < 0 := Int32.not_lt.mpr h0
      by_cases h9 : x ≤ 999
      · have h9' : ¬ 999 < x := Int32.not_lt.mpr h9
        simpa [h0, h0', h9, h9'] using hQ
      · have h9' : 999 < x := Int32.not_le.mp h9
        simpa [h0, h0', h9, h9'] using hQ
    · have h0' : x < 0 := Int32.not_le.mp h0
      simpa [h0, h0'] using hQ
  unfold m_bears
  rcases A8 0 (by omega) with hl | ⟨hl, F, Mn, hF, hM, hFM, hv⟩
  · simp only [Nat.add_zero] at hl
    simp (disch := first | omega | decide) only [s206_0, s206_1, s206_4, s206_5, s206_6, s206_9, s206_10, s206_13, s206_15, s206_16, s206_17, s206_18, m1, ow_some, ma, lt_add, ix_in, ix_cl, lt_in, lt_cl, true_and, hl, not_true, if_false, if_true]
    exact tail _ _ _ ⟨rfl, rfl, SX.rf, M0, rfl⟩
  · simp only [Nat.add_zero] at hl
    have h10 : ¬ (1 : Int32) = 0 := by decide
    simp (disch := first | omega | decide) only [s206_0, s206_1, s206_4, s206_5, s206_6, m1, ow_some, ma, lt_in, lt_cl, true_and, hl, h10, not_false_eq_true, if_true, if_false]
    simp only [s206_21, s206_22, s206_23, s206_24, s206_25, s206_26]
    rw [p206_27 (cno_MR mr) (Nat.le_of_ble_eq_true rfl) (sp_wedIn M0 hT hp (A7 p hp))]
    refine k206_30 (cno_MR mr) (Nat.le_of_ble_eq_true rfl) (sp_reckons (law := 0) M0 (by omega) hp hF hM hFM hv) ?_
    rintro f' n' k' v ⟨rfl, rfl, hs, M1, rfl⟩
    have e1 : (all 5).toNatClampNeg = F := by rw [show all 5 = nI F from hF]; exact ix_cl (by omega)
    have e2 : (all 7).toNatClampNeg = Mn := by rw [show all 7 = nI Mn from hM]; exact ix_cl (by omega)
    rw [e1, e2]
    exact tail _ _ _ ⟨rfl, rfl, hs, M1, rfl⟩
/-- what steps bear, of the first people of a set -/
def m_bo (all : Nat → Int32) (T : Nat) : Nat → Nat → Int32
  | 0 => fun k => 10 * all (84 + k)
  | p + 1 => if T.testBit p then upd (m_bo all T p) (all (57 + p)).toNatClampNeg (m_bo all T p (all (57 + p)).toNatClampNeg + m_bears all p T) else m_bo all T p
