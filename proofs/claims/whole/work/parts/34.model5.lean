theorem sv_ne {L : List Nat} {f f' : Nat → e_C} (hs : SX L f f') {a : Nat} {P : e_C → Prop} (ha : a ∉ L) (h : P (f a)) : P (f' a) := by rw [hs a ha]; exact h
theorem MS.same {L : List Nat} {f f' : Nat → e_C} {all : Nat → Int32} (h : MS f all) (hs : SX L f f') (h1 : 171 ∉ L) (h2 : 172 ∉ L) (h3 : 177 ∉ L ∨ ∃ g, arI (f' 177) = some (900, g)) (h4 : 178 ∉ L ∨ ∃ g, arI (f' 178) = some (7, g)) (h5 : 179 ∉ L ∨ ∃ g, arI (f' 179) = some (8, g)) : MS f' all := by
  obtain ⟨a1, a2, a3, a4, a5⟩ := h
  refine ⟨a1.same hs h1, by rw [hs 172 h2]; exact a2, ?_, ?_, ?_⟩
  · rcases h3 with h | h
    · rw [hs 177 h]; exact a3
    · exact h
  · rcases h4 with h | h
    · rw [hs 178 h]; exact a4
    · exact h
  · rcases h5 with h | h
    · rw [hs 179 h]; exact a5
    · exact h
set_option maxHeartbeats 4000000 in
theorem sp_reckons {X : Nat × (Nat → Int32)} {d N0 K0 : Nat} {f : Nat → e_C} {all : Nat → Int32} {law p F Mn : Nat} {wed : Int32} {a4 a5 a6 : Value} (M : MS f all) (hlaw : law < 2) (hp : p < 9) (hF : all (5 + law) = nI F) (hM : all (7 + law) = nI Mn) (hFM : F + Mn ≤ 900) (hv : m_vd (fun i => all (494 + F + i)) Mn 0 0) :
    TT X (d + 1) 208 0 [.ref 171, .int (nI law), .int (nI p), .int wed, a4, a5, a6] [] f N0 K0 (fun f' n' k' v => n' = N0 ∧ k' = K0 ∧ SX [177, 178] f f' ∧ MS f' all ∧ v = some (.int (l_law all F Mn p wed))) := by
  have M0 := M
  obtain ⟨mr, ma, ⟨g0, mg⟩, ⟨w0, mw⟩, b0, mb⟩ := M
  have m1 := mr.1
  have m6 := mr.2.2.2.2.2.1
  have m7 := mr.2.2.2.2.2.2.1
  have q7 : ((7 : Int32) ≠ 0) = True := by simp
  simp (disch := first | omega | decide) only [s208_0, s208_1, s208_4, s208_5, s208_6, s208_7, s208_8, s208_11, s208_12, s208_13, s208_16, s208_18, s208_19, s208_20, s208_21, s208_22, s208_23, s208_26, s208_27, s208_28, s208_31, s208_33, s208_34, s208_35, s208_38, s208_40, s208_41, s208_42, s208_43, s208_44, s208_45, s208_46, s208_49, s208_50, s208_51, s208_54, s208_56, s208_57, s208_58, s208_59, s208_60, s208_61, s208_64, s208_65, s208_66, s208_69, s208_71, s208_72, s208_74, s208_75, s208_76, s208_77, s208_80, s208_81, s208_82, s208_83, s208_84, s208_87, s208_89, s208_90, m1, m6, m7, ow_some, ma, mw, lt_add, ix_in, ix_cl, lt_in, lt_cl, true_and, vu_eq, vu_ne, arI_mk, q7]
  generalize hf1 : va_up _ _ _ = f1
  have hs1 : SX [178] f f1 := by
    subst hf1
    intro a ha
    have : ¬ a = 178 := by simpa using ha
    simp [va_up, this]
  obtain ⟨w1, mw1, hw1⟩ : ∃ w1, arI (f1 178) = some (7, w1) ∧ ∀ i, i < 6 → w1 i = m_words all p wed i := by
    subst hf1
    refine ⟨_, by rw [vu_eq]; rfl, ?_⟩
    intro i hi
    rcases (show i = 0 ∨ i = 1 ∨ i = 2 ∨ i = 3 ∨ i = 4 ∨ i = 5 by omega) with rfl | rfl | rfl | rfl | rfl | rfl <;> simp [upd, m_words]
  have M1 : MS f1 all := M0.same hs1 (by decide) (by decide) (Or.inl (by decide)) (Or.inr ⟨_, mw1⟩) (Or.inl (by decide))
  have hcat : ∀ (x : Int32) (r : Nat), e_cat [.int x, .ref r] ≤ 8 := fun _ _ => Nat.le_of_ble_eq_true rfl
  rw [p208_91 (cno_MR M1.1) (hcat _ _) (sp_waitOf M1 hp)]
  simp (disch := first | omega | decide) only [Option.toList, List.cons_append, List.nil_append, s208_94, s208_95, s208_96, s208_98, s208_99, ow_some, mw1, lt_in, lt_cl, true_and]
  have hs2 : SX [178] f (va_up f1 178 (.inl (.int, 7, .inl (upd w1 6 (m_wait all p))))) := hs1.tr (SX.up (by simp))
  refine sp_reckLoop (w := upd w1 6 (m_wait all p)) hlaw hF hM hFM Mn 0 0 _ g0 _ (mr.same hs2 (by decide)) (by rw [hs2 172 (by decide)]; exact ma) (by rw [hs2 177 (by decide)]; exact mg) (by rw [vu_eq]; rfl) (by omega) (by omega) hv ?_
  intro f' hs' hg'
  have hs3 : SX [177, 178] f f' := fun a ha => by
    have h1 : a ∉ [177] := by simp at ha ⊢; exact ha.1
    have h2 : a ∉ [178] := by simp at ha ⊢; exact ha.2
    rw [hs' a h1, hs2 a h2]
  refine ⟨rfl, rfl, hs3, M0.same hs3 (by decide) (by decide) (Or.inr ⟨_, hg'⟩) (Or.inr ⟨upd w1 6 (m_wait all p), ?_⟩) (Or.inl (by decide)), ?_⟩
  · rw [hs' 178 (by decide), vu_eq]; rfl
  · rw [l_law_of (w := upd w1 6 (m_wait all p)) ?_ hv]
    intro i hi
    by_cases h6 : i = 6
    · subst h6; simp [upd, m_words]
    · simp only [upd, if_neg h6]
      exact hw1 i (by omega)
