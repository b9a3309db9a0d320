/-! the reference's whole state -/
abbrev m_T : Type := (Nat → Int32) × (Int32 × Int32 × Int32) × (Nat → Int32) × (Nat → Int32) × (Nat → Int32) × (Nat → Int32) × (Nat → Int64)
/-- all; bytes on the tape, fault, its place; tape; which images; trays' sorts, sizes, numbers -/
def m_ref : List (Nat × Nat) := [(1, 172), (2, 173), (3, 174), (4, 175), (16, 176), (17, 177), (18, 178), (19, 179), (20, 180), (23, 181), (24, 182), (25, 183), (26, 184), (27, 185), (28, 186), (29, 187), (30, 188)]
def m_obj (s : m_T) (c : e_C) : Prop := (∀ q ∈ m_ref, fld c 12 q.1 = some (.ref q.2)) ∧ (∀ j ∈ [0, 6, 7, 8, 9, 10, 11, 12, 15, 21, 22], ∃ x, fld c 12 j = some (.int x)) ∧ fld c 12 5 = some (.int s.2.1.1) ∧ fld c 12 13 = some (.int s.2.1.2.1) ∧ fld c 12 14 = some (.int s.2.1.2.2)
def mcell (a : Nat) (s : m_T) (c : e_C) : Prop :=
  if a = 171 then m_obj s c
  else if a = 172 then arI c = some (4182, s.1)
  else if a = 173 then arZ c = some (2, s.2.2.2.1)
  else if a = 174 then arI c = some (900, s.2.2.1)
  else if a = 175 then ∃ g, arI c = some (1394, g)
  else if a = 176 then ∃ g, arI c = some (9, g)
  else if a = 177 then ∃ g, arI c = some (900, g)
  else if a = 178 then ∃ g, arI c = some (7, g)
  else if a = 179 then ∃ g, arI c = some (8, g)
  else if a = 180 then ∃ g, arI c = some (40, g)
  else if a = 181 then ∃ g, arZ c = some (512, g)
  else if a = 182 then ∃ g, arZ c = some (512, g)
  else if a = 183 then ∃ g, arI c = some (9, g)
  else if a = 184 then ∃ g, arZ c = some (100, g)
  else if a = 185 then ∃ g, arI c = some (512, g)
  else if a = 186 then arI c = some (4, s.2.2.2.2.1)
  else if a = 187 then arI c = some (4, s.2.2.2.2.2.1)
  else arL c = some (160, s.2.2.2.2.2.2)
def MV (f : Nat → e_C) (s : m_T) : Prop := ∀ a, 171 ≤ a → a < 189 → mcell a s (f a)
def SM (f f' : Nat → e_C) : Prop := ∀ a, (a < 171 ∨ 180 ≤ a) → f' a = f a
/-- all the reference's cells may be others -/
def SW (f f' : Nat → e_C) : Prop := ∀ a, (a < 171 ∨ 189 ≤ a) → f' a = f a
theorem SW.rf {f : Nat → e_C} : SW f f := fun _ _ => rfl
theorem SW.tr {f g h : Nat → e_C} (h1 : SW f g) (h2 : SW g h) : SW f h := fun a ha => (h2 a ha).trans (h1 a ha)
theorem SW.up {f : Nat → e_C} {a : Nat} {c : e_C} (h1 : 171 ≤ a) (h2 : a < 189) : SW f (va_up f a c) := fun b hb => vu_ne (by omega)
theorem SM.w {f f' : Nat → e_C} (h : SM f f') : SW f f' := fun a ha => h a (by omega)
theorem SM.rf {f : Nat → e_C} : SM f f := fun _ _ => rfl
theorem SM.tr {f g h : Nat → e_C} (h1 : SM f g) (h2 : SM g h) : SM f h := fun a ha => (h2 a ha).trans (h1 a ha)
theorem SM.up {f : Nat → e_C} {a : Nat} {c : e_C} (h1 : 171 ≤ a) (h2 : a < 180) : SM f (va_up f a c) := fun b hb => vu_ne (by omega)
theorem SM.sx {L : List Nat} {f f' : Nat → e_C} (h : SX L f f') (hL : ∀ a ∈ L, 171 ≤ a ∧ a < 180) : SM f f' := fun a ha => h a (fun z => by have := hL a z; omega)
theorem MV.mr {f : Nat → e_C} {s : m_T} (h : MV f s) : MR f := by
  have h1 : m_obj s (f 171) := h 171 (by omega) (by omega)
  have h2 := h1.1
  simp only [m_ref, List.forall_mem_cons] at h2
  obtain ⟨q1, q2, q3, q4, q5, q6, q7, q8, q9, q10, q11, q12, q13, q14, q15, q16, q17, -⟩ := h2
  exact ⟨q1, q2, q3, q4, q5, q6, q7, q8, q9, q10, q11, q12, q13, q14, q15, q16, q17⟩
theorem MV.ms {f : Nat → e_C} {s : m_T} (h : MV f s) : MS f s.1 := ⟨h.mr, h 172 (by omega) (by omega), h 177 (by omega) (by omega), h 178 (by omega) (by omega), h 179 (by omega) (by omega)⟩
theorem MV.up {f : Nat → e_C} {s : m_T} {a : Nat} {c : e_C} (h : MV f s) (hc : mcell a s c) : MV (va_up f a c) s := by
  intro b h1 h2
  by_cases hb : b = a
  · subst hb; rw [vu_eq]; exact hc
  · rw [vu_ne hb]; exact h b h1 h2
/-- 'all' changed -/
theorem MV.all {f : Nat → e_C} {s : m_T} {all' : Nat → Int32} (h : MV f s) : MV (va_up f 172 (.inl (.int, 4182, .inl all'))) (all', s.2) := by
  intro b h1 h2
  by_cases hb : b = 172
  · subst hb; rw [vu_eq]; rfl
  · rw [vu_ne hb]
    have := h b h1 h2
    unfold mcell at this ⊢
    simp only [hb, if_false] at this ⊢
    exact this
theorem MV.sx {f f' : Nat → e_C} {s : m_T} (h : MV f s) (hs : SX [177, 178, 179] f f') (M : MS f' s.1) : MV f' s := by
  intro b h1 h2
  by_cases hb : b ∈ [177, 178, 179]
  · simp only [List.mem_cons, List.not_mem_nil, or_false] at hb
    rcases hb with rfl | rfl | rfl
    · exact M.2.2.1
    · exact M.2.2.2.1
    · exact M.2.2.2.2
  · rw [hs b hb]; exact h b h1 h2
/-- a scratch number of the object written -/
theorem MV.num {f : Nat → e_C} {s : m_T} {j : Nat} {x : Int32} (h : MV f s) (hj : j ∈ [0, 6, 7, 8, 9, 10, 11, 12, 15, 21, 22]) : MV (va_up f 171 (sfl (f 171) j (.int x))) s := by
  refine h.up ?_
  have h1 : m_obj s (f 171) := h 171 (by omega) (by omega)
  obtain ⟨a1, a2, a3, a4, a5⟩ := h1
  have hne : ∀ q ∈ m_ref, q.1 ≠ j := by
    intro q hq e
    subst e
    revert hj
    revert q
    decide
  have hsome : (fld (f 171) 12 j).isSome = true := by
    obtain ⟨y, hy⟩ := a2 j hj
    rw [hy]; rfl
  show m_obj s _
  refine ⟨fun q hq => by rw [fld_sfl_ne (hne q hq)]; exact a1 q hq, fun i hi => ?_, ?_, ?_, ?_⟩
  · by_cases hij : i = j
    · subst hij; exact ⟨x, fld_sfl_same hsome⟩
    · rw [fld_sfl_ne hij]; exact a2 i hi
  · rw [fld_sfl_ne (by intro e; subst e; revert hj; decide)]; exact a3
  · rw [fld_sfl_ne (by intro e; subst e; revert hj; decide)]; exact a4
  · rw [fld_sfl_ne (by intro e; subst e; revert hj; decide)]; exact a5
theorem MV.has {f : Nat → e_C} {s : m_T} {j : Nat} (h : MV f s) (hj : j ∈ [0, 6, 7, 8, 9, 10, 11, 12, 15, 21, 22]) : (fld (f 171) 12 j).isSome = true := by
  have h1 : m_obj s (f 171) := h 171 (by omega) (by omega)
  obtain ⟨y, hy⟩ := h1.2.1 j hj
  rw [hy]; rfl
/-- it falls, if it doesn't stand -/
def m_fall (all : Nat → Int32) (S P T : Nat) : Nat → Int32 := if m_hold all S P T then all else upd all 54 1
theorem sp_falls {X : Nat × (Nat → Int32)} {d N0 K0 : Nat} {f : Nat → e_C} {s : m_T} {S P T : Nat} (V : MV f s) (A : AL s.1 S P) (hT : s.1 53 = nI T) (hT2 : T < 512) :
    TT X (d + 6) 201 0 [.ref 171] [] f N0 K0 (fun f' n' k' v => n' = N0 ∧ k' = K0 ∧ v = none ∧ SM f f' ∧ MV f' (m_fall s.1 S P T, s.2)) := by
  have M := V.ms
  have m1 := M.1.1
  have ma := M.2.1
  simp (disch := first | omega | decide) only [s201_0, s201_1, s201_2, s201_5, s201_7, m1, ow_some, ma, lt_in, lt_cl, true_and, hT]
  refine k201_8 (cno_MR M.1) (Nat.le_of_ble_eq_true rfl) (sp_holdsBy M A hT2) ?_
  rintro f' n' k' v ⟨rfl, rfl, hs, M1, rfl⟩
  have V1 := V.sx hs M1
  have hsm : SM f f' := SM.sx hs (by decide)
  have h10 : ¬ (1 : Int32) = 0 := by decide
  have m1' := M1.1.1
  have ma' := M1.2.1
  unfold m_fall
  by_cases h : m_hold s.1 S P T = true
  · simp only [Option.toList, List.cons_append, List.nil_append, s201_11, s201_22, h, if_true, h10, not_false_eq_true]
    exact ⟨trivial, trivial, trivial, hsm, V1⟩
  · simp (disch := first | omega | decide) only [Option.toList, List.cons_append, List.nil_append, s201_11, s201_14, s201_15, s201_18, s201_20, s201_21, s201_22, h, if_false, Bool.false_eq_true, not_true, m1', ow_some, ma', lt_in, lt_cl, true_and]
    exact ⟨hsm.tr (SM.up (by omega) (by omega)), V1.all⟩
