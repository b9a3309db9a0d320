/-! the class's reader: its cells; plans are written -/
def RW (f : Nat → e_C) (b L : Nat) (kk pp u : Nat → Int32) : Prop := (187 ≤ b ∧ L ≤ 900) ∧ fld (f 99) 3 0 = some (.ref 100) ∧ fld (f 99) 3 1 = some (.ref 101) ∧ fld (f 99) 3 6 = some (.ref (b + 2)) ∧ ((fld (f 99) 3 5).isSome = true ∧ ∀ i ∈ [2, 3, 4, 7, 8], fld (f 99) 3 i = some (.int (u i))) ∧ arI (f 100) = some (901, kk) ∧ arI (f 101) = some (901, pp)
theorem RW.r0 {f : Nat → e_C} {b L : Nat} {kk pp u : Nat → Int32} (h : RW f b L kk pp u) : fld (f 99) 3 0 = some (.ref 100) := h.2.1
theorem RW.r1 {f : Nat → e_C} {b L : Nat} {kk pp u : Nat → Int32} (h : RW f b L kk pp u) : fld (f 99) 3 1 = some (.ref 101) := h.2.2.1
theorem RW.r6 {f : Nat → e_C} {b L : Nat} {kk pp u : Nat → Int32} (h : RW f b L kk pp u) : fld (f 99) 3 6 = some (.ref (b + 2)) := h.2.2.2.1
theorem RW.v2 {f : Nat → e_C} {b L : Nat} {kk pp u : Nat → Int32} (h : RW f b L kk pp u) : fld (f 99) 3 2 = some (.int (u 2)) := h.2.2.2.2.1.2 2 (by decide)
theorem RW.i2 {f : Nat → e_C} {b L : Nat} {kk pp u : Nat → Int32} (h : RW f b L kk pp u) : (fld (f 99) 3 2).isSome = true := by rw [h.v2]; rfl
theorem RW.v3 {f : Nat → e_C} {b L : Nat} {kk pp u : Nat → Int32} (h : RW f b L kk pp u) : fld (f 99) 3 3 = some (.int (u 3)) := h.2.2.2.2.1.2 3 (by decide)
theorem RW.i3 {f : Nat → e_C} {b L : Nat} {kk pp u : Nat → Int32} (h : RW f b L kk pp u) : (fld (f 99) 3 3).isSome = true := by rw [h.v3]; rfl
theorem RW.v4 {f : Nat → e_C} {b L : Nat} {kk pp u : Nat → Int32} (h : RW f b L kk pp u) : fld (f 99) 3 4 = some (.int (u 4)) := h.2.2.2.2.1.2 4 (by decide)
theorem RW.i4 {f : Nat → e_C} {b L : Nat} {kk pp u : Nat → Int32} (h : RW f b L kk pp u) : (fld (f 99) 3 4).isSome = true := by rw [h.v4]; rfl
theorem RW.v7 {f : Nat → e_C} {b L : Nat} {kk pp u : Nat → Int32} (h : RW f b L kk pp u) : fld (f 99) 3 7 = some (.int (u 7)) := h.2.2.2.2.1.2 7 (by decide)
theorem RW.i7 {f : Nat → e_C} {b L : Nat} {kk pp u : Nat → Int32} (h : RW f b L kk pp u) : (fld (f 99) 3 7).isSome = true := by rw [h.v7]; rfl
theorem RW.v8 {f : Nat → e_C} {b L : Nat} {kk pp u : Nat → Int32} (h : RW f b L kk pp u) : fld (f 99) 3 8 = some (.int (u 8)) := h.2.2.2.2.1.2 8 (by decide)
theorem RW.i8 {f : Nat → e_C} {b L : Nat} {kk pp u : Nat → Int32} (h : RW f b L kk pp u) : (fld (f 99) 3 8).isSome = true := by rw [h.v8]; rfl
theorem RW.i5 {f : Nat → e_C} {b L : Nat} {kk pp u : Nat → Int32} (h : RW f b L kk pp u) : (fld (f 99) 3 5).isSome = true := h.2.2.2.2.1.1
theorem RW.a0 {f : Nat → e_C} {b L : Nat} {kk pp u : Nat → Int32} (h : RW f b L kk pp u) : arI (f 100) = some (901, kk) := h.2.2.2.2.2.1
theorem RW.a1 {f : Nat → e_C} {b L : Nat} {kk pp u : Nat → Int32} (h : RW f b L kk pp u) : arI (f 101) = some (901, pp) := h.2.2.2.2.2.2
theorem RW.cn {f : Nat → e_C} {b L : Nat} {kk pp u : Nat → Int32} (h : RW f b L kk pp u) : cno (f 99) = some 3 := cno_fld (j := 0) (by rw [h.r0]; rfl)
theorem RW.fr {f : Nat → e_C} {b L : Nat} {kk pp u : Nat → Int32} (h : RW f b L kk pp u) {f' : Nat → e_C} (h1 : f' 99 = f 99) (h2 : f' 100 = f 100) (h3 : f' 101 = f 101) : RW f' b L kk pp u := by unfold RW; rw [h1, h2, h3]; exact h
theorem RW.set {f : Nat → e_C} {b L : Nat} {kk pp u : Nat → Int32} (h : RW f b L kk pp u) {i : Nat} {z : Int32} (hi : i ∈ [2, 3, 4, 7, 8]) : RW (va_up f 99 (sfl (f 99) i (.int z))) b L kk pp (upd u i z) := by
  have hs : (fld (f 99) 3 i).isSome = true := by rw [h.2.2.2.2.1.2 i hi]; rfl
  have hb := h.1.1
  have q1 : i = 2 ∨ i = 3 ∨ i = 4 ∨ i = 7 ∨ i = 8 := by simpa using hi
  refine ⟨h.1, ?_, ?_, ?_, ⟨?_, fun j hj => ?_⟩, by rw [vu_ne (by omega)]; exact h.a0, by rw [vu_ne (by omega)]; exact h.a1⟩
  · rw [vu_eq, fld_sfl_ne (by omega)]; exact h.r0
  · rw [vu_eq, fld_sfl_ne (by omega)]; exact h.r1
  · rw [vu_eq, fld_sfl_ne (by omega)]; exact h.r6
  · rw [vu_eq, fld_sfl_ne (by omega)]; exact h.i5
  · by_cases hji : j = i
    · subst hji; rw [vu_eq, fld_sfl_same hs, upd_eq]
    · rw [vu_eq, fld_sfl_ne hji, upd_ne hji]; exact h.2.2.2.2.1.2 j hj
theorem RW.s5 {f : Nat → e_C} {b L : Nat} {kk pp u : Nat → Int32} (h : RW f b L kk pp u) {z : Int32} : RW (va_up f 99 (sfl (f 99) 5 (.int z))) b L kk pp u := by
  have hs := h.i5
  have hb := h.1.1
  refine ⟨h.1, ?_, ?_, ?_, ⟨?_, fun j hj => ?_⟩, by rw [vu_ne (by omega)]; exact h.a0, by rw [vu_ne (by omega)]; exact h.a1⟩
  · rw [vu_eq, fld_sfl_ne (by omega)]; exact h.r0
  · rw [vu_eq, fld_sfl_ne (by omega)]; exact h.r1
  · rw [vu_eq, fld_sfl_ne (by omega)]; exact h.r6
  · rw [vu_eq, fld_sfl_same hs]; rfl
  · rw [vu_eq, fld_sfl_ne ?_]
    · exact h.2.2.2.2.1.2 j hj
    · revert hj; revert j; decide
def W5 (f : Nat → e_C) (wt : Int32) : Prop := wt = 7 ∨ fld (f 99) 3 5 = some (.int wt)
theorem W5.fr {f f' : Nat → e_C} {wt : Int32} (h : W5 f wt) (e : f' 99 = f 99) : W5 f' wt := by unfold W5; rw [e]; exact h
theorem W5.set {f : Nat → e_C} {wt : Int32} {i : Nat} {z : Value} (h : W5 f wt) (hi : i ≠ 5) : W5 (va_up f 99 (sfl (f 99) i z)) wt := by
  rcases h with h | h
  · exact Or.inl h
  · refine Or.inr ?_
    rw [vu_eq, fld_sfl_ne (fun e => hi e.symm)]; exact h
theorem PV.set {f : Nat → e_C} {p : Nat} {v : Nat → Int32} {q : Nat → Nat → Int32} {C : Nat} (h : PV f p v q C) {i : Nat} {z : Int32} (hi : i ∈ [0, 3, 10, 11, 12, 14, 15, 16, 17, 18]) : PV (va_up f p (sfl (f p) i (.int z))) p (upd v i z) q C := by
  have hs : (fld (f p) 2 i).isSome = true := by rw [h.1 i hi]; rfl
  refine ⟨fun j hj => ?_, fun r hr => ?_, by rw [vu_ne (by omega)]; exact h.a1, by rw [vu_ne (by omega)]; exact h.a2, by rw [vu_ne (by omega)]; exact h.a4, by rw [vu_ne (by omega)]; exact h.a5, by rw [vu_ne (by omega)]; exact h.a6, by rw [vu_ne (by omega)]; exact h.a7, by rw [vu_ne (by omega)]; exact h.a8, by rw [vu_ne (by omega)]; exact h.a9, by rw [vu_ne (by omega)]; exact h.a13⟩
  · by_cases hji : j = i
    · subst hji; rw [vu_eq, fld_sfl_same hs, upd_eq]
    · rw [vu_eq, fld_sfl_ne hji, upd_ne hji]; exact h.1 j hj
  · rw [vu_eq, fld_sfl_ne ?_]
    · exact h.2.1 r hr
    · have q1 : i = 0 ∨ i = 3 ∨ i = 10 ∨ i = 11 ∨ i = 12 ∨ i = 14 ∨ i = 15 ∨ i = 16 ∨ i = 17 ∨ i = 18 := by simpa using hi
      have q2 : r = (1, 1) ∨ r = (2, 2) ∨ r = (4, 3) ∨ r = (5, 4) ∨ r = (6, 5) ∨ r = (7, 6) ∨ r = (8, 7) ∨ r = (9, 8) ∨ r = (13, 9) := by simpa using hr
      rcases q2 with rfl | rfl | rfl | rfl | rfl | rfl | rfl | rfl | rfl <;> (show _ ≠ i; omega)
theorem PV.s1 {f : Nat → e_C} {p : Nat} {v : Nat → Int32} {q : Nat → Nat → Int32} {C : Nat} (h : PV f p v q C) {g : Nat → Int32} : PV (va_up f (p + 1) (.inl (.int, 8, .inl g))) p v (up2 q 1 g) C := by
  refine ⟨fun j hj => by rw [vu_ne (by omega)]; exact h.1 j hj, fun r hr => by rw [vu_ne (by omega)]; exact h.2.1 r hr, by rw [vu_eq, up2_eq]; rfl, by rw [vu_ne (by omega), up2_ne (by decide)]; exact h.a2, by rw [vu_ne (by omega), up2_ne (by decide)]; exact h.a4, by rw [vu_ne (by omega), up2_ne (by decide)]; exact h.a5, by rw [vu_ne (by omega), up2_ne (by decide)]; exact h.a6, by rw [vu_ne (by omega), up2_ne (by decide)]; exact h.a7, by rw [vu_ne (by omega), up2_ne (by decide)]; exact h.a8, by rw [vu_ne (by omega), up2_ne (by decide)]; exact h.a9, by rw [vu_ne (by omega), up2_ne (by decide)]; exact h.a13⟩
theorem PV.s2 {f : Nat → e_C} {p : Nat} {v : Nat → Int32} {q : Nat → Nat → Int32} {C : Nat} (h : PV f p v q C) {g : Nat → Int32} : PV (va_up f (p + 2) (.inl (.int, 9, .inl g))) p v (up2 q 2 g) C := by
  refine ⟨fun j hj => by rw [vu_ne (by omega)]; exact h.1 j hj, fun r hr => by rw [vu_ne (by omega)]; exact h.2.1 r hr, by rw [vu_ne (by omega), up2_ne (by decide)]; exact h.a1, by rw [vu_eq, up2_eq]; rfl, by rw [vu_ne (by omega), up2_ne (by decide)]; exact h.a4, by rw [vu_ne (by omega), up2_ne (by decide)]; exact h.a5, by rw [vu_ne (by omega), up2_ne (by decide)]; exact h.a6, by rw [vu_ne (by omega), up2_ne (by decide)]; exact h.a7, by rw [vu_ne (by omega), up2_ne (by decide)]; exact h.a8, by rw [vu_ne (by omega), up2_ne (by decide)]; exact h.a9, by rw [vu_ne (by omega), up2_ne (by decide)]; exact h.a13⟩
theorem PV.s4 {f : Nat → e_C} {p : Nat} {v : Nat → Int32} {q : Nat → Nat → Int32} {C : Nat} (h : PV f p v q C) {g : Nat → Int32} : PV (va_up f (p + 3) (.inl (.int, 9, .inl g))) p v (up2 q 4 g) C := by
  refine ⟨fun j hj => by rw [vu_ne (by omega)]; exact h.1 j hj, fun r hr => by rw [vu_ne (by omega)]; exact h.2.1 r hr, by rw [vu_ne (by omega), up2_ne (by decide)]; exact h.a1, by rw [vu_ne (by omega), up2_ne (by decide)]; exact h.a2, by rw [vu_eq, up2_eq]; rfl, by rw [vu_ne (by omega), up2_ne (by decide)]; exact h.a5, by rw [vu_ne (by omega), up2_ne (by decide)]; exact h.a6, by rw [vu_ne (by omega), up2_ne (by decide)]; exact h.a7, by rw [vu_ne (by omega), up2_ne (by decide)]; exact h.a8, by rw [vu_ne (by omega), up2_ne (by decide)]; exact h.a9, by rw [vu_ne (by omega), up2_ne (by decide)]; exact h.a13⟩
theorem PV.s5 {f : Nat → e_C} {p : Nat} {v : Nat → Int32} {q : Nat → Nat → Int32} {C : Nat} (h : PV f p v q C) {g : Nat → Int32} : PV (va_up f (p + 4) (.inl (.int, 9, .inl g))) p v (up2 q 5 g) C := by
  refine ⟨fun j hj => by rw [vu_ne (by omega)]; exact h.1 j hj, fun r hr => by rw [vu_ne (by omega)]; exact h.2.1 r hr, by rw [vu_ne (by omega), up2_ne (by decide)]; exact h.a1, by rw [vu_ne (by omega), up2_ne (by decide)]; exact h.a2, by rw [vu_ne (by omega), up2_ne (by decide)]; exact h.a4, by rw [vu_eq, up2_eq]; rfl, by rw [vu_ne (by omega), up2_ne (by decide)]; exact h.a6, by rw [vu_ne (by omega), up2_ne (by decide)]; exact h.a7, by rw [vu_ne (by omega), up2_ne (by decide)]; exact h.a8, by rw [vu_ne (by omega), up2_ne (by decide)]; exact h.a9, by rw [vu_ne (by omega), up2_ne (by decide)]; exact h.a13⟩
theorem PV.s6 {f : Nat → e_C} {p : Nat} {v : Nat → Int32} {q : Nat → Nat → Int32} {C : Nat} (h : PV f p v q C) {g : Nat → Int32} : PV (va_up f (p + 5) (.inl (.int, 9, .inl g))) p v (up2 q 6 g) C := by
  refine ⟨fun j hj => by rw [vu_ne (by omega)]; exact h.1 j hj, fun r hr => by rw [vu_ne (by omega)]; exact h.2.1 r hr, by rw [vu_ne (by omega), up2_ne (by decide)]; exact h.a1, by rw [vu_ne (by omega), up2_ne (by decide)]; exact h.a2, by rw [vu_ne (by omega), up2_ne (by decide)]; exact h.a4, by rw [vu_ne (by omega), up2_ne (by decide)]; exact h.a5, by rw [vu_eq, up2_eq]; rfl, by rw [vu_ne (by omega), up2_ne (by decide)]; exact h.a7, by rw [vu_ne (by omega), up2_ne (by decide)]; exact h.a8, by rw [vu_ne (by omega), up2_ne (by decide)]; exact h.a9, by rw [vu_ne (by omega), up2_ne (by decide)]; exact h.a13⟩
theorem PV.s7 {f : Nat → e_C} {p : Nat} {v : Nat → Int32} {q : Nat → Nat → Int32} {C : Nat} (h : PV f p v q C) {g : Nat → Int32} : PV (va_up f (p + 6) (.inl (.int, 9, .inl g))) p v (up2 q 7 g) C := by
  refine ⟨fun j hj => by rw [vu_ne (by omega)]; exact h.1 j hj, fun r hr => by rw [vu_ne (by omega)]; exact h.2.1 r hr, by rw [vu_ne (by omega), up2_ne (by decide)]; exact h.a1, by rw [vu_ne (by omega), up2_ne (by decide)]; exact h.a2, by rw [vu_ne (by omega), up2_ne (by decide)]; exact h.a4, by rw [vu_ne (by omega), up2_ne (by decide)]; exact h.a5, by rw [vu_ne (by omega), up2_ne (by decide)]; exact h.a6, by rw [vu_eq, up2_eq]; rfl, by rw [vu_ne (by omega), up2_ne (by decide)]; exact h.a8, by rw [vu_ne (by omega), up2_ne (by decide)]; exact h.a9, by rw [vu_ne (by omega), up2_ne (by decide)]; exact h.a13⟩
theorem PV.s8 {f : Nat → e_C} {p : Nat} {v : Nat → Int32} {q : Nat → Nat → Int32} {C : Nat} (h : PV f p v q C) {g : Nat → Int32} : PV (va_up f (p + 7) (.inl (.int, 9, .inl g))) p v (up2 q 8 g) C := by
  refine ⟨fun j hj => by rw [vu_ne (by omega)]; exact h.1 j hj, fun r hr => by rw [vu_ne (by omega)]; exact h.2.1 r hr, by rw [vu_ne (by omega), up2_ne (by decide)]; exact h.a1, by rw [vu_ne (by omega), up2_ne (by decide)]; exact h.a2, by rw [vu_ne (by omega), up2_ne (by decide)]; exact h.a4, by rw [vu_ne (by omega), up2_ne (by decide)]; exact h.a5, by rw [vu_ne (by omega), up2_ne (by decide)]; exact h.a6, by rw [vu_ne (by omega), up2_ne (by decide)]; exact h.a7, by rw [vu_eq, up2_eq]; rfl, by rw [vu_ne (by omega), up2_ne (by decide)]; exact h.a9, by rw [vu_ne (by omega), up2_ne (by decide)]; exact h.a13⟩
theorem PV.s9 {f : Nat → e_C} {p : Nat} {v : Nat → Int32} {q : Nat → Nat → Int32} {C : Nat} (h : PV f p v q C) {g : Nat → Int32} : PV (va_up f (p + 8) (.inl (.int, 9, .inl g))) p v (up2 q 9 g) C := by
  refine ⟨fun j hj => by rw [vu_ne (by omega)]; exact h.1 j hj, fun r hr => by rw [vu_ne (by omega)]; exact h.2.1 r hr, by rw [vu_ne (by omega), up2_ne (by decide)]; exact h.a1, by rw [vu_ne (by omega), up2_ne (by decide)]; exact h.a2, by rw [vu_ne (by omega), up2_ne (by decide)]; exact h.a4, by rw [vu_ne (by omega), up2_ne (by decide)]; exact h.a5, by rw [vu_ne (by omega), up2_ne (by decide)]; exact h.a6, by rw [vu_ne (by omega), up2_ne (by decide)]; exact h.a7, by rw [vu_ne (by omega), up2_ne (by decide)]; exact h.a8, by rw [vu_eq, up2_eq]; rfl, by rw [vu_ne (by omega), up2_ne (by decide)]; exact h.a13⟩
theorem PV.s13 {f : Nat → e_C} {p : Nat} {v : Nat → Int32} {q : Nat → Nat → Int32} {C : Nat} (h : PV f p v q C) {g : Nat → Int32} : PV (va_up f (p + 9) (.inl (.int, C, .inl g))) p v (up2 q 13 g) C := by
  refine ⟨fun j hj => by rw [vu_ne (by omega)]; exact h.1 j hj, fun r hr => by rw [vu_ne (by omega)]; exact h.2.1 r hr, by rw [vu_ne (by omega), up2_ne (by decide)]; exact h.a1, by rw [vu_ne (by omega), up2_ne (by decide)]; exact h.a2, by rw [vu_ne (by omega), up2_ne (by decide)]; exact h.a4, by rw [vu_ne (by omega), up2_ne (by decide)]; exact h.a5, by rw [vu_ne (by omega), up2_ne (by decide)]; exact h.a6, by rw [vu_ne (by omega), up2_ne (by decide)]; exact h.a7, by rw [vu_ne (by omega), up2_ne (by decide)]; exact h.a8, by rw [vu_ne (by omega), up2_ne (by decide)]; exact h.a9, by rw [vu_eq, up2_eq]; rfl⟩
