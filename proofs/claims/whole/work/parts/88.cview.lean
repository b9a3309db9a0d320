/-! the class's cells: plans, scenes, scales -/
def SI (lo hi : Nat) (f f' : Nat → e_C) : Prop := ∀ b, (b < lo ∨ hi ≤ b) → f' b = f b
theorem SI.rf {lo hi : Nat} {f : Nat → e_C} : SI lo hi f f := fun _ _ => rfl
theorem SI.tr {lo hi : Nat} {f g h : Nat → e_C} (h1 : SI lo hi f g) (h2 : SI lo hi g h) : SI lo hi f h := fun b hb => (h2 b hb).trans (h1 b hb)
theorem SI.up {lo hi a : Nat} {f : Nat → e_C} {c : e_C} (h1 : lo ≤ a) (h2 : a < hi) : SI lo hi f (va_up f a c) := fun b hb => vu_ne (by omega)
theorem SI.wd {lo hi lo' hi' : Nat} {f g : Nat → e_C} (h : SI lo hi f g) (h1 : lo' ≤ lo) (h2 : hi ≤ hi') : SI lo' hi' f g := fun b hb => h b (by omega)
def up2 (x : Nat → Nat → Int32) (i : Nat) (g : Nat → Int32) : Nat → Nat → Int32 := fun j => if j = i then g else x j
theorem up2_eq {x : Nat → Nat → Int32} {i : Nat} {g : Nat → Int32} : up2 x i g i = g := if_pos rfl
theorem up2_ne {x : Nat → Nat → Int32} {i j : Nat} {g : Nat → Int32} (h : j ≠ i) : up2 x i g j = x j := if_neg h
def PV (f : Nat → e_C) (p : Nat) (v : Nat → Int32) (q : Nat → Nat → Int32) (C : Nat) : Prop := (∀ i ∈ [0, 3, 10, 11, 12, 14, 15, 16, 17, 18], fld (f p) 2 i = some (.int (v i))) ∧ (∀ r ∈ [((1 : Nat), (1 : Nat)), ((2 : Nat), (2 : Nat)), ((4 : Nat), (3 : Nat)), ((5 : Nat), (4 : Nat)), ((6 : Nat), (5 : Nat)), ((7 : Nat), (6 : Nat)), ((8 : Nat), (7 : Nat)), ((9 : Nat), (8 : Nat)), ((13 : Nat), (9 : Nat))], fld (f p) 2 r.1 = some (.ref (p + r.2))) ∧ arI (f (p + 1)) = some (8, q 1) ∧ arI (f (p + 2)) = some (9, q 2) ∧ arI (f (p + 3)) = some (9, q 4) ∧ arI (f (p + 4)) = some (9, q 5) ∧ arI (f (p + 5)) = some (9, q 6) ∧ arI (f (p + 6)) = some (9, q 7) ∧ arI (f (p + 7)) = some (9, q 8) ∧ arI (f (p + 8)) = some (9, q 9) ∧ arI (f (p + 9)) = some (C, q 13)
theorem PV.v0 {f : Nat → e_C} {p : Nat} {v : Nat → Int32} {q : Nat → Nat → Int32} {C : Nat} (h : PV f p v q C) : fld (f p) 2 0 = some (.int (v 0)) := h.1 0 (by decide)
theorem PV.v3 {f : Nat → e_C} {p : Nat} {v : Nat → Int32} {q : Nat → Nat → Int32} {C : Nat} (h : PV f p v q C) : fld (f p) 2 3 = some (.int (v 3)) := h.1 3 (by decide)
theorem PV.v10 {f : Nat → e_C} {p : Nat} {v : Nat → Int32} {q : Nat → Nat → Int32} {C : Nat} (h : PV f p v q C) : fld (f p) 2 10 = some (.int (v 10)) := h.1 10 (by decide)
theorem PV.v11 {f : Nat → e_C} {p : Nat} {v : Nat → Int32} {q : Nat → Nat → Int32} {C : Nat} (h : PV f p v q C) : fld (f p) 2 11 = some (.int (v 11)) := h.1 11 (by decide)
theorem PV.v12 {f : Nat → e_C} {p : Nat} {v : Nat → Int32} {q : Nat → Nat → Int32} {C : Nat} (h : PV f p v q C) : fld (f p) 2 12 = some (.int (v 12)) := h.1 12 (by decide)
theorem PV.v14 {f : Nat → e_C} {p : Nat} {v : Nat → Int32} {q : Nat → Nat → Int32} {C : Nat} (h : PV f p v q C) : fld (f p) 2 14 = some (.int (v 14)) := h.1 14 (by decide)
theorem PV.v15 {f : Nat → e_C} {p : Nat} {v : Nat → Int32} {q : Nat → Nat → Int32} {C : Nat} (h : PV f p v q C) : fld (f p) 2 15 = some (.int (v 15)) := h.1 15 (by decide)
theorem PV.v16 {f : Nat → e_C} {p : Nat} {v : Nat → Int32} {q : Nat → Nat → Int32} {C : Nat} (h : PV f p v q C) : fld (f p) 2 16 = some (.int (v 16)) := h.1 16 (by decide)
theorem PV.v17 {f : Nat → e_C} {p : Nat} {v : Nat → Int32} {q : Nat → Nat → Int32} {C : Nat} (h : PV f p v q C) : fld (f p) 2 17 = some (.int (v 17)) := h.1 17 (by decide)
theorem PV.v18 {f : Nat → e_C} {p : Nat} {v : Nat → Int32} {q : Nat → Nat → Int32} {C : Nat} (h : PV f p v q C) : fld (f p) 2 18 = some (.int (v 18)) := h.1 18 (by decide)
theorem PV.i0 {f : Nat → e_C} {p : Nat} {v : Nat → Int32} {q : Nat → Nat → Int32} {C : Nat} (h : PV f p v q C) : (fld (f p) 2 0).isSome = true := by rw [h.v0]; rfl
theorem PV.i3 {f : Nat → e_C} {p : Nat} {v : Nat → Int32} {q : Nat → Nat → Int32} {C : Nat} (h : PV f p v q C) : (fld (f p) 2 3).isSome = true := by rw [h.v3]; rfl
theorem PV.i10 {f : Nat → e_C} {p : Nat} {v : Nat → Int32} {q : Nat → Nat → Int32} {C : Nat} (h : PV f p v q C) : (fld (f p) 2 10).isSome = true := by rw [h.v10]; rfl
theorem PV.i11 {f : Nat → e_C} {p : Nat} {v : Nat → Int32} {q : Nat → Nat → Int32} {C : Nat} (h : PV f p v q C) : (fld (f p) 2 11).isSome = true := by rw [h.v11]; rfl
theorem PV.i12 {f : Nat → e_C} {p : Nat} {v : Nat → Int32} {q : Nat → Nat → Int32} {C : Nat} (h : PV f p v q C) : (fld (f p) 2 12).isSome = true := by rw [h.v12]; rfl
theorem PV.i14 {f : Nat → e_C} {p : Nat} {v : Nat → Int32} {q : Nat → Nat → Int32} {C : Nat} (h : PV f p v q C) : (fld (f p) 2 14).isSome = true := by rw [h.v14]; rfl
theorem PV.i15 {f : Nat → e_C} {p : Nat} {v : Nat → Int32} {q : Nat → Nat → Int32} {C : Nat} (h : PV f p v q C) : (fld (f p) 2 15).isSome = true := by rw [h.v15]; rfl
theorem PV.i16 {f : Nat → e_C} {p : Nat} {v : Nat → Int32} {q : Nat → Nat → Int32} {C : Nat} (h : PV f p v q C) : (fld (f p) 2 16).isSome = true := by rw [h.v16]; rfl
theorem PV.i17 {f : Nat → e_C} {p : Nat} {v : Nat → Int32} {q : Nat → Nat → Int32} {C : Nat} (h : PV f p v q C) : (fld (f p) 2 17).isSome = true := by rw [h.v17]; rfl
theorem PV.i18 {f : Nat → e_C} {p : Nat} {v : Nat → Int32} {q : Nat → Nat → Int32} {C : Nat} (h : PV f p v q C) : (fld (f p) 2 18).isSome = true := by rw [h.v18]; rfl
theorem PV.r1 {f : Nat → e_C} {p : Nat} {v : Nat → Int32} {q : Nat → Nat → Int32} {C : Nat} (h : PV f p v q C) : fld (f p) 2 1 = some (.ref (p + 1)) := h.2.1 (1, 1) (by decide)
theorem PV.r2 {f : Nat → e_C} {p : Nat} {v : Nat → Int32} {q : Nat → Nat → Int32} {C : Nat} (h : PV f p v q C) : fld (f p) 2 2 = some (.ref (p + 2)) := h.2.1 (2, 2) (by decide)
theorem PV.r4 {f : Nat → e_C} {p : Nat} {v : Nat → Int32} {q : Nat → Nat → Int32} {C : Nat} (h : PV f p v q C) : fld (f p) 2 4 = some (.ref (p + 3)) := h.2.1 (4, 3) (by decide)
theorem PV.r5 {f : Nat → e_C} {p : Nat} {v : Nat → Int32} {q : Nat → Nat → Int32} {C : Nat} (h : PV f p v q C) : fld (f p) 2 5 = some (.ref (p + 4)) := h.2.1 (5, 4) (by decide)
theorem PV.r6 {f : Nat → e_C} {p : Nat} {v : Nat → Int32} {q : Nat → Nat → Int32} {C : Nat} (h : PV f p v q C) : fld (f p) 2 6 = some (.ref (p + 5)) := h.2.1 (6, 5) (by decide)
theorem PV.r7 {f : Nat → e_C} {p : Nat} {v : Nat → Int32} {q : Nat → Nat → Int32} {C : Nat} (h : PV f p v q C) : fld (f p) 2 7 = some (.ref (p + 6)) := h.2.1 (7, 6) (by decide)
theorem PV.r8 {f : Nat → e_C} {p : Nat} {v : Nat → Int32} {q : Nat → Nat → Int32} {C : Nat} (h : PV f p v q C) : fld (f p) 2 8 = some (.ref (p + 7)) := h.2.1 (8, 7) (by decide)
theorem PV.r9 {f : Nat → e_C} {p : Nat} {v : Nat → Int32} {q : Nat → Nat → Int32} {C : Nat} (h : PV f p v q C) : fld (f p) 2 9 = some (.ref (p + 8)) := h.2.1 (9, 8) (by decide)
theorem PV.r13 {f : Nat → e_C} {p : Nat} {v : Nat → Int32} {q : Nat → Nat → Int32} {C : Nat} (h : PV f p v q C) : fld (f p) 2 13 = some (.ref (p + 9)) := h.2.1 (13, 9) (by decide)
theorem PV.a1 {f : Nat → e_C} {p : Nat} {v : Nat → Int32} {q : Nat → Nat → Int32} {C : Nat} (h : PV f p v q C) : arI (f (p + 1)) = some (8, q 1) := h.2.2.1
theorem PV.a2 {f : Nat → e_C} {p : Nat} {v : Nat → Int32} {q : Nat → Nat → Int32} {C : Nat} (h : PV f p v q C) : arI (f (p + 2)) = some (9, q 2) := h.2.2.2.1
theorem PV.a4 {f : Nat → e_C} {p : Nat} {v : Nat → Int32} {q : Nat → Nat → Int32} {C : Nat} (h : PV f p v q C) : arI (f (p + 3)) = some (9, q 4) := h.2.2.2.2.1
theorem PV.a5 {f : Nat → e_C} {p : Nat} {v : Nat → Int32} {q : Nat → Nat → Int32} {C : Nat} (h : PV f p v q C) : arI (f (p + 4)) = some (9, q 5) := h.2.2.2.2.2.1
theorem PV.a6 {f : Nat → e_C} {p : Nat} {v : Nat → Int32} {q : Nat → Nat → Int32} {C : Nat} (h : PV f p v q C) : arI (f (p + 5)) = some (9, q 6) := h.2.2.2.2.2.2.1
theorem PV.a7 {f : Nat → e_C} {p : Nat} {v : Nat → Int32} {q : Nat → Nat → Int32} {C : Nat} (h : PV f p v q C) : arI (f (p + 6)) = some (9, q 7) := h.2.2.2.2.2.2.2.1
theorem PV.a8 {f : Nat → e_C} {p : Nat} {v : Nat → Int32} {q : Nat → Nat → Int32} {C : Nat} (h : PV f p v q C) : arI (f (p + 7)) = some (9, q 8) := h.2.2.2.2.2.2.2.2.1
theorem PV.a9 {f : Nat → e_C} {p : Nat} {v : Nat → Int32} {q : Nat → Nat → Int32} {C : Nat} (h : PV f p v q C) : arI (f (p + 8)) = some (9, q 9) := h.2.2.2.2.2.2.2.2.2.1
theorem PV.a13 {f : Nat → e_C} {p : Nat} {v : Nat → Int32} {q : Nat → Nat → Int32} {C : Nat} (h : PV f p v q C) : arI (f (p + 9)) = some (C, q 13) := h.2.2.2.2.2.2.2.2.2.2
theorem PV.cn {f : Nat → e_C} {p : Nat} {v : Nat → Int32} {q : Nat → Nat → Int32} {C : Nat} (h : PV f p v q C) : cno (f p) = some 2 := cno_fld (j := 1) (by rw [h.r1]; rfl)
theorem PV.fr {f : Nat → e_C} {p : Nat} {v : Nat → Int32} {q : Nat → Nat → Int32} {C : Nat} (h : PV f p v q C) {f' : Nat → e_C} (hf : ∀ b, p ≤ b → b < p + 10 → f' b = f b) : PV f' p v q C := by
  unfold PV
  rw [hf p (by omega) (by omega), hf (p + 1) (by omega) (by omega), hf (p + 2) (by omega) (by omega), hf (p + 3) (by omega) (by omega), hf (p + 4) (by omega) (by omega), hf (p + 5) (by omega) (by omega), hf (p + 6) (by omega) (by omega), hf (p + 7) (by omega) (by omega), hf (p + 8) (by omega) (by omega), hf (p + 9) (by omega) (by omega)]
  exact h
def SV (f : Nat → e_C) (a pl : Nat) (w : Nat → Int32) (x : Nat → Nat → Int32) : Prop := (∀ i ∈ [1, 6, 7, 8, 9], fld (f a) 6 i = some (.int (w i))) ∧ (∀ r ∈ [((2 : Nat), (1 : Nat)), ((3 : Nat), (2 : Nat)), ((4 : Nat), (3 : Nat)), ((5 : Nat), (4 : Nat))], fld (f a) 6 r.1 = some (.ref (a + r.2))) ∧ fld (f a) 6 0 = some (.ref pl) ∧ arI (f (a + 1)) = some (9, x 2) ∧ arI (f (a + 2)) = some (9, x 3) ∧ arI (f (a + 3)) = some (9, x 4) ∧ arI (f (a + 4)) = some (8, x 5)
theorem SV.v1 {f : Nat → e_C} {a pl : Nat} {w : Nat → Int32} {x : Nat → Nat → Int32} (h : SV f a pl w x) : fld (f a) 6 1 = some (.int (w 1)) := h.1 1 (by decide)
theorem SV.v6 {f : Nat → e_C} {a pl : Nat} {w : Nat → Int32} {x : Nat → Nat → Int32} (h : SV f a pl w x) : fld (f a) 6 6 = some (.int (w 6)) := h.1 6 (by decide)
theorem SV.v7 {f : Nat → e_C} {a pl : Nat} {w : Nat → Int32} {x : Nat → Nat → Int32} (h : SV f a pl w x) : fld (f a) 6 7 = some (.int (w 7)) := h.1 7 (by decide)
theorem SV.v8 {f : Nat → e_C} {a pl : Nat} {w : Nat → Int32} {x : Nat → Nat → Int32} (h : SV f a pl w x) : fld (f a) 6 8 = some (.int (w 8)) := h.1 8 (by decide)
theorem SV.v9 {f : Nat → e_C} {a pl : Nat} {w : Nat → Int32} {x : Nat → Nat → Int32} (h : SV f a pl w x) : fld (f a) 6 9 = some (.int (w 9)) := h.1 9 (by decide)
theorem SV.i1 {f : Nat → e_C} {a pl : Nat} {w : Nat → Int32} {x : Nat → Nat → Int32} (h : SV f a pl w x) : (fld (f a) 6 1).isSome = true := by rw [h.v1]; rfl
theorem SV.i6 {f : Nat → e_C} {a pl : Nat} {w : Nat → Int32} {x : Nat → Nat → Int32} (h : SV f a pl w x) : (fld (f a) 6 6).isSome = true := by rw [h.v6]; rfl
theorem SV.i7 {f : Nat → e_C} {a pl : Nat} {w : Nat → Int32} {x : Nat → Nat → Int32} (h : SV f a pl w x) : (fld (f a) 6 7).isSome = true := by rw [h.v7]; rfl
theorem SV.i8 {f : Nat → e_C} {a pl : Nat} {w : Nat → Int32} {x : Nat → Nat → Int32} (h : SV f a pl w x) : (fld (f a) 6 8).isSome = true := by rw [h.v8]; rfl
theorem SV.i9 {f : Nat → e_C} {a pl : Nat} {w : Nat → Int32} {x : Nat → Nat → Int32} (h : SV f a pl w x) : (fld (f a) 6 9).isSome = true := by rw [h.v9]; rfl
theorem SV.r2 {f : Nat → e_C} {a pl : Nat} {w : Nat → Int32} {x : Nat → Nat → Int32} (h : SV f a pl w x) : fld (f a) 6 2 = some (.ref (a + 1)) := h.2.1 (2, 1) (by decide)
theorem SV.r3 {f : Nat → e_C} {a pl : Nat} {w : Nat → Int32} {x : Nat → Nat → Int32} (h : SV f a pl w x) : fld (f a) 6 3 = some (.ref (a + 2)) := h.2.1 (3, 2) (by decide)
theorem SV.r4 {f : Nat → e_C} {a pl : Nat} {w : Nat → Int32} {x : Nat → Nat → Int32} (h : SV f a pl w x) : fld (f a) 6 4 = some (.ref (a + 3)) := h.2.1 (4, 3) (by decide)
theorem SV.r5 {f : Nat → e_C} {a pl : Nat} {w : Nat → Int32} {x : Nat → Nat → Int32} (h : SV f a pl w x) : fld (f a) 6 5 = some (.ref (a + 4)) := h.2.1 (5, 4) (by decide)
theorem SV.pl {f : Nat → e_C} {a pl : Nat} {w : Nat → Int32} {x : Nat → Nat → Int32} (h : SV f a pl w x) : fld (f a) 6 0 = some (.ref pl) := h.2.2.1
theorem SV.a2 {f : Nat → e_C} {a pl : Nat} {w : Nat → Int32} {x : Nat → Nat → Int32} (h : SV f a pl w x) : arI (f (a + 1)) = some (9, x 2) := h.2.2.2.1
theorem SV.a3 {f : Nat → e_C} {a pl : Nat} {w : Nat → Int32} {x : Nat → Nat → Int32} (h : SV f a pl w x) : arI (f (a + 2)) = some (9, x 3) := h.2.2.2.2.1
theorem SV.a4 {f : Nat → e_C} {a pl : Nat} {w : Nat → Int32} {x : Nat → Nat → Int32} (h : SV f a pl w x) : arI (f (a + 3)) = some (9, x 4) := h.2.2.2.2.2.1
theorem SV.a5 {f : Nat → e_C} {a pl : Nat} {w : Nat → Int32} {x : Nat → Nat → Int32} (h : SV f a pl w x) : arI (f (a + 4)) = some (8, x 5) := h.2.2.2.2.2.2
theorem SV.cn {f : Nat → e_C} {a pl : Nat} {w : Nat → Int32} {x : Nat → Nat → Int32} (h : SV f a pl w x) : cno (f a) = some 6 := cno_fld (j := 2) (by rw [h.r2]; rfl)
theorem SV.fr {f : Nat → e_C} {a pl : Nat} {w : Nat → Int32} {x : Nat → Nat → Int32} (h : SV f a pl w x) {f' : Nat → e_C} (hf : ∀ b, a ≤ b → b < a + 5 → f' b = f b) : SV f' a pl w x := by
  unfold SV
  rw [hf a (by omega) (by omega), hf (a + 1) (by omega) (by omega), hf (a + 2) (by omega) (by omega), hf (a + 3) (by omega) (by omega), hf (a + 4) (by omega) (by omega)]
  exact h
def LV (f : Nat → e_C) (q : Nat) (y : Nat → Nat → Int32) : Prop := (∀ r ∈ [((0 : Nat), (1 : Nat)), (1, 4), (2, 5), (3, 6)], fld (f q) 5 r.1 = some (.ref (q + r.2))) ∧ (∀ r ∈ [((0 : Nat), (2 : Nat)), (1, 3)], fld (f (q + 1)) 1 r.1 = some (.ref (q + r.2))) ∧ arI (f (q + 2)) = some (7, y 0) ∧ arI (f (q + 3)) = some (40, y 1) ∧ arI (f (q + 4)) = some (9, y 2) ∧ arI (f (q + 5)) = some (9, y 3) ∧ arI (f (q + 6)) = some (8, y 4)
theorem LV.r0 {f : Nat → e_C} {q : Nat} {y : Nat → Nat → Int32} (h : LV f q y) : fld (f q) 5 0 = some (.ref (q + 1)) := h.1 (0, 1) (by decide)
theorem LV.r1 {f : Nat → e_C} {q : Nat} {y : Nat → Nat → Int32} (h : LV f q y) : fld (f q) 5 1 = some (.ref (q + 4)) := h.1 (1, 4) (by decide)
theorem LV.r2 {f : Nat → e_C} {q : Nat} {y : Nat → Nat → Int32} (h : LV f q y) : fld (f q) 5 2 = some (.ref (q + 5)) := h.1 (2, 5) (by decide)
theorem LV.r3 {f : Nat → e_C} {q : Nat} {y : Nat → Nat → Int32} (h : LV f q y) : fld (f q) 5 3 = some (.ref (q + 6)) := h.1 (3, 6) (by decide)
theorem LV.l0 {f : Nat → e_C} {q : Nat} {y : Nat → Nat → Int32} (h : LV f q y) : fld (f (q + 1)) 1 0 = some (.ref (q + 2)) := h.2.1 (0, 2) (by decide)
theorem LV.l1 {f : Nat → e_C} {q : Nat} {y : Nat → Nat → Int32} (h : LV f q y) : fld (f (q + 1)) 1 1 = some (.ref (q + 3)) := h.2.1 (1, 3) (by decide)
theorem LV.a0 {f : Nat → e_C} {q : Nat} {y : Nat → Nat → Int32} (h : LV f q y) : arI (f (q + 2)) = some (7, y 0) := h.2.2.1
theorem LV.a1 {f : Nat → e_C} {q : Nat} {y : Nat → Nat → Int32} (h : LV f q y) : arI (f (q + 3)) = some (40, y 1) := h.2.2.2.1
theorem LV.a2 {f : Nat → e_C} {q : Nat} {y : Nat → Nat → Int32} (h : LV f q y) : arI (f (q + 4)) = some (9, y 2) := h.2.2.2.2.1
theorem LV.a3 {f : Nat → e_C} {q : Nat} {y : Nat → Nat → Int32} (h : LV f q y) : arI (f (q + 5)) = some (9, y 3) := h.2.2.2.2.2.1
theorem LV.a4 {f : Nat → e_C} {q : Nat} {y : Nat → Nat → Int32} (h : LV f q y) : arI (f (q + 6)) = some (8, y 4) := h.2.2.2.2.2.2
theorem LV.cn {f : Nat → e_C} {q : Nat} {y : Nat → Nat → Int32} (h : LV f q y) : cno (f q) = some 5 := cno_fld (j := 0) (by rw [h.r0]; rfl)
theorem LV.cl {f : Nat → e_C} {q : Nat} {y : Nat → Nat → Int32} (h : LV f q y) : cno (f (q + 1)) = some 1 := cno_fld (j := 0) (by rw [h.l0]; rfl)
theorem LV.fr {f : Nat → e_C} {q : Nat} {y : Nat → Nat → Int32} (h : LV f q y) {f' : Nat → e_C} (hf : ∀ b, q ≤ b → b < q + 7 → f' b = f b) : LV f' q y := by
  unfold LV
  rw [hf q (by omega) (by omega), hf (q + 1) (by omega) (by omega), hf (q + 2) (by omega) (by omega), hf (q + 3) (by omega) (by omega), hf (q + 4) (by omega) (by omega), hf (q + 5) (by omega) (by omega), hf (q + 6) (by omega) (by omega)]
  exact h
theorem LV.s0 {f : Nat → e_C} {q : Nat} {y : Nat → Nat → Int32} (h : LV f q y) {g : Nat → Int32} : LV (va_up f (q + 2) (.inl (.int, 7, .inl g))) q (up2 y 0 g) := by
  refine ⟨fun r hr => by rw [vu_ne (by omega)]; exact h.1 r hr, fun r hr => by rw [vu_ne (by omega)]; exact h.2.1 r hr, by rw [vu_eq, up2_eq]; rfl, by rw [vu_ne (by omega), up2_ne (by decide)]; exact h.a1, by rw [vu_ne (by omega), up2_ne (by decide)]; exact h.a2, by rw [vu_ne (by omega), up2_ne (by decide)]; exact h.a3, by rw [vu_ne (by omega), up2_ne (by decide)]; exact h.a4⟩
theorem LV.s1 {f : Nat → e_C} {q : Nat} {y : Nat → Nat → Int32} (h : LV f q y) {g : Nat → Int32} : LV (va_up f (q + 3) (.inl (.int, 40, .inl g))) q (up2 y 1 g) := by
  refine ⟨fun r hr => by rw [vu_ne (by omega)]; exact h.1 r hr, fun r hr => by rw [vu_ne (by omega)]; exact h.2.1 r hr, by rw [vu_ne (by omega), up2_ne (by decide)]; exact h.a0, by rw [vu_eq, up2_eq]; rfl, by rw [vu_ne (by omega), up2_ne (by decide)]; exact h.a2, by rw [vu_ne (by omega), up2_ne (by decide)]; exact h.a3, by rw [vu_ne (by omega), up2_ne (by decide)]; exact h.a4⟩
theorem LV.s2 {f : Nat → e_C} {q : Nat} {y : Nat → Nat → Int32} (h : LV f q y) {g : Nat → Int32} : LV (va_up f (q + 4) (.inl (.int, 9, .inl g))) q (up2 y 2 g) := by
  refine ⟨fun r hr => by rw [vu_ne (by omega)]; exact h.1 r hr, fun r hr => by rw [vu_ne (by omega)]; exact h.2.1 r hr, by rw [vu_ne (by omega), up2_ne (by decide)]; exact h.a0, by rw [vu_ne (by omega), up2_ne (by decide)]; exact h.a1, by rw [vu_eq, up2_eq]; rfl, by rw [vu_ne (by omega), up2_ne (by decide)]; exact h.a3, by rw [vu_ne (by omega), up2_ne (by decide)]; exact h.a4⟩
theorem LV.s3 {f : Nat → e_C} {q : Nat} {y : Nat → Nat → Int32} (h : LV f q y) {g : Nat → Int32} : LV (va_up f (q + 5) (.inl (.int, 9, .inl g))) q (up2 y 3 g) := by
  refine ⟨fun r hr => by rw [vu_ne (by omega)]; exact h.1 r hr, fun r hr => by rw [vu_ne (by omega)]; exact h.2.1 r hr, by rw [vu_ne (by omega), up2_ne (by decide)]; exact h.a0, by rw [vu_ne (by omega), up2_ne (by decide)]; exact h.a1, by rw [vu_ne (by omega), up2_ne (by decide)]; exact h.a2, by rw [vu_eq, up2_eq]; rfl, by rw [vu_ne (by omega), up2_ne (by decide)]; exact h.a4⟩
theorem LV.s4 {f : Nat → e_C} {q : Nat} {y : Nat → Nat → Int32} (h : LV f q y) {g : Nat → Int32} : LV (va_up f (q + 6) (.inl (.int, 8, .inl g))) q (up2 y 4 g) := by
  refine ⟨fun r hr => by rw [vu_ne (by omega)]; exact h.1 r hr, fun r hr => by rw [vu_ne (by omega)]; exact h.2.1 r hr, by rw [vu_ne (by omega), up2_ne (by decide)]; exact h.a0, by rw [vu_ne (by omega), up2_ne (by decide)]; exact h.a1, by rw [vu_ne (by omega), up2_ne (by decide)]; exact h.a2, by rw [vu_ne (by omega), up2_ne (by decide)]; exact h.a3, by rw [vu_eq, up2_eq]; rfl⟩
theorem SV.set {f : Nat → e_C} {a pl : Nat} {w : Nat → Int32} {x : Nat → Nat → Int32} (h : SV f a pl w x) {i : Nat} {z : Int32} (hi : i ∈ [1, 6, 7, 8, 9]) : SV (va_up f a (sfl (f a) i (.int z))) a pl (upd w i z) x := by
  have hs : (fld (f a) 6 i).isSome = true := by rw [h.1 i hi]; rfl
  refine ⟨fun j hj => ?_, fun r hr => ?_, ?_, by rw [vu_ne (by omega)]; exact h.a2, by rw [vu_ne (by omega)]; exact h.a3, by rw [vu_ne (by omega)]; exact h.a4, by rw [vu_ne (by omega)]; exact h.a5⟩
  · by_cases hji : j = i
    · subst hji; rw [vu_eq, fld_sfl_same hs, upd_eq]
    · rw [vu_eq, fld_sfl_ne hji, upd_ne hji]; exact h.1 j hj
  · rw [vu_eq, fld_sfl_ne ?_]
    · exact h.2.1 r hr
    · have q1 : i = 1 ∨ i = 6 ∨ i = 7 ∨ i = 8 ∨ i = 9 := by simpa using hi
      have q2 : r = (2, 1) ∨ r = (3, 2) ∨ r = (4, 3) ∨ r = (5, 4) := by simpa using hr
      rcases q2 with rfl | rfl | rfl | rfl <;> (show _ ≠ i; omega)
  · rw [vu_eq, fld_sfl_ne ?_]
    · exact h.pl
    · have q1 : i = 1 ∨ i = 6 ∨ i = 7 ∨ i = 8 ∨ i = 9 := by simpa using hi
      omega
theorem SV.spl {f : Nat → e_C} {a pl : Nat} {w : Nat → Int32} {x : Nat → Nat → Int32} (h : SV f a pl w x) {pl' : Nat} : SV (va_up f a (sfl (f a) 0 (.ref pl'))) a pl' w x := by
  have hs : (fld (f a) 6 0).isSome = true := by rw [h.pl]; rfl
  refine ⟨fun j hj => ?_, fun r hr => ?_, by rw [vu_eq, fld_sfl_same hs], by rw [vu_ne (by omega)]; exact h.a2, by rw [vu_ne (by omega)]; exact h.a3, by rw [vu_ne (by omega)]; exact h.a4, by rw [vu_ne (by omega)]; exact h.a5⟩
  · rw [vu_eq, fld_sfl_ne ?_]
    · exact h.1 j hj
    · revert hj; revert j; decide
  · rw [vu_eq, fld_sfl_ne ?_]
    · exact h.2.1 r hr
    · revert hr; revert r; decide
theorem SV.s2 {f : Nat → e_C} {a pl : Nat} {w : Nat → Int32} {x : Nat → Nat → Int32} (h : SV f a pl w x) {g : Nat → Int32} : SV (va_up f (a + 1) (.inl (.int, 9, .inl g))) a pl w (up2 x 2 g) := by
  refine ⟨fun j hj => by rw [vu_ne (by omega)]; exact h.1 j hj, fun r hr => by rw [vu_ne (by omega)]; exact h.2.1 r hr, by rw [vu_ne (by omega)]; exact h.pl, by rw [vu_eq, up2_eq]; rfl, by rw [vu_ne (by omega), up2_ne (by decide)]; exact h.a3, by rw [vu_ne (by omega), up2_ne (by decide)]; exact h.a4, by rw [vu_ne (by omega), up2_ne (by decide)]; exact h.a5⟩
theorem SV.s3 {f : Nat → e_C} {a pl : Nat} {w : Nat → Int32} {x : Nat → Nat → Int32} (h : SV f a pl w x) {g : Nat → Int32} : SV (va_up f (a + 2) (.inl (.int, 9, .inl g))) a pl w (up2 x 3 g) := by
  refine ⟨fun j hj => by rw [vu_ne (by omega)]; exact h.1 j hj, fun r hr => by rw [vu_ne (by omega)]; exact h.2.1 r hr, by rw [vu_ne (by omega)]; exact h.pl, by rw [vu_ne (by omega), up2_ne (by decide)]; exact h.a2, by rw [vu_eq, up2_eq]; rfl, by rw [vu_ne (by omega), up2_ne (by decide)]; exact h.a4, by rw [vu_ne (by omega), up2_ne (by decide)]; exact h.a5⟩
theorem SV.s4 {f : Nat → e_C} {a pl : Nat} {w : Nat → Int32} {x : Nat → Nat → Int32} (h : SV f a pl w x) {g : Nat → Int32} : SV (va_up f (a + 3) (.inl (.int, 9, .inl g))) a pl w (up2 x 4 g) := by
  refine ⟨fun j hj => by rw [vu_ne (by omega)]; exact h.1 j hj, fun r hr => by rw [vu_ne (by omega)]; exact h.2.1 r hr, by rw [vu_ne (by omega)]; exact h.pl, by rw [vu_ne (by omega), up2_ne (by decide)]; exact h.a2, by rw [vu_ne (by omega), up2_ne (by decide)]; exact h.a3, by rw [vu_eq, up2_eq]; rfl, by rw [vu_ne (by omega), up2_ne (by decide)]; exact h.a5⟩
theorem SV.s5 {f : Nat → e_C} {a pl : Nat} {w : Nat → Int32} {x : Nat → Nat → Int32} (h : SV f a pl w x) {g : Nat → Int32} : SV (va_up f (a + 4) (.inl (.int, 8, .inl g))) a pl w (up2 x 5 g) := by
  refine ⟨fun j hj => by rw [vu_ne (by omega)]; exact h.1 j hj, fun r hr => by rw [vu_ne (by omega)]; exact h.2.1 r hr, by rw [vu_ne (by omega)]; exact h.pl, by rw [vu_ne (by omega), up2_ne (by decide)]; exact h.a2, by rw [vu_ne (by omega), up2_ne (by decide)]; exact h.a3, by rw [vu_ne (by omega), up2_ne (by decide)]; exact h.a4, by rw [vu_eq, up2_eq]; rfl⟩
