/-! the reference's state: its rows by name; sets in numbers -/
theorem MV.r1 {f : Nat → e_C} {s : m_T} (h : MV f s) : fld (f 171) 12 1 = some (.ref 172) := h.mr.1
theorem MV.r2 {f : Nat → e_C} {s : m_T} (h : MV f s) : fld (f 171) 12 2 = some (.ref 173) := h.mr.2.1
theorem MV.r3 {f : Nat → e_C} {s : m_T} (h : MV f s) : fld (f 171) 12 3 = some (.ref 174) := h.mr.2.2.1
theorem MV.r4 {f : Nat → e_C} {s : m_T} (h : MV f s) : fld (f 171) 12 4 = some (.ref 175) := h.mr.2.2.2.1
theorem MV.r16 {f : Nat → e_C} {s : m_T} (h : MV f s) : fld (f 171) 12 16 = some (.ref 176) := h.mr.2.2.2.2.1
theorem MV.r17 {f : Nat → e_C} {s : m_T} (h : MV f s) : fld (f 171) 12 17 = some (.ref 177) := h.mr.2.2.2.2.2.1
theorem MV.r18 {f : Nat → e_C} {s : m_T} (h : MV f s) : fld (f 171) 12 18 = some (.ref 178) := h.mr.2.2.2.2.2.2.1
theorem MV.r19 {f : Nat → e_C} {s : m_T} (h : MV f s) : fld (f 171) 12 19 = some (.ref 179) := h.mr.2.2.2.2.2.2.2.1
theorem MV.r20 {f : Nat → e_C} {s : m_T} (h : MV f s) : fld (f 171) 12 20 = some (.ref 180) := h.mr.2.2.2.2.2.2.2.2.1
theorem MV.r23 {f : Nat → e_C} {s : m_T} (h : MV f s) : fld (f 171) 12 23 = some (.ref 181) := h.mr.2.2.2.2.2.2.2.2.2.1
theorem MV.r24 {f : Nat → e_C} {s : m_T} (h : MV f s) : fld (f 171) 12 24 = some (.ref 182) := h.mr.2.2.2.2.2.2.2.2.2.2.1
theorem MV.r25 {f : Nat → e_C} {s : m_T} (h : MV f s) : fld (f 171) 12 25 = some (.ref 183) := h.mr.2.2.2.2.2.2.2.2.2.2.2.1
theorem MV.r26 {f : Nat → e_C} {s : m_T} (h : MV f s) : fld (f 171) 12 26 = some (.ref 184) := h.mr.2.2.2.2.2.2.2.2.2.2.2.2.1
theorem MV.r27 {f : Nat → e_C} {s : m_T} (h : MV f s) : fld (f 171) 12 27 = some (.ref 185) := h.mr.2.2.2.2.2.2.2.2.2.2.2.2.2.1
theorem MV.r28 {f : Nat → e_C} {s : m_T} (h : MV f s) : fld (f 171) 12 28 = some (.ref 186) := h.mr.2.2.2.2.2.2.2.2.2.2.2.2.2.2.1
theorem MV.r29 {f : Nat → e_C} {s : m_T} (h : MV f s) : fld (f 171) 12 29 = some (.ref 187) := h.mr.2.2.2.2.2.2.2.2.2.2.2.2.2.2.2.1
theorem MV.r30 {f : Nat → e_C} {s : m_T} (h : MV f s) : fld (f 171) 12 30 = some (.ref 188) := h.mr.2.2.2.2.2.2.2.2.2.2.2.2.2.2.2.2
theorem MV.c172 {f : Nat → e_C} {s : m_T} (h : MV f s) : arI (f 172) = some (4182, s.1) := h 172 (by omega) (by omega)
theorem MV.c173 {f : Nat → e_C} {s : m_T} (h : MV f s) : arY (f 173) = some (.boolean, 2, s.2.2.2.1) := arY_Z (h 173 (by omega) (by omega))
theorem MV.c174 {f : Nat → e_C} {s : m_T} (h : MV f s) : arI (f 174) = some (900, s.2.2.1) := h 174 (by omega) (by omega)
theorem MV.c186 {f : Nat → e_C} {s : m_T} (h : MV f s) : arI (f 186) = some (4, s.2.2.2.2.1) := h 186 (by omega) (by omega)
theorem MV.c187 {f : Nat → e_C} {s : m_T} (h : MV f s) : arI (f 187) = some (4, s.2.2.2.2.2.1) := h 187 (by omega) (by omega)
theorem MV.c188 {f : Nat → e_C} {s : m_T} (h : MV f s) : arL (f 188) = some (160, s.2.2.2.2.2.2) := h 188 (by omega) (by omega)
theorem MV.e175 {f : Nat → e_C} {s : m_T} (h : MV f s) : ∃ g, arI (f 175) = some (1394, g) := h 175 (by omega) (by omega)
theorem MV.e176 {f : Nat → e_C} {s : m_T} (h : MV f s) : ∃ g, arI (f 176) = some (9, g) := h 176 (by omega) (by omega)
theorem MV.e180 {f : Nat → e_C} {s : m_T} (h : MV f s) : ∃ g, arI (f 180) = some (40, g) := h 180 (by omega) (by omega)
theorem MV.e183 {f : Nat → e_C} {s : m_T} (h : MV f s) : ∃ g, arI (f 183) = some (9, g) := h 183 (by omega) (by omega)
theorem MV.e185 {f : Nat → e_C} {s : m_T} (h : MV f s) : ∃ g, arI (f 185) = some (512, g) := h 185 (by omega) (by omega)
theorem MV.e179 {f : Nat → e_C} {s : m_T} (h : MV f s) : ∃ g, arI (f 179) = some (8, g) := h 179 (by omega) (by omega)
theorem MV.e177 {f : Nat → e_C} {s : m_T} (h : MV f s) : ∃ g, arI (f 177) = some (900, g) := h 177 (by omega) (by omega)
theorem MV.e181 {f : Nat → e_C} {s : m_T} (h : MV f s) : ∃ g, arZ (f 181) = some (512, g) := h 181 (by omega) (by omega)
theorem MV.e182 {f : Nat → e_C} {s : m_T} (h : MV f s) : ∃ g, arZ (f 182) = some (512, g) := h 182 (by omega) (by omega)
theorem MV.e184 {f : Nat → e_C} {s : m_T} (h : MV f s) : ∃ g, arZ (f 184) = some (100, g) := h 184 (by omega) (by omega)
theorem MV.ob {f : Nat → e_C} {s : m_T} (h : MV f s) : m_obj s (f 171) := h 171 (by omega) (by omega)
theorem MV.n5 {f : Nat → e_C} {s : m_T} (h : MV f s) : fld (f 171) 12 5 = some (.int s.2.1.1) := h.ob.2.2.1
theorem MV.n13 {f : Nat → e_C} {s : m_T} (h : MV f s) : fld (f 171) 12 13 = some (.int s.2.1.2.1) := h.ob.2.2.2.1
theorem MV.n14 {f : Nat → e_C} {s : m_T} (h : MV f s) : fld (f 171) 12 14 = some (.int s.2.1.2.2) := h.ob.2.2.2.2
theorem MV.i5 {f : Nat → e_C} {s : m_T} (h : MV f s) : (fld (f 171) 12 5).isSome = true := by rw [h.n5]; rfl
theorem MV.i13 {f : Nat → e_C} {s : m_T} (h : MV f s) : (fld (f 171) 12 13).isSome = true := by rw [h.n13]; rfl
theorem MV.i14 {f : Nat → e_C} {s : m_T} (h : MV f s) : (fld (f 171) 12 14).isSome = true := by rw [h.n14]; rfl
theorem MV.i0 {f : Nat → e_C} {s : m_T} (h : MV f s) : (fld (f 171) 12 0).isSome = true := h.has (by decide)
theorem MV.i6 {f : Nat → e_C} {s : m_T} (h : MV f s) : (fld (f 171) 12 6).isSome = true := h.has (by decide)
theorem MV.i7 {f : Nat → e_C} {s : m_T} (h : MV f s) : (fld (f 171) 12 7).isSome = true := h.has (by decide)
theorem MV.i8 {f : Nat → e_C} {s : m_T} (h : MV f s) : (fld (f 171) 12 8).isSome = true := h.has (by decide)
theorem MV.i9 {f : Nat → e_C} {s : m_T} (h : MV f s) : (fld (f 171) 12 9).isSome = true := h.has (by decide)
theorem MV.i10 {f : Nat → e_C} {s : m_T} (h : MV f s) : (fld (f 171) 12 10).isSome = true := h.has (by decide)
theorem MV.i11 {f : Nat → e_C} {s : m_T} (h : MV f s) : (fld (f 171) 12 11).isSome = true := h.has (by decide)
theorem MV.i12 {f : Nat → e_C} {s : m_T} (h : MV f s) : (fld (f 171) 12 12).isSome = true := h.has (by decide)
theorem MV.i15 {f : Nat → e_C} {s : m_T} (h : MV f s) : (fld (f 171) 12 15).isSome = true := h.has (by decide)
theorem MV.i21 {f : Nat → e_C} {s : m_T} (h : MV f s) : (fld (f 171) 12 21).isSome = true := h.has (by decide)
theorem MV.i22 {f : Nat → e_C} {s : m_T} (h : MV f s) : (fld (f 171) 12 22).isSome = true := h.has (by decide)
theorem pok_i {x : Int32} : (e_pok .int (.int x) = true) = True := eq_true rfl
theorem b1z {c : Prop} [Decidable c] : ((if c then (1 : Int32) else 0) = 0) = ¬ c := by
  by_cases h : c <;> simp [h]
theorem b1o {c : Prop} [Decidable c] : ((if c then (1 : Int32) else 0) = 1) = c := by
  by_cases h : c <;> simp [h]
theorem z10 : ((1 : Int32) = 0) = False := eq_false (by decide)
/-- what a method of the reference ends with -/
abbrev MP (N K : Nat) (f : Nat → e_C) (s' : m_T) (v0 : Option Value) : t_Q := fun f' n' k' v => n' = N ∧ k' = K ∧ SM f f' ∧ MV f' s' ∧ v = v0
/-! sets -/
def sel (c : Nat → Bool) (P : Nat) : Nat := fo (fun p s => if c p then s ||| 2 ^ p else s) 0 P
theorem sel_s {c : Nat → Bool} {P : Nat} : sel c (P + 1) = if c P then sel c P ||| 2 ^ P else sel c P := rfl
theorem sel_lt {c : Nat → Bool} : ∀ {P : Nat}, sel c P < 2 ^ P := by
  intro P
  induction P with
  | zero => exact Nat.lt_of_lt_of_le (Nat.zero_lt_one) (Nat.le_refl _)
  | succ P ih =>
    rw [sel_s]
    have h2 : 2 ^ P < 2 ^ (P + 1) := Nat.pow_lt_pow_right (by omega) (by omega)
    split
    · exact Nat.or_lt_two_pow (Nat.lt_trans ih h2) h2
    · exact Nat.lt_trans ih h2
theorem sel_bit {c : Nat → Bool} {P i : Nat} : (sel c P).testBit i = (decide (i < P) && c i) := by
  induction P with
  | zero => simp [sel, fo]
  | succ P ih =>
    rw [sel_s]
    by_cases hi : i = P
    · subst hi
      cases hc : c i <;> simp [ih, Nat.testBit_or, Nat.testBit_two_pow_self]
    · have h1 : decide (i < P + 1) = decide (i < P) := by
        by_cases h : i < P
        · simp [h]; omega
        · have : ¬ i < P + 1 := by omega
          simp [h, this]
      cases hc : c P
      · simp [ih, h1]
      · have h2 : (2 ^ P).testBit i = false := Nat.testBit_two_pow_of_ne (by omega)
        simp only [if_true, Nat.testBit_or, ih, h1, h2, Bool.or_false]
def clr (T p : Nat) : Nat := if T.testBit p then T - 2 ^ p else T
set_option maxRecDepth 100000 in
theorem bit_clr : ∀ T, T < 512 → ∀ p, p < 9 → nI T &&& ((1 : Int32) <<< (nI p &&& 31) ^^^ -1) = nI (clr T p) ∧ clr T p < 512 := by decide +kernel
set_option maxRecDepth 100000 in
theorem bit_set : ∀ T, T < 512 → ∀ p, p < 9 → nI T ||| (1 : Int32) <<< (nI p &&& 31) = nI (T ||| 2 ^ p) ∧ T ||| 2 ^ p < 512 := by decide +kernel
set_option maxRecDepth 100000 in
theorem bit_has : ∀ T, T < 512 → ∀ p, p < 9 → (nI T &&& (1 : Int32) <<< (nI p &&& 31) = 0) = ¬ T.testBit p = true := by
  intro T hT p hp
  have : ∀ T, T < 512 → ∀ p, p < 9 → decide (nI T &&& (1 : Int32) <<< (nI p &&& 31) = 0) = !T.testBit p := by decide +kernel
  have h := this T hT p hp
  apply propext
  cases hb : T.testBit p
  · rw [hb] at h; simpa using h
  · rw [hb] at h; simpa using h
theorem pw9 {P : Nat} (h : P ≤ 9) : 2 ^ P ≤ 512 := Nat.pow_le_pow_right (n := 2) (by omega) h
theorem or_zero32 (x : Int32) : x ||| 0 = x := by
  apply Int32.toBitVec_inj.mp
  simp
theorem upd_ne {g : Nat → Int32} {a b : Nat} {x : Int32} (h : b ≠ a) : upd g a x b = g b := by simp [upd, h]
theorem upd_eq {g : Nat → Int32} {a : Nat} {x : Int32} : upd g a x a = x := by simp [upd]
theorem vu_vu {f : Nat → e_C} {a : Nat} {c c' : e_C} : va_up (va_up f a c) a c' = va_up f a c' := by
  funext b; by_cases h : b = a
  · subst h; rw [vu_eq, vu_eq]
  · rw [vu_ne h, vu_ne h, vu_ne h]
