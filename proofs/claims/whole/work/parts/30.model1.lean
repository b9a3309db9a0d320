/-! the reference: what one bears, what steps bear -/
/-- the reference object's rows -/
def MR (f : Nat → e_C) : Prop := fld (f 171) 12 1 = some (.ref 172) ∧ fld (f 171) 12 2 = some (.ref 173) ∧ fld (f 171) 12 3 = some (.ref 174) ∧ fld (f 171) 12 4 = some (.ref 175) ∧ fld (f 171) 12 16 = some (.ref 176) ∧ fld (f 171) 12 17 = some (.ref 177) ∧ fld (f 171) 12 18 = some (.ref 178) ∧ fld (f 171) 12 19 = some (.ref 179) ∧ fld (f 171) 12 20 = some (.ref 180) ∧ fld (f 171) 12 23 = some (.ref 181) ∧ fld (f 171) 12 24 = some (.ref 182) ∧ fld (f 171) 12 25 = some (.ref 183) ∧ fld (f 171) 12 26 = some (.ref 184) ∧ fld (f 171) 12 27 = some (.ref 185) ∧ fld (f 171) 12 28 = some (.ref 186) ∧ fld (f 171) 12 29 = some (.ref 187) ∧ fld (f 171) 12 30 = some (.ref 188)
def MS (f : Nat → e_C) (all : Nat → Int32) : Prop := MR f ∧ arI (f 172) = some (4182, all) ∧ (∃ g, arI (f 177) = some (900, g)) ∧ (∃ g, arI (f 178) = some (7, g)) ∧ ∃ g, arI (f 179) = some (8, g)
/-- nothing but these cells is changed -/
def SX (L : List Nat) (f f' : Nat → e_C) : Prop := ∀ a, a ∉ L → f' a = f a
theorem cno_MR {f : Nat → e_C} (h : MR f) : cno (f 171) = some 12 := cno_fld (j := 1) (by rw [h.1]; rfl)
set_option maxRecDepth 100000 in
theorem bit_isIn : ∀ S, S < 512 → ∀ j, j < 9 → lg_cmp ((nI S).toInt64 >>> ((nI j).toInt64 &&& 63) &&& 1) 1 = (if S.testBit j then 0 else -1) := by decide +kernel
theorem sp_isIn {X : Nat × (Nat → Int32)} {d n k : Nat} {f : Nat → e_C} {S j : Nat} {a : UInt64} (hS : S < 512) (hj : j < 9) : PU X d 205 [.long (nI S).toInt64, .double a, .int (nI j)] f n k (some (.int (if S.testBit j then 1 else 0))) := by
  unfold PU
  have hb := bit_isIn S hS j hj
  simp only [s205_0, s205_1, s205_2, s205_3, s205_4, s205_5, s205_6, s205_7, s205_10, s205_11, s205_14, s205_15, hb]
  by_cases h : S.testBit j = true <;> simp [h]
/-- the other one of p's couple is in the set -/
def m_wed (all : Nat → Int32) (p S : Nat) : Int32 := if all (43 + p) = -1 then 0 else if S.testBit (all (43 + p)).toNatClampNeg then 1 else 0
theorem sp_wedIn {X : Nat × (Nat → Int32)} {d n k : Nat} {f : Nat → e_C} {all : Nat → Int32} {S p : Nat} (M : MS f all) (hS : S < 512) (hp : p < 9) (ho : all (43 + p) = -1 ∨ ∃ j, j < 9 ∧ all (43 + p) = nI j) : PU X (d + 1) 207 [.ref 171, .int (nI p), .int (nI S)] f n k (some (.int (m_wed all p S))) := by
  obtain ⟨mr, ma, -⟩ := M
  have m1 := mr.1
  unfold PU m_wed
  rcases ho with ho | ⟨j, hj, ho⟩
  · simp (disch := first | omega | decide) only [s207_0, s207_1, s207_4, s207_6, s207_7, s207_8, s207_9, s207_10, s207_13, s207_14, s207_15, s207_16, s207_19, s207_21, s207_22, s207_23, s207_27, s207_30, s207_31, s207_34, s207_35, m1, ow_some, ma, lt_add, ix_in, ix_cl, true_and, ho, if_true, and_self]
  · have e1 : (nI j = -1) = False := ne_m1 (by omega)
    have e2 : ∀ (lv rest : List Value) (Q : t_Q), e_cat rest ≤ 8 → TT X (d + 1) 207 24 lv (.int (nI j) :: .long (nI S).toInt64 :: rest) f n k Q = TT X (d + 1) 207 27 lv (.int (if S.testBit j then 1 else 0) :: rest) f n k Q := fun lv rest Q h => p207_24 h (sp_isIn hS hj)
    have e3 : e_cat [] ≤ 8 := by decide
    simp (disch := first | omega | decide | exact e3) only [s207_0, s207_1, s207_4, s207_6, s207_7, s207_8, s207_9, s207_10, s207_13, s207_14, s207_15, s207_16, s207_19, s207_21, s207_22, s207_23, s207_27, s207_30, s207_31, s207_34, s207_35, m1, ow_some, ma, lt_add, ix_in, ix_cl, true_and, ho, e1, if_false, e2]
    by_cases h : S.testBit j = true <;> simp [h]
/-- two numbers by a code -/
def m_btw (c a b : Int32) : Int32 := if c = 3003 then (if a = b then 1 else 0) else if c = 3004 then (if a < b then 1 else 0) else if c = 3005 then (if b < a then 1 else 0) else if c = 3007 then a &&& b else if c = 3008 then a ||| b
  else
    let v : Int64 := if c = 3000 then a.toInt64 + b.toInt64 else if c = 3001 then a.toInt64 - b.toInt64 else a.toInt64 * b.toInt64
    if 1000000 < v then 1000000 else if v < -1000000 then -1000000 else v.toInt32
