/-! the class works a law out -/
theorem s14_170a {X : Nat × (Nat → Int32)} {d n k : Nat} {f : Nat → e_C} {Q : t_Q} {lv st : List Value} : TT X d 14 170 lv (.int 2 :: st) f n k Q = TT X d 14 320 lv st f n k Q := tt_st (i := .lookupswitch 160 #[(2, 150), (42, 86), (43, 66), (45, 76), (60, 114), (61, 96), (62, 132)]) (len := 66) (by decide +kernel) rfl rfl
theorem s14_170b {X : Nat × (Nat → Int32)} {d n k : Nat} {f : Nat → e_C} {Q : t_Q} {lv st : List Value} : TT X d 14 170 lv (.int 42 :: st) f n k Q = TT X d 14 256 lv st f n k Q := tt_st (i := .lookupswitch 160 #[(2, 150), (42, 86), (43, 66), (45, 76), (60, 114), (61, 96), (62, 132)]) (len := 66) (by decide +kernel) rfl rfl
theorem s14_170c {X : Nat × (Nat → Int32)} {d n k : Nat} {f : Nat → e_C} {Q : t_Q} {lv st : List Value} : TT X d 14 170 lv (.int 43 :: st) f n k Q = TT X d 14 236 lv st f n k Q := tt_st (i := .lookupswitch 160 #[(2, 150), (42, 86), (43, 66), (45, 76), (60, 114), (61, 96), (62, 132)]) (len := 66) (by decide +kernel) rfl rfl
theorem s14_170d {X : Nat × (Nat → Int32)} {d n k : Nat} {f : Nat → e_C} {Q : t_Q} {lv st : List Value} : TT X d 14 170 lv (.int 45 :: st) f n k Q = TT X d 14 246 lv st f n k Q := tt_st (i := .lookupswitch 160 #[(2, 150), (42, 86), (43, 66), (45, 76), (60, 114), (61, 96), (62, 132)]) (len := 66) (by decide +kernel) rfl rfl
theorem s14_170e {X : Nat × (Nat → Int32)} {d n k : Nat} {f : Nat → e_C} {Q : t_Q} {lv st : List Value} : TT X d 14 170 lv (.int 60 :: st) f n k Q = TT X d 14 284 lv st f n k Q := tt_st (i := .lookupswitch 160 #[(2, 150), (42, 86), (43, 66), (45, 76), (60, 114), (61, 96), (62, 132)]) (len := 66) (by decide +kernel) rfl rfl
theorem s14_170f {X : Nat × (Nat → Int32)} {d n k : Nat} {f : Nat → e_C} {Q : t_Q} {lv st : List Value} : TT X d 14 170 lv (.int 61 :: st) f n k Q = TT X d 14 266 lv st f n k Q := tt_st (i := .lookupswitch 160 #[(2, 150), (42, 86), (43, 66), (45, 76), (60, 114), (61, 96), (62, 132)]) (len := 66) (by decide +kernel) rfl rfl
theorem s14_170g {X : Nat × (Nat → Int32)} {d n k : Nat} {f : Nat → e_C} {Q : t_Q} {lv st : List Value} : TT X d 14 170 lv (.int 62 :: st) f n k Q = TT X d 14 302 lv st f n k Q := tt_st (i := .lookupswitch 160 #[(2, 150), (42, 86), (43, 66), (45, 76), (60, 114), (61, 96), (62, 132)]) (len := 66) (by decide +kernel) rfl rfl
theorem s14_170h {X : Nat × (Nat → Int32)} {d n k : Nat} {f : Nat → e_C} {Q : t_Q} {lv st : List Value} : TT X d 14 170 lv (.int 1 :: st) f n k Q = TT X d 14 330 lv st f n k Q := tt_st (i := .lookupswitch 160 #[(2, 150), (42, 86), (43, 66), (45, 76), (60, 114), (61, 96), (62, 132)]) (len := 66) (by decide +kernel) rfl rfl
/-- the class's codes -/
def tr (c : Int32) : Int32 := if c = 3000 then 2043 else if c = 3001 then 2045 else if c = 3002 then 2042 else if c = 3003 then 2061 else if c = 3004 then 2060 else if c = 3005 then 2062 else if c = 3006 then 2003 else if c = 3007 then 2002 else if c = 3008 then 2001 else c
def c_words (who build age step day wed wait : Int32) : Nat → Int32 := fun i => if i = 0 then who else if i = 1 then build else if i = 2 then age else if i = 3 then step else if i = 4 then day - day / 7 * 7 else if i = 5 then wed else wait
theorem sp_tell {X : Nat × (Nat → Int32)} {d N K q : Nat} {f : Nat → e_C} {y : Nat → Nat → Int32} (L : LV f q y) {x1 x2 x3 x4 x5 x6 x7 : Int32} : TT X d 13 0 [.ref (q + 1), .int x1, .int x2, .int x3, .int x4, .int x5, .int x6, .int x7] [] f N K (fun f' n' k' v => n' = N ∧ k' = K ∧ v = none ∧ SI (q + 2) (q + 3) f f' ∧ ∃ g, LV f' q (up2 y 0 g) ∧ ∀ i, i < 7 → g i = c_words x1 x2 x3 x4 x5 x6 x7 i) := by
  have t7 : ((7 : Int32) = 0) = False := eq_false (by decide)
  simp (disch := first | omega | decide | assumption | exact Nat.le_of_ble_eq_true rfl) only [s13_0, s13_1, s13_4, s13_5, s13_6, s13_7, s13_8, s13_11, s13_12, s13_13, s13_14, s13_15, s13_18, s13_19, s13_20, s13_21, s13_22, s13_25, s13_26, s13_28, s13_29, s13_30, s13_33, s13_34, s13_36, s13_38, s13_39, s13_40, s13_41, s13_44, s13_45, s13_47, s13_48, s13_49, s13_52, s13_54, s13_56, s13_57, ow_some, true_and, and_true, and_self, if_true, if_false, not_true, not_false_eq_true, Bool.false_eq_true, eq_self, Option.toList, List.cons_append, List.nil_append, ix_in, ix_cl, lt_in, lt_cl, lt_add, ix_one, vu_eq, vu_ne, arI_mk, arL_mk, arY_mZ, arY_mB, alen_mI, fld_sfl_ne, fld_sfl_same, Option.isSome_some, pok_i, b1z, b01, z10, b1o, Int32.zero_add, vu_vu, upd_eq, upd_ne, true_or, or_true, L.r0, L.r1, L.r2, L.r3, L.l0, L.l1, L.a0, L.a1, L.a2, L.a3, L.a4, t7, ne_eq]
  refine ⟨SI.up (by omega) (by omega), _, L.s0, fun i hi => ?_⟩
  rcases (show i = 0 ∨ i = 1 ∨ i = 2 ∨ i = 3 ∨ i = 4 ∨ i = 5 ∨ i = 6 by omega) with rfl | rfl | rfl | rfl | rfl | rfl | rfl <;> simp [upd, c_words]
/-- what waits fits its kinds -/
def okt : List Bool → List Int32 → Prop
  | [], [] => True
  | t :: ts, a :: r => (t = true → a = 0 ∨ a = 1) ∧ okt ts r
  | _, _ => False
theorem okt_len : ∀ {ts : List Bool} {st : List Int32}, okt ts st → ts.length = st.length := by
  intro ts
  induction ts with
  | nil => intro st h; cases st with
    | nil => rfl
    | cons a r => exact h.elim
  | cons t ts ih => intro st h; cases st with
    | nil => exact h.elim
    | cons a r => rw [List.length_cons, List.length_cons, ih h.2]
theorem l_R_push {h : Nat} {g : Nat → Int32} {st : List Int32} {x : Int32} (hr : l_R h g st) : l_R (h + 1) (upd g h x) (x :: st) := by
  obtain ⟨h1, h2⟩ := hr
  refine ⟨by simp [h1], fun i hi => ?_⟩
  cases i with
  | zero => simp [upd]
  | succ i =>
    have := h2 i (by omega)
    simp only [List.getElem?_cons_succ, this]
    rw [show h + 1 - 1 - (i + 1) = h - 1 - i by omega]
    simp [upd, show ¬ h - 1 - i = h by omega]
theorem l_R_top {h : Nat} {g : Nat → Int32} {a x : Int32} {r : List Int32} (hr : l_R (h + 1) g (a :: r)) : g h = a ∧ l_R (h + 1) (upd g h x) (x :: r) := by
  obtain ⟨h1, h2⟩ := hr
  have ha := h2 0 (by omega)
  simp at ha
  refine ⟨ha.symm, by simpa using h1, fun i hi => ?_⟩
  cases i with
  | zero => simp [upd]
  | succ i =>
    have := h2 (i + 1) (by omega)
    simp only [List.getElem?_cons_succ] at this ⊢
    rw [this, upd_ne (by omega)]
theorem l_R_two {h : Nat} {g : Nat → Int32} {a b x : Int32} {r : List Int32} (hr : l_R (h + 2) g (b :: a :: r)) : g (h + 1) = b ∧ g h = a ∧ l_R (h + 1) (upd g h x) (x :: r) := by
  obtain ⟨h1, h2⟩ := hr
  have hb := h2 0 (by omega)
  have ha := h2 1 (by omega)
  simp at ha hb
  refine ⟨hb.symm, ha.symm, by simp at h1 ⊢; omega, fun i hi => ?_⟩
  cases i with
  | zero => simp [upd]
  | succ i =>
    have := h2 (i + 2) (by omega)
    simp only [List.getElem?_cons_succ] at this ⊢
    rw [this]
    rw [show h + 2 - 1 - (i + 2) = h + 1 - 1 - (i + 1) by omega, upd_ne (by omega)]
/-- how the class keeps a number small -/
def kpm (v : Int64) : Int32 := if 1000000 < v then 1000000 else if v < -1000000 then -1000000 else v.toInt32
theorem kpm_01 {c : Prop} [Decidable c] : kpm (if c then 1 else 0) = if c then 1 else 0 := by
  by_cases h : c <;> simp only [h, if_true, if_false] <;> decide
theorem btw_l {a b : Int32} : m_btw 3003 a b = (if a = b then 1 else 0) ∧ m_btw 3004 a b = (if a < b then 1 else 0) ∧ m_btw 3005 a b = (if b < a then 1 else 0) ∧ m_btw 3007 a b = a &&& b ∧ m_btw 3008 a b = a ||| b ∧ m_btw 3000 a b = kpm (a.toInt64 + b.toInt64) ∧ m_btw 3001 a b = kpm (a.toInt64 - b.toInt64) ∧ m_btw 3002 a b = kpm (a.toInt64 * b.toInt64) := by
  have n43 : ¬ (3004 : Int32) = 3003 := by decide
  have n53 : ¬ (3005 : Int32) = 3003 := by decide
  have n54 : ¬ (3005 : Int32) = 3004 := by decide
  have n73 : ¬ (3007 : Int32) = 3003 := by decide
  have n74 : ¬ (3007 : Int32) = 3004 := by decide
  have n75 : ¬ (3007 : Int32) = 3005 := by decide
  have n83 : ¬ (3008 : Int32) = 3003 := by decide
  have n84 : ¬ (3008 : Int32) = 3004 := by decide
  have n85 : ¬ (3008 : Int32) = 3005 := by decide
  have n87 : ¬ (3008 : Int32) = 3007 := by decide
  have t : ∀ c : Int32, (c = 3000 ∨ c = 3001 ∨ c = 3002) → ¬ c = 3003 ∧ ¬ c = 3004 ∧ ¬ c = 3005 ∧ ¬ c = 3007 ∧ ¬ c = 3008 := by
    rintro c (rfl | rfl | rfl) <;> decide
  have n10 : ¬ (3001 : Int32) = 3000 := by decide
  have n20 : ¬ (3002 : Int32) = 3000 := by decide
  have n21 : ¬ (3002 : Int32) = 3001 := by decide
  unfold m_btw kpm
  refine ⟨if_pos rfl, ?_, ?_, ?_, ?_, ?_, ?_, ?_⟩
  · rw [if_neg n43, if_pos rfl]
  · rw [if_neg n53, if_neg n54, if_pos rfl]
  · rw [if_neg n73, if_neg n74, if_neg n75, if_pos rfl]
  · rw [if_neg n83, if_neg n84, if_neg n85, if_neg n87, if_pos rfl]
  · obtain ⟨a1, a2, a3, a4, a5⟩ := t 3000 (by simp)
    rw [if_neg a1, if_neg a2, if_neg a3, if_neg a4, if_neg a5, if_pos rfl]
  · obtain ⟨a1, a2, a3, a4, a5⟩ := t 3001 (by simp)
    rw [if_neg a1, if_neg a2, if_neg a3, if_neg a4, if_neg a5, if_neg n10, if_pos rfl]
  · obtain ⟨a1, a2, a3, a4, a5⟩ := t 3002 (by simp)
    rw [if_neg a1, if_neg a2, if_neg a3, if_neg a4, if_neg a5, if_neg n20, if_neg n21]
theorem kpm_and {a b : Int32} (ha : a = 0 ∨ a = 1) (hb : b = 0 ∨ b = 1) : kpm (a.toInt64 &&& b.toInt64) = a &&& b ∧ kpm (a.toInt64 ||| b.toInt64) = a ||| b ∧ (a &&& b = 0 ∨ a &&& b = 1) ∧ (a ||| b = 0 ∨ a ||| b = 1) := by
  rcases ha with rfl | rfl <;> rcases hb with rfl | rfl <;> decide
theorem i64_lt {a b : Int32} : (a.toInt64 < b.toInt64) = (a < b) := by
  rw [Int64.lt_iff_toInt_lt, Int32.lt_iff_toInt_lt, Int32.toInt_toInt64, Int32.toInt_toInt64]
theorem i64_eq {a b : Int32} : (a.toInt64.toInt = b.toInt64.toInt) = (a = b) := by
  rw [Int32.toInt_toInt64, Int32.toInt_toInt64]
  exact propext Int32.toInt_inj
/-- one binary code, from where both numbers are read -/
theorem rn_two {X : Nat × (Nat → Int32)} {d N K q h i : Nat} {f : Nat → e_C} {Q : t_Q} {y : Nat → Nat → Int32} {c a b : Int32} {u1 u2 u3 u7 u8 u9 u10 u11 u12 : Value} (L : LV f q y) (hh : h + 2 ≤ 40) (ha : y 1 h = a) (hb : y 1 (h + 1) = b) (hc : (c = 3000 ∨ c = 3001 ∨ c = 3002 ∨ c = 3003 ∨ c = 3004 ∨ c = 3005) ∨ ((c = 3007 ∨ c = 3008) ∧ (a = 0 ∨ a = 1) ∧ (b = 0 ∨ b = 1)))
    (hQ : ∀ w7 w8 w9 w10 w11 w12, TH X d 14 6 [.ref (q + 1), u1, u2, u3, .int (nI (h + 1)), .int (nI (i + 1)), .int (tr c), w7, w8, w9, w10, w11, w12] [] (va_up f (q + 3) (.inl (.int, 40, .inl (upd (y 1) h (m_btw c a b))))) N K Q) :
    TT X d 14 139 [.ref (q + 1), u1, u2, u3, .int (nI (h + 2)), .int (nI i), .int (tr c), u7, u8, u9, u10, u11, u12] [] f N K Q := by
  have q2 : nI (h + 2) + Int32.ofInt (-1) = nI (h + 1) := pk_m1 (h + 1)
  have fin : ∀ (v : Int64) w7 w8 w9 w10, kpm v = m_btw c a b → TT X d 14 337 [.ref (q + 1), u1, u2, u3, .int (nI (h + 1)), .int (nI i), .int (tr c), w7, w8, w9, w10, .long v, .double 0] [] f N K Q := by
    intro v w7 w8 w9 w10 hv
    have hq := hQ w7 w8 w9 w10 (.long v) (.double 0)
    rw [← hv] at hq
    unfold kpm at hq
    simp (disch := first | omega | decide | assumption | exact Nat.le_of_ble_eq_true rfl) only [s14_337, s14_338, s14_341, s14_343, s14_344, s14_345, s14_347, s14_350, ow_some, true_and, and_true, and_self, if_true, if_false, not_true, not_false_eq_true, Bool.false_eq_true, eq_self, Option.toList, List.cons_append, List.nil_append, ix_in, ix_cl, lt_in, lt_cl, lt_add, ix_one, vu_eq, vu_ne, arI_mk, arL_mk, arY_mZ, arY_mB, alen_mI, fld_sfl_ne, fld_sfl_same, Option.isSome_some, pok_i, b1z, b01, z10, b1o, Int32.zero_add, vu_vu, upd_eq, upd_ne, true_or, or_true, L.r0, L.r1, L.r2, L.r3, L.l0, L.l1, L.a0, L.a1, L.a2, L.a3, L.a4, ix_sub1]
    simp only [s14_351, lg_cmp_le]
    by_cases g1 : v ≤ 1000000
    · have g1' : ¬ 1000000 < v := Int64.not_lt.mpr g1
      rw [if_neg g1'] at hq
      simp only [g1, if_true, s14_359, s14_361, s14_364, s14_365, lg_cmp_ge]
      by_cases g2 : -1000000 ≤ v
      · have g2' : ¬ v < -1000000 := Int64.not_lt.mpr g2
        rw [if_neg g2'] at hq
        simp only [g2, if_true]
        simp (disch := first | omega | decide | assumption | exact Nat.le_of_ble_eq_true rfl) only [s14_373, s14_375, s14_376, s14_377, h14_380, ow_some, true_and, and_true, and_self, if_true, if_false, not_true, not_false_eq_true, Bool.false_eq_true, eq_self, Option.toList, List.cons_append, List.nil_append, ix_in, ix_cl, lt_in, lt_cl, lt_add, ix_one, vu_eq, vu_ne, arI_mk, arL_mk, arY_mZ, arY_mB, alen_mI, fld_sfl_ne, fld_sfl_same, Option.isSome_some, pok_i, b1z, b01, z10, b1o, Int32.zero_add, vu_vu, upd_eq, upd_ne, true_or, or_true, L.r0, L.r1, L.r2, L.r3, L.l0, L.l1, L.a0, L.a1, L.a2, L.a3, L.a4]
        exact hq
      · have g2' : v < -1000000 := Int64.not_le.mp g2
        rw [if_pos g2'] at hq
        simp only [g2, if_false]
        simp (disch := first | omega | decide | assumption | exact Nat.le_of_ble_eq_true rfl) only [s14_368, s14_370, s14_376, s14_377, h14_380, ow_some, true_and, and_true, and_self, if_true, if_false, not_true, not_false_eq_true, Bool.false_eq_true, eq_self, Option.toList, List.cons_append, List.nil_append, ix_in, ix_cl, lt_in, lt_cl, lt_add, ix_one, vu_eq, vu_ne, arI_mk, arL_mk, arY_mZ, arY_mB, alen_mI, fld_sfl_ne, fld_sfl_same, Option.isSome_some, pok_i, b1z, b01, z10, b1o, Int32.zero_add, vu_vu, upd_eq, upd_ne, true_or, or_true, L.r0, L.r1, L.r2, L.r3, L.l0, L.l1, L.a0, L.a1, L.a2, L.a3, L.a4]
        exact hq
    · have g1' : 1000000 < v := Int64.not_le.mp g1
      rw [if_pos g1'] at hq
      simp only [g1, if_false]
      simp (disch := first | omega | decide | assumption | exact Nat.le_of_ble_eq_true rfl) only [s14_354, s14_356, s14_376, s14_377, h14_380, ow_some, true_and, and_true, and_self, if_true, if_false, not_true, not_false_eq_true, Bool.false_eq_true, eq_self, Option.toList, List.cons_append, List.nil_append, ix_in, ix_cl, lt_in, lt_cl, lt_add, ix_one, vu_eq, vu_ne, arI_mk, arL_mk, arY_mZ, arY_mB, alen_mI, fld_sfl_ne, fld_sfl_same, Option.isSome_some, pok_i, b1z, b01, z10, b1o, Int32.zero_add, vu_vu, upd_eq, upd_ne, true_or, or_true, L.r0, L.r1, L.r2, L.r3, L.l0, L.l1, L.a0, L.a1, L.a2, L.a3, L.a4]
      exact hq
  obtain ⟨b3, b4, b5, b7, b8, b0, b1, b2⟩ := btw_l (a := a) (b := b)
  simp (disch := first | omega | decide | assumption | exact Nat.le_of_ble_eq_true rfl) only [s14_139, s14_142, s14_143, s14_146, s14_148, s14_149, s14_150, s14_151, s14_152, s14_154, s14_155, s14_158, s14_160, s14_161, s14_162, s14_164, s14_166, ow_some, true_and, and_true, and_self, if_true, if_false, not_true, not_false_eq_true, Bool.false_eq_true, eq_self, Option.toList, List.cons_append, List.nil_append, ix_in, ix_cl, lt_in, lt_cl, lt_add, ix_one, vu_eq, vu_ne, arI_mk, arL_mk, arY_mZ, arY_mB, alen_mI, fld_sfl_ne, fld_sfl_same, Option.isSome_some, pok_i, b1z, b01, z10, b1o, Int32.zero_add, vu_vu, upd_eq, upd_ne, true_or, or_true, L.r0, L.r1, L.r2, L.r3, L.l0, L.l1, L.a0, L.a1, L.a2, L.a3, L.a4, q2, ix_sub1, ha, hb]
  rcases hc with (rfl | rfl | rfl | rfl | rfl | rfl) | ⟨rfl | rfl, ha01, hb01⟩
  · have e : tr 3000 - 2000 = 43 := by decide
    simp only [s14_169, e, s14_170c]
    simp (disch := first | omega | decide | assumption | exact Nat.le_of_ble_eq_true rfl) only [s14_236, s14_238, s14_240, s14_241, s14_243, ow_some, true_and, and_true, and_self, if_true, if_false, not_true, not_false_eq_true, Bool.false_eq_true, eq_self, Option.toList, List.cons_append, List.nil_append, ix_in, ix_cl, lt_in, lt_cl, lt_add, ix_one, vu_eq, vu_ne, arI_mk, arL_mk, arY_mZ, arY_mB, alen_mI, fld_sfl_ne, fld_sfl_same, Option.isSome_some, pok_i, b1z, b01, z10, b1o, Int32.zero_add, vu_vu, upd_eq, upd_ne, true_or, or_true]
    exact fin _ _ _ _ _ b0.symm
  · have e : tr 3001 - 2000 = 45 := by decide
    simp only [s14_169, e, s14_170d]
    simp (disch := first | omega | decide | assumption | exact Nat.le_of_ble_eq_true rfl) only [s14_246, s14_248, s14_250, s14_251, s14_253, ow_some, true_and, and_true, and_self, if_true, if_false, not_true, not_false_eq_true, Bool.false_eq_true, eq_self, Option.toList, List.cons_append, List.nil_append, ix_in, ix_cl, lt_in, lt_cl, lt_add, ix_one, vu_eq, vu_ne, arI_mk, arL_mk, arY_mZ, arY_mB, alen_mI, fld_sfl_ne, fld_sfl_same, Option.isSome_some, pok_i, b1z, b01, z10, b1o, Int32.zero_add, vu_vu, upd_eq, upd_ne, true_or, or_true]
    exact fin _ _ _ _ _ b1.symm
  · have e : tr 3002 - 2000 = 42 := by decide
    simp only [s14_169, e, s14_170b]
    simp (disch := first | omega | decide | assumption | exact Nat.le_of_ble_eq_true rfl) only [s14_256, s14_258, s14_260, s14_261, s14_263, ow_some, true_and, and_true, and_self, if_true, if_false, not_true, not_false_eq_true, Bool.false_eq_true, eq_self, Option.toList, List.cons_append, List.nil_append, ix_in, ix_cl, lt_in, lt_cl, lt_add, ix_one, vu_eq, vu_ne, arI_mk, arL_mk, arY_mZ, arY_mB, alen_mI, fld_sfl_ne, fld_sfl_same, Option.isSome_some, pok_i, b1z, b01, z10, b1o, Int32.zero_add, vu_vu, upd_eq, upd_ne, true_or, or_true]
    exact fin _ _ _ _ _ b2.symm
  · have e : tr 3003 - 2000 = 61 := by decide
    simp only [s14_169, e, s14_170f]
    simp (disch := first | omega | decide | assumption | exact Nat.le_of_ble_eq_true rfl) only [s14_266, s14_268, s14_270, ow_some, true_and, and_true, and_self, if_true, if_false, not_true, not_false_eq_true, Bool.false_eq_true, eq_self, Option.toList, List.cons_append, List.nil_append, ix_in, ix_cl, lt_in, lt_cl, lt_add, ix_one, vu_eq, vu_ne, arI_mk, arL_mk, arY_mZ, arY_mB, alen_mI, fld_sfl_ne, fld_sfl_same, Option.isSome_some, pok_i, b1z, b01, z10, b1o, Int32.zero_add, vu_vu, upd_eq, upd_ne, true_or, or_true]
    simp only [s14_271, lg_eq, i64_eq]
    by_cases h : a = b
    · have hf := fin 1 (.long a.toInt64) (.double 0) (.long b.toInt64) (.double 0) (by rw [b3, if_pos h]; decide)
      simp only [h, not_true, if_false]
      simp (disch := first | omega | decide | assumption | exact Nat.le_of_ble_eq_true rfl) only [s14_274, s14_275, s14_278, s14_279, s14_281, ow_some, true_and, and_true, and_self, if_true, if_false, not_true, not_false_eq_true, Bool.false_eq_true, eq_self, Option.toList, List.cons_append, List.nil_append, ix_in, ix_cl, lt_in, lt_cl, lt_add, ix_one, vu_eq, vu_ne, arI_mk, arL_mk, arY_mZ, arY_mB, alen_mI, fld_sfl_ne, fld_sfl_same, Option.isSome_some, pok_i, b1z, b01, z10, b1o, Int32.zero_add, vu_vu, upd_eq, upd_ne, true_or, or_true]
      rw [h] at hf
      exact hf
    · have hf := fin 0 (.long a.toInt64) (.double 0) (.long b.toInt64) (.double 0) (by rw [b3, if_neg h]; decide)
      simp only [h, not_false_eq_true, if_true]
      simp (disch := first | omega | decide | assumption | exact Nat.le_of_ble_eq_true rfl) only [s14_278, s14_279, s14_281, ow_some, true_and, and_true, and_self, if_true, if_false, not_true, not_false_eq_true, Bool.false_eq_true, eq_self, Option.toList, List.cons_append, List.nil_append, ix_in, ix_cl, lt_in, lt_cl, lt_add, ix_one, vu_eq, vu_ne, arI_mk, arL_mk, arY_mZ, arY_mB, alen_mI, fld_sfl_ne, fld_sfl_same, Option.isSome_some, pok_i, b1z, b01, z10, b1o, Int32.zero_add, vu_vu, upd_eq, upd_ne, true_or, or_true]
      exact hf
  · have e : tr 3004 - 2000 = 60 := by decide
    simp only [s14_169, e, s14_170e]
    simp (disch := first | omega | decide | assumption | exact Nat.le_of_ble_eq_true rfl) only [s14_284, s14_286, s14_288, ow_some, true_and, and_true, and_self, if_true, if_false, not_true, not_false_eq_true, Bool.false_eq_true, eq_self, Option.toList, List.cons_append, List.nil_append, ix_in, ix_cl, lt_in, lt_cl, lt_add, ix_one, vu_eq, vu_ne, arI_mk, arL_mk, arY_mZ, arY_mB, alen_mI, fld_sfl_ne, fld_sfl_same, Option.isSome_some, pok_i, b1z, b01, z10, b1o, Int32.zero_add, vu_vu, upd_eq, upd_ne, true_or, or_true]
    simp only [s14_289, lg_cmp_ge]
    by_cases h : a < b
    · have hf := fin 1 (.long a.toInt64) (.double 0) (.long b.toInt64) (.double 0) (by rw [b4, if_pos h]; decide)
      have h' : ¬ b.toInt64 ≤ a.toInt64 := Int64.not_le.mpr (by rw [i64_lt]; exact h)
      simp only [h', if_false]
      simp (disch := first | omega | decide | assumption | exact Nat.le_of_ble_eq_true rfl) only [s14_292, s14_293, s14_296, s14_297, s14_299, ow_some, true_and, and_true, and_self, if_true, if_false, not_true, not_false_eq_true, Bool.false_eq_true, eq_self, Option.toList, List.cons_append, List.nil_append, ix_in, ix_cl, lt_in, lt_cl, lt_add, ix_one, vu_eq, vu_ne, arI_mk, arL_mk, arY_mZ, arY_mB, alen_mI, fld_sfl_ne, fld_sfl_same, Option.isSome_some, pok_i, b1z, b01, z10, b1o, Int32.zero_add, vu_vu, upd_eq, upd_ne, true_or, or_true]
      exact hf
    · have hf := fin 0 (.long a.toInt64) (.double 0) (.long b.toInt64) (.double 0) (by rw [b4, if_neg h]; decide)
      have h' : b.toInt64 ≤ a.toInt64 := Int64.not_lt.mp (by rw [i64_lt]; exact h)
      simp only [h', if_true]
      simp (disch := first | omega | decide | assumption | exact Nat.le_of_ble_eq_true rfl) only [s14_296, s14_297, s14_299, ow_some, true_and, and_true, and_self, if_true, if_false, not_true, not_false_eq_true, Bool.false_eq_true, eq_self, Option.toList, List.cons_append, List.nil_append, ix_in, ix_cl, lt_in, lt_cl, lt_add, ix_one, vu_eq, vu_ne, arI_mk, arL_mk, arY_mZ, arY_mB, alen_mI, fld_sfl_ne, fld_sfl_same, Option.isSome_some, pok_i, b1z, b01, z10, b1o, Int32.zero_add, vu_vu, upd_eq, upd_ne, true_or, or_true]
      exact hf
  · have e : tr 3005 - 2000 = 62 := by decide
    simp only [s14_169, e, s14_170g]
    simp (disch := first | omega | decide | assumption | exact Nat.le_of_ble_eq_true rfl) only [s14_302, s14_304, s14_306, ow_some, true_and, and_true, and_self, if_true, if_false, not_true, not_false_eq_true, Bool.false_eq_true, eq_self, Option.toList, List.cons_append, List.nil_append, ix_in, ix_cl, lt_in, lt_cl, lt_add, ix_one, vu_eq, vu_ne, arI_mk, arL_mk, arY_mZ, arY_mB, alen_mI, fld_sfl_ne, fld_sfl_same, Option.isSome_some, pok_i, b1z, b01, z10, b1o, Int32.zero_add, vu_vu, upd_eq, upd_ne, true_or, or_true]
    simp only [s14_307, lg_cmp_le]
    by_cases h : b < a
    · have hf := fin 1 (.long a.toInt64) (.double 0) (.long b.toInt64) (.double 0) (by rw [b5, if_pos h]; decide)
      have h' : ¬ a.toInt64 ≤ b.toInt64 := Int64.not_le.mpr (by rw [i64_lt]; exact h)
      simp only [h', if_false]
      simp (disch := first | omega | decide | assumption | exact Nat.le_of_ble_eq_true rfl) only [s14_310, s14_311, s14_314, s14_315, s14_317, ow_some, true_and, and_true, and_self, if_true, if_false, not_true, not_false_eq_true, Bool.false_eq_true, eq_self, Option.toList, List.cons_append, List.nil_append, ix_in, ix_cl, lt_in, lt_cl, lt_add, ix_one, vu_eq, vu_ne, arI_mk, arL_mk, arY_mZ, arY_mB, alen_mI, fld_sfl_ne, fld_sfl_same, Option.isSome_some, pok_i, b1z, b01, z10, b1o, Int32.zero_add, vu_vu, upd_eq, upd_ne, true_or, or_true]
      exact hf
    · have hf := fin 0 (.long a.toInt64) (.double 0) (.long b.toInt64) (.double 0) (by rw [b5, if_neg h]; decide)
      have h' : a.toInt64 ≤ b.toInt64 := Int64.not_lt.mp (by rw [i64_lt]; exact h)
      simp only [h', if_true]
      simp (disch := first | omega | decide | assumption | exact Nat.le_of_ble_eq_true rfl) only [s14_314, s14_315, s14_317, ow_some, true_and, and_true, and_self, if_true, if_false, not_true, not_false_eq_true, Bool.false_eq_true, eq_self, Option.toList, List.cons_append, List.nil_append, ix_in, ix_cl, lt_in, lt_cl, lt_add, ix_one, vu_eq, vu_ne, arI_mk, arL_mk, arY_mZ, arY_mB, alen_mI, fld_sfl_ne, fld_sfl_same, Option.isSome_some, pok_i, b1z, b01, z10, b1o, Int32.zero_add, vu_vu, upd_eq, upd_ne, true_or, or_true]
      exact hf
  · have e : tr 3007 - 2000 = 2 := by decide
    simp only [s14_169, e, s14_170a]
    simp (disch := first | omega | decide | assumption | exact Nat.le_of_ble_eq_true rfl) only [s14_320, s14_322, s14_324, s14_325, s14_327, ow_some, true_and, and_true, and_self, if_true, if_false, not_true, not_false_eq_true, Bool.false_eq_true, eq_self, Option.toList, List.cons_append, List.nil_append, ix_in, ix_cl, lt_in, lt_cl, lt_add, ix_one, vu_eq, vu_ne, arI_mk, arL_mk, arY_mZ, arY_mB, alen_mI, fld_sfl_ne, fld_sfl_same, Option.isSome_some, pok_i, b1z, b01, z10, b1o, Int32.zero_add, vu_vu, upd_eq, upd_ne, true_or, or_true]
    exact fin _ _ _ _ _ (by rw [b7]; exact (kpm_and ha01 hb01).1)
  · have e : tr 3008 - 2000 = 1 := by decide
    simp only [s14_169, e, s14_170h]
    simp (disch := first | omega | decide | assumption | exact Nat.le_of_ble_eq_true rfl) only [s14_330, s14_332, s14_334, s14_335, ow_some, true_and, and_true, and_self, if_true, if_false, not_true, not_false_eq_true, Bool.false_eq_true, eq_self, Option.toList, List.cons_append, List.nil_append, ix_in, ix_cl, lt_in, lt_cl, lt_add, ix_one, vu_eq, vu_ne, arI_mk, arL_mk, arY_mZ, arY_mB, alen_mI, fld_sfl_ne, fld_sfl_same, Option.isSome_some, pok_i, b1z, b01, z10, b1o, Int32.zero_add, vu_vu, upd_eq, upd_ne, true_or, or_true]
    exact fin _ _ _ _ _ (by rw [b8]; exact (kpm_and ha01 hb01).2.1)
theorem tr_lo {c : Int32} {n : Nat} (h : c = nI n) (hn : n < 1007) : tr c = nI n := by
  subst h
  unfold tr
  have e : ∀ k, 3000 ≤ k → k < 3009 → ¬ nI n = nI k := fun k h1 h2 => by rw [ix_eq (by omega) (by omega)]; omega
  rw [if_neg (show ¬ nI n = 3000 from e 3000 (by omega) (by omega)), if_neg (show ¬ nI n = 3001 from e 3001 (by omega) (by omega)), if_neg (show ¬ nI n = 3002 from e 3002 (by omega) (by omega)), if_neg (show ¬ nI n = 3003 from e 3003 (by omega) (by omega)), if_neg (show ¬ nI n = 3004 from e 3004 (by omega) (by omega)), if_neg (show ¬ nI n = 3005 from e 3005 (by omega) (by omega)), if_neg (show ¬ nI n = 3006 from e 3006 (by omega) (by omega)), if_neg (show ¬ nI n = 3007 from e 3007 (by omega) (by omega)), if_neg (show ¬ nI n = 3008 from e 3008 (by omega) (by omega))]
/-- the class's codes at cd: C of them; cs: the reference's, from F on -/
theorem sp_runLoop {X : Nat × (Nat → Int32)} {d N K q cd C F M : Nat} {Q : t_Q} {wt b : Bool} {cc cs w : Nat → Int32} {x2 : Int32} (hq : cd < q ∨ q + 7 ≤ cd) (hC : F + M ≤ C) (hC9 : C ≤ 900) (hcs : ∀ i, i < M → cc (F + i) = tr (cs i)) :
    ∀ (m k h : Nat) (f : Nat → e_C) (y : Nat → Nat → Int32) (st : List Int32) (ts : List Bool) (u6 u7 u8 u9 u10 u11 u12 : Value), LV f q y → arI (f cd) = some (C, cc) → (∀ i, i < 7 → y 0 i = w i) → k + m = M → l_R h (y 1) st → okt ts st → h ≤ 40 → tyr wt cs m k ts = some [b] → (∀ f' y' v, SI (q + 3) (q + 4) f f' → LV f' q y' → (∀ j, j ≠ 1 → y' j = y j) → l_it w cs m k st = [v] → (b = true → v = 0 ∨ v = 1) → Q f' N K (some (.int v))) →
    TH X d 14 6 [.ref (q + 1), .ref cd, .int x2, .int (nI (F + M)), .int (nI h), .int (nI (F + k)), u6, u7, u8, u9, u10, u11, u12] [] f N K Q := by
  intro m
  induction m with
  | zero =>
    intro k h f y st ts u6 u7 u8 u9 u10 u11 u12 L hcd hw hk hr ho h40 ht hQ
    unfold TH
    rw [tyr] at ht
    cases ht
    have hl := okt_len ho
    match st, ho, hl with
    | [v], ho, _ =>
      have h1 : h = 1 := hr.1.symm
      subst h1
      have hg := (l_R_top (h := 0) (x := 0) hr).1
      have c1 : (F + M ≤ F + k) = True := eq_true (by omega)
      have c0 : (nI (F + k) < 0) = False := eq_false (nI_pos (by omega))
      have c2 : (nI 1 ≤ 0) = False := eq_false (by decide)
      have c3 : nI 1 - 1 = nI 0 := by decide
      simp (disch := first | omega | decide | assumption | exact Nat.le_of_ble_eq_true rfl) only [s14_6, s14_8, s14_11, s14_13, s14_14, s14_383, s14_385, s14_388, s14_389, s14_392, s14_394, s14_395, s14_396, s14_397, s14_400, s14_401, ow_some, true_and, and_true, and_self, if_true, if_false, not_true, not_false_eq_true, Bool.false_eq_true, eq_self, Option.toList, List.cons_append, List.nil_append, ix_in, ix_cl, lt_in, lt_cl, lt_add, ix_one, vu_eq, vu_ne, arI_mk, arL_mk, arY_mZ, arY_mB, alen_mI, fld_sfl_ne, fld_sfl_same, Option.isSome_some, pok_i, b1z, b01, z10, b1o, Int32.zero_add, vu_vu, upd_eq, upd_ne, true_or, or_true, L.r0, L.r1, L.r2, L.r3, L.l0, L.l1, L.a0, L.a1, L.a2, L.a3, L.a4, c0, ix_le, c1, c2, c3, hg]
      exact hQ f y v SI.rf L (fun _ _ => rfl) rfl (fun hb => ho.1 hb)
  | succ m ih =>
    intro k h f y st ts u6 u7 u8 u9 u10 u11 u12 L hcd hw hk hr ho h40 ht hQ
    unfold TH
    rw [tyr] at ht
    have hl := okt_len ho
    have hlen : st.length = h := hr.1
    have c0 : (nI (F + k) < 0) = False := eq_false (nI_pos (by omega))
    have c1 : (F + M ≤ F + k) = False := eq_false (by omega)
    have c2 : (C ≤ F + k) = False := eq_false (by omega)
    have acd := alen_I hcd
    have hop : cc (F + k) = tr (cs k) := hcs k (by omega)
    -- behind one code
    have go : ∀ (g1 : Nat → Int32) (h1 : Nat) (st1 : List Int32) (ts1 : List Bool) (v6 v7 v8 v9 v10 v11 v12 : Value), l_st w (cs k) st = st1 → l_R h1 g1 st1 → okt ts1 st1 → h1 ≤ 40 → tyr wt cs m (k + 1) ts1 = some [b] → TH X d 14 6 [.ref (q + 1), .ref cd, .int x2, .int (nI (F + M)), .int (nI h1), .int (nI (F + k + 1)), v6, v7, v8, v9, v10, v11, v12] [] (va_up f (q + 3) (.inl (.int, 40, .inl g1))) N K Q := by
      intro g1 h1 st1 ts1 v6 v7 v8 v9 v10 v11 v12 hst hr1 ho1 hh1 ht1
      refine ih (k + 1) h1 _ (up2 y 1 g1) st1 ts1 v6 v7 v8 v9 v10 v11 v12 L.s1 (by rw [vu_ne (by omega)]; exact hcd) (fun i hi => by rw [up2_ne (by decide)]; exact hw i hi) (by omega) (by rw [up2_eq]; exact hr1) ho1 hh1 ht1 ?_
      intro f' y' v hs' L' hy' hl' hb'
      refine hQ f' y' v ((SI.up (by omega) (by omega)).tr hs') L' (fun j hj => by rw [hy' j hj, up2_ne hj]) ?_ hb'
      rw [l_it, hst]; exact hl'
    cases hq1 : ty1 wt (cs k) ts with
    | none => rw [hq1] at ht; cases ht
    | some ts1 =>
      rw [hq1] at ht
      rcases ty1_inv hq1 with ⟨g1, g2, g3, rfl⟩ | ⟨hc6, tr1, rfl, rfl⟩ | hbin
      · have h7 : (cs k).toInt < 1007 := ty_7 g2
        obtain ⟨n, hn, hcn, hni⟩ := i9 (v := cs k) (N := 1007) g1 h7 (by omega)
        have htr := tr_lo hcn hn
        have e1 : (2000 ≤ n) = False := eq_false (by omega)
        have e2 : (40 ≤ h) = False := eq_false (by omega)
        have hstk := alen_I L.a1
        have hfct := alen_I L.a0
        have c3000 : cs k < 3000 := by rw [hcn, show (3000 : Int32) = nI 3000 from rfl, ix_lt (by omega) (by omega)]; omega
        by_cases hb : n < 1000
        · have hlt : (nI n - 1000 < 0) = True := by
            apply eq_true
            rw [Int32.lt_iff_toInt_lt]
            have : (nI n - 1000).toInt = (n : Int) - 1000 := by
              rw [Int32.toInt_sub, nI_toInt (by omega), show (1000 : Int32).toInt = 1000 by decide]
              exact Int.bmod_eq_of_le (by omega) (by omega)
            rw [this]
            show _ < (0 : Int)
            omega
          have hst : l_st w (cs k) st = nI n :: st := by
            unfold l_st
            rw [if_pos c3000, if_pos, hcn]
            rw [hcn, show (1000 : Int32) = nI 1000 from rfl, ix_lt (by omega) (by omega)]; exact hb
          simp (disch := first | omega | decide | assumption | exact Nat.le_of_ble_eq_true rfl) only [s14_6, s14_8, s14_11, s14_13, s14_14, s14_17, s14_19, y14_20, s14_21, s14_24, s14_25, s14_27, s14_28, s14_30, s14_32, s14_35, s14_38, s14_40, s14_41, y14_44, s14_45, s14_48, s14_50, s14_53, s14_54, s14_56, s14_57, s14_60, s14_62, s14_64, ow_some, true_and, and_true, and_self, if_true, if_false, not_true, not_false_eq_true, Bool.false_eq_true, eq_self, Option.toList, List.cons_append, List.nil_append, ix_in, ix_cl, lt_in, lt_cl, lt_add, ix_one, vu_eq, vu_ne, arI_mk, arL_mk, arY_mZ, arY_mB, alen_mI, fld_sfl_ne, fld_sfl_same, Option.isSome_some, pok_i, b1z, b01, z10, b1o, Int32.zero_add, vu_vu, upd_eq, upd_ne, true_or, or_true, L.r0, L.r1, L.r2, L.r3, L.l0, L.l1, L.a0, L.a1, L.a2, L.a3, L.a4, c0, ix_le, lt_le, c1, acd, c2, hcd, hop, htr, e1, hstk, e2, hlt]
          simp (disch := first | omega | decide | assumption | exact Nat.le_of_ble_eq_true rfl) only [s14_87, s14_89, s14_90, s14_93, s14_377, h14_380, ow_some, true_and, and_true, and_self, if_true, if_false, not_true, not_false_eq_true, Bool.false_eq_true, eq_self, Option.toList, List.cons_append, List.nil_append, ix_in, ix_cl, lt_in, lt_cl, lt_add, ix_one, vu_eq, vu_ne, arI_mk, arL_mk, arY_mZ, arY_mB, alen_mI, fld_sfl_ne, fld_sfl_same, Option.isSome_some, pok_i, b1z, b01, z10, b1o, Int32.zero_add, vu_vu, upd_eq, upd_ne, true_or, or_true, L.r0, L.r1, L.r2, L.r3, L.l0, L.l1, L.a0, L.a1, L.a2, L.a3, L.a4]
          exact go _ _ _ (false :: ts) _ _ _ _ _ _ _ hst (l_R_push hr) ⟨fun z => absurd z (by decide), ho⟩ (by omega) ht
        · have hsub : nI n - 1000 = nI (n - 1000) := by rw [show (1000 : Int32) = nI 1000 from rfl, pk_sub (by omega)]
          have hlt : (nI (n - 1000) < 0) = False := eq_false (nI_pos (by omega))
          have e7 : (7 ≤ n - 1000) = False := eq_false (by omega)
          have hst : l_st w (cs k) st = w (n - 1000) :: st := by
            unfold l_st
            rw [if_pos c3000, if_neg, hcn, hsub, ix_cl (by omega)]
            rw [hcn, show (1000 : Int32) = nI 1000 from rfl, ix_lt (by omega) (by omega)]; exact hb
          have hw7 := hw (n - 1000) (by omega)
          simp (disch := first | omega | decide | assumption | exact Nat.le_of_ble_eq_true rfl) only [s14_6, s14_8, s14_11, s14_13, s14_14, s14_17, s14_19, y14_20, s14_21, s14_24, s14_25, s14_27, s14_28, s14_30, s14_32, s14_35, s14_38, s14_40, s14_41, y14_44, s14_45, s14_48, s14_50, s14_53, s14_54, s14_56, s14_57, s14_60, s14_62, s14_64, s14_67, s14_69, s14_70, y14_73, s14_74, ow_some, true_and, and_true, and_self, if_true, if_false, not_true, not_false_eq_true, Bool.false_eq_true, eq_self, Option.toList, List.cons_append, List.nil_append, ix_in, ix_cl, lt_in, lt_cl, lt_add, ix_one, vu_eq, vu_ne, arI_mk, arL_mk, arY_mZ, arY_mB, alen_mI, fld_sfl_ne, fld_sfl_same, Option.isSome_some, pok_i, b1z, b01, z10, b1o, Int32.zero_add, vu_vu, upd_eq, upd_ne, true_or, or_true, L.r0, L.r1, L.r2, L.r3, L.l0, L.l1, L.a0, L.a1, L.a2, L.a3, L.a4, c0, ix_le, lt_le, c1, acd, c2, hcd, hop, htr, e1, hstk, e2, hsub, hlt, hfct, e7]
          simp (disch := first | omega | decide | assumption | exact Nat.le_of_ble_eq_true rfl) only [s14_77, s14_78, s14_81, s14_83, s14_84, s14_87, s14_89, s14_90, s14_93, s14_377, h14_380, ow_some, true_and, and_true, and_self, if_true, if_false, not_true, not_false_eq_true, Bool.false_eq_true, eq_self, Option.toList, List.cons_append, List.nil_append, ix_in, ix_cl, lt_in, lt_cl, lt_add, ix_one, vu_eq, vu_ne, arI_mk, arL_mk, arY_mZ, arY_mB, alen_mI, fld_sfl_ne, fld_sfl_same, Option.isSome_some, pok_i, b1z, b01, z10, b1o, Int32.zero_add, vu_vu, upd_eq, upd_ne, true_or, or_true, L.r0, L.r1, L.r2, L.r3, L.l0, L.l1, L.a0, L.a1, L.a2, L.a3, L.a4, hw7]
          exact go _ _ _ (false :: ts) _ _ _ _ _ _ _ hst (l_R_push hr) ⟨fun z => absurd z (by decide), ho⟩ (by omega) ht
      · match st, ho, hr, hlen with
        | a :: rs, ho, hr, hlen =>
          obtain ⟨h', rfl⟩ : ∃ h', h = h' + 1 := ⟨h - 1, by simp at hlen; omega⟩
          obtain ⟨hg, hr1⟩ := l_R_top (x := 1 - a) hr
          have htr : tr (cs k) = 2003 := by rw [hc6]; rfl
          have e1 : ((2000 : Int32) ≤ 2003) = True := by decide
          have e3 : (nI (h' + 1) < 1) = False := by rw [tl_lt (c := 1) (by omega) (by omega)]; exact eq_false (by omega)
          have hst : l_st w (cs k) (a :: rs) = (1 - a) :: rs := by
            unfold l_st
            rw [hc6, if_neg (by decide), if_pos rfl]
          have ha := ho.1 rfl
          simp (disch := first | omega | decide | assumption | exact Nat.le_of_ble_eq_true rfl) only [s14_6, s14_8, s14_11, s14_13, s14_14, s14_17, s14_19, y14_20, s14_21, s14_24, s14_25, s14_27, s14_28, s14_30, s14_32, s14_35, ow_some, true_and, and_true, and_self, if_true, if_false, not_true, not_false_eq_true, Bool.false_eq_true, eq_self, Option.toList, List.cons_append, List.nil_append, ix_in, ix_cl, lt_in, lt_cl, lt_add, ix_one, vu_eq, vu_ne, arI_mk, arL_mk, arY_mZ, arY_mB, alen_mI, fld_sfl_ne, fld_sfl_same, Option.isSome_some, pok_i, b1z, b01, z10, b1o, Int32.zero_add, vu_vu, upd_eq, upd_ne, true_or, or_true, L.r0, L.r1, L.r2, L.r3, L.l0, L.l1, L.a0, L.a1, L.a2, L.a3, L.a4, c0, ix_le, c1, acd, c2, hcd, hop, htr, e1]
          simp (disch := first | omega | decide | assumption | exact Nat.le_of_ble_eq_true rfl) only [s14_96, s14_98, s14_101, s14_104, s14_106, s14_107, s14_110, s14_111, s14_114, s14_116, s14_117, s14_118, s14_119, s14_120, s14_123, s14_125, s14_126, s14_127, s14_128, s14_129, s14_130, s14_377, h14_380, ow_some, true_and, and_true, and_self, if_true, if_false, not_true, not_false_eq_true, Bool.false_eq_true, eq_self, Option.toList, List.cons_append, List.nil_append, ix_in, ix_cl, lt_in, lt_cl, lt_add, ix_one, vu_eq, vu_ne, arI_mk, arL_mk, arY_mZ, arY_mB, alen_mI, fld_sfl_ne, fld_sfl_same, Option.isSome_some, pok_i, b1z, b01, z10, b1o, Int32.zero_add, vu_vu, upd_eq, upd_ne, true_or, or_true, L.r0, L.r1, L.r2, L.r3, L.l0, L.l1, L.a0, L.a1, L.a2, L.a3, L.a4, e3, ix_sub1, hg, ne_eq]
          exact go _ _ _ (true :: tr1) _ _ _ _ _ _ _ hst hr1 ⟨fun _ => by rcases ha with rfl | rfl <;> decide, ho.2⟩ h40 ht
      · have hc6 : ¬ cs k = 3006 := by
          rcases hbin with ⟨hc, -⟩ | ⟨hc, -⟩ | ⟨hc, -⟩
          · rcases hc with z | z | z <;> (rw [z]; decide)
          · rcases hc with z | z | z <;> (rw [z]; decide)
          · rcases hc with z | z <;> (rw [z]; decide)
        have bin : ∀ (x z t : Bool) (r : List Bool), ts = x :: z :: r → ts1 = t :: r → ((cs k = 3000 ∨ cs k = 3001 ∨ cs k = 3002 ∨ cs k = 3003 ∨ cs k = 3004 ∨ cs k = 3005) ∧ (t = true → cs k = 3003 ∨ cs k = 3004 ∨ cs k = 3005) ∨ (cs k = 3007 ∨ cs k = 3008) ∧ x = true ∧ z = true) → TT X d 14 6 [.ref (q + 1), .ref cd, .int x2, .int (nI (F + M)), .int (nI h), .int (nI (F + k)), u6, u7, u8, u9, u10, u11, u12] [] f N K Q := by
          rintro x z t r rfl rfl hcase
          match st, ho, hr, hlen with
          | bb :: a :: rs, ho, hr, hlen =>
            obtain ⟨h', rfl⟩ : ∃ h', h = h' + 2 := ⟨h - 2, by simp at hlen; omega⟩
            obtain ⟨hb1, ha1, hr1⟩ := l_R_two (x := m_btw (cs k) a bb) hr
            have c3 : ¬ cs k < 3000 := by
              rcases hcase with ⟨z, -⟩ | ⟨z, -⟩
              · rcases z with z | z | z | z | z | z <;> (rw [z]; decide)
              · rcases z with z | z <;> (rw [z]; decide)
            have e1 : ((2000 : Int32) ≤ tr (cs k)) = True := by
              apply eq_true
              rcases hcase with ⟨z, -⟩ | ⟨z, -⟩
              · rcases z with z | z | z | z | z | z <;> (rw [z]; decide)
              · rcases z with z | z <;> (rw [z]; decide)
            have e2 : (tr (cs k) = 2003) = False := by
              apply eq_false
              rcases hcase with ⟨z, -⟩ | ⟨z, -⟩
              · rcases z with z | z | z | z | z | z <;> (rw [z]; decide)
              · rcases z with z | z <;> (rw [z]; decide)
            have e3 : (nI (h' + 2) < 2) = False := by rw [tl_lt (c := 2) (by omega) (by omega)]; exact eq_false (by omega)
            have hst : l_st w (cs k) (bb :: a :: rs) = m_btw (cs k) a bb :: rs := by
              unfold l_st
              rw [if_neg c3, if_neg hc6]
            simp (disch := first | omega | decide | assumption | exact Nat.le_of_ble_eq_true rfl) only [s14_6, s14_8, s14_11, s14_13, s14_14, s14_17, s14_19, y14_20, s14_21, s14_24, s14_25, s14_27, s14_28, s14_30, s14_32, s14_35, ow_some, true_and, and_true, and_self, if_true, if_false, not_true, not_false_eq_true, Bool.false_eq_true, eq_self, Option.toList, List.cons_append, List.nil_append, ix_in, ix_cl, lt_in, lt_cl, lt_add, ix_one, vu_eq, vu_ne, arI_mk, arL_mk, arY_mZ, arY_mB, alen_mI, fld_sfl_ne, fld_sfl_same, Option.isSome_some, pok_i, b1z, b01, z10, b1o, Int32.zero_add, vu_vu, upd_eq, upd_ne, true_or, or_true, L.r0, L.r1, L.r2, L.r3, L.l0, L.l1, L.a0, L.a1, L.a2, L.a3, L.a4, c0, ix_le, c1, acd, c2, hcd, hop, e1]
            simp (disch := first | omega | decide | assumption | exact Nat.le_of_ble_eq_true rfl) only [s14_96, s14_98, s14_101, s14_133, s14_135, s14_136, ow_some, true_and, and_true, and_self, if_true, if_false, not_true, not_false_eq_true, Bool.false_eq_true, eq_self, Option.toList, List.cons_append, List.nil_append, ix_in, ix_cl, lt_in, lt_cl, lt_add, ix_one, vu_eq, vu_ne, arI_mk, arL_mk, arY_mZ, arY_mB, alen_mI, fld_sfl_ne, fld_sfl_same, Option.isSome_some, pok_i, b1z, b01, z10, b1o, Int32.zero_add, vu_vu, upd_eq, upd_ne, true_or, or_true, L.r0, L.r1, L.r2, L.r3, L.l0, L.l1, L.a0, L.a1, L.a2, L.a3, L.a4, e2, e3, ne_eq]
            refine rn_two L h40 ha1 hb1 ?_ ?_
            · rcases hcase with ⟨z, -⟩ | ⟨z, rfl, rfl⟩
              · exact Or.inl z
              · exact Or.inr ⟨z, ho.2.1 rfl, ho.1 rfl⟩
            · intro w7 w8 w9 w10 w11 w12
              refine go _ _ _ (t :: r) _ _ _ _ _ _ _ hst hr1 ⟨fun ht2 => ?_, ho.2.2⟩ (by omega) ht
              rcases hcase with ⟨-, z⟩ | ⟨z, rfl, rfl⟩
              · rcases z ht2 with z | z | z
                · rw [z, btw_l.1]; split <;> simp
                · rw [z, btw_l.2.1]; split <;> simp
                · rw [z, btw_l.2.2.1]; split <;> simp
              · have k1 := (kpm_and (ho.2.1 rfl) (ho.1 rfl)).2.2
                rcases z with z | z
                · rw [z, btw_l.2.2.2.1]; exact k1.1
                · rw [z, btw_l.2.2.2.2.1]; exact k1.2
        rcases hbin with ⟨hc, r, e1, e2⟩ | ⟨hc, r, e1, e2⟩ | ⟨hc, r, e1, e2⟩
        · exact bin _ _ _ _ e1 e2 (Or.inl ⟨by rcases hc with z | z | z <;> simp [z], fun z => by cases z⟩)
        · exact bin _ _ _ _ e1 e2 (Or.inl ⟨by rcases hc with z | z | z <;> simp [z], fun _ => hc⟩)
        · exact bin _ _ _ _ e1 e2 (Or.inr ⟨hc, rfl, rfl⟩)
