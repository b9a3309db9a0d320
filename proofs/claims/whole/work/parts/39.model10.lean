/-! the reference: small questions -/
theorem b01 {c : Prop} [Decidable c] : ((if c then (1 : Int32) else 0) = 0 ∨ (if c then (1 : Int32) else 0) = 1) = True := by
  by_cases h : c <;> simp [h]
theorem sp_within {X : Nat × (Nat → Int32)} {d n k : Nat} {f : Nat → e_C} {v lo hi : Int64} {a b c : UInt64} : PU X d 174 [.long v, .double a, .long lo, .double b, .long hi, .double c] f n k (some (.int (if lo ≤ v ∧ v ≤ hi then 1 else 0))) := by
  unfold PU
  simp only [s174_0, s174_1, s174_2, s174_3, s174_6, s174_7, s174_9, s174_10, s174_13, s174_14, s174_17, s174_18, lg_cmp_lt, lg_cmp_gt]
  by_cases h1 : v < lo
  · have h2 : ¬ lo ≤ v := Int64.not_le.mpr h1
    simp [h1, h2]
  · have h2 : lo ≤ v := Int64.not_lt.mp h1
    by_cases h3 : hi < v
    · have h4 : ¬ v ≤ hi := Int64.not_le.mpr h3
      simp [h1, h2, h3, h4]
    · have h4 : v ≤ hi := Int64.not_lt.mp h3
      simp [h1, h2, h3, h4]
theorem sp_isPerson {X : Nat × (Nat → Int32)} {d n k : Nat} {f : Nat → e_C} {all : Nat → Int32} {v : Int64} {y : UInt64} (mr : MR f) (ma : arI (f 172) = some (4182, all)) : PU X (d + 1) 214 [.ref 171, .long v, .double y] f n k (some (.int (if 0 ≤ v ∧ v ≤ (all 52 - 1).toInt64 then 1 else 0))) := by
  have m1 := mr.1
  unfold PU
  simp (disch := first | omega | decide) only [s214_0, s214_1, s214_2, s214_3, s214_6, s214_8, s214_9, s214_10, s214_11, m1, ow_some, ma, lt_in, lt_cl, true_and]
  rw [p214_12 (Nat.le_of_ble_eq_true rfl) sp_within]
  simp only [Option.toList, List.cons_append, List.nil_append, s214_15, b01, true_and, and_self]
theorem sp_isStep {X : Nat × (Nat → Int32)} {d n k : Nat} {f : Nat → e_C} {all : Nat → Int32} {v : Int64} {y : UInt64} (mr : MR f) (ma : arI (f 172) = some (4182, all)) : PU X (d + 1) 217 [.ref 171, .long v, .double y] f n k (some (.int (if 0 ≤ v ∧ v ≤ (all 1 - 1).toInt64 then 1 else 0))) := by
  have m1 := mr.1
  unfold PU
  simp (disch := first | omega | decide) only [s217_0, s217_1, s217_2, s217_3, s217_6, s217_7, s217_8, s217_9, s217_10, m1, ow_some, ma, lt_in, lt_cl, true_and]
  rw [p217_11 (Nat.le_of_ble_eq_true rfl) sp_within]
  simp only [Option.toList, List.cons_append, List.nil_append, s217_14, b01, true_and, and_self]
theorem sp_isThere {X : Nat × (Nat → Int32)} {d n k : Nat} {f : Nat → e_C} {all : Nat → Int32} {T j : Nat} (mr : MR f) (ma : arI (f 172) = some (4182, all)) (hT : all 53 = nI T) (hT2 : T < 512) (hj : j < 9) : PU X (d + 1) 215 [.ref 171, .int (nI j)] f n k (some (.int (if T.testBit j then 1 else 0))) := by
  have m1 := mr.1
  unfold PU
  simp (disch := first | omega | decide) only [s215_0, s215_1, s215_4, s215_6, s215_7, s215_8, m1, ow_some, ma, lt_in, lt_cl, true_and, hT]
  rw [p215_9 (Nat.le_of_ble_eq_true rfl) (sp_isIn hT2 hj)]
  simp only [Option.toList, List.cons_append, List.nil_append, s215_12, b01, true_and, and_self]
theorem sp_isPart {X : Nat × (Nat → Int32)} {d n k : Nat} {f : Nat → e_C} {x y : Int32} : PU X d 253 [.int x, .int y] f n k (some (.int (if x &&& (y ^^^ -1) = 0 then 1 else 0))) := by
  unfold PU
  simp only [s253_0, s253_1, s253_2, s253_3, s253_4, s253_5, s253_8, s253_9, s253_12, s253_13]
  by_cases h : x &&& (y ^^^ -1) = 0 <;> simp [h]
theorem sp_isBuild {X : Nat × (Nat → Int32)} {d n k : Nat} {f : Nat → e_C} {x : Int32} : PU X (d + 1) 229 [.int x] f n k (some (.int (if 0 ≤ x.toInt64 ∧ x.toInt64 ≤ 99 then 1 else 0))) := by
  unfold PU
  simp only [s229_0, s229_1, s229_2, s229_3]
  rw [p229_6 (Nat.le_of_ble_eq_true rfl) sp_within]
  simp only [Option.toList, List.cons_append, List.nil_append, s229_9, b01, true_and, and_self]
theorem sp_isWhat {X : Nat × (Nat → Int32)} {d n k : Nat} {f : Nat → e_C} {x : Int32} : PU X (d + 1) 255 [.int x] f n k (some (.int (if 0 ≤ x.toInt64 ∧ x.toInt64 ≤ 1 then 1 else 0))) := by
  unfold PU
  simp only [s255_0, s255_1, s255_2, s255_3]
  rw [p255_4 (Nat.le_of_ble_eq_true rfl) sp_within]
  simp only [Option.toList, List.cons_append, List.nil_append, s255_7, b01, true_and, and_self]
theorem sp_isFull {X : Nat × (Nat → Int32)} {d n k : Nat} {f : Nat → e_C} {all : Nat → Int32} (mr : MR f) (ma : arI (f 172) = some (4182, all)) : PU X d 230 [.ref 171] f n k (some (.int (if all 52 = 9 then 1 else 0))) := by
  have m1 := mr.1
  unfold PU
  simp (disch := first | omega | decide) only [s230_0, s230_1, s230_4, s230_6, s230_7, s230_9, s230_12, s230_13, s230_16, s230_17, m1, ow_some, ma, lt_in, lt_cl, true_and]
  by_cases h : all 52 = 9 <;> simp [h]
/-- how many of the first nine are in a set -/
def m_bits (T : Nat) : Nat → Nat
  | 0 => 0
  | k + 1 => m_bits T k + (if T.testBit k then 1 else 0)
set_option maxRecDepth 100000 in
theorem bit_shr : ∀ T, T < 512 → ∀ j, j < 9 → nI T >>> (nI j &&& 31) &&& 1 = nI (if T.testBit j then 1 else 0) := by decide +kernel
theorem sp_bitsLoop {X : Nat × (Nat → Int32)} {d N0 K0 : Nat} {f : Nat → e_C} {Q : t_Q} {T : Nat} (hT : T < 512) (hQ : Q f N0 K0 (some (.int (nI (m_bits T 9))))) : ∀ (m j : Nat), j + m = 9 → TT X d 227 4 [.int (nI T), .int (nI (m_bits T j)), .int (nI j)] [] f N0 K0 Q := by
  intro m
  induction m with
  | zero =>
    intro j hj
    obtain rfl : j = 9 := by omega
    simp (disch := first | omega | decide) only [s227_4, s227_5, s227_7, s227_24, s227_25, lt_le, Nat.le_refl, if_true]
    exact hQ
  | succ m ih =>
    intro j hj
    have hc : (9 ≤ j) = False := eq_false (by omega)
    have hb := bit_shr T hT j (by omega)
    simp (disch := first | omega | decide) only [s227_4, s227_5, s227_7, lt_le, hc, if_false]
    simp (disch := first | omega | decide) only [s227_10, s227_11, s227_12, s227_13, s227_14, s227_15, s227_16, s227_17, s227_18, s227_21, hb, nI_add, ix_one]
    exact ih (j + 1) (by omega)
theorem sp_bitsOf {X : Nat × (Nat → Int32)} {d N0 K0 : Nat} {f : Nat → e_C} {T : Nat} {a1 a2 : Value} (hT : T < 512) : PU X d 227 [.int (nI T), a1, a2] f N0 K0 (some (.int (nI (m_bits T 9)))) := by
  unfold PU
  simp only [s227_0, s227_1, s227_2, s227_3]
  exact sp_bitsLoop hT ⟨rfl, rfl, rfl, rfl⟩ 9 0 rfl
/-- a sum over the steps -/
def m_sum (all : Nat → Int32) (a : Nat) : Nat → Nat → Int32 → Int32
  | 0, _, s => s
  | m + 1, k, s => m_sum all a m (k + 1) (s + all (a + k))
theorem sp_propsLoop {X : Nat × (Nat → Int32)} {d N0 K0 : Nat} {f : Nat → e_C} {Q : t_Q} {all : Nat → Int32} {S : Nat} (mr : MR f) (ma : arI (f 172) = some (4182, all)) (A1 : all 1 = nI S) (hS : S ≤ 8) : ∀ (m j : Nat) (s : Int32), j + m = S → Q f N0 K0 (some (.int (m_sum all 84 m j s))) → TT X d 237 4 [.ref 171, .int s, .int (nI j)] [] f N0 K0 Q := by
  have m1 := mr.1
  intro m
  induction m with
  | zero =>
    intro j s hj hQ
    have hc : (S ≤ j) = True := eq_true (by omega)
    simp (disch := first | omega | decide) only [s237_4, s237_5, s237_6, s237_9, s237_10, s237_11, s237_32, s237_33, m1, ow_some, ma, lt_in, lt_cl, true_and, A1, ix_le, hc, if_true]
    exact hQ
  | succ m ih =>
    intro j s hj hQ
    have hc : (S ≤ j) = False := eq_false (by omega)
    simp (disch := first | omega | decide) only [s237_4, s237_5, s237_6, s237_9, s237_10, s237_11, m1, ow_some, ma, lt_in, lt_cl, true_and, A1, ix_le, hc, if_false]
    simp (disch := first | omega | decide) only [s237_14, s237_15, s237_16, s237_19, s237_21, s237_22, s237_23, s237_24, s237_25, s237_26, s237_29, m1, ow_some, ma, lt_add, ix_in, ix_cl, true_and, ix_one]
    exact ih (j + 1) _ (by omega) hQ
theorem sp_propsAll {X : Nat × (Nat → Int32)} {d N0 K0 : Nat} {f : Nat → e_C} {all : Nat → Int32} {S : Nat} {a1 a2 : Value} (mr : MR f) (ma : arI (f 172) = some (4182, all)) (A1 : all 1 = nI S) (hS : S ≤ 8) : PU X d 237 [.ref 171, a1, a2] f N0 K0 (some (.int (m_sum all 84 S 0 0))) := by
  unfold PU
  simp only [s237_0, s237_1, s237_2, s237_3]
  exact sp_propsLoop mr ma A1 hS S 0 0 (by omega) ⟨rfl, rfl, rfl, rfl⟩
theorem sp_sumLoop {X : Nat × (Nat → Int32)} {d N0 K0 : Nat} {f : Nat → e_C} {Q : t_Q} {all : Nat → Int32} {S a : Nat} (mr : MR f) (ma : arI (f 172) = some (4182, all)) (A1 : all 1 = nI S) (hS : S ≤ 8) (ha : a < 4000) : ∀ (m j : Nat) (s : Int32), j + m = S → Q f N0 K0 (some (.int (m_sum all a m j s))) → TT X d 300 4 [.ref 171, .int (nI a), .int s, .int (nI j)] [] f N0 K0 Q := by
  have m1 := mr.1
  intro m
  induction m with
  | zero =>
    intro j s hj hQ
    have hc : (S ≤ j) = True := eq_true (by omega)
    simp (disch := first | omega | decide) only [s300_4, s300_5, s300_6, s300_9, s300_10, s300_11, s300_31, s300_32, m1, ow_some, ma, lt_in, lt_cl, true_and, A1, ix_le, hc, if_true]
    exact hQ
  | succ m ih =>
    intro j s hj hQ
    have hc : (S ≤ j) = False := eq_false (by omega)
    simp (disch := first | omega | decide) only [s300_4, s300_5, s300_6, s300_9, s300_10, s300_11, m1, ow_some, ma, lt_in, lt_cl, true_and, A1, ix_le, hc, if_false]
    simp (disch := first | omega | decide) only [s300_14, s300_15, s300_16, s300_19, s300_20, s300_21, s300_22, s300_23, s300_24, s300_25, s300_28, m1, ow_some, ma, nI_add, ix_in, ix_cl, true_and, ix_one]
    exact ih (j + 1) _ (by omega) hQ
theorem sp_sumOf {X : Nat × (Nat → Int32)} {d N0 K0 : Nat} {f : Nat → e_C} {all : Nat → Int32} {S a : Nat} {a1 a2 : Value} (mr : MR f) (ma : arI (f 172) = some (4182, all)) (A1 : all 1 = nI S) (hS : S ≤ 8) (ha : a < 4000) : PU X d 300 [.ref 171, .int (nI a), a1, a2] f N0 K0 (some (.int (m_sum all a S 0 0))) := by
  unfold PU
  simp only [s300_0, s300_1, s300_2, s300_3]
  exact sp_sumLoop mr ma A1 hS ha S 0 0 (by omega) ⟨rfl, rfl, rfl, rfl⟩
