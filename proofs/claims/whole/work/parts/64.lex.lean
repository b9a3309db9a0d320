/-! the reference: signs and words of the text -/
def p_L : List Nat := [6, 7, 8, 9, 10, 11, 12, 15]
def PQ (f : Nat → e_C) (s : m_T) (fr ag v : Nat → Int32) : Prop := MV f s ∧ arI (f 175) = some (1394, fr) ∧ arI (f 176) = some (9, ag) ∧ ∀ j ∈ p_L, fld (f 171) 12 j = some (.int (v j))
theorem PQ.f6 {f : Nat → e_C} {s : m_T} {fr ag v : Nat → Int32} (h : PQ f s fr ag v) : fld (f 171) 12 6 = some (.int (v 6)) := h.2.2.2 6 (by decide)
theorem PQ.f7 {f : Nat → e_C} {s : m_T} {fr ag v : Nat → Int32} (h : PQ f s fr ag v) : fld (f 171) 12 7 = some (.int (v 7)) := h.2.2.2 7 (by decide)
theorem PQ.f8 {f : Nat → e_C} {s : m_T} {fr ag v : Nat → Int32} (h : PQ f s fr ag v) : fld (f 171) 12 8 = some (.int (v 8)) := h.2.2.2 8 (by decide)
theorem PQ.f9 {f : Nat → e_C} {s : m_T} {fr ag v : Nat → Int32} (h : PQ f s fr ag v) : fld (f 171) 12 9 = some (.int (v 9)) := h.2.2.2 9 (by decide)
theorem PQ.f10 {f : Nat → e_C} {s : m_T} {fr ag v : Nat → Int32} (h : PQ f s fr ag v) : fld (f 171) 12 10 = some (.int (v 10)) := h.2.2.2 10 (by decide)
theorem PQ.f11 {f : Nat → e_C} {s : m_T} {fr ag v : Nat → Int32} (h : PQ f s fr ag v) : fld (f 171) 12 11 = some (.int (v 11)) := h.2.2.2 11 (by decide)
theorem PQ.f12 {f : Nat → e_C} {s : m_T} {fr ag v : Nat → Int32} (h : PQ f s fr ag v) : fld (f 171) 12 12 = some (.int (v 12)) := h.2.2.2 12 (by decide)
theorem PQ.f15 {f : Nat → e_C} {s : m_T} {fr ag v : Nat → Int32} (h : PQ f s fr ag v) : fld (f 171) 12 15 = some (.int (v 15)) := h.2.2.2 15 (by decide)
theorem PQ.c175 {f : Nat → e_C} {s : m_T} {fr ag v : Nat → Int32} (h : PQ f s fr ag v) : arI (f 175) = some (1394, fr) := h.2.1
theorem PQ.c176 {f : Nat → e_C} {s : m_T} {fr ag v : Nat → Int32} (h : PQ f s fr ag v) : arI (f 176) = some (9, ag) := h.2.2.1
theorem PQ.V {f : Nat → e_C} {s : m_T} {fr ag v : Nat → Int32} (h : PQ f s fr ag v) : MV f s := h.1
theorem PQ.set {f : Nat → e_C} {s : m_T} {fr ag v : Nat → Int32} {j : Nat} {x : Int32} (h : PQ f s fr ag v) (hj : j ∈ p_L) : PQ (va_up f 171 (sfl (f 171) j (.int x))) s fr ag (upd v j x) := by
  have hj2 : j ∈ [0, 6, 7, 8, 9, 10, 11, 12, 15, 21, 22] := by
    unfold p_L at hj
    simp only [List.mem_cons, List.not_mem_nil, or_false] at hj ⊢
    omega
  refine ⟨h.1.num hj2, by rw [vu_ne (by decide)]; exact h.2.1, by rw [vu_ne (by decide)]; exact h.2.2.1, fun i hi => ?_⟩
  rw [vu_eq]
  by_cases hij : i = j
  · subst hij; rw [upd_eq]; exact fld_sfl_same (h.1.has hj2)
  · rw [upd_ne hij, fld_sfl_ne hij]; exact h.2.2.2 i hi
theorem PQ.fr' {f : Nat → e_C} {s : m_T} {fr ag v fr' : Nat → Int32} (h : PQ f s fr ag v) : PQ (va_up f 175 (.inl (.int, 1394, .inl fr'))) s fr' ag v := by
  refine ⟨h.1.up ⟨_, rfl⟩, by rw [vu_eq]; rfl, by rw [vu_ne (by decide)]; exact h.2.2.1, fun i hi => ?_⟩
  rw [vu_ne (by decide)]; exact h.2.2.2 i hi
theorem PQ.ag' {f : Nat → e_C} {s : m_T} {fr ag v ag' : Nat → Int32} (h : PQ f s fr ag v) : PQ (va_up f 176 (.inl (.int, 9, .inl ag'))) s fr ag' v := by
  refine ⟨h.1.up ⟨_, rfl⟩, by rw [vu_ne (by decide)]; exact h.2.1, by rw [vu_eq]; rfl, fun i hi => ?_⟩
  rw [vu_ne (by decide)]; exact h.2.2.2 i hi
def sg (tx : Nat → Int32) (sz k : Nat) : Int32 := if k < sz then tx k else -1
theorem sp_seeSign {X : Nat × (Nat → Int32)} {d N K : Nat} {f : Nat → e_C} {s : m_T} {fr ag v : Nat → Int32} {sz k : Nat} (P : PQ f s fr ag v) (h8 : v 8 = nI sz) (hz : sz ≤ 900) (hk : k ≤ 900) : PU X d 176 [.ref 171, .int (nI k)] f N K (some (.int (sg s.2.2.1 sz k))) := by
  unfold PU sg
  have V := P.V
  by_cases h : k < sz
  · have hc : (sz ≤ k) = False := eq_false (by omega)
    simp (disch := first | omega | decide | assumption | exact Nat.le_of_ble_eq_true rfl) only [s176_0, s176_1, s176_2, s176_5, s176_8, s176_9, s176_12, s176_13, s176_14, s176_17, s176_18, ow_some, true_and, and_true, and_self, if_true, if_false, not_true, not_false_eq_true, Bool.false_eq_true, eq_self, Option.toList, List.cons_append, List.nil_append, ix_in, ix_cl, lt_in, lt_cl, lt_add, ix_one, vu_eq, vu_ne, arI_mk, arL_mk, arY_mZ, arY_mB, alen_mI, fld_sfl_ne, fld_sfl_same, Option.isSome_some, pok_i, b1z, b01, z10, b1o, Int32.zero_add, vu_vu, upd_eq, upd_ne, true_or, or_true, V.r1, V.r2, V.r3, V.r4, V.r16, V.r17, V.r18, V.r19, V.r20, V.r23, V.r24, V.r25, V.r26, V.r27, V.r28, V.r29, V.r30, V.c172, V.c173, V.c174, V.c186, V.c187, V.c188, V.n5, V.n13, V.n14, V.i0, V.i5, V.i6, V.i7, V.i8, V.i9, V.i10, V.i11, V.i12, V.i13, V.i14, V.i15, V.i21, V.i22, P.f6, P.f7, P.f8, P.f9, P.f10, P.f11, P.f12, P.f15, P.c175, P.c176, h8, ix_le, hc, h]
  · have hc : (sz ≤ k) = True := eq_true (by omega)
    simp (disch := first | omega | decide | assumption | exact Nat.le_of_ble_eq_true rfl) only [s176_0, s176_1, s176_2, s176_5, s176_8, s176_9, s176_12, s176_13, s176_14, s176_17, s176_18, ow_some, true_and, and_true, and_self, if_true, if_false, not_true, not_false_eq_true, Bool.false_eq_true, eq_self, Option.toList, List.cons_append, List.nil_append, ix_in, ix_cl, lt_in, lt_cl, lt_add, ix_one, vu_eq, vu_ne, arI_mk, arL_mk, arY_mZ, arY_mB, alen_mI, fld_sfl_ne, fld_sfl_same, Option.isSome_some, pok_i, b1z, b01, z10, b1o, Int32.zero_add, vu_vu, upd_eq, upd_ne, true_or, or_true, V.r1, V.r2, V.r3, V.r4, V.r16, V.r17, V.r18, V.r19, V.r20, V.r23, V.r24, V.r25, V.r26, V.r27, V.r28, V.r29, V.r30, V.c172, V.c173, V.c174, V.c186, V.c187, V.c188, V.n5, V.n13, V.n14, V.i0, V.i5, V.i6, V.i7, V.i8, V.i9, V.i10, V.i11, V.i12, V.i13, V.i14, V.i15, V.i21, V.i22, P.f6, P.f7, P.f8, P.f9, P.f10, P.f11, P.f12, P.f15, P.c175, P.c176, h8, ix_le, hc, h]
def isS (c : Int32) : Bool := decide (97 ≤ c) && decide (c ≤ 122)
def isD (c : Int32) : Bool := decide (48 ≤ c) && decide (c ≤ 57)
theorem i_nlt {a b : Int32} : (a < b) = ¬ (b ≤ a) := by
  apply propext; rw [Int32.lt_iff_toInt_lt, Int32.le_iff_toInt_le]; omega
theorem sp_isSmall {X : Nat × (Nat → Int32)} {d N K : Nat} {f : Nat → e_C} {c : Int32} : PU X d 177 [.int c] f N K (some (.int (if isS c then 1 else 0))) := by
  unfold PU isS
  by_cases h1 : 97 ≤ c
  · by_cases h2 : c ≤ 122
    · simp (disch := first | omega | decide | assumption | exact Nat.le_of_ble_eq_true rfl) only [s177_0, s177_1, s177_3, s177_6, s177_7, s177_9, s177_12, s177_13, s177_16, s177_17, ow_some, true_and, and_true, and_self, if_true, if_false, not_true, not_false_eq_true, Bool.false_eq_true, eq_self, Option.toList, List.cons_append, List.nil_append, ix_in, ix_cl, lt_in, lt_cl, lt_add, ix_one, vu_eq, vu_ne, arI_mk, arL_mk, arY_mZ, arY_mB, alen_mI, fld_sfl_ne, fld_sfl_same, Option.isSome_some, pok_i, b1z, b01, z10, b1o, Int32.zero_add, vu_vu, upd_eq, upd_ne, true_or, or_true, i_nlt, h1, h2, decide_true, Bool.and_true]
    · simp (disch := first | omega | decide | assumption | exact Nat.le_of_ble_eq_true rfl) only [s177_0, s177_1, s177_3, s177_6, s177_7, s177_9, s177_12, s177_13, s177_16, s177_17, ow_some, true_and, and_true, and_self, if_true, if_false, not_true, not_false_eq_true, Bool.false_eq_true, eq_self, Option.toList, List.cons_append, List.nil_append, ix_in, ix_cl, lt_in, lt_cl, lt_add, ix_one, vu_eq, vu_ne, arI_mk, arL_mk, arY_mZ, arY_mB, alen_mI, fld_sfl_ne, fld_sfl_same, Option.isSome_some, pok_i, b1z, b01, z10, b1o, Int32.zero_add, vu_vu, upd_eq, upd_ne, true_or, or_true, i_nlt, h1, h2, decide_false, Bool.and_false]
  · simp (disch := first | omega | decide | assumption | exact Nat.le_of_ble_eq_true rfl) only [s177_0, s177_1, s177_3, s177_6, s177_7, s177_9, s177_12, s177_13, s177_16, s177_17, ow_some, true_and, and_true, and_self, if_true, if_false, not_true, not_false_eq_true, Bool.false_eq_true, eq_self, Option.toList, List.cons_append, List.nil_append, ix_in, ix_cl, lt_in, lt_cl, lt_add, ix_one, vu_eq, vu_ne, arI_mk, arL_mk, arY_mZ, arY_mB, alen_mI, fld_sfl_ne, fld_sfl_same, Option.isSome_some, pok_i, b1z, b01, z10, b1o, Int32.zero_add, vu_vu, upd_eq, upd_ne, true_or, or_true, i_nlt, h1, decide_false, Bool.false_and]
theorem sp_isDigit {X : Nat × (Nat → Int32)} {d N K : Nat} {f : Nat → e_C} {c : Int32} : PU X d 179 [.int c] f N K (some (.int (if isD c then 1 else 0))) := by
  unfold PU isD
  by_cases h1 : 48 ≤ c
  · by_cases h2 : c ≤ 57
    · simp (disch := first | omega | decide | assumption | exact Nat.le_of_ble_eq_true rfl) only [s179_0, s179_1, s179_3, s179_6, s179_7, s179_9, s179_12, s179_13, s179_16, s179_17, ow_some, true_and, and_true, and_self, if_true, if_false, not_true, not_false_eq_true, Bool.false_eq_true, eq_self, Option.toList, List.cons_append, List.nil_append, ix_in, ix_cl, lt_in, lt_cl, lt_add, ix_one, vu_eq, vu_ne, arI_mk, arL_mk, arY_mZ, arY_mB, alen_mI, fld_sfl_ne, fld_sfl_same, Option.isSome_some, pok_i, b1z, b01, z10, b1o, Int32.zero_add, vu_vu, upd_eq, upd_ne, true_or, or_true, i_nlt, h1, h2, decide_true, Bool.and_true]
    · simp (disch := first | omega | decide | assumption | exact Nat.le_of_ble_eq_true rfl) only [s179_0, s179_1, s179_3, s179_6, s179_7, s179_9, s179_12, s179_13, s179_16, s179_17, ow_some, true_and, and_true, and_self, if_true, if_false, not_true, not_false_eq_true, Bool.false_eq_true, eq_self, Option.toList, List.cons_append, List.nil_append, ix_in, ix_cl, lt_in, lt_cl, lt_add, ix_one, vu_eq, vu_ne, arI_mk, arL_mk, arY_mZ, arY_mB, alen_mI, fld_sfl_ne, fld_sfl_same, Option.isSome_some, pok_i, b1z, b01, z10, b1o, Int32.zero_add, vu_vu, upd_eq, upd_ne, true_or, or_true, i_nlt, h1, h2, decide_false, Bool.and_false]
  · simp (disch := first | omega | decide | assumption | exact Nat.le_of_ble_eq_true rfl) only [s179_0, s179_1, s179_3, s179_6, s179_7, s179_9, s179_12, s179_13, s179_16, s179_17, ow_some, true_and, and_true, and_self, if_true, if_false, not_true, not_false_eq_true, Bool.false_eq_true, eq_self, Option.toList, List.cons_append, List.nil_append, ix_in, ix_cl, lt_in, lt_cl, lt_add, ix_one, vu_eq, vu_ne, arI_mk, arL_mk, arY_mZ, arY_mB, alen_mI, fld_sfl_ne, fld_sfl_same, Option.isSome_some, pok_i, b1z, b01, z10, b1o, Int32.zero_add, vu_vu, upd_eq, upd_ne, true_or, or_true, i_nlt, h1, decide_false, Bool.false_and]
def kw : List (Nat × Nat) := [(1, 6), (7, 12), (13, 18), (19, 25), (26, 28), (29, 34), (35, 38), (39, 44), (45, 47), (48, 54), (55, 60), (61, 66), (67, 70), (71, 74), (75, 78), (79, 83), (84, 87), (88, 92), (93, 96), (97, 99), (100, 103)]
def ks (i : Nat) : Nat := (kw.getD i (104, 104)).1
def ke (i : Nat) : Nat := (kw.getD i (104, 104)).2
theorem kw_ok : ks 0 = 1 ∧ ks 21 = 104 ∧ ∀ i, i < 21 → ks i < ke i ∧ ke i < 104 ∧ ks (i + 1) = ke i + 1 ∧ s_at 2 (ke i) = 32 ∧ ∀ p, p < 104 → ks i ≤ p → p < ke i → ¬ s_at 2 p = 32 := by decide +kernel
def kq (tx : Nat → Int32) (a b i : Nat) : Bool := decide (b - a = ke i - ks i) && allB (fun j => decide (tx (a + j) = s_at 2 (ks i + j))) (ke i - ks i)
def m_key (tx : Nat → Int32) (a b : Nat) : Nat := (m_fi (kq tx a b) 21 0).getD 22
