/-! the reference: sets of people -/
def sub (s T : Nat) : Bool := (s &&& T) == s
def dif (T s : Nat) : Nat := T &&& (511 ^^^ s)
def bits (T : Nat) : Nat := m_bits T 9
theorem sub_iff {s T : Nat} : sub s T = true ↔ ∀ i, s.testBit i = true → T.testBit i = true := by
  unfold sub
  rw [beq_iff_eq]
  constructor
  · intro h i hi
    rw [← h, Nat.testBit_and] at hi
    exact (Bool.and_eq_true _ _ ▸ hi).2
  · intro h
    apply Nat.eq_of_testBit_eq
    intro i
    rw [Nat.testBit_and]
    by_cases hi : s.testBit i = true
    · rw [hi, h i hi]; rfl
    · rw [Bool.not_eq_true] at hi; rw [hi]; rfl
theorem bit_lo {T i : Nat} (hT : T < 512) (h : T.testBit i = true) : i < 9 := by
  apply Nat.lt_of_not_le
  intro hi
  rw [Nat.testBit_lt_two_pow (Nat.lt_of_lt_of_le hT (Nat.pow_le_pow_right (by decide) hi : 2 ^ 9 ≤ 2 ^ i))] at h
  exact absurd h (by decide)
theorem nI_bit {T i : Nat} (hi : i < 32) : (nI T).toBitVec.getLsbD i = T.testBit i := by
  show (BitVec.ofNat 32 T).getLsbD i = _
  rw [BitVec.getLsbD_ofNat]; simp [hi]
theorem m1_bit {i : Nat} (hi : i < 32) : (-1 : Int32).toBitVec.getLsbD i = true := by
  have : (-1 : Int32).toBitVec = BitVec.allOnes 32 := by decide
  rw [this, BitVec.getLsbD_allOnes]; simp [hi]
theorem i32_ext {x y : Int32} (h : ∀ i, i < 32 → x.toBitVec.getLsbD i = y.toBitVec.getLsbD i) : x = y := Int32.toBitVec_inj.mp (BitVec.eq_of_getLsbD_eq h)
theorem and_bit {x y : Int32} {i : Nat} : (x &&& y).toBitVec.getLsbD i = (x.toBitVec.getLsbD i && y.toBitVec.getLsbD i) := by
  show (x.toBitVec &&& y.toBitVec).getLsbD i = _
  rw [BitVec.getLsbD_and]
theorem or_bit {x y : Int32} {i : Nat} : (x ||| y).toBitVec.getLsbD i = (x.toBitVec.getLsbD i || y.toBitVec.getLsbD i) := by
  show (x.toBitVec ||| y.toBitVec).getLsbD i = _
  rw [BitVec.getLsbD_or]
theorem xor_bit {x y : Int32} {i : Nat} : (x ^^^ y).toBitVec.getLsbD i = (x.toBitVec.getLsbD i ^^ y.toBitVec.getLsbD i) := by
  show (x.toBitVec ^^^ y.toBitVec).getLsbD i = _
  rw [BitVec.getLsbD_xor]
theorem not_bit {x : Int32} {i : Nat} (hi : i < 32) : (x ^^^ -1).toBitVec.getLsbD i = !x.toBitVec.getLsbD i := by
  rw [xor_bit, m1_bit hi]; simp
theorem part_x {x : Int32} {T : Nat} (hT : T < 512) : (x &&& (nI T ^^^ -1) = 0) = (∃ s, s < 512 ∧ x = nI s ∧ sub s T = true) := by
  apply propext
  constructor
  · intro h
    have hb : ∀ i, i < 32 → x.toBitVec.getLsbD i = true → T.testBit i = true := by
      intro i hi hx
      have h2 : (x &&& (nI T ^^^ -1)).toBitVec.getLsbD i = false := by rw [h]; exact BitVec.getLsbD_zero
      rw [and_bit, not_bit hi, nI_bit hi, hx] at h2
      simpa using h2
    have hs : ∀ i, x.toBitVec.toNat.testBit i = true → T.testBit i = true := by
      intro i hi
      by_cases h32 : i < 32
      · exact hb i h32 (by rw [BitVec.getLsbD]; exact hi)
      · rw [Nat.testBit_lt_two_pow (Nat.lt_of_lt_of_le x.toBitVec.isLt (Nat.pow_le_pow_right (by decide) (by omega)))] at hi
        exact absurd hi (by decide)
    have hlt : x.toBitVec.toNat < 512 := by
      apply Nat.lt_pow_two_of_testBit (n := 9)
      intro i hi
      by_cases h3 : x.toBitVec.toNat.testBit i = true
      · have := bit_lo hT (hs i h3); omega
      · simpa using h3
    refine ⟨x.toBitVec.toNat, hlt, i32_ext (fun i hi => ?_), sub_iff.mpr hs⟩
    rw [nI_bit hi, BitVec.getLsbD]
  · rintro ⟨s, hs, rfl, h⟩
    refine i32_ext (fun i hi => ?_)
    rw [and_bit, not_bit hi, nI_bit hi, nI_bit hi]
    have : (0 : Int32).toBitVec.getLsbD i = false := BitVec.getLsbD_zero
    rw [this]
    by_cases h3 : s.testBit i = true
    · rw [h3, sub_iff.mp h i h3]; rfl
    · rw [Bool.not_eq_true] at h3; rw [h3]; rfl
theorem part_nI {s T : Nat} (hs : s < 512) (hT : T < 512) : (nI s &&& (nI T ^^^ -1) = 0) = (sub s T = true) := by
  rw [part_x hT]
  apply propext
  constructor
  · rintro ⟨u, hu, he, h⟩
    rw [ix_eq (by omega) (by omega)] at he
    rw [he]; exact h
  · intro h; exact ⟨s, hs, rfl, h⟩
theorem dif_bit {T s i : Nat} (hT : T < 512) : (dif T s).testBit i = (T.testBit i && !s.testBit i) := by
  unfold dif
  rw [Nat.testBit_and, Nat.testBit_xor]
  by_cases h : T.testBit i = true
  · have h9 := bit_lo hT h
    have : (511 : Nat).testBit i = true := by
      rw [show (511 : Nat) = 2 ^ 9 - 1 by decide, Nat.testBit_two_pow_sub_one]; simp [h9]
    rw [h, this]; simp
  · rw [Bool.not_eq_true] at h; rw [h]; rfl
theorem dif_lt {T s : Nat} (hT : T < 512) : dif T s < 512 := Nat.lt_of_le_of_lt Nat.and_le_left hT
theorem dif_nI {T s : Nat} (hT : T < 512) : nI T &&& (nI s ^^^ -1) = nI (dif T s) := by
  refine i32_ext (fun i hi => ?_)
  rw [and_bit, not_bit hi, nI_bit hi, nI_bit hi, nI_bit hi, dif_bit hT]
theorem or_nI {s t : Nat} : nI s ||| nI t = nI (s ||| t) := by
  refine i32_ext (fun i hi => ?_)
  rw [or_bit, nI_bit hi, nI_bit hi, nI_bit hi, Nat.testBit_or]
theorem and_nI {s t : Nat} : nI s &&& nI t = nI (s &&& t) := by
  refine i32_ext (fun i hi => ?_)
  rw [and_bit, nI_bit hi, nI_bit hi, nI_bit hi, Nat.testBit_and]
theorem p2 : ∀ P, P < 10 → (1 : Int32) <<< (nI P &&& 31) = nI (2 ^ P) := by decide
/-- which cells a question of the reference leaves: all but some scratch cells and one more -/
def SN (b : Nat) (f f' : Nat → e_C) : Prop := ∀ a, (a < 171 ∨ 180 ≤ a) → a ≠ b → f' a = f a
theorem SM.n {b : Nat} {f f' : Nat → e_C} (h : SM f f') : SN b f f' := fun a ha _ => h a ha
theorem SN.tr {b : Nat} {f g h : Nat → e_C} (h1 : SN b f g) (h2 : SN b g h) : SN b f h := fun a ha hb => (h2 a ha hb).trans (h1 a ha hb)
theorem SN.up {b : Nat} {f : Nat → e_C} {c : e_C} : SN b f (va_up f b c) := fun a _ hb => vu_ne hb
theorem SN.w {b : Nat} {f f' : Nat → e_C} (h : SN b f f') (h1 : 171 ≤ b) (h2 : b < 189) : SW f f' := fun a ha => h a (by omega) (by omega)
def bI (b : Bool) : Int32 := if b then 1 else 0
def m_h (all : Nat → Int32) (S P : Nat) (set : Nat) : Bool := sub set (nT all) && m_hold all S P set
theorem sp_isPartN {X : Nat × (Nat → Int32)} {d n k : Nat} {f : Nat → e_C} {s T : Nat} (hs : s < 512) (hT : T < 512) : PU X d 253 [.int (nI s), .int (nI T)] f n k (some (.int (if sub s T then 1 else 0))) := by
  have h := sp_isPart (X := X) (d := d) (n := n) (k := k) (f := f) (x := nI s) (y := nI T)
  simp only [part_nI hs hT] at h
  exact h
theorem sp_laysHold {X : Nat × (Nat → Int32)} {d N K : Nat} {f : Nat → e_C} {s : m_T} {S P : Nat} (V : MV f s) (W : WF s.1 S P) {a1 : Value} : TT X (d + 6) 256 0 [.ref 171, a1] [] f N K (fun f' n' k' v => n' = N ∧ k' = K ∧ v = none ∧ SN 181 f f' ∧ MV f' s ∧ ∃ h, arZ (f' 181) = some (512, h) ∧ ∀ i, i < 2 ^ P → h i = bI (m_h s.1 S P i)) := by
  obtain ⟨h0, hh0⟩ := V.e181
  have A4 := W.1.2.2.2.1
  have h9 := W.1.2.2.2.2.1
  have hp9 := pw9 h9
  have e2 := p2 P (by omega)
  simp (disch := first | omega | decide | assumption | exact Nat.le_of_ble_eq_true rfl) only [s256_0, h256_1, ow_some, true_and, and_true, and_self, if_true, if_false, not_true, not_false_eq_true, Bool.false_eq_true, eq_self, Option.toList, List.cons_append, List.nil_append, ix_in, ix_cl, lt_in, lt_cl, lt_add, ix_one, vu_eq, vu_ne, arI_mk, arL_mk, arY_mZ, arY_mB, alen_mI, fld_sfl_ne, fld_sfl_same, Option.isSome_some, pok_i, b1z, b01, z10, b1o, Int32.zero_add, vu_vu, upd_eq, upd_ne, V.r1, V.r2, V.r3, V.r4, V.r16, V.r17, V.r18, V.r19, V.r20, V.r23, V.r24, V.r25, V.r26, V.r27, V.r28, V.r29, V.r30, V.c172, V.c173, V.c174, V.c186, V.c187, V.c188, V.n5, V.n13, V.n14, V.i0, V.i5, V.i6, V.i7, V.i8, V.i9, V.i10, V.i11, V.i12, V.i13, V.i14, V.i15, V.i21, V.i22]
  refine lp (fun j g (h : Nat → Int32) => SN 181 f g ∧ MV g s ∧ arZ (g 181) = some (512, h) ∧ ∀ i, i < j → h i = bI (m_h s.1 S P i)) (fun j _ => [.ref 171, .int (nI j)]) (2 ^ P) ?_ ?_ 0 f h0 (Nat.zero_le _) ⟨SM.rf.n, V, hh0, fun i hi => by omega⟩
  · rintro j g h hj ⟨sn, V1, hh, hv⟩ hI
    have hc : (2 ^ P ≤ j) = False := eq_false (by omega)
    simp (disch := first | omega | decide | assumption | exact Nat.le_of_ble_eq_true rfl) only [s256_2, s256_3, s256_4, s256_5, s256_8, s256_10, s256_11, s256_12, s256_15, s256_16, s256_19, s256_20, s256_21, s256_22, s256_25, s256_27, ow_some, true_and, and_true, and_self, if_true, if_false, not_true, not_false_eq_true, Bool.false_eq_true, eq_self, Option.toList, List.cons_append, List.nil_append, ix_in, ix_cl, lt_in, lt_cl, lt_add, ix_one, vu_eq, vu_ne, arI_mk, arL_mk, arY_mZ, arY_mB, alen_mI, fld_sfl_ne, fld_sfl_same, Option.isSome_some, pok_i, b1z, b01, z10, b1o, Int32.zero_add, vu_vu, upd_eq, upd_ne, V1.r1, V1.r2, V1.r3, V1.r4, V1.r16, V1.r17, V1.r18, V1.r19, V1.r20, V1.r23, V1.r24, V1.r25, V1.r26, V1.r27, V1.r28, V1.r29, V1.r30, V1.c172, V1.c173, V1.c174, V1.c186, V1.c187, V1.c188, V1.n5, V1.n13, V1.n14, V1.i0, V1.i5, V1.i6, V1.i7, V1.i8, V1.i9, V1.i10, V1.i11, V1.i12, V1.i13, V1.i14, V1.i15, V1.i21, V1.i22, A4, W.2.1, e2, ix_le, hc]
    rw [p256_28 (Nat.le_of_ble_eq_true rfl) (sp_isPartN (show j < 512 by omega) W.T)]
    have fin : ∀ g1, SN 181 f g1 → MV g1 s → arZ (g1 181) = some (512, h) → TT X (d + 6) 256 47 [.ref 171, .int (nI j)] [.int (bI (m_h s.1 S P j)), .int (nI j), .ref 181] g1 N K (fun f' n' k' v => n' = N ∧ k' = K ∧ v = none ∧ SN 181 f f' ∧ MV f' s ∧ ∃ h, arZ (f' 181) = some (512, h) ∧ ∀ i, i < 2 ^ P → h i = bI (m_h s.1 S P i)) := by
      intro g1 sn1 V2 hh1
      have hy := arY_Z hh1
      have hn : vp_nar .boolean (bI (m_h s.1 S P j)) = bI (m_h s.1 S P j) := by unfold bI; exact nar_Z
      simp (disch := first | omega | decide | assumption | exact Nat.le_of_ble_eq_true rfl) only [y256_47, s256_48, h256_51, ow_some, true_and, and_true, and_self, if_true, if_false, not_true, not_false_eq_true, Bool.false_eq_true, eq_self, Option.toList, List.cons_append, List.nil_append, ix_in, ix_cl, lt_in, lt_cl, lt_add, ix_one, vu_eq, vu_ne, arI_mk, arL_mk, arY_mZ, arY_mB, alen_mI, fld_sfl_ne, fld_sfl_same, Option.isSome_some, pok_i, b1z, b01, z10, b1o, Int32.zero_add, vu_vu, upd_eq, upd_ne, V2.r1, V2.r2, V2.r3, V2.r4, V2.r16, V2.r17, V2.r18, V2.r19, V2.r20, V2.r23, V2.r24, V2.r25, V2.r26, V2.r27, V2.r28, V2.r29, V2.r30, V2.c172, V2.c173, V2.c174, V2.c186, V2.c187, V2.c188, V2.n5, V2.n13, V2.n14, V2.i0, V2.i5, V2.i6, V2.i7, V2.i8, V2.i9, V2.i10, V2.i11, V2.i12, V2.i13, V2.i14, V2.i15, V2.i21, V2.i22, hy, hn]
      refine hI _ (upd h j (bI (m_h s.1 S P j))) ⟨sn1.tr SN.up, V2.up ⟨_, rfl⟩, by rw [vu_eq]; rfl, fun i hi => ?_⟩
      by_cases hij : i = j
      · subst hij; rw [upd_eq]
      · rw [upd_ne hij]; exact hv i (by omega)
    by_cases h1 : sub j (nT s.1) = true
    · simp (disch := first | omega | decide | assumption | exact Nat.le_of_ble_eq_true rfl) only [s256_31, s256_34, s256_35, ow_some, true_and, and_true, and_self, if_true, if_false, not_true, not_false_eq_true, Bool.false_eq_true, eq_self, Option.toList, List.cons_append, List.nil_append, ix_in, ix_cl, lt_in, lt_cl, lt_add, ix_one, vu_eq, vu_ne, arI_mk, arL_mk, arY_mZ, arY_mB, alen_mI, fld_sfl_ne, fld_sfl_same, Option.isSome_some, pok_i, b1z, b01, z10, b1o, Int32.zero_add, vu_vu, upd_eq, upd_ne, V1.r1, V1.r2, V1.r3, V1.r4, V1.r16, V1.r17, V1.r18, V1.r19, V1.r20, V1.r23, V1.r24, V1.r25, V1.r26, V1.r27, V1.r28, V1.r29, V1.r30, V1.c172, V1.c173, V1.c174, V1.c186, V1.c187, V1.c188, V1.n5, V1.n13, V1.n14, V1.i0, V1.i5, V1.i6, V1.i7, V1.i8, V1.i9, V1.i10, V1.i11, V1.i12, V1.i13, V1.i14, V1.i15, V1.i21, V1.i22, h1]
      refine k256_36 (cno_MR V1.mr) (Nat.le_of_ble_eq_true rfl) (vb_hold V1 W (show j < 512 by omega)) ?_
      rintro g1 n1 k1 v1 ⟨rfl, rfl, sm1, V2, rfl⟩
      have hh1 : arZ (g1 181) = some (512, h) := by rw [sm1 181 (by omega)]; exact hh
      have fin1 := fin g1 (sn.tr sm1.n) V2 hh1
      by_cases h2 : m_hold s.1 S P j = true
      · have hm : m_h s.1 S P j = true := by rw [m_h, h1, h2]; rfl
        rw [hm] at fin1
        simp (disch := first | omega | decide | assumption | exact Nat.le_of_ble_eq_true rfl) only [s256_39, s256_42, s256_43, ow_some, true_and, and_true, and_self, if_true, if_false, not_true, not_false_eq_true, Bool.false_eq_true, eq_self, Option.toList, List.cons_append, List.nil_append, ix_in, ix_cl, lt_in, lt_cl, lt_add, ix_one, vu_eq, vu_ne, arI_mk, arL_mk, arY_mZ, arY_mB, alen_mI, fld_sfl_ne, fld_sfl_same, Option.isSome_some, pok_i, b1z, b01, z10, b1o, Int32.zero_add, vu_vu, upd_eq, upd_ne, V2.r1, V2.r2, V2.r3, V2.r4, V2.r16, V2.r17, V2.r18, V2.r19, V2.r20, V2.r23, V2.r24, V2.r25, V2.r26, V2.r27, V2.r28, V2.r29, V2.r30, V2.c172, V2.c173, V2.c174, V2.c186, V2.c187, V2.c188, V2.n5, V2.n13, V2.n14, V2.i0, V2.i5, V2.i6, V2.i7, V2.i8, V2.i9, V2.i10, V2.i11, V2.i12, V2.i13, V2.i14, V2.i15, V2.i21, V2.i22, h2]
        exact fin1
      · have hm : m_h s.1 S P j = false := by rw [m_h, h1]; simpa using h2
        rw [hm] at fin1
        simp (disch := first | omega | decide | assumption | exact Nat.le_of_ble_eq_true rfl) only [s256_39, s256_42, s256_43, s256_46, ow_some, true_and, and_true, and_self, if_true, if_false, not_true, not_false_eq_true, Bool.false_eq_true, eq_self, Option.toList, List.cons_append, List.nil_append, ix_in, ix_cl, lt_in, lt_cl, lt_add, ix_one, vu_eq, vu_ne, arI_mk, arL_mk, arY_mZ, arY_mB, alen_mI, fld_sfl_ne, fld_sfl_same, Option.isSome_some, pok_i, b1z, b01, z10, b1o, Int32.zero_add, vu_vu, upd_eq, upd_ne, V2.r1, V2.r2, V2.r3, V2.r4, V2.r16, V2.r17, V2.r18, V2.r19, V2.r20, V2.r23, V2.r24, V2.r25, V2.r26, V2.r27, V2.r28, V2.r29, V2.r30, V2.c172, V2.c173, V2.c174, V2.c186, V2.c187, V2.c188, V2.n5, V2.n13, V2.n14, V2.i0, V2.i5, V2.i6, V2.i7, V2.i8, V2.i9, V2.i10, V2.i11, V2.i12, V2.i13, V2.i14, V2.i15, V2.i21, V2.i22, h2]
        exact fin1
    · have fin1 := fin g sn V1 hh
      have hm : m_h s.1 S P j = false := by rw [m_h]; simp [h1]
      rw [hm] at fin1
      simp (disch := first | omega | decide | assumption | exact Nat.le_of_ble_eq_true rfl) only [s256_31, s256_46, ow_some, true_and, and_true, and_self, if_true, if_false, not_true, not_false_eq_true, Bool.false_eq_true, eq_self, Option.toList, List.cons_append, List.nil_append, ix_in, ix_cl, lt_in, lt_cl, lt_add, ix_one, vu_eq, vu_ne, arI_mk, arL_mk, arY_mZ, arY_mB, alen_mI, fld_sfl_ne, fld_sfl_same, Option.isSome_some, pok_i, b1z, b01, z10, b1o, Int32.zero_add, vu_vu, upd_eq, upd_ne, V1.r1, V1.r2, V1.r3, V1.r4, V1.r16, V1.r17, V1.r18, V1.r19, V1.r20, V1.r23, V1.r24, V1.r25, V1.r26, V1.r27, V1.r28, V1.r29, V1.r30, V1.c172, V1.c173, V1.c174, V1.c186, V1.c187, V1.c188, V1.n5, V1.n13, V1.n14, V1.i0, V1.i5, V1.i6, V1.i7, V1.i8, V1.i9, V1.i10, V1.i11, V1.i12, V1.i13, V1.i14, V1.i15, V1.i21, V1.i22, h1]
      exact fin1
  · rintro g h ⟨sn, V1, hh, hv⟩
    simp (disch := first | omega | decide | assumption | exact Nat.le_of_ble_eq_true rfl) only [s256_2, s256_3, s256_4, s256_5, s256_8, s256_10, s256_11, s256_12, s256_54, ow_some, true_and, and_true, and_self, if_true, if_false, not_true, not_false_eq_true, Bool.false_eq_true, eq_self, Option.toList, List.cons_append, List.nil_append, ix_in, ix_cl, lt_in, lt_cl, lt_add, ix_one, vu_eq, vu_ne, arI_mk, arL_mk, arY_mZ, arY_mB, alen_mI, fld_sfl_ne, fld_sfl_same, Option.isSome_some, pok_i, b1z, b01, z10, b1o, Int32.zero_add, vu_vu, upd_eq, upd_ne, V1.r1, V1.r2, V1.r3, V1.r4, V1.r16, V1.r17, V1.r18, V1.r19, V1.r20, V1.r23, V1.r24, V1.r25, V1.r26, V1.r27, V1.r28, V1.r29, V1.r30, V1.c172, V1.c173, V1.c174, V1.c186, V1.c187, V1.c188, V1.n5, V1.n13, V1.n14, V1.i0, V1.i5, V1.i6, V1.i7, V1.i8, V1.i9, V1.i10, V1.i11, V1.i12, V1.i13, V1.i14, V1.i15, V1.i21, V1.i22, A4, e2, ix_le, Nat.le_refl]
    exact ⟨sn, V1, h, hh, hv⟩
def o_holds (all : Nat → Int32) (S P : Nat) (x : Int32) : Int32 := if x &&& (nI (nT all) ^^^ -1) = 0 then (if m_hold all S P x.toInt.toNat then 1 else 0) else -3
theorem sp_holds {X : Nat × (Nat → Int32)} {d N K : Nat} {f : Nat → e_C} {s : m_T} {S P : Nat} (V : MV f s) (W : WF s.1 S P) {x : Int32} : TT X (d + 8) 252 0 [.ref 171, .int x] [] f N K (MZ N K f (s.1, o_holds s.1 S P x) s.2) := by
  simp only [s252_0, s252_1, s252_2, V.i0, pok_i, true_and]
  have sm0 : SM f (va_up f 171 (sfl (f 171) 0 (.int 0))) := SM.up (by omega) (by omega)
  have V0 := V.num (j := 0) (x := 0) (by decide)
  generalize va_up f 171 (sfl (f 171) 0 (.int 0)) = f0 at sm0 V0 ⊢
  simp (disch := first | omega | decide | assumption | exact Nat.le_of_ble_eq_true rfl) only [s252_5, s252_6, s252_7, s252_10, s252_12, ow_some, true_and, and_true, and_self, if_true, if_false, not_true, not_false_eq_true, Bool.false_eq_true, eq_self, Option.toList, List.cons_append, List.nil_append, ix_in, ix_cl, lt_in, lt_cl, lt_add, ix_one, vu_eq, vu_ne, arI_mk, arL_mk, arY_mZ, arY_mB, alen_mI, fld_sfl_ne, fld_sfl_same, Option.isSome_some, pok_i, b1z, b01, z10, b1o, Int32.zero_add, vu_vu, upd_eq, upd_ne, V0.r1, V0.r2, V0.r3, V0.r4, V0.r16, V0.r17, V0.r18, V0.r19, V0.r20, V0.r23, V0.r24, V0.r25, V0.r26, V0.r27, V0.r28, V0.r29, V0.r30, V0.c172, V0.c173, V0.c174, V0.c186, V0.c187, V0.c188, V0.n5, V0.n13, V0.n14, V0.i0, V0.i5, V0.i6, V0.i7, V0.i8, V0.i9, V0.i10, V0.i11, V0.i12, V0.i13, V0.i14, V0.i15, V0.i21, V0.i22, W.2.1]
  rw [p252_13 (Nat.le_of_ble_eq_true rfl) sp_isPart]
  unfold o_holds
  by_cases h1 : x &&& (nI (nT s.1) ^^^ -1) = 0
  · rw [if_pos h1]
    have h1' := h1
    rw [part_x W.T] at h1'
    obtain ⟨u, hu, rfl, hs⟩ := h1'
    simp (disch := first | omega | decide | assumption | exact Nat.le_of_ble_eq_true rfl) only [s252_16, s252_19, s252_21, s252_24, s252_25, ow_some, true_and, and_true, and_self, if_true, if_false, not_true, not_false_eq_true, Bool.false_eq_true, eq_self, Option.toList, List.cons_append, List.nil_append, ix_in, ix_cl, lt_in, lt_cl, lt_add, ix_one, vu_eq, vu_ne, arI_mk, arL_mk, arY_mZ, arY_mB, alen_mI, fld_sfl_ne, fld_sfl_same, Option.isSome_some, pok_i, b1z, b01, z10, b1o, Int32.zero_add, vu_vu, upd_eq, upd_ne, V0.r1, V0.r2, V0.r3, V0.r4, V0.r16, V0.r17, V0.r18, V0.r19, V0.r20, V0.r23, V0.r24, V0.r25, V0.r26, V0.r27, V0.r28, V0.r29, V0.r30, V0.c172, V0.c173, V0.c174, V0.c186, V0.c187, V0.c188, V0.n5, V0.n13, V0.n14, V0.i0, V0.i5, V0.i6, V0.i7, V0.i8, V0.i9, V0.i10, V0.i11, V0.i12, V0.i13, V0.i14, V0.i15, V0.i21, V0.i22, h1]
    refine k252_26 (cno_MR V0.mr) (Nat.le_of_ble_eq_true rfl) (vb_hold V0 W hu) ?_
    rintro f1 n1 k1 v1 ⟨rfl, rfl, sm1, V1, rfl⟩
    have eu : (nI u).toInt.toNat = u := by rw [nI_toInt (by omega)]; omega
    rw [eu]
    by_cases h2 : m_hold s.1 S P u = true
    · simp (disch := first | omega | decide | assumption | exact Nat.le_of_ble_eq_true rfl) only [s252_29, s252_32, s252_33, s252_36, s252_37, ow_some, true_and, and_true, and_self, if_true, if_false, not_true, not_false_eq_true, Bool.false_eq_true, eq_self, Option.toList, List.cons_append, List.nil_append, ix_in, ix_cl, lt_in, lt_cl, lt_add, ix_one, vu_eq, vu_ne, arI_mk, arL_mk, arY_mZ, arY_mB, alen_mI, fld_sfl_ne, fld_sfl_same, Option.isSome_some, pok_i, b1z, b01, z10, b1o, Int32.zero_add, vu_vu, upd_eq, upd_ne, V1.r1, V1.r2, V1.r3, V1.r4, V1.r16, V1.r17, V1.r18, V1.r19, V1.r20, V1.r23, V1.r24, V1.r25, V1.r26, V1.r27, V1.r28, V1.r29, V1.r30, V1.c172, V1.c173, V1.c174, V1.c186, V1.c187, V1.c188, V1.n5, V1.n13, V1.n14, V1.i0, V1.i5, V1.i6, V1.i7, V1.i8, V1.i9, V1.i10, V1.i11, V1.i12, V1.i13, V1.i14, V1.i15, V1.i21, V1.i22, h2]
      exact ⟨rfl, rfl, (sm0.tr sm1).w, V1, rfl⟩
    · simp (disch := first | omega | decide | assumption | exact Nat.le_of_ble_eq_true rfl) only [s252_29, s252_32, s252_33, s252_36, s252_37, ow_some, true_and, and_true, and_self, if_true, if_false, not_true, not_false_eq_true, Bool.false_eq_true, eq_self, Option.toList, List.cons_append, List.nil_append, ix_in, ix_cl, lt_in, lt_cl, lt_add, ix_one, vu_eq, vu_ne, arI_mk, arL_mk, arY_mZ, arY_mB, alen_mI, fld_sfl_ne, fld_sfl_same, Option.isSome_some, pok_i, b1z, b01, z10, b1o, Int32.zero_add, vu_vu, upd_eq, upd_ne, V1.r1, V1.r2, V1.r3, V1.r4, V1.r16, V1.r17, V1.r18, V1.r19, V1.r20, V1.r23, V1.r24, V1.r25, V1.r26, V1.r27, V1.r28, V1.r29, V1.r30, V1.c172, V1.c173, V1.c174, V1.c186, V1.c187, V1.c188, V1.n5, V1.n13, V1.n14, V1.i0, V1.i5, V1.i6, V1.i7, V1.i8, V1.i9, V1.i10, V1.i11, V1.i12, V1.i13, V1.i14, V1.i15, V1.i21, V1.i22, h2]
      exact ⟨rfl, rfl, (sm0.tr sm1).w, V1, rfl⟩
  · rw [if_neg h1]
    simp (disch := first | omega | decide | assumption | exact Nat.le_of_ble_eq_true rfl) only [s252_16, s252_19, s252_21, s252_24, s252_25, s252_29, s252_32, s252_33, s252_36, s252_37, ow_some, true_and, and_true, and_self, if_true, if_false, not_true, not_false_eq_true, Bool.false_eq_true, eq_self, Option.toList, List.cons_append, List.nil_append, ix_in, ix_cl, lt_in, lt_cl, lt_add, ix_one, vu_eq, vu_ne, arI_mk, arL_mk, arY_mZ, arY_mB, alen_mI, fld_sfl_ne, fld_sfl_same, Option.isSome_some, pok_i, b1z, b01, z10, b1o, Int32.zero_add, vu_vu, upd_eq, upd_ne, V0.r1, V0.r2, V0.r3, V0.r4, V0.r16, V0.r17, V0.r18, V0.r19, V0.r20, V0.r23, V0.r24, V0.r25, V0.r26, V0.r27, V0.r28, V0.r29, V0.r30, V0.c172, V0.c173, V0.c174, V0.c186, V0.c187, V0.c188, V0.n5, V0.n13, V0.n14, V0.i0, V0.i5, V0.i6, V0.i7, V0.i8, V0.i9, V0.i10, V0.i11, V0.i12, V0.i13, V0.i14, V0.i15, V0.i21, V0.i22, h1]
    exact ⟨rfl, rfl, sm0.w, V0, rfl⟩
def oI : Option Nat → Int32
  | none => -1
  | some x => nI x
def pick (c : Nat → Bool) (bt : Nat → Nat → Bool) (n : Nat) : Option Nat := fo (fun j b => if (c j && (match b with | none => true | some x => bt j x)) = true then some j else b) none n
theorem pick_s {c : Nat → Bool} {bt : Nat → Nat → Bool} {n : Nat} : pick c bt (n + 1) = if (c n && (match pick c bt n with | none => true | some x => bt n x)) = true then some n else pick c bt n := rfl
theorem pick_lt {c : Nat → Bool} {bt : Nat → Nat → Bool} : ∀ {n x : Nat}, pick c bt n = some x → x < n := by
  intro n
  induction n with
  | zero => intro x h; cases h
  | succ n ih =>
    intro x h
    rw [pick_s] at h
    revert h
    generalize (c n && (match pick c bt n with | none => true | some x => bt n x)) = q
    intro h
    cases q
    · have := ih (x := x) (by simpa using h); omega
    · have : n = x := by simpa using h
      omega
def tset (b : Option Nat) (w : Int32) : Int32 := match b with
  | none => -1
  | some x => if w = 1 then nI x else nI (bits x)
theorem sp_tellsSet {X : Nat × (Nat → Int32)} {d n k : Nat} {f : Nat → e_C} {b : Option Nat} {w : Int32} (hb : ∀ x, b = some x → x < 512) : PU X (d + 1) 257 [.int (oI b), .int w] f n k (some (.int (tset b w))) := by
  unfold PU
  cases b with
  | none =>
    show TT _ _ _ _ [.int (-1), .int w] _ _ _ _ _
    simp (disch := first | omega | decide | assumption | exact Nat.le_of_ble_eq_true rfl) only [s257_0, s257_1, s257_2, s257_5, s257_6, s257_7, s257_10, s257_11, s257_14, s257_18, ow_some, true_and, and_true, and_self, if_true, if_false, not_true, not_false_eq_true, Bool.false_eq_true, eq_self, Option.toList, List.cons_append, List.nil_append, ix_in, ix_cl, lt_in, lt_cl, lt_add, ix_one, vu_eq, vu_ne, arI_mk, arL_mk, arY_mZ, arY_mB, alen_mI, fld_sfl_ne, fld_sfl_same, Option.isSome_some, pok_i, b1z, b01, z10, b1o, Int32.zero_add, vu_vu, upd_eq, upd_ne]
    rfl
  | some x =>
    have hx := hb x rfl
    show TT _ _ _ _ [.int (nI x), .int w] _ _ _ _ _
    unfold tset
    by_cases h : w = 1
    · simp (disch := first | omega | decide | assumption | exact Nat.le_of_ble_eq_true rfl) only [s257_0, s257_1, s257_2, s257_5, s257_6, s257_7, s257_10, s257_11, s257_14, s257_18, ow_some, true_and, and_true, and_self, if_true, if_false, not_true, not_false_eq_true, Bool.false_eq_true, eq_self, Option.toList, List.cons_append, List.nil_append, ix_in, ix_cl, lt_in, lt_cl, lt_add, ix_one, vu_eq, vu_ne, arI_mk, arL_mk, arY_mZ, arY_mB, alen_mI, fld_sfl_ne, fld_sfl_same, Option.isSome_some, pok_i, b1z, b01, z10, b1o, Int32.zero_add, vu_vu, upd_eq, upd_ne, ne_m1, h]
    · simp (disch := first | omega | decide | assumption | exact Nat.le_of_ble_eq_true rfl) only [s257_0, s257_1, s257_2, s257_5, s257_6, s257_7, s257_10, s257_11, s257_14, ow_some, true_and, and_true, and_self, if_true, if_false, not_true, not_false_eq_true, Bool.false_eq_true, eq_self, Option.toList, List.cons_append, List.nil_append, ix_in, ix_cl, lt_in, lt_cl, lt_add, ix_one, vu_eq, vu_ne, arI_mk, arL_mk, arY_mZ, arY_mB, alen_mI, fld_sfl_ne, fld_sfl_same, Option.isSome_some, pok_i, b1z, b01, z10, b1o, Int32.zero_add, vu_vu, upd_eq, upd_ne, ne_m1, h]
      rw [p257_15 (Nat.le_of_ble_eq_true rfl) (sp_bitsOf hx)]
      simp (disch := first | omega | decide | assumption | exact Nat.le_of_ble_eq_true rfl) only [s257_18, ow_some, true_and, and_true, and_self, if_true, if_false, not_true, not_false_eq_true, Bool.false_eq_true, eq_self, Option.toList, List.cons_append, List.nil_append, ix_in, ix_cl, lt_in, lt_cl, lt_add, ix_one, vu_eq, vu_ne, arI_mk, arL_mk, arY_mZ, arY_mB, alen_mI, fld_sfl_ne, fld_sfl_same, Option.isSome_some, pok_i, b1z, b01, z10, b1o, Int32.zero_add, vu_vu, upd_eq, upd_ne]
      rfl
def m_few (all : Nat → Int32) (S P : Nat) : Option Nat := pick (m_h all S P) (fun j x => decide (bits j < bits x)) (2 ^ P)
def o_few (all : Nat → Int32) (S P : Nat) (w : Int32) : Int32 := if 0 ≤ w.toInt ∧ w.toInt ≤ 1 then tset (m_few all S P) w else -2
theorem bI0 {b : Bool} : (bI b = 0) = (b = false) := by cases b <;> simp [bI]
theorem bits_lt {T : Nat} : bits T ≤ 9 := by
  have : ∀ k, m_bits T k ≤ k := by
    intro k
    induction k with
    | zero => exact Nat.le_refl _
    | succ k ih => unfold m_bits; split <;> omega
  exact this 9
theorem sp_fewest {X : Nat × (Nat → Int32)} {d N K : Nat} {f : Nat → e_C} {s : m_T} {S P : Nat} (V : MV f s) (W : WF s.1 S P) {w : Int32} {a2 a3 : Value} : TT X (d + 8) 254 0 [.ref 171, .int w, a2, a3] [] f N K (MZ N K f (s.1, o_few s.1 S P w) s.2) := by
  simp only [s254_0, s254_1, s254_2, V.i0, pok_i, true_and]
  have sm0 : SM f (va_up f 171 (sfl (f 171) 0 (.int 0))) := SM.up (by omega) (by omega)
  have V0 := V.num (j := 0) (x := 0) (by decide)
  generalize va_up f 171 (sfl (f 171) 0 (.int 0)) = f0 at sm0 V0 ⊢
  simp (disch := first | omega | decide | assumption | exact Nat.le_of_ble_eq_true rfl) only [s254_5, ow_some, true_and, and_true, and_self, if_true, if_false, not_true, not_false_eq_true, Bool.false_eq_true, eq_self, Option.toList, List.cons_append, List.nil_append, ix_in, ix_cl, lt_in, lt_cl, lt_add, ix_one, vu_eq, vu_ne, arI_mk, arL_mk, arY_mZ, arY_mB, alen_mI, fld_sfl_ne, fld_sfl_same, Option.isSome_some, pok_i, b1z, b01, z10, b1o, Int32.zero_add, vu_vu, upd_eq, upd_ne, V0.r1, V0.r2, V0.r3, V0.r4, V0.r16, V0.r17, V0.r18, V0.r19, V0.r20, V0.r23, V0.r24, V0.r25, V0.r26, V0.r27, V0.r28, V0.r29, V0.r30, V0.c172, V0.c173, V0.c174, V0.c186, V0.c187, V0.c188, V0.n5, V0.n13, V0.n14, V0.i0, V0.i5, V0.i6, V0.i7, V0.i8, V0.i9, V0.i10, V0.i11, V0.i12, V0.i13, V0.i14, V0.i15, V0.i21, V0.i22]
  rw [p254_6 (Nat.le_of_ble_eq_true rfl) sp_isWhat]
  simp only [wh1]
  unfold o_few
  by_cases h1 : 0 ≤ w.toInt ∧ w.toInt ≤ 1
  · rw [if_pos h1]
    simp (disch := first | omega | decide | assumption | exact Nat.le_of_ble_eq_true rfl) only [s254_9, s254_12, s254_14, s254_15, ow_some, true_and, and_true, and_self, if_true, if_false, not_true, not_false_eq_true, Bool.false_eq_true, eq_self, Option.toList, List.cons_append, List.nil_append, ix_in, ix_cl, lt_in, lt_cl, lt_add, ix_one, vu_eq, vu_ne, arI_mk, arL_mk, arY_mZ, arY_mB, alen_mI, fld_sfl_ne, fld_sfl_same, Option.isSome_some, pok_i, b1z, b01, z10, b1o, Int32.zero_add, vu_vu, upd_eq, upd_ne, V0.r1, V0.r2, V0.r3, V0.r4, V0.r16, V0.r17, V0.r18, V0.r19, V0.r20, V0.r23, V0.r24, V0.r25, V0.r26, V0.r27, V0.r28, V0.r29, V0.r30, V0.c172, V0.c173, V0.c174, V0.c186, V0.c187, V0.c188, V0.n5, V0.n13, V0.n14, V0.i0, V0.i5, V0.i6, V0.i7, V0.i8, V0.i9, V0.i10, V0.i11, V0.i12, V0.i13, V0.i14, V0.i15, V0.i21, V0.i22, h1]
    refine k254_16 (cno_MR V0.mr) (Nat.le_of_ble_eq_true rfl) (sp_laysHold V0 W) ?_
    rintro f1 n1 k1 v1 ⟨rfl, rfl, rfl, sn1, V1, h, hh, hv⟩
    have A4 := W.1.2.2.2.1
    have h9 := W.1.2.2.2.2.1
    have hp9 := pw9 h9
    have e2 := p2 P (by omega)
    have hy := arY_Z hh
    simp (disch := first | omega | decide | assumption | exact Nat.le_of_ble_eq_true rfl) only [s254_19, s254_20, s254_21, h254_22, ow_some, true_and, and_true, and_self, if_true, if_false, not_true, not_false_eq_true, Bool.false_eq_true, eq_self, Option.toList, List.cons_append, List.nil_append, ix_in, ix_cl, lt_in, lt_cl, lt_add, ix_one, vu_eq, vu_ne, arI_mk, arL_mk, arY_mZ, arY_mB, alen_mI, fld_sfl_ne, fld_sfl_same, Option.isSome_some, pok_i, b1z, b01, z10, b1o, Int32.zero_add, vu_vu, upd_eq, upd_ne, V1.r1, V1.r2, V1.r3, V1.r4, V1.r16, V1.r17, V1.r18, V1.r19, V1.r20, V1.r23, V1.r24, V1.r25, V1.r26, V1.r27, V1.r28, V1.r29, V1.r30, V1.c172, V1.c173, V1.c174, V1.c186, V1.c187, V1.c188, V1.n5, V1.n13, V1.n14, V1.i0, V1.i5, V1.i6, V1.i7, V1.i8, V1.i9, V1.i10, V1.i11, V1.i12, V1.i13, V1.i14, V1.i15, V1.i21, V1.i22]
    refine lp (fun j g (b : Option Nat) => g = f1 ∧ b = pick (m_h s.1 S P) (fun j x => decide (bits j < bits x)) j) (fun j b => [.ref 171, .int w, .int (oI b), .int (nI j)]) (2 ^ P) ?_ ?_ 0 f1 none (Nat.zero_le _) ⟨rfl, rfl⟩
    · rintro j g b hj ⟨rfl, hb⟩ hI
      have hc : (2 ^ P ≤ j) = False := eq_false (by omega)
      simp (disch := first | omega | decide | assumption | exact Nat.le_of_ble_eq_true rfl) only [s254_23, s254_24, s254_25, s254_26, s254_29, s254_31, s254_32, s254_33, s254_36, s254_37, s254_40, y254_41, s254_42, ow_some, true_and, and_true, and_self, if_true, if_false, not_true, not_false_eq_true, Bool.false_eq_true, eq_self, Option.toList, List.cons_append, List.nil_append, ix_in, ix_cl, lt_in, lt_cl, lt_add, ix_one, vu_eq, vu_ne, arI_mk, arL_mk, arY_mZ, arY_mB, alen_mI, fld_sfl_ne, fld_sfl_same, Option.isSome_some, pok_i, b1z, b01, z10, b1o, Int32.zero_add, vu_vu, upd_eq, upd_ne, V1.r1, V1.r2, V1.r3, V1.r4, V1.r16, V1.r17, V1.r18, V1.r19, V1.r20, V1.r23, V1.r24, V1.r25, V1.r26, V1.r27, V1.r28, V1.r29, V1.r30, V1.c172, V1.c173, V1.c174, V1.c186, V1.c187, V1.c188, V1.n5, V1.n13, V1.n14, V1.i0, V1.i5, V1.i6, V1.i7, V1.i8, V1.i9, V1.i10, V1.i11, V1.i12, V1.i13, V1.i14, V1.i15, V1.i21, V1.i22, A4, e2, ix_le, hc, hy, hv, bI0]
      by_cases h0 : m_h s.1 S P j = false
      · simp (disch := first | omega | decide | assumption | exact Nat.le_of_ble_eq_true rfl) only [s254_63, h254_66, ow_some, true_and, and_true, and_self, if_true, if_false, not_true, not_false_eq_true, Bool.false_eq_true, eq_self, Option.toList, List.cons_append, List.nil_append, ix_in, ix_cl, lt_in, lt_cl, lt_add, ix_one, vu_eq, vu_ne, arI_mk, arL_mk, arY_mZ, arY_mB, alen_mI, fld_sfl_ne, fld_sfl_same, Option.isSome_some, pok_i, b1z, b01, z10, b1o, Int32.zero_add, vu_vu, upd_eq, upd_ne, V1.r1, V1.r2, V1.r3, V1.r4, V1.r16, V1.r17, V1.r18, V1.r19, V1.r20, V1.r23, V1.r24, V1.r25, V1.r26, V1.r27, V1.r28, V1.r29, V1.r30, V1.c172, V1.c173, V1.c174, V1.c186, V1.c187, V1.c188, V1.n5, V1.n13, V1.n14, V1.i0, V1.i5, V1.i6, V1.i7, V1.i8, V1.i9, V1.i10, V1.i11, V1.i12, V1.i13, V1.i14, V1.i15, V1.i21, V1.i22, h0]
        refine hI _ b ⟨rfl, ?_⟩
        rw [pick_s, ← hb, h0]; rfl
      · rw [Bool.not_eq_false] at h0
        simp (disch := first | omega | decide | assumption | exact Nat.le_of_ble_eq_true rfl) only [s254_45, s254_46, ow_some, true_and, and_true, and_self, if_true, if_false, not_true, not_false_eq_true, Bool.false_eq_true, eq_self, Option.toList, List.cons_append, List.nil_append, ix_in, ix_cl, lt_in, lt_cl, lt_add, ix_one, vu_eq, vu_ne, arI_mk, arL_mk, arY_mZ, arY_mB, alen_mI, fld_sfl_ne, fld_sfl_same, Option.isSome_some, pok_i, b1z, b01, z10, b1o, Int32.zero_add, vu_vu, upd_eq, upd_ne, V1.r1, V1.r2, V1.r3, V1.r4, V1.r16, V1.r17, V1.r18, V1.r19, V1.r20, V1.r23, V1.r24, V1.r25, V1.r26, V1.r27, V1.r28, V1.r29, V1.r30, V1.c172, V1.c173, V1.c174, V1.c186, V1.c187, V1.c188, V1.n5, V1.n13, V1.n14, V1.i0, V1.i5, V1.i6, V1.i7, V1.i8, V1.i9, V1.i10, V1.i11, V1.i12, V1.i13, V1.i14, V1.i15, V1.i21, V1.i22, h0, Bool.true_eq_false]
        rcases b with _ | x
        · simp (disch := first | omega | decide | assumption | exact Nat.le_of_ble_eq_true rfl) only [s254_47, s254_61, s254_62, s254_63, h254_66, ow_some, true_and, and_true, and_self, if_true, if_false, not_true, not_false_eq_true, Bool.false_eq_true, eq_self, Option.toList, List.cons_append, List.nil_append, ix_in, ix_cl, lt_in, lt_cl, lt_add, ix_one, vu_eq, vu_ne, arI_mk, arL_mk, arY_mZ, arY_mB, alen_mI, fld_sfl_ne, fld_sfl_same, Option.isSome_some, pok_i, b1z, b01, z10, b1o, Int32.zero_add, vu_vu, upd_eq, upd_ne, V1.r1, V1.r2, V1.r3, V1.r4, V1.r16, V1.r17, V1.r18, V1.r19, V1.r20, V1.r23, V1.r24, V1.r25, V1.r26, V1.r27, V1.r28, V1.r29, V1.r30, V1.c172, V1.c173, V1.c174, V1.c186, V1.c187, V1.c188, V1.n5, V1.n13, V1.n14, V1.i0, V1.i5, V1.i6, V1.i7, V1.i8, V1.i9, V1.i10, V1.i11, V1.i12, V1.i13, V1.i14, V1.i15, V1.i21, V1.i22, oI]
          refine hI _ (some j) ⟨rfl, ?_⟩
          rw [pick_s, ← hb, h0]; rfl
        · have hx : x < j := pick_lt hb.symm
          simp (disch := first | omega | decide | assumption | exact Nat.le_of_ble_eq_true rfl) only [s254_47, s254_50, ow_some, true_and, and_true, and_self, if_true, if_false, not_true, not_false_eq_true, Bool.false_eq_true, eq_self, Option.toList, List.cons_append, List.nil_append, ix_in, ix_cl, lt_in, lt_cl, lt_add, ix_one, vu_eq, vu_ne, arI_mk, arL_mk, arY_mZ, arY_mB, alen_mI, fld_sfl_ne, fld_sfl_same, Option.isSome_some, pok_i, b1z, b01, z10, b1o, Int32.zero_add, vu_vu, upd_eq, upd_ne, V1.r1, V1.r2, V1.r3, V1.r4, V1.r16, V1.r17, V1.r18, V1.r19, V1.r20, V1.r23, V1.r24, V1.r25, V1.r26, V1.r27, V1.r28, V1.r29, V1.r30, V1.c172, V1.c173, V1.c174, V1.c186, V1.c187, V1.c188, V1.n5, V1.n13, V1.n14, V1.i0, V1.i5, V1.i6, V1.i7, V1.i8, V1.i9, V1.i10, V1.i11, V1.i12, V1.i13, V1.i14, V1.i15, V1.i21, V1.i22, oI, ne_m1]
          rw [p254_51 (Nat.le_of_ble_eq_true rfl) (sp_bitsOf (show j < 512 by omega))]
          simp (disch := first | omega | decide | assumption | exact Nat.le_of_ble_eq_true rfl) only [s254_54, ow_some, true_and, and_true, and_self, if_true, if_false, not_true, not_false_eq_true, Bool.false_eq_true, eq_self, Option.toList, List.cons_append, List.nil_append, ix_in, ix_cl, lt_in, lt_cl, lt_add, ix_one, vu_eq, vu_ne, arI_mk, arL_mk, arY_mZ, arY_mB, alen_mI, fld_sfl_ne, fld_sfl_same, Option.isSome_some, pok_i, b1z, b01, z10, b1o, Int32.zero_add, vu_vu, upd_eq, upd_ne, V1.r1, V1.r2, V1.r3, V1.r4, V1.r16, V1.r17, V1.r18, V1.r19, V1.r20, V1.r23, V1.r24, V1.r25, V1.r26, V1.r27, V1.r28, V1.r29, V1.r30, V1.c172, V1.c173, V1.c174, V1.c186, V1.c187, V1.c188, V1.n5, V1.n13, V1.n14, V1.i0, V1.i5, V1.i6, V1.i7, V1.i8, V1.i9, V1.i10, V1.i11, V1.i12, V1.i13, V1.i14, V1.i15, V1.i21, V1.i22, oI]
          rw [p254_55 (Nat.le_of_ble_eq_true rfl) (sp_bitsOf (show x < 512 by omega))]
          have b1 := bits_lt (T := j)
          have b2 := bits_lt (T := x)
          unfold bits at b1 b2
          by_cases hlt : m_bits j 9 < m_bits x 9
          · have hc : (m_bits x 9 ≤ m_bits j 9) = False := eq_false (by omega)
            simp (disch := first | omega | decide | assumption | exact Nat.le_of_ble_eq_true rfl) only [s254_58, s254_61, s254_62, s254_63, h254_66, ow_some, true_and, and_true, and_self, if_true, if_false, not_true, not_false_eq_true, Bool.false_eq_true, eq_self, Option.toList, List.cons_append, List.nil_append, ix_in, ix_cl, lt_in, lt_cl, lt_add, ix_one, vu_eq, vu_ne, arI_mk, arL_mk, arY_mZ, arY_mB, alen_mI, fld_sfl_ne, fld_sfl_same, Option.isSome_some, pok_i, b1z, b01, z10, b1o, Int32.zero_add, vu_vu, upd_eq, upd_ne, V1.r1, V1.r2, V1.r3, V1.r4, V1.r16, V1.r17, V1.r18, V1.r19, V1.r20, V1.r23, V1.r24, V1.r25, V1.r26, V1.r27, V1.r28, V1.r29, V1.r30, V1.c172, V1.c173, V1.c174, V1.c186, V1.c187, V1.c188, V1.n5, V1.n13, V1.n14, V1.i0, V1.i5, V1.i6, V1.i7, V1.i8, V1.i9, V1.i10, V1.i11, V1.i12, V1.i13, V1.i14, V1.i15, V1.i21, V1.i22, ix_le, hc]
            refine hI _ (some j) ⟨rfl, ?_⟩
            rw [pick_s, ← hb, h0]
            simp [bits, hlt]
          · have hc : (m_bits x 9 ≤ m_bits j 9) = True := eq_true (by omega)
            simp (disch := first | omega | decide | assumption | exact Nat.le_of_ble_eq_true rfl) only [s254_58, s254_63, h254_66, ow_some, true_and, and_true, and_self, if_true, if_false, not_true, not_false_eq_true, Bool.false_eq_true, eq_self, Option.toList, List.cons_append, List.nil_append, ix_in, ix_cl, lt_in, lt_cl, lt_add, ix_one, vu_eq, vu_ne, arI_mk, arL_mk, arY_mZ, arY_mB, alen_mI, fld_sfl_ne, fld_sfl_same, Option.isSome_some, pok_i, b1z, b01, z10, b1o, Int32.zero_add, vu_vu, upd_eq, upd_ne, V1.r1, V1.r2, V1.r3, V1.r4, V1.r16, V1.r17, V1.r18, V1.r19, V1.r20, V1.r23, V1.r24, V1.r25, V1.r26, V1.r27, V1.r28, V1.r29, V1.r30, V1.c172, V1.c173, V1.c174, V1.c186, V1.c187, V1.c188, V1.n5, V1.n13, V1.n14, V1.i0, V1.i5, V1.i6, V1.i7, V1.i8, V1.i9, V1.i10, V1.i11, V1.i12, V1.i13, V1.i14, V1.i15, V1.i21, V1.i22, ix_le, hc]
            refine hI _ (some x) ⟨rfl, ?_⟩
            rw [pick_s, ← hb, h0]
            simp [bits, hlt]
    · rintro g b ⟨rfl, hb⟩
      simp (disch := first | omega | decide | assumption | exact Nat.le_of_ble_eq_true rfl) only [s254_23, s254_24, s254_25, s254_26, s254_29, s254_31, s254_32, s254_33, s254_69, s254_70, ow_some, true_and, and_true, and_self, if_true, if_false, not_true, not_false_eq_true, Bool.false_eq_true, eq_self, Option.toList, List.cons_append, List.nil_append, ix_in, ix_cl, lt_in, lt_cl, lt_add, ix_one, vu_eq, vu_ne, arI_mk, arL_mk, arY_mZ, arY_mB, alen_mI, fld_sfl_ne, fld_sfl_same, Option.isSome_some, pok_i, b1z, b01, z10, b1o, Int32.zero_add, vu_vu, upd_eq, upd_ne, V1.r1, V1.r2, V1.r3, V1.r4, V1.r16, V1.r17, V1.r18, V1.r19, V1.r20, V1.r23, V1.r24, V1.r25, V1.r26, V1.r27, V1.r28, V1.r29, V1.r30, V1.c172, V1.c173, V1.c174, V1.c186, V1.c187, V1.c188, V1.n5, V1.n13, V1.n14, V1.i0, V1.i5, V1.i6, V1.i7, V1.i8, V1.i9, V1.i10, V1.i11, V1.i12, V1.i13, V1.i14, V1.i15, V1.i21, V1.i22, A4, e2, ix_le, Nat.le_refl]
      rw [p254_71 (Nat.le_of_ble_eq_true rfl) (sp_tellsSet (fun x hx => Nat.lt_of_lt_of_le (pick_lt (hb.symm.trans hx)) hp9))]
      simp (disch := first | omega | decide | assumption | exact Nat.le_of_ble_eq_true rfl) only [s254_74, ow_some, true_and, and_true, and_self, if_true, if_false, not_true, not_false_eq_true, Bool.false_eq_true, eq_self, Option.toList, List.cons_append, List.nil_append, ix_in, ix_cl, lt_in, lt_cl, lt_add, ix_one, vu_eq, vu_ne, arI_mk, arL_mk, arY_mZ, arY_mB, alen_mI, fld_sfl_ne, fld_sfl_same, Option.isSome_some, pok_i, b1z, b01, z10, b1o, Int32.zero_add, vu_vu, upd_eq, upd_ne, V1.r1, V1.r2, V1.r3, V1.r4, V1.r16, V1.r17, V1.r18, V1.r19, V1.r20, V1.r23, V1.r24, V1.r25, V1.r26, V1.r27, V1.r28, V1.r29, V1.r30, V1.c172, V1.c173, V1.c174, V1.c186, V1.c187, V1.c188, V1.n5, V1.n13, V1.n14, V1.i0, V1.i5, V1.i6, V1.i7, V1.i8, V1.i9, V1.i10, V1.i11, V1.i12, V1.i13, V1.i14, V1.i15, V1.i21, V1.i22]
      rw [hb]
      exact ⟨rfl, rfl, sm0.w.tr (sn1.w (by omega) (by omega)), V1, rfl⟩
  · rw [if_neg h1]
    simp (disch := first | omega | decide | assumption | exact Nat.le_of_ble_eq_true rfl) only [s254_9, s254_12, s254_14, ow_some, true_and, and_true, and_self, if_true, if_false, not_true, not_false_eq_true, Bool.false_eq_true, eq_self, Option.toList, List.cons_append, List.nil_append, ix_in, ix_cl, lt_in, lt_cl, lt_add, ix_one, vu_eq, vu_ne, arI_mk, arL_mk, arY_mZ, arY_mB, alen_mI, fld_sfl_ne, fld_sfl_same, Option.isSome_some, pok_i, b1z, b01, z10, b1o, Int32.zero_add, vu_vu, upd_eq, upd_ne, V0.r1, V0.r2, V0.r3, V0.r4, V0.r16, V0.r17, V0.r18, V0.r19, V0.r20, V0.r23, V0.r24, V0.r25, V0.r26, V0.r27, V0.r28, V0.r29, V0.r30, V0.c172, V0.c173, V0.c174, V0.c186, V0.c187, V0.c188, V0.n5, V0.n13, V0.n14, V0.i0, V0.i5, V0.i6, V0.i7, V0.i8, V0.i9, V0.i10, V0.i11, V0.i12, V0.i13, V0.i14, V0.i15, V0.i21, V0.i22, h1]
    exact ⟨rfl, rfl, sm0.w, V0, rfl⟩
