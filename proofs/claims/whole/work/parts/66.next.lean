/-! the reference: the next sign or word -/
def PS (f : Nat → e_C) (s : m_T) (fr ag : Nat → Int32) (sz a b : Nat) (kd nm wr wa rd : Int32) : Prop := ∃ v, PQ f s fr ag v ∧ v 6 = nI a ∧ v 7 = nI b ∧ v 8 = nI sz ∧ v 9 = kd ∧ v 10 = nm ∧ v 11 = wr ∧ v 12 = wa ∧ v 15 = rd
theorem PS.V {f : Nat → e_C} {s : m_T} {fr ag : Nat → Int32} {sz a b : Nat} {kd nm wr wa rd : Int32} (h : PS f s fr ag sz a b kd nm wr wa rd) : MV f s := h.choose_spec.1.V
theorem PS.c175 {f : Nat → e_C} {s : m_T} {fr ag : Nat → Int32} {sz a b : Nat} {kd nm wr wa rd : Int32} (h : PS f s fr ag sz a b kd nm wr wa rd) : arI (f 175) = some (1394, fr) := h.choose_spec.1.c175
theorem PS.c176 {f : Nat → e_C} {s : m_T} {fr ag : Nat → Int32} {sz a b : Nat} {kd nm wr wa rd : Int32} (h : PS f s fr ag sz a b kd nm wr wa rd) : arI (f 176) = some (9, ag) := h.choose_spec.1.c176
theorem PS.f6 {f : Nat → e_C} {s : m_T} {fr ag : Nat → Int32} {sz a b : Nat} {kd nm wr wa rd : Int32} (h : PS f s fr ag sz a b kd nm wr wa rd) : fld (f 171) 12 6 = some (.int (nI a)) := by
  obtain ⟨v, P, h6, h7, h8, h9, h10, h11, h12, h15⟩ := h
  rw [P.f6, h6]
theorem PS.f7 {f : Nat → e_C} {s : m_T} {fr ag : Nat → Int32} {sz a b : Nat} {kd nm wr wa rd : Int32} (h : PS f s fr ag sz a b kd nm wr wa rd) : fld (f 171) 12 7 = some (.int (nI b)) := by
  obtain ⟨v, P, h6, h7, h8, h9, h10, h11, h12, h15⟩ := h
  rw [P.f7, h7]
theorem PS.f8 {f : Nat → e_C} {s : m_T} {fr ag : Nat → Int32} {sz a b : Nat} {kd nm wr wa rd : Int32} (h : PS f s fr ag sz a b kd nm wr wa rd) : fld (f 171) 12 8 = some (.int (nI sz)) := by
  obtain ⟨v, P, h6, h7, h8, h9, h10, h11, h12, h15⟩ := h
  rw [P.f8, h8]
theorem PS.f9 {f : Nat → e_C} {s : m_T} {fr ag : Nat → Int32} {sz a b : Nat} {kd nm wr wa rd : Int32} (h : PS f s fr ag sz a b kd nm wr wa rd) : fld (f 171) 12 9 = some (.int (kd)) := by
  obtain ⟨v, P, h6, h7, h8, h9, h10, h11, h12, h15⟩ := h
  rw [P.f9, h9]
theorem PS.f10 {f : Nat → e_C} {s : m_T} {fr ag : Nat → Int32} {sz a b : Nat} {kd nm wr wa rd : Int32} (h : PS f s fr ag sz a b kd nm wr wa rd) : fld (f 171) 12 10 = some (.int (nm)) := by
  obtain ⟨v, P, h6, h7, h8, h9, h10, h11, h12, h15⟩ := h
  rw [P.f10, h10]
theorem PS.f11 {f : Nat → e_C} {s : m_T} {fr ag : Nat → Int32} {sz a b : Nat} {kd nm wr wa rd : Int32} (h : PS f s fr ag sz a b kd nm wr wa rd) : fld (f 171) 12 11 = some (.int (wr)) := by
  obtain ⟨v, P, h6, h7, h8, h9, h10, h11, h12, h15⟩ := h
  rw [P.f11, h11]
theorem PS.f12 {f : Nat → e_C} {s : m_T} {fr ag : Nat → Int32} {sz a b : Nat} {kd nm wr wa rd : Int32} (h : PS f s fr ag sz a b kd nm wr wa rd) : fld (f 171) 12 12 = some (.int (wa)) := by
  obtain ⟨v, P, h6, h7, h8, h9, h10, h11, h12, h15⟩ := h
  rw [P.f12, h12]
theorem PS.f15 {f : Nat → e_C} {s : m_T} {fr ag : Nat → Int32} {sz a b : Nat} {kd nm wr wa rd : Int32} (h : PS f s fr ag sz a b kd nm wr wa rd) : fld (f 171) 12 15 = some (.int (rd)) := by
  obtain ⟨v, P, h6, h7, h8, h9, h10, h11, h12, h15⟩ := h
  rw [P.f15, h15]
theorem PS.s6 {f : Nat → e_C} {s : m_T} {fr ag : Nat → Int32} {sz a b : Nat} {kd nm wr wa rd : Int32} {y : Nat} (h : PS f s fr ag sz a b kd nm wr wa rd) : PS (va_up f 171 (sfl (f 171) 6 (.int (nI y)))) s fr ag sz y b kd nm wr wa rd := by
  obtain ⟨v, P, h6, h7, h8, h9, h10, h11, h12, h15⟩ := h
  refine ⟨upd v 6 (nI y), P.set (by decide), ?_, ?_, ?_, ?_, ?_, ?_, ?_, ?_⟩
  · exact upd_eq
  · rw [upd_ne (by decide)]; exact h7
  · rw [upd_ne (by decide)]; exact h8
  · rw [upd_ne (by decide)]; exact h9
  · rw [upd_ne (by decide)]; exact h10
  · rw [upd_ne (by decide)]; exact h11
  · rw [upd_ne (by decide)]; exact h12
  · rw [upd_ne (by decide)]; exact h15
theorem PS.s7 {f : Nat → e_C} {s : m_T} {fr ag : Nat → Int32} {sz a b : Nat} {kd nm wr wa rd : Int32} {y : Nat} (h : PS f s fr ag sz a b kd nm wr wa rd) : PS (va_up f 171 (sfl (f 171) 7 (.int (nI y)))) s fr ag sz a y kd nm wr wa rd := by
  obtain ⟨v, P, h6, h7, h8, h9, h10, h11, h12, h15⟩ := h
  refine ⟨upd v 7 (nI y), P.set (by decide), ?_, ?_, ?_, ?_, ?_, ?_, ?_, ?_⟩
  · rw [upd_ne (by decide)]; exact h6
  · exact upd_eq
  · rw [upd_ne (by decide)]; exact h8
  · rw [upd_ne (by decide)]; exact h9
  · rw [upd_ne (by decide)]; exact h10
  · rw [upd_ne (by decide)]; exact h11
  · rw [upd_ne (by decide)]; exact h12
  · rw [upd_ne (by decide)]; exact h15
theorem PS.s8 {f : Nat → e_C} {s : m_T} {fr ag : Nat → Int32} {sz a b : Nat} {kd nm wr wa rd : Int32} {y : Nat} (h : PS f s fr ag sz a b kd nm wr wa rd) : PS (va_up f 171 (sfl (f 171) 8 (.int (nI y)))) s fr ag y a b kd nm wr wa rd := by
  obtain ⟨v, P, h6, h7, h8, h9, h10, h11, h12, h15⟩ := h
  refine ⟨upd v 8 (nI y), P.set (by decide), ?_, ?_, ?_, ?_, ?_, ?_, ?_, ?_⟩
  · rw [upd_ne (by decide)]; exact h6
  · rw [upd_ne (by decide)]; exact h7
  · exact upd_eq
  · rw [upd_ne (by decide)]; exact h9
  · rw [upd_ne (by decide)]; exact h10
  · rw [upd_ne (by decide)]; exact h11
  · rw [upd_ne (by decide)]; exact h12
  · rw [upd_ne (by decide)]; exact h15
theorem PS.s9 {f : Nat → e_C} {s : m_T} {fr ag : Nat → Int32} {sz a b : Nat} {kd nm wr wa rd : Int32} {y : Int32} (h : PS f s fr ag sz a b kd nm wr wa rd) : PS (va_up f 171 (sfl (f 171) 9 (.int (y)))) s fr ag sz a b y nm wr wa rd := by
  obtain ⟨v, P, h6, h7, h8, h9, h10, h11, h12, h15⟩ := h
  refine ⟨upd v 9 (y), P.set (by decide), ?_, ?_, ?_, ?_, ?_, ?_, ?_, ?_⟩
  · rw [upd_ne (by decide)]; exact h6
  · rw [upd_ne (by decide)]; exact h7
  · rw [upd_ne (by decide)]; exact h8
  · exact upd_eq
  · rw [upd_ne (by decide)]; exact h10
  · rw [upd_ne (by decide)]; exact h11
  · rw [upd_ne (by decide)]; exact h12
  · rw [upd_ne (by decide)]; exact h15
theorem PS.s10 {f : Nat → e_C} {s : m_T} {fr ag : Nat → Int32} {sz a b : Nat} {kd nm wr wa rd : Int32} {y : Int32} (h : PS f s fr ag sz a b kd nm wr wa rd) : PS (va_up f 171 (sfl (f 171) 10 (.int (y)))) s fr ag sz a b kd y wr wa rd := by
  obtain ⟨v, P, h6, h7, h8, h9, h10, h11, h12, h15⟩ := h
  refine ⟨upd v 10 (y), P.set (by decide), ?_, ?_, ?_, ?_, ?_, ?_, ?_, ?_⟩
  · rw [upd_ne (by decide)]; exact h6
  · rw [upd_ne (by decide)]; exact h7
  · rw [upd_ne (by decide)]; exact h8
  · rw [upd_ne (by decide)]; exact h9
  · exact upd_eq
  · rw [upd_ne (by decide)]; exact h11
  · rw [upd_ne (by decide)]; exact h12
  · rw [upd_ne (by decide)]; exact h15
theorem PS.s11 {f : Nat → e_C} {s : m_T} {fr ag : Nat → Int32} {sz a b : Nat} {kd nm wr wa rd : Int32} {y : Int32} (h : PS f s fr ag sz a b kd nm wr wa rd) : PS (va_up f 171 (sfl (f 171) 11 (.int (y)))) s fr ag sz a b kd nm y wa rd := by
  obtain ⟨v, P, h6, h7, h8, h9, h10, h11, h12, h15⟩ := h
  refine ⟨upd v 11 (y), P.set (by decide), ?_, ?_, ?_, ?_, ?_, ?_, ?_, ?_⟩
  · rw [upd_ne (by decide)]; exact h6
  · rw [upd_ne (by decide)]; exact h7
  · rw [upd_ne (by decide)]; exact h8
  · rw [upd_ne (by decide)]; exact h9
  · rw [upd_ne (by decide)]; exact h10
  · exact upd_eq
  · rw [upd_ne (by decide)]; exact h12
  · rw [upd_ne (by decide)]; exact h15
theorem PS.s12 {f : Nat → e_C} {s : m_T} {fr ag : Nat → Int32} {sz a b : Nat} {kd nm wr wa rd : Int32} {y : Int32} (h : PS f s fr ag sz a b kd nm wr wa rd) : PS (va_up f 171 (sfl (f 171) 12 (.int (y)))) s fr ag sz a b kd nm wr y rd := by
  obtain ⟨v, P, h6, h7, h8, h9, h10, h11, h12, h15⟩ := h
  refine ⟨upd v 12 (y), P.set (by decide), ?_, ?_, ?_, ?_, ?_, ?_, ?_, ?_⟩
  · rw [upd_ne (by decide)]; exact h6
  · rw [upd_ne (by decide)]; exact h7
  · rw [upd_ne (by decide)]; exact h8
  · rw [upd_ne (by decide)]; exact h9
  · rw [upd_ne (by decide)]; exact h10
  · rw [upd_ne (by decide)]; exact h11
  · exact upd_eq
  · rw [upd_ne (by decide)]; exact h15
theorem PS.s15 {f : Nat → e_C} {s : m_T} {fr ag : Nat → Int32} {sz a b : Nat} {kd nm wr wa rd : Int32} {y : Int32} (h : PS f s fr ag sz a b kd nm wr wa rd) : PS (va_up f 171 (sfl (f 171) 15 (.int (y)))) s fr ag sz a b kd nm wr wa y := by
  obtain ⟨v, P, h6, h7, h8, h9, h10, h11, h12, h15⟩ := h
  refine ⟨upd v 15 (y), P.set (by decide), ?_, ?_, ?_, ?_, ?_, ?_, ?_, ?_⟩
  · rw [upd_ne (by decide)]; exact h6
  · rw [upd_ne (by decide)]; exact h7
  · rw [upd_ne (by decide)]; exact h8
  · rw [upd_ne (by decide)]; exact h9
  · rw [upd_ne (by decide)]; exact h10
  · rw [upd_ne (by decide)]; exact h11
  · rw [upd_ne (by decide)]; exact h12
  · exact upd_eq
theorem PS.fr' {f : Nat → e_C} {s : m_T} {fr ag : Nat → Int32} {sz a b : Nat} {kd nm wr wa rd : Int32} {fr' : Nat → Int32} (h : PS f s fr ag sz a b kd nm wr wa rd) : PS (va_up f 175 (.inl (.int, 1394, .inl fr'))) s fr' ag sz a b kd nm wr wa rd := by
  obtain ⟨v, P, hs⟩ := h
  exact ⟨v, P.fr', hs⟩
theorem PS.ag' {f : Nat → e_C} {s : m_T} {fr ag : Nat → Int32} {sz a b : Nat} {kd nm wr wa rd : Int32} {ag' : Nat → Int32} (h : PS f s fr ag sz a b kd nm wr wa rd) : PS (va_up f 176 (.inl (.int, 9, .inl ag'))) s fr ag' sz a b kd nm wr wa rd := by
  obtain ⟨v, P, hs⟩ := h
  exact ⟨v, P.ag', hs⟩
theorem ps_see {X : Nat × (Nat → Int32)} {d N K : Nat} {f : Nat → e_C} {s : m_T} {fr ag : Nat → Int32} {sz a b : Nat} {kd nm wr wa rd : Int32} {k : Nat} (P : PS f s fr ag sz a b kd nm wr wa rd) (hz : sz ≤ 900) (hk : k ≤ 900) : PU X d 176 [.ref 171, .int (nI k)] f N K (some (.int (sg s.2.2.1 sz k))) := by
  obtain ⟨v, P, h6, h7, h8, hs⟩ := P
  exact sp_seeSign P h8 hz hk
theorem ps_key {X : Nat × (Nat → Int32)} {d N K : Nat} {f : Nat → e_C} {s : m_T} {fr ag : Nat → Int32} {sz a b : Nat} {kd nm wr wa rd : Int32} {a1 a2 a3 : Value} (P : PS f s fr ag sz a b kd nm wr wa rd) (hab : a ≤ b) (hb : b ≤ 900) : PU X (d + 4) 178 [.ref 171, a1, a2, a3] f N K (some (.int (nI (m_key s.2.2.1 a b)))) := by
  obtain ⟨v, P, h6, h7, h8, hs⟩ := P
  exact sp_keyAt P h6 h7 hab hb
def sk (tx : Nat → Int32) (sz : Nat) : Nat → Nat → Nat
  | 0, p => p
  | m + 1, p => if p < sz ∧ (tx p = 10 ∨ tx p = 32) then sk tx sz m (p + 1) else p
theorem sk_s {tx : Nat → Int32} {sz : Nat} (m : Nat) {p : Nat} : sk tx sz (m + 1) p = if p < sz ∧ (tx p = 10 ∨ tx p = 32) then sk tx sz m (p + 1) else p := rfl
def we (tx : Nat → Int32) (sz : Nat) : Nat → Nat → Nat
  | 0, p => p
  | m + 1, p => if p < sz ∧ isS (tx p) = true then we tx sz m (p + 1) else p
theorem we_s {tx : Nat → Int32} {sz : Nat} (m : Nat) {p : Nat} : we tx sz (m + 1) p = if p < sz ∧ isS (tx p) = true then we tx sz m (p + 1) else p := rfl
def dg (tx : Nat → Int32) (sz a : Nat) : Nat → Nat → Int32 → Nat × Int32
  | 0, p, n => (p, n)
  | m + 1, p, n => if p < sz ∧ isD (tx p) = true then dg tx sz a m (p + 1) (if p - a < 3 then 10 * n + tx p - 48 else n) else (p, n)
theorem dg_s {tx : Nat → Int32} {sz a : Nat} (m : Nat) {p : Nat} {n : Int32} : dg tx sz a (m + 1) p n = if p < sz ∧ isD (tx p) = true then dg tx sz a m (p + 1) (if p - a < 3 then 10 * n + tx p - 48 else n) else (p, n) := rfl
def si (c : Int32) (n : Nat) : Int32 := fo (fun k kd => if c = s_at 3 k then nI (30 + k) else kd) 25 n
def lx (tx : Nat → Int32) (sz b : Nat) (nm : Int32) : Nat × Nat × Int32 × Int32 := if sz ≤ sk tx sz (sz - b) b then (sk tx sz (sz - b) b, sk tx sz (sz - b) b, 24, nm) else if isS (tx (sk tx sz (sz - b) b)) = true then (sk tx sz (sz - b) b, we tx sz (sz - sk tx sz (sz - b) b) (sk tx sz (sz - b) b), nI (m_key tx (sk tx sz (sz - b) b) (we tx sz (sz - sk tx sz (sz - b) b) (sk tx sz (sz - b) b))), nm) else if isD (tx (sk tx sz (sz - b) b)) = true then (sk tx sz (sz - b) b, (dg tx sz (sk tx sz (sz - b) b) (sz - sk tx sz (sz - b) b) (sk tx sz (sz - b) b) 0).1, if (dg tx sz (sk tx sz (sz - b) b) (sz - sk tx sz (sz - b) b) (sk tx sz (sz - b) b) 0).1 - sk tx sz (sz - b) b ≤ 3 then 23 else 25, (dg tx sz (sk tx sz (sz - b) b) (sz - sk tx sz (sz - b) b) (sk tx sz (sz - b) b) 0).2) else (sk tx sz (sz - b) b, sk tx sz (sz - b) b + 1, si (tx (sk tx sz (sz - b) b)) 12, nm)
theorem sg_lt {tx : Nat → Int32} {sz k : Nat} (h : k < sz) : sg tx sz k = tx k := if_pos h
theorem sg_ge {tx : Nat → Int32} {sz k : Nat} (h : sz ≤ k) : sg tx sz k = -1 := if_neg (by omega)
theorem sg_S {tx : Nat → Int32} {sz k : Nat} : isS (sg tx sz k) = (decide (k < sz) && isS (tx k)) := by
  unfold sg
  by_cases h : k < sz
  · rw [if_pos h]; simp [h]
  · rw [if_neg h]; simp [h]; decide
theorem sg_D {tx : Nat → Int32} {sz k : Nat} : isD (sg tx sz k) = (decide (k < sz) && isD (tx k)) := by
  unfold sg
  by_cases h : k < sz
  · rw [if_pos h]; simp [h]
  · rw [if_neg h]; simp [h]; decide
theorem sp_next {X : Nat × (Nat → Int32)} {d N K : Nat} {f : Nat → e_C} {s : m_T} {fr ag : Nat → Int32} {sz a b : Nat} {kd nm wr wa rd : Int32} {a1 : Value} (P : PS f s fr ag sz a b kd nm wr wa rd) (hz : sz ≤ 900) (hb : b ≤ sz) : TT X (d + 5) 175 0 [.ref 171, a1] [] f N K (fun f' n' k' w => n' = N ∧ k' = K ∧ w = none ∧ SM f f' ∧ PS f' s fr ag sz (lx s.2.2.1 sz b nm).1 (lx s.2.2.1 sz b nm).2.1 (lx s.2.2.1 sz b nm).2.2.1 (lx s.2.2.1 sz b nm).2.2.2 wr wa rd) := by
  have V := P.V
  simp (disch := first | omega | decide | assumption | exact Nat.le_of_ble_eq_true rfl) only [s175_0, s175_1, s175_2, h175_5, ow_some, true_and, and_true, and_self, if_true, if_false, not_true, not_false_eq_true, Bool.false_eq_true, eq_self, Option.toList, List.cons_append, List.nil_append, ix_in, ix_cl, lt_in, lt_cl, lt_add, ix_one, vu_eq, vu_ne, arI_mk, arL_mk, arY_mZ, arY_mB, alen_mI, fld_sfl_ne, fld_sfl_same, Option.isSome_some, pok_i, b1z, b01, z10, b1o, Int32.zero_add, vu_vu, upd_eq, upd_ne, true_or, or_true, V.r1, V.r2, V.r3, V.r4, V.r16, V.r17, V.r18, V.r19, V.r20, V.r23, V.r24, V.r25, V.r26, V.r27, V.r28, V.r29, V.r30, V.c172, V.c173, V.c174, V.c186, V.c187, V.c188, V.n5, V.n13, V.n14, V.i0, V.i5, V.i6, V.i7, V.i8, V.i9, V.i10, V.i11, V.i12, V.i13, V.i14, V.i15, V.i21, V.i22, P.f6, P.f7, P.f8, P.f9, P.f10, P.f11, P.f12, P.f15, P.c175, P.c176]
  have P0 := P.s6 (y := b)
  have sm0 : SM f (va_up f 171 (sfl (f 171) 6 (.int (nI b)))) := SM.up (by omega) (by omega)
  generalize va_up f 171 (sfl (f 171) 6 (.int (nI b))) = f0 at P0 sm0 ⊢
  have t1 : ((-1 : Int32) = 10) = False := eq_false (by decide)
  have t2 : ((-1 : Int32) = 32) = False := eq_false (by decide)
  have post : ∀ g j, SM f g → PS g s fr ag sz j b kd nm wr wa rd → j ≤ sz → sk s.2.2.1 sz (sz - b) b = j → TT X (d + 5) 175 47 [.ref 171, a1] [] g N K (fun f' n' k' w => n' = N ∧ k' = K ∧ w = none ∧ SM f f' ∧ PS f' s fr ag sz (lx s.2.2.1 sz b nm).1 (lx s.2.2.1 sz b nm).2.1 (lx s.2.2.1 sz b nm).2.2.1 (lx s.2.2.1 sz b nm).2.2.2 wr wa rd) := by
    intro g j sm P1 hj hsk
    have V1 := P1.V
    have fin : ∀ g b' kd' nm', SM f g → PS g s fr ag sz j b' kd' nm' wr wa rd → lx s.2.2.1 sz b nm = (j, b', kd', nm') → ∀ u, TT X (d + 5) 175 294 [.ref 171, u] [] g N K (fun f' n' k' w => n' = N ∧ k' = K ∧ w = none ∧ SM f f' ∧ PS f' s fr ag sz (lx s.2.2.1 sz b nm).1 (lx s.2.2.1 sz b nm).2.1 (lx s.2.2.1 sz b nm).2.2.1 (lx s.2.2.1 sz b nm).2.2.2 wr wa rd) := by
      intro g b' kd' nm' sm P2 he u
      rw [he]
      simp (disch := first | omega | decide | assumption | exact Nat.le_of_ble_eq_true rfl) only [s175_294, ow_some, true_and, and_true, and_self, if_true, if_false, not_true, not_false_eq_true, Bool.false_eq_true, eq_self, Option.toList, List.cons_append, List.nil_append, ix_in, ix_cl, lt_in, lt_cl, lt_add, ix_one, vu_eq, vu_ne, arI_mk, arL_mk, arY_mZ, arY_mB, alen_mI, fld_sfl_ne, fld_sfl_same, Option.isSome_some, pok_i, b1z, b01, z10, b1o, Int32.zero_add, vu_vu, upd_eq, upd_ne, true_or, or_true]
      exact ⟨sm, P2⟩
    have hlx : lx s.2.2.1 sz b nm = if sz ≤ j then (j, j, 24, nm) else if isS (s.2.2.1 j) = true then (j, we s.2.2.1 sz (sz - j) j, nI (m_key s.2.2.1 j (we s.2.2.1 sz (sz - j) j)), nm) else if isD (s.2.2.1 j) = true then (j, (dg s.2.2.1 sz j (sz - j) j 0).1, if (dg s.2.2.1 sz j (sz - j) j 0).1 - j ≤ 3 then 23 else 25, (dg s.2.2.1 sz j (sz - j) j 0).2) else (j, j + 1, si (s.2.2.1 j) 12, nm) := by
      unfold lx; rw [hsk]
    simp (disch := first | omega | decide | assumption | exact Nat.le_of_ble_eq_true rfl) only [s175_47, s175_48, s175_49, s175_52, ow_some, true_and, and_true, and_self, if_true, if_false, not_true, not_false_eq_true, Bool.false_eq_true, eq_self, Option.toList, List.cons_append, List.nil_append, ix_in, ix_cl, lt_in, lt_cl, lt_add, ix_one, vu_eq, vu_ne, arI_mk, arL_mk, arY_mZ, arY_mB, alen_mI, fld_sfl_ne, fld_sfl_same, Option.isSome_some, pok_i, b1z, b01, z10, b1o, Int32.zero_add, vu_vu, upd_eq, upd_ne, true_or, or_true, V1.r1, V1.r2, V1.r3, V1.r4, V1.r16, V1.r17, V1.r18, V1.r19, V1.r20, V1.r23, V1.r24, V1.r25, V1.r26, V1.r27, V1.r28, V1.r29, V1.r30, V1.c172, V1.c173, V1.c174, V1.c186, V1.c187, V1.c188, V1.n5, V1.n13, V1.n14, V1.i0, V1.i5, V1.i6, V1.i7, V1.i8, V1.i9, V1.i10, V1.i11, V1.i12, V1.i13, V1.i14, V1.i15, V1.i21, V1.i22, P1.f6, P1.f7, P1.f8, P1.f9, P1.f10, P1.f11, P1.f12, P1.f15, P1.c175, P1.c176]
    have P2 := P1.s7 (y := j)
    have V2 := P2.V
    have sm2 : SM f (va_up g 171 (sfl (g 171) 7 (.int (nI j)))) := sm.tr (SM.up (by omega) (by omega))
    generalize va_up g 171 (sfl (g 171) 7 (.int (nI j))) = g2 at P2 sm2 V2 ⊢
    by_cases hend : sz ≤ j
    · have hc : (j < sz) = False := eq_false (by omega)
      simp (disch := first | omega | decide | assumption | exact Nat.le_of_ble_eq_true rfl) only [s175_55, s175_56, s175_59, s175_60, s175_63, s175_66, s175_67, s175_69, s175_72, ow_some, true_and, and_true, and_self, if_true, if_false, not_true, not_false_eq_true, Bool.false_eq_true, eq_self, Option.toList, List.cons_append, List.nil_append, ix_in, ix_cl, lt_in, lt_cl, lt_add, ix_one, vu_eq, vu_ne, arI_mk, arL_mk, arY_mZ, arY_mB, alen_mI, fld_sfl_ne, fld_sfl_same, Option.isSome_some, pok_i, b1z, b01, z10, b1o, Int32.zero_add, vu_vu, upd_eq, upd_ne, true_or, or_true, V2.r1, V2.r2, V2.r3, V2.r4, V2.r16, V2.r17, V2.r18, V2.r19, V2.r20, V2.r23, V2.r24, V2.r25, V2.r26, V2.r27, V2.r28, V2.r29, V2.r30, V2.c172, V2.c173, V2.c174, V2.c186, V2.c187, V2.c188, V2.n5, V2.n13, V2.n14, V2.i0, V2.i5, V2.i6, V2.i7, V2.i8, V2.i9, V2.i10, V2.i11, V2.i12, V2.i13, V2.i14, V2.i15, V2.i21, V2.i22, P2.f6, P2.f7, P2.f8, P2.f9, P2.f10, P2.f11, P2.f12, P2.f15, P2.c175, P2.c176, ix_lt, hc]
      exact fin _ j 24 nm (sm2.tr (SM.up (by omega) (by omega))) P2.s9 (by rw [hlx, if_pos hend]) a1
    · have hc : (j < sz) = True := eq_true (by omega)
      have hsj := sg_lt (tx := s.2.2.1) (show j < sz by omega)
      rw [if_neg hend] at hlx
      simp (disch := first | omega | decide | assumption | exact Nat.le_of_ble_eq_true rfl) only [s175_55, s175_56, s175_59, s175_60, s175_63, s175_66, s175_67, s175_69, s175_72, s175_75, s175_76, s175_77, ow_some, true_and, and_true, and_self, if_true, if_false, not_true, not_false_eq_true, Bool.false_eq_true, eq_self, Option.toList, List.cons_append, List.nil_append, ix_in, ix_cl, lt_in, lt_cl, lt_add, ix_one, vu_eq, vu_ne, arI_mk, arL_mk, arY_mZ, arY_mB, alen_mI, fld_sfl_ne, fld_sfl_same, Option.isSome_some, pok_i, b1z, b01, z10, b1o, Int32.zero_add, vu_vu, upd_eq, upd_ne, true_or, or_true, V2.r1, V2.r2, V2.r3, V2.r4, V2.r16, V2.r17, V2.r18, V2.r19, V2.r20, V2.r23, V2.r24, V2.r25, V2.r26, V2.r27, V2.r28, V2.r29, V2.r30, V2.c172, V2.c173, V2.c174, V2.c186, V2.c187, V2.c188, V2.n5, V2.n13, V2.n14, V2.i0, V2.i5, V2.i6, V2.i7, V2.i8, V2.i9, V2.i10, V2.i11, V2.i12, V2.i13, V2.i14, V2.i15, V2.i21, V2.i22, P2.f6, P2.f7, P2.f8, P2.f9, P2.f10, P2.f11, P2.f12, P2.f15, P2.c175, P2.c176, ix_lt, hc]
      rw [p175_80 (cno_MR V2.mr) (Nat.le_of_ble_eq_true rfl) (ps_see P2 hz (show j ≤ 900 by omega))]
      simp only [Option.toList, List.cons_append, List.nil_append]
      rw [p175_83 (Nat.le_of_ble_eq_true rfl) sp_isSmall, hsj]
      by_cases hS : isS (s.2.2.1 j) = true
      · rw [if_pos hS] at hlx
        simp (disch := first | omega | decide | assumption | exact Nat.le_of_ble_eq_true rfl) only [h175_86, ow_some, true_and, and_true, and_self, if_true, if_false, not_true, not_false_eq_true, Bool.false_eq_true, eq_self, Option.toList, List.cons_append, List.nil_append, ix_in, ix_cl, lt_in, lt_cl, lt_add, ix_one, vu_eq, vu_ne, arI_mk, arL_mk, arY_mZ, arY_mB, alen_mI, fld_sfl_ne, fld_sfl_same, Option.isSome_some, pok_i, b1z, b01, z10, b1o, Int32.zero_add, vu_vu, upd_eq, upd_ne, true_or, or_true, V2.r1, V2.r2, V2.r3, V2.r4, V2.r16, V2.r17, V2.r18, V2.r19, V2.r20, V2.r23, V2.r24, V2.r25, V2.r26, V2.r27, V2.r28, V2.r29, V2.r30, V2.c172, V2.c173, V2.c174, V2.c186, V2.c187, V2.c188, V2.n5, V2.n13, V2.n14, V2.i0, V2.i5, V2.i6, V2.i7, V2.i8, V2.i9, V2.i10, V2.i11, V2.i12, V2.i13, V2.i14, V2.i15, V2.i21, V2.i22, P2.f6, P2.f7, P2.f8, P2.f9, P2.f10, P2.f11, P2.f12, P2.f15, P2.c175, P2.c176, hS]
        refine lp (fun e h (_ : Unit) => SM f h ∧ PS h s fr ag sz j e kd nm wr wa rd ∧ j ≤ e ∧ we s.2.2.1 sz (sz - j) j = we s.2.2.1 sz (sz - e) e) (fun _ _ => [.ref 171, a1]) sz ?_ ?_ j g2 () hj ⟨sm2, P2, Nat.le_refl _, rfl⟩
        all_goals
          have wtail : ∀ h e, SM f h → PS h s fr ag sz j e kd nm wr wa rd → j ≤ e → e ≤ sz → we s.2.2.1 sz (sz - j) j = e → TT X (d + 5) 175 116 [.ref 171, a1] [] h N K (fun f' n' k' w => n' = N ∧ k' = K ∧ w = none ∧ SM f f' ∧ PS f' s fr ag sz (lx s.2.2.1 sz b nm).1 (lx s.2.2.1 sz b nm).2.1 (lx s.2.2.1 sz b nm).2.2.1 (lx s.2.2.1 sz b nm).2.2.2 wr wa rd) := by
            intro h e sm3 P3 hje hez hwe
            have V3 := P3.V
            simp (disch := first | omega | decide | assumption | exact Nat.le_of_ble_eq_true rfl) only [s175_116, s175_117, ow_some, true_and, and_true, and_self, if_true, if_false, not_true, not_false_eq_true, Bool.false_eq_true, eq_self, Option.toList, List.cons_append, List.nil_append, ix_in, ix_cl, lt_in, lt_cl, lt_add, ix_one, vu_eq, vu_ne, arI_mk, arL_mk, arY_mZ, arY_mB, alen_mI, fld_sfl_ne, fld_sfl_same, Option.isSome_some, pok_i, b1z, b01, z10, b1o, Int32.zero_add, vu_vu, upd_eq, upd_ne, true_or, or_true, V3.r1, V3.r2, V3.r3, V3.r4, V3.r16, V3.r17, V3.r18, V3.r19, V3.r20, V3.r23, V3.r24, V3.r25, V3.r26, V3.r27, V3.r28, V3.r29, V3.r30, V3.c172, V3.c173, V3.c174, V3.c186, V3.c187, V3.c188, V3.n5, V3.n13, V3.n14, V3.i0, V3.i5, V3.i6, V3.i7, V3.i8, V3.i9, V3.i10, V3.i11, V3.i12, V3.i13, V3.i14, V3.i15, V3.i21, V3.i22, P3.f6, P3.f7, P3.f8, P3.f9, P3.f10, P3.f11, P3.f12, P3.f15, P3.c175, P3.c176]
            rw [p175_118 (cno_MR V3.mr) (Nat.le_of_ble_eq_true rfl) (ps_key P3 hje (by omega))]
            simp (disch := first | omega | decide | assumption | exact Nat.le_of_ble_eq_true rfl) only [s175_121, s175_124, ow_some, true_and, and_true, and_self, if_true, if_false, not_true, not_false_eq_true, Bool.false_eq_true, eq_self, Option.toList, List.cons_append, List.nil_append, ix_in, ix_cl, lt_in, lt_cl, lt_add, ix_one, vu_eq, vu_ne, arI_mk, arL_mk, arY_mZ, arY_mB, alen_mI, fld_sfl_ne, fld_sfl_same, Option.isSome_some, pok_i, b1z, b01, z10, b1o, Int32.zero_add, vu_vu, upd_eq, upd_ne, true_or, or_true, V3.r1, V3.r2, V3.r3, V3.r4, V3.r16, V3.r17, V3.r18, V3.r19, V3.r20, V3.r23, V3.r24, V3.r25, V3.r26, V3.r27, V3.r28, V3.r29, V3.r30, V3.c172, V3.c173, V3.c174, V3.c186, V3.c187, V3.c188, V3.n5, V3.n13, V3.n14, V3.i0, V3.i5, V3.i6, V3.i7, V3.i8, V3.i9, V3.i10, V3.i11, V3.i12, V3.i13, V3.i14, V3.i15, V3.i21, V3.i22, P3.f6, P3.f7, P3.f8, P3.f9, P3.f10, P3.f11, P3.f12, P3.f15, P3.c175, P3.c176]
            exact fin _ e (nI (m_key s.2.2.1 j e)) nm (sm3.tr (SM.up (by omega) (by omega))) P3.s9 (by rw [hlx, hwe]) a1
        · rintro e h _ he ⟨sm3, P3, hje, hwe⟩ hI
          have V3 := P3.V
          obtain ⟨m, hm⟩ : ∃ m, sz - e = m + 1 := ⟨sz - e - 1, by omega⟩
          rw [hm, we_s m] at hwe
          simp (disch := first | omega | decide | assumption | exact Nat.le_of_ble_eq_true rfl) only [s175_89, s175_90, s175_91, ow_some, true_and, and_true, and_self, if_true, if_false, not_true, not_false_eq_true, Bool.false_eq_true, eq_self, Option.toList, List.cons_append, List.nil_append, ix_in, ix_cl, lt_in, lt_cl, lt_add, ix_one, vu_eq, vu_ne, arI_mk, arL_mk, arY_mZ, arY_mB, alen_mI, fld_sfl_ne, fld_sfl_same, Option.isSome_some, pok_i, b1z, b01, z10, b1o, Int32.zero_add, vu_vu, upd_eq, upd_ne, true_or, or_true, V3.r1, V3.r2, V3.r3, V3.r4, V3.r16, V3.r17, V3.r18, V3.r19, V3.r20, V3.r23, V3.r24, V3.r25, V3.r26, V3.r27, V3.r28, V3.r29, V3.r30, V3.c172, V3.c173, V3.c174, V3.c186, V3.c187, V3.c188, V3.n5, V3.n13, V3.n14, V3.i0, V3.i5, V3.i6, V3.i7, V3.i8, V3.i9, V3.i10, V3.i11, V3.i12, V3.i13, V3.i14, V3.i15, V3.i21, V3.i22, P3.f6, P3.f7, P3.f8, P3.f9, P3.f10, P3.f11, P3.f12, P3.f15, P3.c175, P3.c176]
          rw [p175_94 (cno_MR V3.mr) (Nat.le_of_ble_eq_true rfl) (ps_see P3 hz (show e ≤ 900 by omega))]
          simp only [Option.toList, List.cons_append, List.nil_append]
          rw [p175_97 (Nat.le_of_ble_eq_true rfl) sp_isSmall, sg_lt he]
          by_cases hS2 : isS (s.2.2.1 e) = true
          · rw [if_pos ⟨he, hS2⟩] at hwe
            simp (disch := first | omega | decide | assumption | exact Nat.le_of_ble_eq_true rfl) only [s175_100, s175_103, s175_104, s175_104i, s175_105, s175_108, s175_109, s175_110, h175_113, ow_some, true_and, and_true, and_self, if_true, if_false, not_true, not_false_eq_true, Bool.false_eq_true, eq_self, Option.toList, List.cons_append, List.nil_append, ix_in, ix_cl, lt_in, lt_cl, lt_add, ix_one, vu_eq, vu_ne, arI_mk, arL_mk, arY_mZ, arY_mB, alen_mI, fld_sfl_ne, fld_sfl_same, Option.isSome_some, pok_i, b1z, b01, z10, b1o, Int32.zero_add, vu_vu, upd_eq, upd_ne, true_or, or_true, V3.r1, V3.r2, V3.r3, V3.r4, V3.r16, V3.r17, V3.r18, V3.r19, V3.r20, V3.r23, V3.r24, V3.r25, V3.r26, V3.r27, V3.r28, V3.r29, V3.r30, V3.c172, V3.c173, V3.c174, V3.c186, V3.c187, V3.c188, V3.n5, V3.n13, V3.n14, V3.i0, V3.i5, V3.i6, V3.i7, V3.i8, V3.i9, V3.i10, V3.i11, V3.i12, V3.i13, V3.i14, V3.i15, V3.i21, V3.i22, P3.f6, P3.f7, P3.f8, P3.f9, P3.f10, P3.f11, P3.f12, P3.f15, P3.c175, P3.c176, hS2]
            exact hI _ () ⟨sm3.tr (SM.up (by omega) (by omega)), P3.s7, by omega, by rw [hwe, show sz - (e + 1) = m by omega]⟩
          · rw [if_neg (fun z => hS2 z.2)] at hwe
            simp (disch := first | omega | decide | assumption | exact Nat.le_of_ble_eq_true rfl) only [s175_100, ow_some, true_and, and_true, and_self, if_true, if_false, not_true, not_false_eq_true, Bool.false_eq_true, eq_self, Option.toList, List.cons_append, List.nil_append, ix_in, ix_cl, lt_in, lt_cl, lt_add, ix_one, vu_eq, vu_ne, arI_mk, arL_mk, arY_mZ, arY_mB, alen_mI, fld_sfl_ne, fld_sfl_same, Option.isSome_some, pok_i, b1z, b01, z10, b1o, Int32.zero_add, vu_vu, upd_eq, upd_ne, true_or, or_true, V3.r1, V3.r2, V3.r3, V3.r4, V3.r16, V3.r17, V3.r18, V3.r19, V3.r20, V3.r23, V3.r24, V3.r25, V3.r26, V3.r27, V3.r28, V3.r29, V3.r30, V3.c172, V3.c173, V3.c174, V3.c186, V3.c187, V3.c188, V3.n5, V3.n13, V3.n14, V3.i0, V3.i5, V3.i6, V3.i7, V3.i8, V3.i9, V3.i10, V3.i11, V3.i12, V3.i13, V3.i14, V3.i15, V3.i21, V3.i22, P3.f6, P3.f7, P3.f8, P3.f9, P3.f10, P3.f11, P3.f12, P3.f15, P3.c175, P3.c176, hS2]
            exact wtail h e sm3 P3 hje (by omega) hwe
        · rintro h _ ⟨sm3, P3, hje, hwe⟩
          have V3 := P3.V
          rw [Nat.sub_self, we] at hwe
          simp (disch := first | omega | decide | assumption | exact Nat.le_of_ble_eq_true rfl) only [s175_89, s175_90, s175_91, ow_some, true_and, and_true, and_self, if_true, if_false, not_true, not_false_eq_true, Bool.false_eq_true, eq_self, Option.toList, List.cons_append, List.nil_append, ix_in, ix_cl, lt_in, lt_cl, lt_add, ix_one, vu_eq, vu_ne, arI_mk, arL_mk, arY_mZ, arY_mB, alen_mI, fld_sfl_ne, fld_sfl_same, Option.isSome_some, pok_i, b1z, b01, z10, b1o, Int32.zero_add, vu_vu, upd_eq, upd_ne, true_or, or_true, V3.r1, V3.r2, V3.r3, V3.r4, V3.r16, V3.r17, V3.r18, V3.r19, V3.r20, V3.r23, V3.r24, V3.r25, V3.r26, V3.r27, V3.r28, V3.r29, V3.r30, V3.c172, V3.c173, V3.c174, V3.c186, V3.c187, V3.c188, V3.n5, V3.n13, V3.n14, V3.i0, V3.i5, V3.i6, V3.i7, V3.i8, V3.i9, V3.i10, V3.i11, V3.i12, V3.i13, V3.i14, V3.i15, V3.i21, V3.i22, P3.f6, P3.f7, P3.f8, P3.f9, P3.f10, P3.f11, P3.f12, P3.f15, P3.c175, P3.c176]
          rw [p175_94 (cno_MR V3.mr) (Nat.le_of_ble_eq_true rfl) (ps_see P3 hz hz)]
          simp only [Option.toList, List.cons_append, List.nil_append]
          rw [p175_97 (Nat.le_of_ble_eq_true rfl) sp_isSmall, sg_ge (Nat.le_refl _)]
          have hS3 : (isS (-1) = true) = False := eq_false (by decide)
          simp (disch := first | omega | decide | assumption | exact Nat.le_of_ble_eq_true rfl) only [s175_100, ow_some, true_and, and_true, and_self, if_true, if_false, not_true, not_false_eq_true, Bool.false_eq_true, eq_self, Option.toList, List.cons_append, List.nil_append, ix_in, ix_cl, lt_in, lt_cl, lt_add, ix_one, vu_eq, vu_ne, arI_mk, arL_mk, arY_mZ, arY_mB, alen_mI, fld_sfl_ne, fld_sfl_same, Option.isSome_some, pok_i, b1z, b01, z10, b1o, Int32.zero_add, vu_vu, upd_eq, upd_ne, true_or, or_true, V3.r1, V3.r2, V3.r3, V3.r4, V3.r16, V3.r17, V3.r18, V3.r19, V3.r20, V3.r23, V3.r24, V3.r25, V3.r26, V3.r27, V3.r28, V3.r29, V3.r30, V3.c172, V3.c173, V3.c174, V3.c186, V3.c187, V3.c188, V3.n5, V3.n13, V3.n14, V3.i0, V3.i5, V3.i6, V3.i7, V3.i8, V3.i9, V3.i10, V3.i11, V3.i12, V3.i13, V3.i14, V3.i15, V3.i21, V3.i22, P3.f6, P3.f7, P3.f8, P3.f9, P3.f10, P3.f11, P3.f12, P3.f15, P3.c175, P3.c176, hS3]
          exact wtail h sz sm3 P3 hje (Nat.le_refl _) hwe
      · rw [if_neg hS] at hlx
        simp (disch := first | omega | decide | assumption | exact Nat.le_of_ble_eq_true rfl) only [h175_86, s175_127, s175_128, s175_129, ow_some, true_and, and_true, and_self, if_true, if_false, not_true, not_false_eq_true, Bool.false_eq_true, eq_self, Option.toList, List.cons_append, List.nil_append, ix_in, ix_cl, lt_in, lt_cl, lt_add, ix_one, vu_eq, vu_ne, arI_mk, arL_mk, arY_mZ, arY_mB, alen_mI, fld_sfl_ne, fld_sfl_same, Option.isSome_some, pok_i, b1z, b01, z10, b1o, Int32.zero_add, vu_vu, upd_eq, upd_ne, true_or, or_true, V2.r1, V2.r2, V2.r3, V2.r4, V2.r16, V2.r17, V2.r18, V2.r19, V2.r20, V2.r23, V2.r24, V2.r25, V2.r26, V2.r27, V2.r28, V2.r29, V2.r30, V2.c172, V2.c173, V2.c174, V2.c186, V2.c187, V2.c188, V2.n5, V2.n13, V2.n14, V2.i0, V2.i5, V2.i6, V2.i7, V2.i8, V2.i9, V2.i10, V2.i11, V2.i12, V2.i13, V2.i14, V2.i15, V2.i21, V2.i22, P2.f6, P2.f7, P2.f8, P2.f9, P2.f10, P2.f11, P2.f12, P2.f15, P2.c175, P2.c176, hS]
        rw [p175_132 (cno_MR V2.mr) (Nat.le_of_ble_eq_true rfl) (ps_see P2 hz (show j ≤ 900 by omega))]
        simp only [Option.toList, List.cons_append, List.nil_append]
        rw [p175_135 (Nat.le_of_ble_eq_true rfl) sp_isDigit, hsj]
        by_cases hD : isD (s.2.2.1 j) = true
        · rw [if_pos hD] at hlx
          simp (disch := first | omega | decide | assumption | exact Nat.le_of_ble_eq_true rfl) only [s175_138, s175_141, s175_142, h175_143, ow_some, true_and, and_true, and_self, if_true, if_false, not_true, not_false_eq_true, Bool.false_eq_true, eq_self, Option.toList, List.cons_append, List.nil_append, ix_in, ix_cl, lt_in, lt_cl, lt_add, ix_one, vu_eq, vu_ne, arI_mk, arL_mk, arY_mZ, arY_mB, alen_mI, fld_sfl_ne, fld_sfl_same, Option.isSome_some, pok_i, b1z, b01, z10, b1o, Int32.zero_add, vu_vu, upd_eq, upd_ne, true_or, or_true, V2.r1, V2.r2, V2.r3, V2.r4, V2.r16, V2.r17, V2.r18, V2.r19, V2.r20, V2.r23, V2.r24, V2.r25, V2.r26, V2.r27, V2.r28, V2.r29, V2.r30, V2.c172, V2.c173, V2.c174, V2.c186, V2.c187, V2.c188, V2.n5, V2.n13, V2.n14, V2.i0, V2.i5, V2.i6, V2.i7, V2.i8, V2.i9, V2.i10, V2.i11, V2.i12, V2.i13, V2.i14, V2.i15, V2.i21, V2.i22, P2.f6, P2.f7, P2.f8, P2.f9, P2.f10, P2.f11, P2.f12, P2.f15, P2.c175, P2.c176, hD]
          have P3 := P2.s10 (y := 0)
          have sm3 : SM f (va_up g2 171 (sfl (g2 171) 10 (.int 0))) := sm2.tr (SM.up (by omega) (by omega))
          generalize va_up g2 171 (sfl (g2 171) 10 (.int 0)) = g3 at P3 sm3 ⊢
          have dtail : ∀ h e n, SM f h → PS h s fr ag sz j e kd n wr wa rd → j ≤ e → e ≤ sz → dg s.2.2.1 sz j (sz - j) j 0 = (e, n) → TT X (d + 5) 175 209 [.ref 171, a1] [] h N K (fun f' n' k' w => n' = N ∧ k' = K ∧ w = none ∧ SM f f' ∧ PS f' s fr ag sz (lx s.2.2.1 sz b nm).1 (lx s.2.2.1 sz b nm).2.1 (lx s.2.2.1 sz b nm).2.2.1 (lx s.2.2.1 sz b nm).2.2.2 wr wa rd) := by
            intro h e n sm4 P4 hje hez hdg
            have V4 := P4.V
            rw [hdg] at hlx
            have es : nI e - nI j = nI (e - j) := pk_sub hje
            by_cases h3 : e - j ≤ 3
            · have h3' : (e - j ≤ 3) = True := eq_true h3
              simp (disch := first | omega | decide | assumption | exact Nat.le_of_ble_eq_true rfl) only [s175_209, s175_210, s175_211, s175_214, s175_215, s175_218, s175_219, s175_220, s175_223, s175_225, s175_228, s175_230, s175_233, ow_some, true_and, and_true, and_self, if_true, if_false, not_true, not_false_eq_true, Bool.false_eq_true, eq_self, Option.toList, List.cons_append, List.nil_append, ix_in, ix_cl, lt_in, lt_cl, lt_add, ix_one, vu_eq, vu_ne, arI_mk, arL_mk, arY_mZ, arY_mB, alen_mI, fld_sfl_ne, fld_sfl_same, Option.isSome_some, pok_i, b1z, b01, z10, b1o, Int32.zero_add, vu_vu, upd_eq, upd_ne, true_or, or_true, V4.r1, V4.r2, V4.r3, V4.r4, V4.r16, V4.r17, V4.r18, V4.r19, V4.r20, V4.r23, V4.r24, V4.r25, V4.r26, V4.r27, V4.r28, V4.r29, V4.r30, V4.c172, V4.c173, V4.c174, V4.c186, V4.c187, V4.c188, V4.n5, V4.n13, V4.n14, V4.i0, V4.i5, V4.i6, V4.i7, V4.i8, V4.i9, V4.i10, V4.i11, V4.i12, V4.i13, V4.i14, V4.i15, V4.i21, V4.i22, P4.f6, P4.f7, P4.f8, P4.f9, P4.f10, P4.f11, P4.f12, P4.f15, P4.c175, P4.c176, es, le_lt, h3']
              exact fin _ e 23 n (sm4.tr (SM.up (by omega) (by omega))) P4.s9 (by rw [hlx]; simp only [if_pos h3]) a1
            · have h3' : (e - j ≤ 3) = False := eq_false h3
              simp (disch := first | omega | decide | assumption | exact Nat.le_of_ble_eq_true rfl) only [s175_209, s175_210, s175_211, s175_214, s175_215, s175_218, s175_219, s175_220, s175_223, s175_225, s175_228, s175_230, s175_233, ow_some, true_and, and_true, and_self, if_true, if_false, not_true, not_false_eq_true, Bool.false_eq_true, eq_self, Option.toList, List.cons_append, List.nil_append, ix_in, ix_cl, lt_in, lt_cl, lt_add, ix_one, vu_eq, vu_ne, arI_mk, arL_mk, arY_mZ, arY_mB, alen_mI, fld_sfl_ne, fld_sfl_same, Option.isSome_some, pok_i, b1z, b01, z10, b1o, Int32.zero_add, vu_vu, upd_eq, upd_ne, true_or, or_true, V4.r1, V4.r2, V4.r3, V4.r4, V4.r16, V4.r17, V4.r18, V4.r19, V4.r20, V4.r23, V4.r24, V4.r25, V4.r26, V4.r27, V4.r28, V4.r29, V4.r30, V4.c172, V4.c173, V4.c174, V4.c186, V4.c187, V4.c188, V4.n5, V4.n13, V4.n14, V4.i0, V4.i5, V4.i6, V4.i7, V4.i8, V4.i9, V4.i10, V4.i11, V4.i12, V4.i13, V4.i14, V4.i15, V4.i21, V4.i22, P4.f6, P4.f7, P4.f8, P4.f9, P4.f10, P4.f11, P4.f12, P4.f15, P4.c175, P4.c176, es, le_lt, h3']
              exact fin _ e 25 n (sm4.tr (SM.up (by omega) (by omega))) P4.s9 (by rw [hlx]; simp only [if_neg h3]) a1
          refine lp (fun e h (n : Int32) => SM f h ∧ PS h s fr ag sz j e kd n wr wa rd ∧ j ≤ e ∧ dg s.2.2.1 sz j (sz - j) j 0 = dg s.2.2.1 sz j (sz - e) e n) (fun _ _ => [.ref 171, a1]) sz ?_ ?_ j g3 0 hj ⟨sm3, P3, Nat.le_refl _, rfl⟩
          · rintro e h n he ⟨sm4, P4, hje, hdg⟩ hI
            have V4 := P4.V
            obtain ⟨m, hm⟩ : ∃ m, sz - e = m + 1 := ⟨sz - e - 1, by omega⟩
            rw [hm, dg_s m] at hdg
            simp (disch := first | omega | decide | assumption | exact Nat.le_of_ble_eq_true rfl) only [s175_146, s175_147, s175_148, ow_some, true_and, and_true, and_self, if_true, if_false, not_true, not_false_eq_true, Bool.false_eq_true, eq_self, Option.toList, List.cons_append, List.nil_append, ix_in, ix_cl, lt_in, lt_cl, lt_add, ix_one, vu_eq, vu_ne, arI_mk, arL_mk, arY_mZ, arY_mB, alen_mI, fld_sfl_ne, fld_sfl_same, Option.isSome_some, pok_i, b1z, b01, z10, b1o, Int32.zero_add, vu_vu, upd_eq, upd_ne, true_or, or_true, V4.r1, V4.r2, V4.r3, V4.r4, V4.r16, V4.r17, V4.r18, V4.r19, V4.r20, V4.r23, V4.r24, V4.r25, V4.r26, V4.r27, V4.r28, V4.r29, V4.r30, V4.c172, V4.c173, V4.c174, V4.c186, V4.c187, V4.c188, V4.n5, V4.n13, V4.n14, V4.i0, V4.i5, V4.i6, V4.i7, V4.i8, V4.i9, V4.i10, V4.i11, V4.i12, V4.i13, V4.i14, V4.i15, V4.i21, V4.i22, P4.f6, P4.f7, P4.f8, P4.f9, P4.f10, P4.f11, P4.f12, P4.f15, P4.c175, P4.c176]
            rw [p175_151 (cno_MR V4.mr) (Nat.le_of_ble_eq_true rfl) (ps_see P4 hz (show e ≤ 900 by omega))]
            simp only [Option.toList, List.cons_append, List.nil_append]
            rw [p175_154 (Nat.le_of_ble_eq_true rfl) sp_isDigit, sg_lt he]
            by_cases hD2 : isD (s.2.2.1 e) = true
            · rw [if_pos ⟨he, hD2⟩] at hdg
              have es : nI e - nI j = nI (e - j) := pk_sub hje
              have nxt : ∀ h5 n5, SM f h5 → PS h5 s fr ag sz j e kd n5 wr wa rd → n5 = (if e - j < 3 then 10 * n + s.2.2.1 e - 48 else n) → TT X (d + 5) 175 196 [.ref 171, a1] [] h5 N K (fun f' n' k' w => n' = N ∧ k' = K ∧ w = none ∧ SM f f' ∧ PS f' s fr ag sz (lx s.2.2.1 sz b nm).1 (lx s.2.2.1 sz b nm).2.1 (lx s.2.2.1 sz b nm).2.2.1 (lx s.2.2.1 sz b nm).2.2.2 wr wa rd) := by
                intro h5 n5 sm5 P5 hn5
                have V5 := P5.V
                simp (disch := first | omega | decide | assumption | exact Nat.le_of_ble_eq_true rfl) only [s175_196, s175_197, s175_197i, s175_198, s175_201, s175_202, s175_203, h175_206, ow_some, true_and, and_true, and_self, if_true, if_false, not_true, not_false_eq_true, Bool.false_eq_true, eq_self, Option.toList, List.cons_append, List.nil_append, ix_in, ix_cl, lt_in, lt_cl, lt_add, ix_one, vu_eq, vu_ne, arI_mk, arL_mk, arY_mZ, arY_mB, alen_mI, fld_sfl_ne, fld_sfl_same, Option.isSome_some, pok_i, b1z, b01, z10, b1o, Int32.zero_add, vu_vu, upd_eq, upd_ne, true_or, or_true, V5.r1, V5.r2, V5.r3, V5.r4, V5.r16, V5.r17, V5.r18, V5.r19, V5.r20, V5.r23, V5.r24, V5.r25, V5.r26, V5.r27, V5.r28, V5.r29, V5.r30, V5.c172, V5.c173, V5.c174, V5.c186, V5.c187, V5.c188, V5.n5, V5.n13, V5.n14, V5.i0, V5.i5, V5.i6, V5.i7, V5.i8, V5.i9, V5.i10, V5.i11, V5.i12, V5.i13, V5.i14, V5.i15, V5.i21, V5.i22, P5.f6, P5.f7, P5.f8, P5.f9, P5.f10, P5.f11, P5.f12, P5.f15, P5.c175, P5.c176]
                exact hI _ n5 ⟨sm5.tr (SM.up (by omega) (by omega)), P5.s7, by omega, by rw [hdg, hn5, show sz - (e + 1) = m by omega]⟩
              by_cases h3 : e - j < 3
              · have h3' : (3 ≤ e - j) = False := eq_false (by omega)
                simp (disch := first | omega | decide | assumption | exact Nat.le_of_ble_eq_true rfl) only [s175_157, s175_160, s175_161, s175_164, s175_165, s175_168, s175_169, s175_170, s175_173, s175_174, s175_176, s175_177, s175_180, s175_181, s175_182, s175_183, ow_some, true_and, and_true, and_self, if_true, if_false, not_true, not_false_eq_true, Bool.false_eq_true, eq_self, Option.toList, List.cons_append, List.nil_append, ix_in, ix_cl, lt_in, lt_cl, lt_add, ix_one, vu_eq, vu_ne, arI_mk, arL_mk, arY_mZ, arY_mB, alen_mI, fld_sfl_ne, fld_sfl_same, Option.isSome_some, pok_i, b1z, b01, z10, b1o, Int32.zero_add, vu_vu, upd_eq, upd_ne, true_or, or_true, V4.r1, V4.r2, V4.r3, V4.r4, V4.r16, V4.r17, V4.r18, V4.r19, V4.r20, V4.r23, V4.r24, V4.r25, V4.r26, V4.r27, V4.r28, V4.r29, V4.r30, V4.c172, V4.c173, V4.c174, V4.c186, V4.c187, V4.c188, V4.n5, V4.n13, V4.n14, V4.i0, V4.i5, V4.i6, V4.i7, V4.i8, V4.i9, V4.i10, V4.i11, V4.i12, V4.i13, V4.i14, V4.i15, V4.i21, V4.i22, P4.f6, P4.f7, P4.f8, P4.f9, P4.f10, P4.f11, P4.f12, P4.f15, P4.c175, P4.c176, hD2, es, lt_le, h3']
                rw [p175_186 (cno_MR V4.mr) (Nat.le_of_ble_eq_true rfl) (ps_see P4 hz (show e ≤ 900 by omega)), sg_lt he]
                simp (disch := first | omega | decide | assumption | exact Nat.le_of_ble_eq_true rfl) only [s175_189, s175_190, s175_192, s175_193, ow_some, true_and, and_true, and_self, if_true, if_false, not_true, not_false_eq_true, Bool.false_eq_true, eq_self, Option.toList, List.cons_append, List.nil_append, ix_in, ix_cl, lt_in, lt_cl, lt_add, ix_one, vu_eq, vu_ne, arI_mk, arL_mk, arY_mZ, arY_mB, alen_mI, fld_sfl_ne, fld_sfl_same, Option.isSome_some, pok_i, b1z, b01, z10, b1o, Int32.zero_add, vu_vu, upd_eq, upd_ne, true_or, or_true, V4.r1, V4.r2, V4.r3, V4.r4, V4.r16, V4.r17, V4.r18, V4.r19, V4.r20, V4.r23, V4.r24, V4.r25, V4.r26, V4.r27, V4.r28, V4.r29, V4.r30, V4.c172, V4.c173, V4.c174, V4.c186, V4.c187, V4.c188, V4.n5, V4.n13, V4.n14, V4.i0, V4.i5, V4.i6, V4.i7, V4.i8, V4.i9, V4.i10, V4.i11, V4.i12, V4.i13, V4.i14, V4.i15, V4.i21, V4.i22, P4.f6, P4.f7, P4.f8, P4.f9, P4.f10, P4.f11, P4.f12, P4.f15, P4.c175, P4.c176]
                exact nxt _ _ (sm4.tr (SM.up (by omega) (by omega))) P4.s10 (by rw [if_pos h3])
              · have h3' : (3 ≤ e - j) = True := eq_true (by omega)
                simp (disch := first | omega | decide | assumption | exact Nat.le_of_ble_eq_true rfl) only [s175_157, s175_160, s175_161, s175_164, s175_165, s175_168, s175_169, s175_170, ow_some, true_and, and_true, and_self, if_true, if_false, not_true, not_false_eq_true, Bool.false_eq_true, eq_self, Option.toList, List.cons_append, List.nil_append, ix_in, ix_cl, lt_in, lt_cl, lt_add, ix_one, vu_eq, vu_ne, arI_mk, arL_mk, arY_mZ, arY_mB, alen_mI, fld_sfl_ne, fld_sfl_same, Option.isSome_some, pok_i, b1z, b01, z10, b1o, Int32.zero_add, vu_vu, upd_eq, upd_ne, true_or, or_true, V4.r1, V4.r2, V4.r3, V4.r4, V4.r16, V4.r17, V4.r18, V4.r19, V4.r20, V4.r23, V4.r24, V4.r25, V4.r26, V4.r27, V4.r28, V4.r29, V4.r30, V4.c172, V4.c173, V4.c174, V4.c186, V4.c187, V4.c188, V4.n5, V4.n13, V4.n14, V4.i0, V4.i5, V4.i6, V4.i7, V4.i8, V4.i9, V4.i10, V4.i11, V4.i12, V4.i13, V4.i14, V4.i15, V4.i21, V4.i22, P4.f6, P4.f7, P4.f8, P4.f9, P4.f10, P4.f11, P4.f12, P4.f15, P4.c175, P4.c176, hD2, es, lt_le, h3']
                exact nxt _ _ sm4 P4 (by rw [if_neg h3])
            · rw [if_neg (fun z => hD2 z.2)] at hdg
              simp (disch := first | omega | decide | assumption | exact Nat.le_of_ble_eq_true rfl) only [s175_157, ow_some, true_and, and_true, and_self, if_true, if_false, not_true, not_false_eq_true, Bool.false_eq_true, eq_self, Option.toList, List.cons_append, List.nil_append, ix_in, ix_cl, lt_in, lt_cl, lt_add, ix_one, vu_eq, vu_ne, arI_mk, arL_mk, arY_mZ, arY_mB, alen_mI, fld_sfl_ne, fld_sfl_same, Option.isSome_some, pok_i, b1z, b01, z10, b1o, Int32.zero_add, vu_vu, upd_eq, upd_ne, true_or, or_true, V4.r1, V4.r2, V4.r3, V4.r4, V4.r16, V4.r17, V4.r18, V4.r19, V4.r20, V4.r23, V4.r24, V4.r25, V4.r26, V4.r27, V4.r28, V4.r29, V4.r30, V4.c172, V4.c173, V4.c174, V4.c186, V4.c187, V4.c188, V4.n5, V4.n13, V4.n14, V4.i0, V4.i5, V4.i6, V4.i7, V4.i8, V4.i9, V4.i10, V4.i11, V4.i12, V4.i13, V4.i14, V4.i15, V4.i21, V4.i22, P4.f6, P4.f7, P4.f8, P4.f9, P4.f10, P4.f11, P4.f12, P4.f15, P4.c175, P4.c176, hD2]
              exact dtail h e n sm4 P4 hje (by omega) hdg
          · rintro h n ⟨sm4, P4, hje, hdg⟩
            have V4 := P4.V
            rw [Nat.sub_self, dg] at hdg
            simp (disch := first | omega | decide | assumption | exact Nat.le_of_ble_eq_true rfl) only [s175_146, s175_147, s175_148, ow_some, true_and, and_true, and_self, if_true, if_false, not_true, not_false_eq_true, Bool.false_eq_true, eq_self, Option.toList, List.cons_append, List.nil_append, ix_in, ix_cl, lt_in, lt_cl, lt_add, ix_one, vu_eq, vu_ne, arI_mk, arL_mk, arY_mZ, arY_mB, alen_mI, fld_sfl_ne, fld_sfl_same, Option.isSome_some, pok_i, b1z, b01, z10, b1o, Int32.zero_add, vu_vu, upd_eq, upd_ne, true_or, or_true, V4.r1, V4.r2, V4.r3, V4.r4, V4.r16, V4.r17, V4.r18, V4.r19, V4.r20, V4.r23, V4.r24, V4.r25, V4.r26, V4.r27, V4.r28, V4.r29, V4.r30, V4.c172, V4.c173, V4.c174, V4.c186, V4.c187, V4.c188, V4.n5, V4.n13, V4.n14, V4.i0, V4.i5, V4.i6, V4.i7, V4.i8, V4.i9, V4.i10, V4.i11, V4.i12, V4.i13, V4.i14, V4.i15, V4.i21, V4.i22, P4.f6, P4.f7, P4.f8, P4.f9, P4.f10, P4.f11, P4.f12, P4.f15, P4.c175, P4.c176]
            rw [p175_151 (cno_MR V4.mr) (Nat.le_of_ble_eq_true rfl) (ps_see P4 hz hz)]
            simp only [Option.toList, List.cons_append, List.nil_append]
            rw [p175_154 (Nat.le_of_ble_eq_true rfl) sp_isDigit, sg_ge (Nat.le_refl _)]
            have hD3 : (isD (-1) = true) = False := eq_false (by decide)
            simp (disch := first | omega | decide | assumption | exact Nat.le_of_ble_eq_true rfl) only [s175_157, ow_some, true_and, and_true, and_self, if_true, if_false, not_true, not_false_eq_true, Bool.false_eq_true, eq_self, Option.toList, List.cons_append, List.nil_append, ix_in, ix_cl, lt_in, lt_cl, lt_add, ix_one, vu_eq, vu_ne, arI_mk, arL_mk, arY_mZ, arY_mB, alen_mI, fld_sfl_ne, fld_sfl_same, Option.isSome_some, pok_i, b1z, b01, z10, b1o, Int32.zero_add, vu_vu, upd_eq, upd_ne, true_or, or_true, V4.r1, V4.r2, V4.r3, V4.r4, V4.r16, V4.r17, V4.r18, V4.r19, V4.r20, V4.r23, V4.r24, V4.r25, V4.r26, V4.r27, V4.r28, V4.r29, V4.r30, V4.c172, V4.c173, V4.c174, V4.c186, V4.c187, V4.c188, V4.n5, V4.n13, V4.n14, V4.i0, V4.i5, V4.i6, V4.i7, V4.i8, V4.i9, V4.i10, V4.i11, V4.i12, V4.i13, V4.i14, V4.i15, V4.i21, V4.i22, P4.f6, P4.f7, P4.f8, P4.f9, P4.f10, P4.f11, P4.f12, P4.f15, P4.c175, P4.c176, hD3]
            exact dtail h sz n sm4 P4 hje (Nat.le_refl _) hdg
        · rw [if_neg hD] at hlx
          simp (disch := first | omega | decide | assumption | exact Nat.le_of_ble_eq_true rfl) only [s175_138, s175_236, s175_237, s175_237i, s175_238, s175_241, s175_242, s175_243, ow_some, true_and, and_true, and_self, if_true, if_false, not_true, not_false_eq_true, Bool.false_eq_true, eq_self, Option.toList, List.cons_append, List.nil_append, ix_in, ix_cl, lt_in, lt_cl, lt_add, ix_one, vu_eq, vu_ne, arI_mk, arL_mk, arY_mZ, arY_mB, alen_mI, fld_sfl_ne, fld_sfl_same, Option.isSome_some, pok_i, b1z, b01, z10, b1o, Int32.zero_add, vu_vu, upd_eq, upd_ne, true_or, or_true, V2.r1, V2.r2, V2.r3, V2.r4, V2.r16, V2.r17, V2.r18, V2.r19, V2.r20, V2.r23, V2.r24, V2.r25, V2.r26, V2.r27, V2.r28, V2.r29, V2.r30, V2.c172, V2.c173, V2.c174, V2.c186, V2.c187, V2.c188, V2.n5, V2.n13, V2.n14, V2.i0, V2.i5, V2.i6, V2.i7, V2.i8, V2.i9, V2.i10, V2.i11, V2.i12, V2.i13, V2.i14, V2.i15, V2.i21, V2.i22, P2.f6, P2.f7, P2.f8, P2.f9, P2.f10, P2.f11, P2.f12, P2.f15, P2.c175, P2.c176, hD]
          have P3 := P2.s7 (y := j + 1)
          have V3 := P3.V
          have sm3 : SM f (va_up g2 171 (sfl (g2 171) 7 (.int (nI (j + 1))))) := sm2.tr (SM.up (by omega) (by omega))
          generalize va_up g2 171 (sfl (g2 171) 7 (.int (nI (j + 1)))) = g3 at P3 sm3 V3 ⊢
          simp (disch := first | omega | decide | assumption | exact Nat.le_of_ble_eq_true rfl) only [s175_246, s175_247, s175_249, s175_252, h175_253, ow_some, true_and, and_true, and_self, if_true, if_false, not_true, not_false_eq_true, Bool.false_eq_true, eq_self, Option.toList, List.cons_append, List.nil_append, ix_in, ix_cl, lt_in, lt_cl, lt_add, ix_one, vu_eq, vu_ne, arI_mk, arL_mk, arY_mZ, arY_mB, alen_mI, fld_sfl_ne, fld_sfl_same, Option.isSome_some, pok_i, b1z, b01, z10, b1o, Int32.zero_add, vu_vu, upd_eq, upd_ne, true_or, or_true, V3.r1, V3.r2, V3.r3, V3.r4, V3.r16, V3.r17, V3.r18, V3.r19, V3.r20, V3.r23, V3.r24, V3.r25, V3.r26, V3.r27, V3.r28, V3.r29, V3.r30, V3.c172, V3.c173, V3.c174, V3.c186, V3.c187, V3.c188, V3.n5, V3.n13, V3.n14, V3.i0, V3.i5, V3.i6, V3.i7, V3.i8, V3.i9, V3.i10, V3.i11, V3.i12, V3.i13, V3.i14, V3.i15, V3.i21, V3.i22, P3.f6, P3.f7, P3.f8, P3.f9, P3.f10, P3.f11, P3.f12, P3.f15, P3.c175, P3.c176]
          have P4 := P3.s9 (y := 25)
          have sm4 : SM f (va_up g3 171 (sfl (g3 171) 9 (.int 25))) := sm3.tr (SM.up (by omega) (by omega))
          generalize va_up g3 171 (sfl (g3 171) 9 (.int 25)) = g4 at P4 sm4 ⊢
          have q3 : (3 : Nat) < 4 := by decide
          refine lp (fun k h (_ : Unit) => SM f h ∧ PS h s fr ag sz j (j + 1) (si (s.2.2.1 j) k) nm wr wa rd) (fun k _ => [.ref 171, .int (nI k)]) 12 ?_ ?_ 0 g4 () (by omega) ⟨sm4, P4⟩
          · rintro k h _ hk ⟨sm5, P5⟩ hI
            have V5 := P5.V
            have hc : (12 ≤ k) = False := eq_false (by omega)
            have len : PU X (d + 4) 309 [.retAddr 3] h N K (some (.int (nI 12))) := by have := sp_length (X := X) (d := d + 3) (N := N) (K := K) (f := h) q3; rwa [l3] at this
            simp (disch := first | omega | decide | assumption | exact Nat.le_of_ble_eq_true rfl) only [s175_254, s175_255, ow_some, true_and, and_true, and_self, if_true, if_false, not_true, not_false_eq_true, Bool.false_eq_true, eq_self, Option.toList, List.cons_append, List.nil_append, ix_in, ix_cl, lt_in, lt_cl, lt_add, ix_one, vu_eq, vu_ne, arI_mk, arL_mk, arY_mZ, arY_mB, alen_mI, fld_sfl_ne, fld_sfl_same, Option.isSome_some, pok_i, b1z, b01, z10, b1o, Int32.zero_add, vu_vu, upd_eq, upd_ne, true_or, or_true, V5.r1, V5.r2, V5.r3, V5.r4, V5.r16, V5.r17, V5.r18, V5.r19, V5.r20, V5.r23, V5.r24, V5.r25, V5.r26, V5.r27, V5.r28, V5.r29, V5.r30, V5.c172, V5.c173, V5.c174, V5.c186, V5.c187, V5.c188, V5.n5, V5.n13, V5.n14, V5.i0, V5.i5, V5.i6, V5.i7, V5.i8, V5.i9, V5.i10, V5.i11, V5.i12, V5.i13, V5.i14, V5.i15, V5.i21, V5.i22, P5.f6, P5.f7, P5.f8, P5.f9, P5.f10, P5.f11, P5.f12, P5.f15, P5.c175, P5.c176]
            rw [p175_257 q3 (Nat.le_of_ble_eq_true rfl) len]
            simp (disch := first | omega | decide | assumption | exact Nat.le_of_ble_eq_true rfl) only [s175_260, s175_263, s175_264, s175_265, ow_some, true_and, and_true, and_self, if_true, if_false, not_true, not_false_eq_true, Bool.false_eq_true, eq_self, Option.toList, List.cons_append, List.nil_append, ix_in, ix_cl, lt_in, lt_cl, lt_add, ix_one, vu_eq, vu_ne, arI_mk, arL_mk, arY_mZ, arY_mB, alen_mI, fld_sfl_ne, fld_sfl_same, Option.isSome_some, pok_i, b1z, b01, z10, b1o, Int32.zero_add, vu_vu, upd_eq, upd_ne, true_or, or_true, V5.r1, V5.r2, V5.r3, V5.r4, V5.r16, V5.r17, V5.r18, V5.r19, V5.r20, V5.r23, V5.r24, V5.r25, V5.r26, V5.r27, V5.r28, V5.r29, V5.r30, V5.c172, V5.c173, V5.c174, V5.c186, V5.c187, V5.c188, V5.n5, V5.n13, V5.n14, V5.i0, V5.i5, V5.i6, V5.i7, V5.i8, V5.i9, V5.i10, V5.i11, V5.i12, V5.i13, V5.i14, V5.i15, V5.i21, V5.i22, P5.f6, P5.f7, P5.f8, P5.f9, P5.f10, P5.f11, P5.f12, P5.f15, P5.c175, P5.c176, ix_le, hc]
            rw [p175_268 (cno_MR V5.mr) (Nat.le_of_ble_eq_true rfl) (ps_see P5 hz (show j ≤ 900 by omega)), hsj]
            simp (disch := first | omega | decide | assumption | exact Nat.le_of_ble_eq_true rfl) only [s175_271, s175_273, ow_some, true_and, and_true, and_self, if_true, if_false, not_true, not_false_eq_true, Bool.false_eq_true, eq_self, Option.toList, List.cons_append, List.nil_append, ix_in, ix_cl, lt_in, lt_cl, lt_add, ix_one, vu_eq, vu_ne, arI_mk, arL_mk, arY_mZ, arY_mB, alen_mI, fld_sfl_ne, fld_sfl_same, Option.isSome_some, pok_i, b1z, b01, z10, b1o, Int32.zero_add, vu_vu, upd_eq, upd_ne, true_or, or_true, V5.r1, V5.r2, V5.r3, V5.r4, V5.r16, V5.r17, V5.r18, V5.r19, V5.r20, V5.r23, V5.r24, V5.r25, V5.r26, V5.r27, V5.r28, V5.r29, V5.r30, V5.c172, V5.c173, V5.c174, V5.c186, V5.c187, V5.c188, V5.n5, V5.n13, V5.n14, V5.i0, V5.i5, V5.i6, V5.i7, V5.i8, V5.i9, V5.i10, V5.i11, V5.i12, V5.i13, V5.i14, V5.i15, V5.i21, V5.i22, P5.f6, P5.f7, P5.f8, P5.f9, P5.f10, P5.f11, P5.f12, P5.f15, P5.c175, P5.c176]
            rw [p175_274 q3 (Nat.le_of_ble_eq_true rfl) (sp_charAt (i := k) q3 (by rw [l3]; exact hk))]
            by_cases hq : s.2.2.1 j = s_at 3 k
            · simp (disch := first | omega | decide | assumption | exact Nat.le_of_ble_eq_true rfl) only [s175_277, s175_280, s175_281, s175_283, s175_284, s175_285, s175_288, h175_291, ow_some, true_and, and_true, and_self, if_true, if_false, not_true, not_false_eq_true, Bool.false_eq_true, eq_self, Option.toList, List.cons_append, List.nil_append, ix_in, ix_cl, lt_in, lt_cl, lt_add, ix_one, vu_eq, vu_ne, arI_mk, arL_mk, arY_mZ, arY_mB, alen_mI, fld_sfl_ne, fld_sfl_same, Option.isSome_some, pok_i, b1z, b01, z10, b1o, Int32.zero_add, vu_vu, upd_eq, upd_ne, true_or, or_true, V5.r1, V5.r2, V5.r3, V5.r4, V5.r16, V5.r17, V5.r18, V5.r19, V5.r20, V5.r23, V5.r24, V5.r25, V5.r26, V5.r27, V5.r28, V5.r29, V5.r30, V5.c172, V5.c173, V5.c174, V5.c186, V5.c187, V5.c188, V5.n5, V5.n13, V5.n14, V5.i0, V5.i5, V5.i6, V5.i7, V5.i8, V5.i9, V5.i10, V5.i11, V5.i12, V5.i13, V5.i14, V5.i15, V5.i21, V5.i22, P5.f6, P5.f7, P5.f8, P5.f9, P5.f10, P5.f11, P5.f12, P5.f15, P5.c175, P5.c176, hq]
              refine hI _ () ⟨sm5.tr (SM.up (by omega) (by omega)), ?_⟩
              have : si (s.2.2.1 j) (k + 1) = nI (30 + k) := by unfold si; rw [fo_s, if_pos hq]
              rw [this]
              exact P5.s9
            · simp (disch := first | omega | decide | assumption | exact Nat.le_of_ble_eq_true rfl) only [s175_277, s175_288, h175_291, ow_some, true_and, and_true, and_self, if_true, if_false, not_true, not_false_eq_true, Bool.false_eq_true, eq_self, Option.toList, List.cons_append, List.nil_append, ix_in, ix_cl, lt_in, lt_cl, lt_add, ix_one, vu_eq, vu_ne, arI_mk, arL_mk, arY_mZ, arY_mB, alen_mI, fld_sfl_ne, fld_sfl_same, Option.isSome_some, pok_i, b1z, b01, z10, b1o, Int32.zero_add, vu_vu, upd_eq, upd_ne, true_or, or_true, V5.r1, V5.r2, V5.r3, V5.r4, V5.r16, V5.r17, V5.r18, V5.r19, V5.r20, V5.r23, V5.r24, V5.r25, V5.r26, V5.r27, V5.r28, V5.r29, V5.r30, V5.c172, V5.c173, V5.c174, V5.c186, V5.c187, V5.c188, V5.n5, V5.n13, V5.n14, V5.i0, V5.i5, V5.i6, V5.i7, V5.i8, V5.i9, V5.i10, V5.i11, V5.i12, V5.i13, V5.i14, V5.i15, V5.i21, V5.i22, P5.f6, P5.f7, P5.f8, P5.f9, P5.f10, P5.f11, P5.f12, P5.f15, P5.c175, P5.c176, hq]
              refine hI _ () ⟨sm5, ?_⟩
              have : si (s.2.2.1 j) (k + 1) = si (s.2.2.1 j) k := by unfold si; rw [fo_s, if_neg hq]
              rw [this]
              exact P5
          · rintro h _ ⟨sm5, P5⟩
            have V5 := P5.V
            have len : PU X (d + 4) 309 [.retAddr 3] h N K (some (.int (nI 12))) := by have := sp_length (X := X) (d := d + 3) (N := N) (K := K) (f := h) q3; rwa [l3] at this
            simp (disch := first | omega | decide | assumption | exact Nat.le_of_ble_eq_true rfl) only [s175_254, s175_255, ow_some, true_and, and_true, and_self, if_true, if_false, not_true, not_false_eq_true, Bool.false_eq_true, eq_self, Option.toList, List.cons_append, List.nil_append, ix_in, ix_cl, lt_in, lt_cl, lt_add, ix_one, vu_eq, vu_ne, arI_mk, arL_mk, arY_mZ, arY_mB, alen_mI, fld_sfl_ne, fld_sfl_same, Option.isSome_some, pok_i, b1z, b01, z10, b1o, Int32.zero_add, vu_vu, upd_eq, upd_ne, true_or, or_true, V5.r1, V5.r2, V5.r3, V5.r4, V5.r16, V5.r17, V5.r18, V5.r19, V5.r20, V5.r23, V5.r24, V5.r25, V5.r26, V5.r27, V5.r28, V5.r29, V5.r30, V5.c172, V5.c173, V5.c174, V5.c186, V5.c187, V5.c188, V5.n5, V5.n13, V5.n14, V5.i0, V5.i5, V5.i6, V5.i7, V5.i8, V5.i9, V5.i10, V5.i11, V5.i12, V5.i13, V5.i14, V5.i15, V5.i21, V5.i22, P5.f6, P5.f7, P5.f8, P5.f9, P5.f10, P5.f11, P5.f12, P5.f15, P5.c175, P5.c176]
            rw [p175_257 q3 (Nat.le_of_ble_eq_true rfl) len]
            simp (disch := first | omega | decide | assumption | exact Nat.le_of_ble_eq_true rfl) only [s175_260, ow_some, true_and, and_true, and_self, if_true, if_false, not_true, not_false_eq_true, Bool.false_eq_true, eq_self, Option.toList, List.cons_append, List.nil_append, ix_in, ix_cl, lt_in, lt_cl, lt_add, ix_one, vu_eq, vu_ne, arI_mk, arL_mk, arY_mZ, arY_mB, alen_mI, fld_sfl_ne, fld_sfl_same, Option.isSome_some, pok_i, b1z, b01, z10, b1o, Int32.zero_add, vu_vu, upd_eq, upd_ne, true_or, or_true, V5.r1, V5.r2, V5.r3, V5.r4, V5.r16, V5.r17, V5.r18, V5.r19, V5.r20, V5.r23, V5.r24, V5.r25, V5.r26, V5.r27, V5.r28, V5.r29, V5.r30, V5.c172, V5.c173, V5.c174, V5.c186, V5.c187, V5.c188, V5.n5, V5.n13, V5.n14, V5.i0, V5.i5, V5.i6, V5.i7, V5.i8, V5.i9, V5.i10, V5.i11, V5.i12, V5.i13, V5.i14, V5.i15, V5.i21, V5.i22, P5.f6, P5.f7, P5.f8, P5.f9, P5.f10, P5.f11, P5.f12, P5.f15, P5.c175, P5.c176, ix_le, Nat.le_refl]
            exact fin _ (j + 1) (si (s.2.2.1 j) 12) nm sm5 P5 hlx _
  refine lp (fun j g (_ : Unit) => SM f g ∧ PS g s fr ag sz j b kd nm wr wa rd ∧ sk s.2.2.1 sz (sz - b) b = sk s.2.2.1 sz (sz - j) j) (fun _ _ => [.ref 171, a1]) sz ?_ ?_ b f0 () hb ⟨sm0, P0, rfl⟩
  · rintro j g _ hj ⟨sm, P1, he⟩ hI
    have V1 := P1.V
    obtain ⟨m, hm⟩ : ∃ m, sz - j = m + 1 := ⟨sz - j - 1, by omega⟩
    rw [hm, sk_s m] at he
    simp (disch := first | omega | decide | assumption | exact Nat.le_of_ble_eq_true rfl) only [s175_8, s175_9, s175_10, ow_some, true_and, and_true, and_self, if_true, if_false, not_true, not_false_eq_true, Bool.false_eq_true, eq_self, Option.toList, List.cons_append, List.nil_append, ix_in, ix_cl, lt_in, lt_cl, lt_add, ix_one, vu_eq, vu_ne, arI_mk, arL_mk, arY_mZ, arY_mB, alen_mI, fld_sfl_ne, fld_sfl_same, Option.isSome_some, pok_i, b1z, b01, z10, b1o, Int32.zero_add, vu_vu, upd_eq, upd_ne, true_or, or_true, V1.r1, V1.r2, V1.r3, V1.r4, V1.r16, V1.r17, V1.r18, V1.r19, V1.r20, V1.r23, V1.r24, V1.r25, V1.r26, V1.r27, V1.r28, V1.r29, V1.r30, V1.c172, V1.c173, V1.c174, V1.c186, V1.c187, V1.c188, V1.n5, V1.n13, V1.n14, V1.i0, V1.i5, V1.i6, V1.i7, V1.i8, V1.i9, V1.i10, V1.i11, V1.i12, V1.i13, V1.i14, V1.i15, V1.i21, V1.i22, P1.f6, P1.f7, P1.f8, P1.f9, P1.f10, P1.f11, P1.f12, P1.f15, P1.c175, P1.c176]
    rw [p175_13 (cno_MR V1.mr) (Nat.le_of_ble_eq_true rfl) (ps_see P1 hz (show j ≤ 900 by omega)), sg_lt hj]
    by_cases h1 : s.2.2.1 j = 10
    · rw [if_pos ⟨hj, Or.inl h1⟩] at he
      simp (disch := first | omega | decide | assumption | exact Nat.le_of_ble_eq_true rfl) only [s175_16, s175_18, s175_34, s175_35, s175_35i, s175_36, s175_39, s175_40, s175_41, h175_44, ow_some, true_and, and_true, and_self, if_true, if_false, not_true, not_false_eq_true, Bool.false_eq_true, eq_self, Option.toList, List.cons_append, List.nil_append, ix_in, ix_cl, lt_in, lt_cl, lt_add, ix_one, vu_eq, vu_ne, arI_mk, arL_mk, arY_mZ, arY_mB, alen_mI, fld_sfl_ne, fld_sfl_same, Option.isSome_some, pok_i, b1z, b01, z10, b1o, Int32.zero_add, vu_vu, upd_eq, upd_ne, true_or, or_true, V1.r1, V1.r2, V1.r3, V1.r4, V1.r16, V1.r17, V1.r18, V1.r19, V1.r20, V1.r23, V1.r24, V1.r25, V1.r26, V1.r27, V1.r28, V1.r29, V1.r30, V1.c172, V1.c173, V1.c174, V1.c186, V1.c187, V1.c188, V1.n5, V1.n13, V1.n14, V1.i0, V1.i5, V1.i6, V1.i7, V1.i8, V1.i9, V1.i10, V1.i11, V1.i12, V1.i13, V1.i14, V1.i15, V1.i21, V1.i22, P1.f6, P1.f7, P1.f8, P1.f9, P1.f10, P1.f11, P1.f12, P1.f15, P1.c175, P1.c176, h1]
      exact hI _ () ⟨sm.tr (SM.up (by omega) (by omega)), P1.s6, by rw [he, show sz - (j + 1) = m by omega]⟩
    · simp (disch := first | omega | decide | assumption | exact Nat.le_of_ble_eq_true rfl) only [s175_16, s175_18, s175_21, s175_22, s175_23, ow_some, true_and, and_true, and_self, if_true, if_false, not_true, not_false_eq_true, Bool.false_eq_true, eq_self, Option.toList, List.cons_append, List.nil_append, ix_in, ix_cl, lt_in, lt_cl, lt_add, ix_one, vu_eq, vu_ne, arI_mk, arL_mk, arY_mZ, arY_mB, alen_mI, fld_sfl_ne, fld_sfl_same, Option.isSome_some, pok_i, b1z, b01, z10, b1o, Int32.zero_add, vu_vu, upd_eq, upd_ne, true_or, or_true, V1.r1, V1.r2, V1.r3, V1.r4, V1.r16, V1.r17, V1.r18, V1.r19, V1.r20, V1.r23, V1.r24, V1.r25, V1.r26, V1.r27, V1.r28, V1.r29, V1.r30, V1.c172, V1.c173, V1.c174, V1.c186, V1.c187, V1.c188, V1.n5, V1.n13, V1.n14, V1.i0, V1.i5, V1.i6, V1.i7, V1.i8, V1.i9, V1.i10, V1.i11, V1.i12, V1.i13, V1.i14, V1.i15, V1.i21, V1.i22, P1.f6, P1.f7, P1.f8, P1.f9, P1.f10, P1.f11, P1.f12, P1.f15, P1.c175, P1.c176, h1]
      rw [p175_26 (cno_MR V1.mr) (Nat.le_of_ble_eq_true rfl) (ps_see P1 hz (show j ≤ 900 by omega)), sg_lt hj]
      by_cases h2 : s.2.2.1 j = 32
      · rw [if_pos ⟨hj, Or.inr h2⟩] at he
        simp (disch := first | omega | decide | assumption | exact Nat.le_of_ble_eq_true rfl) only [s175_29, s175_31, s175_34, s175_35, s175_35i, s175_36, s175_39, s175_40, s175_41, h175_44, ow_some, true_and, and_true, and_self, if_true, if_false, not_true, not_false_eq_true, Bool.false_eq_true, eq_self, Option.toList, List.cons_append, List.nil_append, ix_in, ix_cl, lt_in, lt_cl, lt_add, ix_one, vu_eq, vu_ne, arI_mk, arL_mk, arY_mZ, arY_mB, alen_mI, fld_sfl_ne, fld_sfl_same, Option.isSome_some, pok_i, b1z, b01, z10, b1o, Int32.zero_add, vu_vu, upd_eq, upd_ne, true_or, or_true, V1.r1, V1.r2, V1.r3, V1.r4, V1.r16, V1.r17, V1.r18, V1.r19, V1.r20, V1.r23, V1.r24, V1.r25, V1.r26, V1.r27, V1.r28, V1.r29, V1.r30, V1.c172, V1.c173, V1.c174, V1.c186, V1.c187, V1.c188, V1.n5, V1.n13, V1.n14, V1.i0, V1.i5, V1.i6, V1.i7, V1.i8, V1.i9, V1.i10, V1.i11, V1.i12, V1.i13, V1.i14, V1.i15, V1.i21, V1.i22, P1.f6, P1.f7, P1.f8, P1.f9, P1.f10, P1.f11, P1.f12, P1.f15, P1.c175, P1.c176, h2]
        exact hI _ () ⟨sm.tr (SM.up (by omega) (by omega)), P1.s6, by rw [he, show sz - (j + 1) = m by omega]⟩
      · rw [if_neg (fun z => by rcases z.2 with q | q; exact h1 q; exact h2 q)] at he
        simp (disch := first | omega | decide | assumption | exact Nat.le_of_ble_eq_true rfl) only [s175_29, s175_31, ow_some, true_and, and_true, and_self, if_true, if_false, not_true, not_false_eq_true, Bool.false_eq_true, eq_self, Option.toList, List.cons_append, List.nil_append, ix_in, ix_cl, lt_in, lt_cl, lt_add, ix_one, vu_eq, vu_ne, arI_mk, arL_mk, arY_mZ, arY_mB, alen_mI, fld_sfl_ne, fld_sfl_same, Option.isSome_some, pok_i, b1z, b01, z10, b1o, Int32.zero_add, vu_vu, upd_eq, upd_ne, true_or, or_true, V1.r1, V1.r2, V1.r3, V1.r4, V1.r16, V1.r17, V1.r18, V1.r19, V1.r20, V1.r23, V1.r24, V1.r25, V1.r26, V1.r27, V1.r28, V1.r29, V1.r30, V1.c172, V1.c173, V1.c174, V1.c186, V1.c187, V1.c188, V1.n5, V1.n13, V1.n14, V1.i0, V1.i5, V1.i6, V1.i7, V1.i8, V1.i9, V1.i10, V1.i11, V1.i12, V1.i13, V1.i14, V1.i15, V1.i21, V1.i22, P1.f6, P1.f7, P1.f8, P1.f9, P1.f10, P1.f11, P1.f12, P1.f15, P1.c175, P1.c176, h2]
        exact post g j sm P1 (by omega) he
  · rintro g _ ⟨sm, P1, he⟩
    have V1 := P1.V
    rw [Nat.sub_self, sk] at he
    simp (disch := first | omega | decide | assumption | exact Nat.le_of_ble_eq_true rfl) only [s175_8, s175_9, s175_10, ow_some, true_and, and_true, and_self, if_true, if_false, not_true, not_false_eq_true, Bool.false_eq_true, eq_self, Option.toList, List.cons_append, List.nil_append, ix_in, ix_cl, lt_in, lt_cl, lt_add, ix_one, vu_eq, vu_ne, arI_mk, arL_mk, arY_mZ, arY_mB, alen_mI, fld_sfl_ne, fld_sfl_same, Option.isSome_some, pok_i, b1z, b01, z10, b1o, Int32.zero_add, vu_vu, upd_eq, upd_ne, true_or, or_true, V1.r1, V1.r2, V1.r3, V1.r4, V1.r16, V1.r17, V1.r18, V1.r19, V1.r20, V1.r23, V1.r24, V1.r25, V1.r26, V1.r27, V1.r28, V1.r29, V1.r30, V1.c172, V1.c173, V1.c174, V1.c186, V1.c187, V1.c188, V1.n5, V1.n13, V1.n14, V1.i0, V1.i5, V1.i6, V1.i7, V1.i8, V1.i9, V1.i10, V1.i11, V1.i12, V1.i13, V1.i14, V1.i15, V1.i21, V1.i22, P1.f6, P1.f7, P1.f8, P1.f9, P1.f10, P1.f11, P1.f12, P1.f15, P1.c175, P1.c176]
    rw [p175_13 (cno_MR V1.mr) (Nat.le_of_ble_eq_true rfl) (ps_see P1 hz hz), sg_ge (Nat.le_refl _)]
    simp (disch := first | omega | decide | assumption | exact Nat.le_of_ble_eq_true rfl) only [s175_16, s175_18, s175_21, s175_22, s175_23, ow_some, true_and, and_true, and_self, if_true, if_false, not_true, not_false_eq_true, Bool.false_eq_true, eq_self, Option.toList, List.cons_append, List.nil_append, ix_in, ix_cl, lt_in, lt_cl, lt_add, ix_one, vu_eq, vu_ne, arI_mk, arL_mk, arY_mZ, arY_mB, alen_mI, fld_sfl_ne, fld_sfl_same, Option.isSome_some, pok_i, b1z, b01, z10, b1o, Int32.zero_add, vu_vu, upd_eq, upd_ne, true_or, or_true, V1.r1, V1.r2, V1.r3, V1.r4, V1.r16, V1.r17, V1.r18, V1.r19, V1.r20, V1.r23, V1.r24, V1.r25, V1.r26, V1.r27, V1.r28, V1.r29, V1.r30, V1.c172, V1.c173, V1.c174, V1.c186, V1.c187, V1.c188, V1.n5, V1.n13, V1.n14, V1.i0, V1.i5, V1.i6, V1.i7, V1.i8, V1.i9, V1.i10, V1.i11, V1.i12, V1.i13, V1.i14, V1.i15, V1.i21, V1.i22, P1.f6, P1.f7, P1.f8, P1.f9, P1.f10, P1.f11, P1.f12, P1.f15, P1.c175, P1.c176, t1]
    rw [p175_26 (cno_MR V1.mr) (Nat.le_of_ble_eq_true rfl) (ps_see P1 hz hz), sg_ge (Nat.le_refl _)]
    simp (disch := first | omega | decide | assumption | exact Nat.le_of_ble_eq_true rfl) only [s175_29, s175_31, ow_some, true_and, and_true, and_self, if_true, if_false, not_true, not_false_eq_true, Bool.false_eq_true, eq_self, Option.toList, List.cons_append, List.nil_append, ix_in, ix_cl, lt_in, lt_cl, lt_add, ix_one, vu_eq, vu_ne, arI_mk, arL_mk, arY_mZ, arY_mB, alen_mI, fld_sfl_ne, fld_sfl_same, Option.isSome_some, pok_i, b1z, b01, z10, b1o, Int32.zero_add, vu_vu, upd_eq, upd_ne, true_or, or_true, V1.r1, V1.r2, V1.r3, V1.r4, V1.r16, V1.r17, V1.r18, V1.r19, V1.r20, V1.r23, V1.r24, V1.r25, V1.r26, V1.r27, V1.r28, V1.r29, V1.r30, V1.c172, V1.c173, V1.c174, V1.c186, V1.c187, V1.c188, V1.n5, V1.n13, V1.n14, V1.i0, V1.i5, V1.i6, V1.i7, V1.i8, V1.i9, V1.i10, V1.i11, V1.i12, V1.i13, V1.i14, V1.i15, V1.i21, V1.i22, P1.f6, P1.f7, P1.f8, P1.f9, P1.f10, P1.f11, P1.f12, P1.f15, P1.c175, P1.c176, t2]
    exact post g sz sm P1 (Nat.le_refl _) he
