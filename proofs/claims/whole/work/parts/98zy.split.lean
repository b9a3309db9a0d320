/-! the class splits the text -/
theorem sd_ne {c : Int32} (h : isD c = true) : ¬ isS c = true := by
  intro z
  unfold isS at z
  unfold isD at h
  simp only [Bool.and_eq_true, decide_eq_true_eq] at z h
  have h1 := z.1
  have h2 := h.2
  rw [Int32.le_iff_toInt_le] at h1 h2
  have e1 : (97 : Int32).toInt = 97 := by decide
  have e2 : (57 : Int32).toInt = 57 := by decide
  omega
theorem wh_ne {c : Int32} (h : wht c) : ¬ isS c = true ∧ ¬ isD c = true := by
  rcases h with rfl | rfl
  · decide
  · decide
def bb (tx : Nat → Int32) (L : Nat) (c0 : Cu) (t : Nat) : Nat := if t = 0 then 0 else (tk tx L c0 (t - 1)).2.1
theorem lx_kvd {tx tb : Nat → Int32} {f : Nat → e_C} {L b : Nat} {nm : Int32} {c : Cu} (B : TB f tb tx L) (hb : b ≤ L) (hc : c = lx tx L b nm) : kvd c ∧ cv L c := by
  have hcs := lx_cs hb hc
  refine ⟨⟨fun h => by rw [hc] at h ⊢; exact lx_num h, ?_⟩, ?_⟩
  · rcases hcs.2.2 with ⟨h1, h2, h3⟩ | ⟨h1, h2, h2', ⟨h3, h4, h5⟩ | ⟨h3, h4, h5, h6, h7⟩ | ⟨h3, h4, h5, h6⟩⟩
    · exact Or.inr ⟨24, by decide, h3⟩
    · refine Or.inr ⟨m_key tx c.1 c.2.1, ?_, h5⟩
      by_cases hq : ∃ k, k < 21 ∧ kq tx c.1 c.2.1 k = true
      · obtain ⟨k, k1, k2⟩ := hq
        rw [key_yes k1 k2]
        have : ∀ k, k < 21 → k ∈ kvl := by decide
        exact this k k1
      · rw [key_no (fun j hj => by
          cases hh : kq tx c.1 c.2.1 (pj j) with
          | false => rfl
          | true => exact absurd ⟨pj j, (pj_ck j hj).1, hh⟩ hq)]
        decide
    · by_cases h8 : c.2.1 - c.1 ≤ 3
      · rw [if_pos h8] at h6; exact Or.inl h6
      · rw [if_neg h8] at h6; exact Or.inr ⟨25, by decide, h6⟩
    · obtain ⟨b1, b2, b3, b4, -, b6⟩ := B.at h1
      obtain ⟨⟨k, k1, k2, k3⟩, -⟩ := b6 (by rw [← b1]; exact h3) (by rw [← b2]; exact h4) (fun z => h2 (by rcases z with z | z; exact Or.inl (b3.mpr z); exact Or.inr (b4.mpr z)))
      exact Or.inr ⟨k, k1, by rw [h6, k3]⟩
  · obtain ⟨⟨a1, a2, a3, a4⟩, -, h⟩ := hcs
    refine ⟨⟨a4, a2⟩, ?_⟩
    rcases h with ⟨-, -, h3⟩ | ⟨-, -, h2, -⟩
    · exact Or.inr h3
    · exact Or.inl h2
theorem tk_lx {tx tb : Nat → Int32} {f : Nat → e_C} {L : Nat} {nm : Int32} {c0 : Cu} (B : TB f tb tx L) (h0 : c0 = lx tx L 0 nm) : ∀ t, bb tx L c0 t ≤ L ∧ (∃ nm', tk tx L c0 t = lx tx L (bb tx L c0 t) nm') ∧ kvd (tk tx L c0 t) ∧ cv L (tk tx L c0 t) := by
  intro t
  induction t with
  | zero =>
    have := lx_kvd B (Nat.zero_le L) h0
    exact ⟨Nat.zero_le _, ⟨nm, h0⟩, this.1, this.2⟩
  | succ t ih =>
    have h1 : (tk tx L c0 t).2.1 ≤ L := ih.2.2.2.1.1
    have := lx_kvd (c := tk tx L c0 (t + 1)) B h1 rfl
    exact ⟨h1, ⟨_, rfl⟩, this.1, this.2⟩
/-- where a token begins -/
theorem bg_no {tx tb : Nat → Int32} {f : Nat → e_C} {L i t : Nat} {nm : Int32} {c0 : Cu} (B : TB f tb tx L) (h0 : c0 = lx tx L 0 nm) (hi : i < L) (hp : t = 0 ∨ (tk tx L c0 (t - 1)).1 < i) (hlt : i < (tk tx L c0 t).1) : bgn tb i = false := by
  obtain ⟨hbL, ⟨nm', e⟩, -, -⟩ := tk_lx B h0 t
  have hcs := lx_cs hbL e
  obtain ⟨b1, b2, b3, b4, -, -⟩ := B.at hi
  by_cases hbb : bb tx L c0 t ≤ i
  · have hw := hcs.2.1 i hbb hlt
    have hw' : wht (tb i) := by rcases hw with z | z; exact Or.inl (b3.mp z); exact Or.inr (b4.mp z)
    have hn := wh_ne hw'
    unfold bgn
    rw [if_neg hn.1, if_neg hn.2]
    rcases hw' with z | z
    · rw [decide_eq_true z]; rfl
    · rw [decide_eq_true z, Bool.not_true, Bool.and_false]
  · have ht : t ≠ 0 := fun z => hbb (by unfold bb; rw [if_pos z]; omega)
    have hp' : (tk tx L c0 (t - 1)).1 < i := by rcases hp with z | z; exact absurd z ht; exact z
    have hb2 : bb tx L c0 t = (tk tx L c0 (t - 1)).2.1 := if_neg ht
    obtain ⟨gbL, ⟨nm2, g⟩, -, -⟩ := tk_lx B h0 (t - 1)
    have gcs := lx_cs gbL g
    rw [hb2] at hbb
    obtain ⟨j, rfl⟩ : ∃ j, i = j + 1 := ⟨i - 1, by omega⟩
    obtain ⟨d1, d2, -, -, -, -⟩ := B.at (i := j) (by omega)
    have hpre : pre tb (j + 1) = tb j := by unfold pre; rw [if_neg (by omega)]; rfl
    rcases gcs.2.2 with ⟨h1, h2, h3⟩ | ⟨h1, h2, h2', ⟨h3, h4, h5⟩ | ⟨h3, h4, h5, h6, h7⟩ | ⟨h3, h4, h5, h6⟩⟩
    · omega
    · have hws := (we_sp (tx := tx) (sz := L) (L - (tk tx L c0 (t - 1)).1) (tk tx L c0 (t - 1)).1 (by omega)).1
      rw [← h4] at hws
      have s1 := hws (j + 1) (by omega) (by omega)
      have s2 := hws j (by omega) (by omega)
      rw [b1] at s1
      rw [d1] at s2
      unfold bgn
      rw [if_pos s1, hpre, s2]
      rfl
    · have hws := (dg_sp (tx := tx) (sz := L) (a := (tk tx L c0 (t - 1)).1) (L - (tk tx L c0 (t - 1)).1) (tk tx L c0 (t - 1)).1 0 (by omega)).1
      rw [← h5] at hws
      have s1 := hws (j + 1) (by omega) (by omega)
      have s2 := hws j (by omega) (by omega)
      rw [b2] at s1
      rw [d2] at s2
      unfold bgn
      rw [if_neg (sd_ne s1), if_pos s1, hpre, s2]
      rfl
    · omega
theorem bg_yes {tx tb : Nat → Int32} {f : Nat → e_C} {L i t : Nat} {nm : Int32} {c0 : Cu} (B : TB f tb tx L) (h0 : c0 = lx tx L 0 nm) (hi : i < L) (he : i = (tk tx L c0 t).1) : bgn tb i = true := by
  obtain ⟨hbL, ⟨nm', e⟩, -, -⟩ := tk_lx B h0 t
  have hcs := lx_cs hbL e
  obtain ⟨b1, b2, b3, b4, -, -⟩ := B.at hi
  have hnw : ¬ wht (tx i) := by
    rcases hcs.2.2 with ⟨h1, -⟩ | ⟨-, h2, -⟩
    · omega
    · rw [he]; exact h2
  -- what stands before is of another kind
  have pr : (isS (tb i) = true → ¬ isS (pre tb i) = true) ∧ (isD (tb i) = true → ¬ isD (pre tb i) = true) := by
    by_cases hi0 : i = 0
    · have : pre tb i = 32 := if_pos hi0
      rw [this]
      exact ⟨fun _ => by decide, fun _ => by decide⟩
    · obtain ⟨j, rfl⟩ : ∃ j, i = j + 1 := ⟨i - 1, by omega⟩
      have hpre : pre tb (j + 1) = tb j := by unfold pre; rw [if_neg (by omega)]; rfl
      obtain ⟨d1, d2, d3, d4, -, -⟩ := B.at (i := j) (by omega)
      rw [hpre, ← d1, ← d2, ← b1, ← b2]
      by_cases hbb : bb tx L c0 t ≤ j
      · have hw := wh_ne (hcs.2.1 j hbb (by omega))
        exact ⟨fun _ => hw.1, fun _ => hw.2⟩
      · have hle : bb tx L c0 t ≤ j + 1 := by rw [he]; exact hcs.1.1
        have ht : t ≠ 0 := fun z => hbb (by unfold bb; rw [if_pos z]; omega)
        have hb2 : bb tx L c0 t = (tk tx L c0 (t - 1)).2.1 := if_neg ht
        obtain ⟨gbL, ⟨nm2, g⟩, -, -⟩ := tk_lx B h0 (t - 1)
        have gcs := lx_cs gbL g
        rw [hb2] at hbb hle
        have hend : (tk tx L c0 (t - 1)).2.1 = j + 1 := by omega
        rcases gcs.2.2 with ⟨h1, h2, h3⟩ | ⟨h1, h2, h2', ⟨h3, h4, h5⟩ | ⟨h3, h4, h5, h6, h7⟩ | ⟨h3, h4, h5, h6⟩⟩
        · omega
        · have hws := we_sp (tx := tx) (sz := L) (L - (tk tx L c0 (t - 1)).1) (tk tx L c0 (t - 1)).1 (by omega)
          rw [← h4, hend] at hws
          have s2 := hws.1 j (by omega) (by omega)
          exact ⟨fun z => absurd z (hws.2 hi), fun _ z => sd_ne z s2⟩
        · have hws := dg_sp (tx := tx) (sz := L) (a := (tk tx L c0 (t - 1)).1) (L - (tk tx L c0 (t - 1)).1) (tk tx L c0 (t - 1)).1 0 (by omega)
          rw [← h5, hend] at hws
          have s2 := hws.1 j (by omega) (by omega)
          exact ⟨fun _ => sd_ne s2, fun z => absurd z (hws.2 hi)⟩
        · have : (tk tx L c0 (t - 1)).1 = j := by omega
          rw [this] at h3 h4
          exact ⟨fun _ => h3, fun _ => h4⟩
  unfold bgn
  by_cases hS : isS (tb i) = true
  · rw [if_pos hS]
    cases hh : isS (pre tb i) with
    | false => rfl
    | true => exact absurd hh (pr.1 hS)
  · rw [if_neg hS]
    by_cases hD : isD (tb i) = true
    · rw [if_pos hD]
      cases hh : isD (pre tb i) with
      | false => rfl
      | true => exact absurd hh (pr.2 hD)
    · rw [if_neg hD, decide_eq_false (fun z => hnw (Or.inl (b3.mpr z))), decide_eq_false (fun z => hnw (Or.inr (b4.mpr z)))]
      rfl
/-- the reader's cells while the text is split -/
def RDJ (f : Nat → e_C) : Prop := ∀ j, j < 9 → (fld (f 99) 3 j).isSome = true
def RS (f : Nat → e_C) (b L : Nat) (kk pp : Nat → Int32) (t : Nat) : Prop := (187 ≤ b ∧ L ≤ 900) ∧ fld (f 99) 3 0 = some (.ref 100) ∧ fld (f 99) 3 1 = some (.ref 101) ∧ fld (f 99) 3 2 = some (.int (nI t)) ∧ RDJ f ∧ arI (f 100) = some (901, kk) ∧ arI (f 101) = some (901, pp)
theorem RDJ.set {f : Nat → e_C} {i : Nat} {z : Value} (h : RDJ f) (hi : i < 9) : RDJ (va_up f 99 (sfl (f 99) i z)) := by
  intro j hj
  rw [vu_eq]
  by_cases e : j = i
  · subst e; rw [fld_sfl_same (h j hj)]; rfl
  · rw [fld_sfl_ne e]; exact h j hj
theorem RDJ.frm {f f' : Nat → e_C} (h : RDJ f) (e : f' 99 = f 99) : RDJ f' := by unfold RDJ; rw [e]; exact h
/-- cells that the splitting may change -/
def SK (b : Nat) (f f' : Nat → e_C) : Prop := ∀ a, ¬ (99 ≤ a ∧ a < 102) → a < b + 2 → f' a = f a
theorem SK.up {b a : Nat} {f : Nat → e_C} {c : e_C} (h : (99 ≤ a ∧ a < 102) ∨ b + 2 ≤ a) : SK b f (va_up f a c) := fun e p q => vu_ne (by omega)
theorem SK.tr {b : Nat} {f g h : Nat → e_C} (h1 : SK b f g) (h2 : SK b g h) : SK b f h := fun a p q => (h2 a p q).trans (h1 a p q)
section SPL
variable {X : Nat × (Nat → Int32)} {d N K : Nat} {f f0 : Nat → e_C} {tb tx : Nat → Int32} {L b : Nat} {nm : Int32} {c0 : Cu}
theorem sp_splitL (h0 : c0 = lx tx L 0 nm) (hL9 : L ≤ 900) : ∀ (m i t : Nat) (f : Nat → e_C) (kk pp : Nat → Int32), i + m = L → TB f tb tx L → RS f b L kk pp t → SK b f0 f → t ≤ i → (∀ t', t' < t → kk t' = ck (tk tx L c0 t') ∧ pp t' = nI (tk tx L c0 t').1 ∧ (tk tx L c0 t').2.2.1 ≠ 24 ∧ (tk tx L c0 t').2.2.1 ≠ 25) → (t = 0 ∨ (tk tx L c0 (t - 1)).1 < i) → i ≤ (tk tx L c0 t).1 → TT X (d + 7) 19 10 [.ref 99, .ref 1, .int (nI L), .int 1, .int (nI i)] [] f N K (fun f' n' k' z => n' = N ∧ k' = K ∧ z = none ∧ SK b f0 f' ∧ ∃ T kk pp, RS f' b L kk pp T ∧ TKS tx L c0 T kk pp) := by
  intro m
  -- the store of a token
  induction m with
  | zero =>
    intro i t f kk pp hm B R s hti hk hp hle
    obtain rfl : i = L := by omega
    obtain ⟨hb, r0, r1, r2, rd, a0, a1⟩ := R
    obtain ⟨hbL, ⟨nm', e⟩, kv, hcv⟩ := tk_lx B h0 t
    have hcs := lx_cs hbL e
    have h24 : (tk tx i c0 t).1 = i ∧ (tk tx i c0 t).2.2.1 = 24 := by
      rcases hcs.2.2 with ⟨h1, h2, h3⟩ | ⟨h1, -⟩
      · exact ⟨h1, h3⟩
      · omega
    have hck : ck (tk tx i c0 t) = 0 := by unfold ck; rw [h24.2, if_neg (by decide)]; decide
    simp (disch := first | omega | decide | assumption | exact Nat.le_of_ble_eq_true rfl) only [s19_10, s19_12, s19_13, s19_91, s19_92, s19_95, s19_96, s19_99, s19_100, s19_103, s19_104, ow_some, true_and, and_true, and_self, if_true, if_false, not_true, not_false_eq_true, Bool.false_eq_true, eq_self, Option.toList, List.cons_append, List.nil_append, ix_in, ix_cl, lt_in, lt_cl, lt_add, ix_one, vu_eq, vu_ne, arI_mk, arL_mk, arY_mZ, arY_mB, alen_mI, fld_sfl_ne, fld_sfl_same, Option.isSome_some, pok_i, b1z, b01, z10, b1o, Int32.zero_add, vu_vu, upd_eq, upd_ne, true_or, or_true, r0, r2, a0, ix_le, Nat.le_refl]
    have r1' : fld (va_up f 100 (.inl (.int, 901, .inl (upd kk t 0))) 99) 3 1 = some (.ref 101) := by rw [vu_ne (by omega)]; exact r1
    have r2' : fld (va_up f 100 (.inl (.int, 901, .inl (upd kk t 0))) 99) 3 2 = some (.int (nI t)) := by rw [vu_ne (by omega)]; exact r2
    have r0' : fld (va_up f 100 (.inl (.int, 901, .inl (upd kk t 0))) 99) 3 0 = some (.ref 100) := by rw [vu_ne (by omega)]; exact r0
    have a1' : arI (va_up f 100 (.inl (.int, 901, .inl (upd kk t 0))) 101) = some (901, pp) := by rw [vu_ne (by omega)]; exact a1
    have a0' : arI (va_up f 100 (.inl (.int, 901, .inl (upd kk t 0))) 100) = some (901, upd kk t 0) := by rw [vu_eq]; rfl
    have rd' : RDJ (va_up f 100 (.inl (.int, 901, .inl (upd kk t 0)))) := rd.frm (vu_ne (by omega))
    have s' : SK b f0 (va_up f 100 (.inl (.int, 901, .inl (upd kk t 0)))) := s.tr (SK.up (by omega))
    generalize va_up f 100 (.inl (.int, 901, .inl (upd kk t 0))) = f1 at r1' r2' r0' a1' a0' rd' s' ⊢
    simp (disch := first | omega | decide | assumption | exact Nat.le_of_ble_eq_true rfl) only [s19_105, s19_106, s19_109, s19_110, s19_113, s19_114, ow_some, true_and, and_true, and_self, if_true, if_false, not_true, not_false_eq_true, Bool.false_eq_true, eq_self, Option.toList, List.cons_append, List.nil_append, ix_in, ix_cl, lt_in, lt_cl, lt_add, ix_one, vu_eq, vu_ne, arI_mk, arL_mk, arY_mZ, arY_mB, alen_mI, fld_sfl_ne, fld_sfl_same, Option.isSome_some, pok_i, b1z, b01, z10, b1o, Int32.zero_add, vu_vu, upd_eq, upd_ne, true_or, or_true, r1', r2', a1']
    have r2'' : fld (va_up f1 101 (.inl (.int, 901, .inl (upd pp t (nI i)))) 99) 3 2 = some (.int (nI t)) := by rw [vu_ne (by omega)]; exact r2'
    have r1'' : fld (va_up f1 101 (.inl (.int, 901, .inl (upd pp t (nI i)))) 99) 3 1 = some (.ref 101) := by rw [vu_ne (by omega)]; exact r1'
    have r0'' : fld (va_up f1 101 (.inl (.int, 901, .inl (upd pp t (nI i)))) 99) 3 0 = some (.ref 100) := by rw [vu_ne (by omega)]; exact r0'
    have a1'' : arI (va_up f1 101 (.inl (.int, 901, .inl (upd pp t (nI i)))) 101) = some (901, upd pp t (nI i)) := by rw [vu_eq]; rfl
    have a0'' : arI (va_up f1 101 (.inl (.int, 901, .inl (upd pp t (nI i)))) 100) = some (901, upd kk t 0) := by rw [vu_ne (by omega)]; exact a0'
    have rd'' : RDJ (va_up f1 101 (.inl (.int, 901, .inl (upd pp t (nI i))))) := rd'.frm (vu_ne (by omega))
    have s'' : SK b f0 (va_up f1 101 (.inl (.int, 901, .inl (upd pp t (nI i))))) := s'.tr (SK.up (by omega))
    generalize va_up f1 101 (.inl (.int, 901, .inl (upd pp t (nI i)))) = f2 at r1'' r2'' r0'' a1'' a0'' rd'' s'' ⊢
    have i2 : (fld (f2 99) 3 2).isSome = true := by rw [r2'']; rfl
    simp (disch := first | omega | decide | assumption | exact Nat.le_of_ble_eq_true rfl) only [s19_115, s19_116, s19_116i, s19_117, s19_120, s19_121, s19_122, s19_125, ow_some, true_and, and_true, and_self, if_true, if_false, not_true, not_false_eq_true, Bool.false_eq_true, eq_self, Option.toList, List.cons_append, List.nil_append, ix_in, ix_cl, lt_in, lt_cl, lt_add, ix_one, vu_eq, vu_ne, arI_mk, arL_mk, arY_mZ, arY_mB, alen_mI, fld_sfl_ne, fld_sfl_same, Option.isSome_some, pok_i, b1z, b01, z10, b1o, Int32.zero_add, vu_vu, upd_eq, upd_ne, true_or, or_true, r2'', i2]
    refine ⟨s''.tr (SK.up (by omega)), t + 1, upd kk t 0, upd pp t (nI i), ⟨hb, ?_, ?_, ?_, rd''.set (by omega), ?_, ?_⟩, ⟨by omega, by omega, hL9⟩, fun t' ht' => ?_, fun t' ht' h1 h2 => ?_⟩
    · rw [vu_eq, fld_sfl_ne (by omega)]; exact r0''
    · rw [vu_eq, fld_sfl_ne (by omega)]; exact r1''
    · rw [vu_eq, fld_sfl_same i2]
    · rw [vu_ne (by omega)]; exact a0''
    · rw [vu_ne (by omega)]; exact a1''
    · have hx := tk_lx B h0 t'
      by_cases et : t' = t
      · subst et
        rw [upd_eq, upd_eq, hck, h24.1]
        exact ⟨rfl, rfl, hx.2.2.1, hx.2.2.2⟩
      · rw [upd_ne et, upd_ne et]
        obtain ⟨q1, q2, -⟩ := hk t' (by omega)
        exact ⟨q1, q2, hx.2.2.1, hx.2.2.2⟩
    · by_cases et : t' = t
      · subst et; exact absurd h24.2 h1
      · omega
  | succ m ih =>
    intro i t f kk pp hm B R s hti hk hp hle
    have hR := R
    obtain ⟨hb, r0, r1, r2, rd, a0, a1⟩ := R
    obtain ⟨hbL, ⟨nm', e⟩, kv, hcv⟩ := tk_lx B h0 t
    have hcs := lx_cs hbL e
    have c1 : (L ≤ i) = False := eq_false (by omega)
    simp (disch := first | omega | decide | assumption | exact Nat.le_of_ble_eq_true rfl) only [s19_10, s19_12, s19_13, s19_16, s19_17, s19_20, s19_21, ow_some, true_and, and_true, and_self, if_true, if_false, not_true, not_false_eq_true, Bool.false_eq_true, eq_self, Option.toList, List.cons_append, List.nil_append, ix_in, ix_cl, lt_in, lt_cl, lt_add, ix_one, vu_eq, vu_ne, arI_mk, arL_mk, arY_mZ, arY_mB, alen_mI, fld_sfl_ne, fld_sfl_same, Option.isSome_some, pok_i, b1z, b01, z10, b1o, Int32.zero_add, vu_vu, upd_eq, upd_ne, true_or, or_true, ix_le, c1, Nat.one_ne_zero, b1o]
    rw [p19_23 (Nat.le_of_ble_eq_true rfl) (sp_begins (d := d + 5) B (by omega))]
    by_cases hlt : i < (tk tx L c0 t).1
    · rw [bg_no B h0 (by omega) hp hlt]
      simp (disch := first | omega | decide | assumption | exact Nat.le_of_ble_eq_true rfl) only [s19_26, s19_85, h19_88, ow_some, true_and, and_true, and_self, if_true, if_false, not_true, not_false_eq_true, Bool.false_eq_true, eq_self, Option.toList, List.cons_append, List.nil_append, ix_in, ix_cl, lt_in, lt_cl, lt_add, ix_one, vu_eq, vu_ne, arI_mk, arL_mk, arY_mZ, arY_mB, alen_mI, fld_sfl_ne, fld_sfl_same, Option.isSome_some, pok_i, b1z, b01, z10, b1o, Int32.zero_add, vu_vu, upd_eq, upd_ne, true_or, or_true]
      exact ih (i + 1) t f kk pp (by omega) B hR s (by omega) hk (by rcases hp with z | z; exact Or.inl z; exact Or.inr (by omega)) (by omega)
    · have hie : i = (tk tx L c0 t).1 := by omega
      rw [bg_yes B h0 (by omega) hie]
      have hcs2 : i < L ∧ ¬ wht (tx (tk tx L c0 t).1) ∧ (tk tx L c0 t).1 < (tk tx L c0 t).2.1 ∧ ((isS (tx (tk tx L c0 t).1) = true ∧ (tk tx L c0 t).2.1 = we tx L (L - (tk tx L c0 t).1) (tk tx L c0 t).1 ∧ (tk tx L c0 t).2.2.1 = nI (m_key tx (tk tx L c0 t).1 (tk tx L c0 t).2.1)) ∨ (¬ isS (tx (tk tx L c0 t).1) = true ∧ isD (tx (tk tx L c0 t).1) = true ∧ (tk tx L c0 t).2.1 = (dg tx L (tk tx L c0 t).1 (L - (tk tx L c0 t).1) (tk tx L c0 t).1 0).1 ∧ (tk tx L c0 t).2.2.1 = (if (tk tx L c0 t).2.1 - (tk tx L c0 t).1 ≤ 3 then 23 else 25) ∧ (tk tx L c0 t).2.2.2 = (dg tx L (tk tx L c0 t).1 (L - (tk tx L c0 t).1) (tk tx L c0 t).1 0).2) ∨ (¬ isS (tx (tk tx L c0 t).1) = true ∧ ¬ isD (tx (tk tx L c0 t).1) = true ∧ (tk tx L c0 t).2.1 = (tk tx L c0 t).1 + 1 ∧ (tk tx L c0 t).2.2.1 = si (tx (tk tx L c0 t).1) 12)) := by
        rcases hcs.2.2 with ⟨h1, -⟩ | ⟨h1, h2, h3, h4⟩
        · omega
        · exact ⟨by omega, h2, h3, h4⟩
      have hne24 : (tk tx L c0 t).2.2.1 ≠ 24 := fun z => by
        rcases hcs2.2.2.2 with ⟨-, -, h5⟩ | ⟨-, -, -, h6, -⟩ | ⟨h3, h4, -, h6⟩
        · rw [h5, lit_nI 24] at z
          have := key_le (tx := tx) (a := (tk tx L c0 t).1) (b := (tk tx L c0 t).2.1)
          rw [ix_eq (by omega) (by omega)] at z
          omega
        · rw [h6] at z
          split at z <;> exact absurd z (by decide)
        · obtain ⟨b1, b2, b3, b4, -, b6⟩ := B.at (i := (tk tx L c0 t).1) (by omega)
          obtain ⟨⟨k, k1, k2, k3⟩, -⟩ := b6 (by rw [← b1]; exact h3) (by rw [← b2]; exact h4) (fun z => hcs2.2.1 (by rcases z with z | z; exact Or.inl (b3.mpr z); exact Or.inr (b4.mpr z)))
          rw [h6, k3, lit_nI 24] at z
          have := kv_lo k k1
          rw [ix_eq (by omega) (by omega)] at z
          omega
      have hka := sp_kindAt (X := X) (d := d) (N := N) (K := K) B (c := tk tx L c0 t) (by omega) hcs2.2.1 hcs2.2.2.2 (u3 := .float 0)
      rw [← hie] at hka
      simp (disch := first | omega | decide | assumption | exact Nat.le_of_ble_eq_true rfl) only [s19_26, s19_29, s19_30, s19_33, s19_34, s19_37, s19_38, s19_39, ow_some, true_and, and_true, and_self, if_true, if_false, not_true, not_false_eq_true, Bool.false_eq_true, eq_self, Option.toList, List.cons_append, List.nil_append, ix_in, ix_cl, lt_in, lt_cl, lt_add, ix_one, vu_eq, vu_ne, arI_mk, arL_mk, arY_mZ, arY_mB, alen_mI, fld_sfl_ne, fld_sfl_same, Option.isSome_some, pok_i, b1z, b01, z10, b1o, Int32.zero_add, vu_vu, upd_eq, upd_ne, true_or, or_true, r0, r2]
      rw [p19_41 (Nat.le_of_ble_eq_true rfl) hka]
      generalize hq : tk tx L c0 t = c at *
      simp (disch := first | omega | decide | assumption | exact Nat.le_of_ble_eq_true rfl) only [s19_44, ow_some, true_and, and_true, and_self, if_true, if_false, not_true, not_false_eq_true, Bool.false_eq_true, eq_self, Option.toList, List.cons_append, List.nil_append, ix_in, ix_cl, lt_in, lt_cl, lt_add, ix_one, vu_eq, vu_ne, arI_mk, arL_mk, arY_mZ, arY_mB, alen_mI, fld_sfl_ne, fld_sfl_same, Option.isSome_some, pok_i, b1z, b01, z10, b1o, Int32.zero_add, vu_vu, upd_eq, upd_ne, true_or, or_true, a0]
      have r1' : fld (va_up f 100 (.inl (.int, 901, .inl (upd kk t (ck c)))) 99) 3 1 = some (.ref 101) := by rw [vu_ne (by omega)]; exact r1
      have r2' : fld (va_up f 100 (.inl (.int, 901, .inl (upd kk t (ck c)))) 99) 3 2 = some (.int (nI t)) := by rw [vu_ne (by omega)]; exact r2
      have r0' : fld (va_up f 100 (.inl (.int, 901, .inl (upd kk t (ck c)))) 99) 3 0 = some (.ref 100) := by rw [vu_ne (by omega)]; exact r0
      have a1' : arI (va_up f 100 (.inl (.int, 901, .inl (upd kk t (ck c)))) 101) = some (901, pp) := by rw [vu_ne (by omega)]; exact a1
      have a0' : arI (va_up f 100 (.inl (.int, 901, .inl (upd kk t (ck c)))) 100) = some (901, upd kk t (ck c)) := by rw [vu_eq]; rfl
      have rd' : RDJ (va_up f 100 (.inl (.int, 901, .inl (upd kk t (ck c))))) := rd.frm (vu_ne (by omega))
      have s' : SK b f0 (va_up f 100 (.inl (.int, 901, .inl (upd kk t (ck c))))) := s.tr (SK.up (by omega))
      have B' : TB (va_up f 100 (.inl (.int, 901, .inl (upd kk t (ck c))))) tb tx L := B.fr (vu_ne (by omega))
      generalize va_up f 100 (.inl (.int, 901, .inl (upd kk t (ck c)))) = f1 at r1' r2' r0' a1' a0' rd' s' B' ⊢
      simp (disch := first | omega | decide | assumption | exact Nat.le_of_ble_eq_true rfl) only [s19_45, s19_46, s19_49, s19_50, s19_53, s19_55, ow_some, true_and, and_true, and_self, if_true, if_false, not_true, not_false_eq_true, Bool.false_eq_true, eq_self, Option.toList, List.cons_append, List.nil_append, ix_in, ix_cl, lt_in, lt_cl, lt_add, ix_one, vu_eq, vu_ne, arI_mk, arL_mk, arY_mZ, arY_mB, alen_mI, fld_sfl_ne, fld_sfl_same, Option.isSome_some, pok_i, b1z, b01, z10, b1o, Int32.zero_add, vu_vu, upd_eq, upd_ne, true_or, or_true, r1', r2', a1']
      have r2'' : fld (va_up f1 101 (.inl (.int, 901, .inl (upd pp t (nI i)))) 99) 3 2 = some (.int (nI t)) := by rw [vu_ne (by omega)]; exact r2'
      have r1'' : fld (va_up f1 101 (.inl (.int, 901, .inl (upd pp t (nI i)))) 99) 3 1 = some (.ref 101) := by rw [vu_ne (by omega)]; exact r1'
      have r0'' : fld (va_up f1 101 (.inl (.int, 901, .inl (upd pp t (nI i)))) 99) 3 0 = some (.ref 100) := by rw [vu_ne (by omega)]; exact r0'
      have a1'' : arI (va_up f1 101 (.inl (.int, 901, .inl (upd pp t (nI i)))) 101) = some (901, upd pp t (nI i)) := by rw [vu_eq]; rfl
      have a0'' : arI (va_up f1 101 (.inl (.int, 901, .inl (upd pp t (nI i)))) 100) = some (901, upd kk t (ck c)) := by rw [vu_ne (by omega)]; exact a0'
      have rd'' : RDJ (va_up f1 101 (.inl (.int, 901, .inl (upd pp t (nI i))))) := rd'.frm (vu_ne (by omega))
      have s'' : SK b f0 (va_up f1 101 (.inl (.int, 901, .inl (upd pp t (nI i))))) := s'.tr (SK.up (by omega))
      have B'' : TB (va_up f1 101 (.inl (.int, 901, .inl (upd pp t (nI i))))) tb tx L := B'.fr (vu_ne (by omega))
      generalize va_up f1 101 (.inl (.int, 901, .inl (upd pp t (nI i)))) = f2 at r1'' r2'' r0'' a1'' a0'' rd'' s'' B'' ⊢
      have i2 : (fld (f2 99) 3 2).isSome = true := by rw [r2'']; rfl
      have e2 : (ck c = 2) = (c.2.2.1 = 25) := ck_is kv 25 (by decide)
      have Rn : RS (va_up f2 99 (sfl (f2 99) 2 (.int (nI (t + 1))))) b L (upd kk t (ck c)) (upd pp t (nI i)) (t + 1) := by
        refine ⟨hb, ?_, ?_, ?_, rd''.set (by omega), ?_, ?_⟩
        · rw [vu_eq, fld_sfl_ne (by omega)]; exact r0''
        · rw [vu_eq, fld_sfl_ne (by omega)]; exact r1''
        · rw [vu_eq, fld_sfl_same i2]
        · rw [vu_ne (by omega)]; exact a0''
        · rw [vu_ne (by omega)]; exact a1''
      have sn : SK b f0 (va_up f2 99 (sfl (f2 99) 2 (.int (nI (t + 1))))) := s''.tr (SK.up (by omega))
      have Bn : TB (va_up f2 99 (sfl (f2 99) 2 (.int (nI (t + 1))))) tb tx L := B''.fr (vu_ne (by omega))
      have hkn : ∀ t', t' < t + 1 → upd kk t (ck c) t' = ck (tk tx L c0 t') ∧ upd pp t (nI i) t' = nI (tk tx L c0 t').1 := by
        intro t' ht'
        by_cases et : t' = t
        · subst et; rw [upd_eq, upd_eq, hq, ← hie]; exact ⟨rfl, rfl⟩
        · rw [upd_ne et, upd_ne et]
          obtain ⟨q1, q2, -⟩ := hk t' (by omega)
          exact ⟨q1, q2⟩
      by_cases h25 : c.2.2.1 = 25
      · have x25 : (c.2.2.1 = 25) = True := eq_true h25
        simp (disch := first | omega | decide | assumption | exact Nat.le_of_ble_eq_true rfl) only [s19_56, s19_57, s19_60, s19_61, s19_64, s19_65, s19_66, s19_73, s19_74, s19_75, s19_76, s19_76i, s19_77, s19_80, s19_81, s19_82, s19_85, h19_88, ow_some, true_and, and_true, and_self, if_true, if_false, not_true, not_false_eq_true, Bool.false_eq_true, eq_self, Option.toList, List.cons_append, List.nil_append, ix_in, ix_cl, lt_in, lt_cl, lt_add, ix_one, vu_eq, vu_ne, arI_mk, arL_mk, arY_mZ, arY_mB, alen_mI, fld_sfl_ne, fld_sfl_same, Option.isSome_some, pok_i, b1z, b01, z10, b1o, Int32.zero_add, vu_vu, upd_eq, upd_ne, true_or, or_true, r0'', r2'', a0'', i2, e2, x25]
        generalize va_up f2 99 (sfl (f2 99) 2 (.int (nI (t + 1)))) = f3 at Rn sn Bn ⊢
        have fin : TT X (d + 7) 19 91 [.ref 99, .ref 1, .int (nI L), .int 0, .int (nI (i + 1))] [] f3 N K (fun f' n' k' z => n' = N ∧ k' = K ∧ z = none ∧ SK b f0 f' ∧ ∃ T kk pp, RS f' b L kk pp T ∧ TKS tx L c0 T kk pp) := by
          simp (disch := first | omega | decide | assumption | exact Nat.le_of_ble_eq_true rfl) only [s19_91, s19_92, s19_125, ow_some, true_and, and_true, and_self, if_true, if_false, not_true, not_false_eq_true, Bool.false_eq_true, eq_self, Option.toList, List.cons_append, List.nil_append, ix_in, ix_cl, lt_in, lt_cl, lt_add, ix_one, vu_eq, vu_ne, arI_mk, arL_mk, arY_mZ, arY_mB, alen_mI, fld_sfl_ne, fld_sfl_same, Option.isSome_some, pok_i, b1z, b01, z10, b1o, Int32.zero_add, vu_vu, upd_eq, upd_ne, true_or, or_true]
          refine ⟨sn, t + 1, _, _, Rn, ⟨by omega, by omega, hL9⟩, fun t' ht' => ?_, fun t' ht' h1 h2 => ?_⟩
          · have hx := tk_lx B h0 t'
            exact ⟨(hkn t' ht').1, (hkn t' ht').2, hx.2.2.1, hx.2.2.2⟩
          · by_cases et : t' = t
            · subst et; rw [hq] at h2; exact absurd h25 h2
            · omega
        show TT X (d + 7) 19 10 [.ref 99, .ref 1, .int (nI L), .int 0, .int (nI (i + 1))] [] f3 N K _
        by_cases hiL : L ≤ i + 1
        · have c2 : (L ≤ i + 1) = True := eq_true hiL
          simp (disch := first | omega | decide | assumption | exact Nat.le_of_ble_eq_true rfl) only [s19_10, s19_12, s19_13, ow_some, true_and, and_true, and_self, if_true, if_false, not_true, not_false_eq_true, Bool.false_eq_true, eq_self, Option.toList, List.cons_append, List.nil_append, ix_in, ix_cl, lt_in, lt_cl, lt_add, ix_one, vu_eq, vu_ne, arI_mk, arL_mk, arY_mZ, arY_mB, alen_mI, fld_sfl_ne, fld_sfl_same, Option.isSome_some, pok_i, b1z, b01, z10, b1o, Int32.zero_add, vu_vu, upd_eq, upd_ne, true_or, or_true, ix_le, c2]
          exact fin
        · have c2 : (L ≤ i + 1) = False := eq_false hiL
          simp (disch := first | omega | decide | assumption | exact Nat.le_of_ble_eq_true rfl) only [s19_10, s19_12, s19_13, s19_16, s19_17, ow_some, true_and, and_true, and_self, if_true, if_false, not_true, not_false_eq_true, Bool.false_eq_true, eq_self, Option.toList, List.cons_append, List.nil_append, ix_in, ix_cl, lt_in, lt_cl, lt_add, ix_one, vu_eq, vu_ne, arI_mk, arL_mk, arY_mZ, arY_mB, alen_mI, fld_sfl_ne, fld_sfl_same, Option.isSome_some, pok_i, b1z, b01, z10, b1o, Int32.zero_add, vu_vu, upd_eq, upd_ne, true_or, or_true, ix_le, c2]
          exact fin
      · have x25 : (c.2.2.1 = 25) = False := eq_false h25
        simp (disch := first | omega | decide | assumption | exact Nat.le_of_ble_eq_true rfl) only [s19_56, s19_57, s19_60, s19_61, s19_64, s19_65, s19_66, s19_69, s19_70, s19_74, s19_75, s19_76, s19_76i, s19_77, s19_80, s19_81, s19_82, s19_85, h19_88, ow_some, true_and, and_true, and_self, if_true, if_false, not_true, not_false_eq_true, Bool.false_eq_true, eq_self, Option.toList, List.cons_append, List.nil_append, ix_in, ix_cl, lt_in, lt_cl, lt_add, ix_one, vu_eq, vu_ne, arI_mk, arL_mk, arY_mZ, arY_mB, alen_mI, fld_sfl_ne, fld_sfl_same, Option.isSome_some, pok_i, b1z, b01, z10, b1o, Int32.zero_add, vu_vu, upd_eq, upd_ne, true_or, or_true, r0'', r2'', a0'', i2, e2, x25]
        refine ih (i + 1) (t + 1) _ _ _ (by omega) Bn Rn sn (by omega) (fun t' ht' => ?_) (Or.inr ?_) ?_
        · refine ⟨(hkn t' ht').1, (hkn t' ht').2, ?_⟩
          by_cases et : t' = t
          · subst et; rw [hq]; exact ⟨hne24, h25⟩
          · exact (hk t' (by omega)).2.2
        · show (tk tx L c0 (t + 1 - 1)).1 < i + 1
          rw [Nat.add_sub_cancel, hq]; omega
        · have hx := tk_lx B h0 (t + 1)
          obtain ⟨nm3, e3⟩ := hx.2.1
          have hcs3 := lx_cs hx.1 e3
          have : bb tx L c0 (t + 1) = c.2.1 := by unfold bb; rw [if_neg (by omega), Nat.add_sub_cancel, hq]
          have h5 := hcs3.1.1
          rw [this] at h5
          have := hcs2.2.2.1
          omega
theorem sp_split (h0 : c0 = lx tx L 0 nm) (hL9 : L ≤ 900) (B : TB f tb tx L) (V : RDV f) (hN : 187 ≤ b) {u3 u4 : Value} : TT X (d + 7) 19 0 [.ref 99, .ref 1, .int (nI L), u3, u4] [] f N K (fun f' n' k' z => n' = N ∧ k' = K ∧ z = none ∧ SK b f f' ∧ ∃ T kk pp, RS f' b L kk pp T ∧ TKS tx L c0 T kk pp) := by
  obtain ⟨V0, ⟨r0, r1⟩, ⟨kk, a0⟩, pp, a1⟩ := V
  have i2 := V0 2 (by omega)
  simp (disch := first | omega | decide | assumption | exact Nat.le_of_ble_eq_true rfl) only [s19_0, s19_1, s19_2, s19_5, s19_6, s19_7, h19_8, ow_some, true_and, and_true, and_self, if_true, if_false, not_true, not_false_eq_true, Bool.false_eq_true, eq_self, Option.toList, List.cons_append, List.nil_append, ix_in, ix_cl, lt_in, lt_cl, lt_add, ix_one, vu_eq, vu_ne, arI_mk, arL_mk, arY_mZ, arY_mB, alen_mI, fld_sfl_ne, fld_sfl_same, Option.isSome_some, pok_i, b1z, b01, z10, b1o, Int32.zero_add, vu_vu, upd_eq, upd_ne, true_or, or_true, i2]
  have z0 := z0i
  refine sp_splitL (d := d) (f0 := f) h0 hL9 L 0 0 _ kk pp (by omega) (B.fr (vu_ne (by omega))) ⟨⟨hN, hL9⟩, ?_, ?_, ?_, RDJ.set V0 (by omega), ?_, ?_⟩ (SK.up (by omega)) (Nat.le_refl 0) (fun t' ht' => absurd ht' (by omega)) (Or.inl rfl) (Nat.zero_le _)
  · rw [vu_eq, fld_sfl_ne (by omega)]; exact r0
  · rw [vu_eq, fld_sfl_ne (by omega)]; exact r1
  · rw [vu_eq, fld_sfl_same i2]; rfl
  · rw [vu_ne (by omega)]; exact a0
  · rw [vu_ne (by omega)]; exact a1
end SPL
