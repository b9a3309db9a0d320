/-! the whole text -/
theorem lines_FI {tx : Nat → Int32} {sz S : Nat} (hz : sz ≤ 900) : ∀ (k R n : Nat) (c c' : Cu) (fr ag fr' ag' : Nat → Int32), l_lines tx sz S k c fr ag (.inl (c', fr', ag')) → FI S R n fr ag → cv sz c → n ≤ c.1 → ∃ R' n', FI S R' n' fr' ag' := by
  intro k
  induction k with
  | zero => intro R n c c' fr ag fr' ag' h; exact h.elim
  | succ k ih =>
    intro R n c c' fr ag fr' ag' h hI hv hle
    rcases h with ⟨h24, he⟩ | ⟨h24, r1, h1, h2⟩
    · cases he; exact ⟨R, n, hI⟩
    · rcases h2 with ⟨e, -, he⟩ | ⟨c1, fr1, ag1, rfl, h3⟩
      · cases he
      · have hR : nR fr = R := by
          unfold nR
          rw [hI.2]
          exact ix_cl (by have := hI.1.1; omega)
        rw [hR] at h1
        obtain ⟨-, R', n', g⟩ := line_FI hz hI hv hle h24 h1
        obtain ⟨R2, n2, q⟩ := line_LI hz hI.1.1.2.1 (show LI sz S R n c fr from ⟨hv, hI.1.2.1, hI.2, hI.1.1.2.2, hI.1.2.2.1, hle⟩) h24 h1
        have hn : n2 = n' := by
          have e1 := q.2.2.2.2.1.1
          have e2 := g.1.2.2.1.1
          have b1 := q.2.2.2.2.1.2
          have b2 := g.1.2.2.1.2
          rw [e2, ix_eq (by omega) (by omega)] at e1
          omega
        subst hn
        rcases h3 with ⟨h30, hr⟩ | ⟨h30, hl⟩
        · cases hr
        · have g3 := cv_go (tx := tx) q.1 (by rw [h30]; decide)
          exact ih R' n2 _ _ _ _ _ _ hl ⟨g.1.up (by omega) (by omega) (by omega) (by omega) (fok_0 (Or.inl rfl)), by rw [upd_ne (by omega)]; exact g.2⟩ g3.1 (by have := q.2.2.2.2.2; omega)
def l_loads (tx : Nat → Int32) (sz : Nat) : Nat → Nat → Cu → (Nat → Int32) → Rr
  | 0, _, c, fr => .inl (c, fr)
  | m + 1, j, c, fr => if j = 0 ∨ c.2.2.1 = 23 then (if tko c 0 999 = true then l_loads tx sz m (j + 1) (nx tx sz c) (upd (upd fr (9 + j) c.2.2.2) 1 (nI (j + 1))) else .inr (tkw c, c.1)) else .inl (c, fr)
theorem loads_s {tx : Nat → Int32} {sz : Nat} (m : Nat) {j : Nat} {c : Cu} {fr : Nat → Int32} : l_loads tx sz (m + 1) j c fr = if j = 0 ∨ c.2.2.1 = 23 then (if tko c 0 999 = true then l_loads tx sz m (j + 1) (nx tx sz c) (upd (upd fr (9 + j) c.2.2.2) 1 (nI (j + 1))) else .inr (tkw c, c.1)) else .inl (c, fr) := rfl
def nS (fr : Nat → Int32) : Nat := (fr 1).toNatClampNeg
def l_text (tx : Nat → Int32) (sz k : Nat) (c0 : Cu) (fr0 ag : Nat → Int32) (r : Lr) : Prop := (c0.2.2.1 ≠ 0 ∧ r = fl' 2 c0) ∨ (c0.2.2.1 = 0 ∧ ((∃ e, l_loads tx sz 8 0 (nx tx sz c0) (upd fr0 1 0) = .inr e ∧ r = .inr e) ∨ ∃ c1 fr1, l_loads tx sz 8 0 (nx tx sz c0) (upd fr0 1 0) = .inl (c1, fr1) ∧ ((c1.2.2.1 ≠ 30 ∧ r = fl' 2 c1) ∨ (c1.2.2.1 = 30 ∧ l_lines tx sz (nS fr1) k (nx tx sz c1) (upd fr1 0 (fr1 0 + 1)) ag r))))
def LB (j : Nat) (fr : Nat → Int32) : Prop := fr 493 = 0 ∧ (∀ i, i < 93 → i ≠ 1 → ¬ (9 ≤ i ∧ i < 9 + j) → fr i = pl0 i) ∧ (∀ i, 9 ≤ i → i < 9 + j → vb (fr i) 1000) ∧ fr 1 = nI j
theorem loads_LB {tx : Nat → Int32} {sz : Nat} : ∀ (m j : Nat) (c c' : Cu) (fr fr' : Nat → Int32), j + m = 8 → LB j fr → cv sz c → cnm c → l_loads tx sz m j c fr = .inl (c', fr') → ∃ j', (j' = j ∨ 1 ≤ j') ∧ (j = 0 → m ≠ 0 → 1 ≤ j') ∧ j' ≤ 8 ∧ LB j' fr' ∧ cv sz c' ∧ cnm c' := by
  intro m
  induction m with
  | zero =>
    intro j c c' fr fr' hj hL hv hc h
    cases h
    exact ⟨j, Or.inl rfl, fun _ z => absurd rfl z, by omega, hL, hv, hc⟩
  | succ m ih =>
    intro j c c' fr fr' hj hL hv hc h
    rw [loads_s m] at h
    split at h
    · split at h
      · next t =>
        obtain ⟨v, hv1, he1, -, -⟩ := tko_v hc t
        obtain ⟨a1, a2, a3, a4⟩ := hL
        have hL' : LB (j + 1) (upd (upd fr (9 + j) c.2.2.2) 1 (nI (j + 1))) := by
          refine ⟨by rw [upd_ne (by omega), upd_ne (by omega)]; exact a1, fun i hi h1 h2 => by rw [upd_ne (by omega), upd_ne (by omega)]; exact a2 i hi h1 (by omega), fun i h1 h2 => ?_, upd_eq⟩
          rw [upd_ne (by omega)]
          by_cases hh : i = 9 + j
          · subst hh; rw [upd_eq]; exact ⟨v, hv1, he1⟩
          · rw [upd_ne hh]; exact a3 i h1 (by omega)
        obtain ⟨j', b1, b2, b3⟩ := ih (j + 1) _ _ _ _ (by omega) hL' (cv_go hv (tko_24 t)).1 cnm_nx h
        exact ⟨j', Or.inr (by omega), fun _ _ => by omega, b3⟩
      · cases h
    · next hn =>
      cases h
      exact ⟨j, Or.inl rfl, fun z _ => absurd (Or.inl z) hn, by omega, hL, hv, hc⟩
theorem LB.FI {j : Nat} {fr ag : Nat → Int32} (h : LB j fr) (h1 : 1 ≤ j) (h8 : j ≤ 8) : FI j 0 0 fr ag := by
  obtain ⟨a1, a2, a3, a4⟩ := h
  have z : ∀ i, i < 93 → i ≠ 1 → i ≠ 2 → ¬ (9 ≤ i ∧ i < 9 + j) → ¬ (34 ≤ i ∧ i < 52) → fr i = 0 := by
    intro i b1 b2 b3 b4 b5
    rw [a2 i b1 b2 b4]
    unfold pl0
    rw [if_neg (by omega), if_neg b5]
  have n1 : ∀ i, 34 ≤ i → i < 52 → fr i = -1 := by
    intro i b1 b2
    rw [a2 i (by omega) (by omega) (by omega)]
    unfold pl0
    rw [if_neg (by omega), if_pos ⟨b1, b2⟩]
  refine ⟨⟨⟨h1, h8, by omega⟩, a4, ⟨a1, by omega⟩, ?_, ?_, ?_, ?_⟩, z 52 (by omega) (by omega) (by omega) (by omega) (by omega)⟩
  · intro i hi
    refine ⟨fun e => ⟨1, by omega, by omega, ?_⟩, fun e => ?_, fun e => ?_, fun e => ?_, fun e => by omega, fun e => by omega, fun e => ⟨0, by omega, z i hi (by omega) (by omega) (by omega) (by omega)⟩, fun e => z i hi (by omega) (by omega) (by omega) (by omega), fun e => z i hi (by omega) (by omega) (by omega) (by omega)⟩
    · subst e; rw [a2 2 (by omega) (by omega) (by omega)]; rfl
    · by_cases hh : i < 9 + j
      · exact a3 i e.1 hh
      · exact ⟨0, by omega, z i hi (by omega) (by omega) (by omega) (by omega)⟩
    · have := z i hi (by omega) (by omega) (by omega) (by omega)
      exact ⟨⟨0, by omega, this⟩, fun _ => this⟩
    · have := n1 i (by omega) (by omega)
      exact ⟨Or.inl this, fun _ => this⟩
  · intro p hp; exact Or.inl (n1 _ (by omega) (by omega))
  · intro p hp; omega
  · intro law hl; exact Or.inl (z _ (by omega) (by omega) (by omega) (by omega) (by omega))
theorem LB.S {j : Nat} {fr : Nat → Int32} (h : LB j fr) (h8 : j ≤ 8) : nS fr = j := by
  unfold nS; rw [h.2.2.2]; exact ix_cl (by omega)
theorem lb_start {fr0 : Nat → Int32} (h : ∀ i, i < 1394 → fr0 i = pl0 i) : LB 0 (upd fr0 1 0) := by
  refine ⟨?_, fun i h1 h2 _ => by rw [upd_ne h2]; exact h i (by omega), fun i h1 h2 => by omega, upd_eq⟩
  rw [upd_ne (by omega), h 493 (by omega)]; rfl
/-- every text is read -/
theorem text_tot {tx : Nat → Int32} {sz : Nat} (hz : sz ≤ 900) {c0 : Cu} {fr0 ag : Nat → Int32} (h0 : ∀ i, i < 1394 → fr0 i = pl0 i) (hv : cv sz c0) : ∃ k r, l_text tx sz k c0 fr0 ag r := by
  by_cases hk : c0.2.2.1 = 0
  · cases hl : l_loads tx sz 8 0 (nx tx sz c0) (upd fr0 1 0) with
    | inr e => exact ⟨0, .inr e, Or.inr ⟨hk, Or.inl ⟨e, hl, rfl⟩⟩⟩
    | inl q =>
      obtain ⟨c1, fr1⟩ := q
      obtain ⟨j', -, b2, b3, b4, b5, b6⟩ := loads_LB 8 0 _ _ _ _ rfl (lb_start h0) (cv_go (tx := tx) hv (by rw [hk]; decide)).1 cnm_nx hl
      have hj := b2 rfl (by decide)
      by_cases h30 : c1.2.2.1 = 30
      · have hI := b4.FI (ag := ag) hj b3
        have g3 := cv_go (tx := tx) b5 (by rw [h30]; decide)
        have hLI : LI sz j' 0 0 (nx tx sz c1) (upd fr1 0 (fr1 0 + 1)) := (show LI sz j' 0 0 (nx tx sz c1) fr1 from ⟨g3.1, hI.1.2.1, hI.2, by omega, hI.1.2.2.1, by omega⟩).up (by omega) (by omega) (by omega)
        obtain ⟨k, r, h⟩ := lines_tot hz hj b3 _ _ _ _ _ ag hLI (Nat.le_refl _)
        exact ⟨k, r, Or.inr ⟨hk, Or.inr ⟨c1, fr1, hl, Or.inr ⟨h30, by rw [b4.S b3]; exact h⟩⟩⟩⟩
      · exact ⟨0, fl' 2 c1, Or.inr ⟨hk, Or.inr ⟨c1, fr1, hl, Or.inl ⟨h30, rfl⟩⟩⟩⟩
  · exact ⟨0, fl' 2 c0, Or.inl ⟨hk, rfl⟩⟩
theorem text_FI {tx : Nat → Int32} {sz k : Nat} (hz : sz ≤ 900) {c0 c' : Cu} {fr0 ag fr' ag' : Nat → Int32} (h0 : ∀ i, i < 1394 → fr0 i = pl0 i) (hv : cv sz c0) (h : l_text tx sz k c0 fr0 ag (.inl (c', fr', ag'))) : ∃ S R n, FI S R n fr' ag' := by
  rcases h with ⟨_, he⟩ | ⟨hk, ⟨e, _, he⟩ | ⟨c1, fr1, hl, h2⟩⟩
  · cases he
  · cases he
  · obtain ⟨j', -, b2, b3, b4, b5, b6⟩ := loads_LB 8 0 _ _ _ _ rfl (lb_start h0) (cv_go (tx := tx) hv (by rw [hk]; decide)).1 cnm_nx hl
    have hj := b2 rfl (by decide)
    rcases h2 with ⟨_, he⟩ | ⟨h30, h3⟩
    · cases he
    · rw [b4.S b3] at h3
      have hI := b4.FI (ag := ag) hj b3
      have g3 := cv_go (tx := tx) b5 (by rw [h30]; decide)
      obtain ⟨R, n, h4⟩ := lines_FI hz _ 0 0 _ _ _ _ _ _ h3 ⟨hI.1.up (by omega) (by omega) (by omega) (by omega) (fok_0 (Or.inl rfl)), by rw [upd_ne (by omega)]; exact hI.2⟩ g3.1 (by omega)
      exact ⟨j', R, n, h4⟩
theorem PC.loads {X : Nat × (Nat → Int32)} {d N K : Nat} {s : m_T} {ag : Nat → Int32} {sz : Nat} {x1 : Int32} {a2 : Value} {Q : t_Q} : ∀ (m j : Nat) (f : Nat → e_C) (c : Cu) (fr : Nat → Int32) (wa rd : Int32), j + m = 8 → fr 1 = nI j → PC f s fr ag sz c 0 wa rd → (∀ f' c' fr' wa' rd', l_loads s.2.2.1 sz m j c fr = .inl (c', fr') → SM f f' → PC f' s fr' ag sz c' 0 wa' rd' → TT X (d + 8) 173 144 [.ref 171, .int x1, a2] [] f' N K Q) → (∀ f' c' fr' w p' rd', l_loads s.2.2.1 sz m j c fr = .inr (w, p') → w ≠ 0 → SM f f' → PC f' s fr' ag sz c' w (nI p') rd' → TT X (d + 8) 173 144 [.ref 171, .int x1, a2] [] f' N K Q) → TT X (d + 8) 173 73 [.ref 171, .int x1, a2] [] f N K Q := by
  intro m
  induction m with
  | zero =>
    intro j f c fr wa rd hj h1 P hok her
    have V := P.V
    have Q0 := P.1
    have e8 : (8 ≤ j) = True := eq_true (by omega)
    simp (disch := first | omega | decide | assumption | exact Nat.le_of_ble_eq_true rfl) only [s173_73, s173_74, s173_77, s173_80, s173_81, s173_84, s173_85, s173_86, s173_88, ow_some, true_and, and_true, and_self, if_true, if_false, not_true, not_false_eq_true, Bool.false_eq_true, eq_self, Option.toList, List.cons_append, List.nil_append, ix_in, ix_cl, lt_in, lt_cl, lt_add, ix_one, vu_eq, vu_ne, arI_mk, arL_mk, arY_mZ, arY_mB, alen_mI, fld_sfl_ne, fld_sfl_same, Option.isSome_some, pok_i, b1z, b01, z10, b1o, Int32.zero_add, vu_vu, upd_eq, upd_ne, true_or, or_true, V.r1, V.r2, V.r3, V.r4, V.r16, V.r17, V.r18, V.r19, V.r20, V.r23, V.r24, V.r25, V.r26, V.r27, V.r28, V.r29, V.r30, V.c172, V.c173, V.c174, V.c186, V.c187, V.c188, V.n5, V.n13, V.n14, V.i0, V.i5, V.i6, V.i7, V.i8, V.i9, V.i10, V.i11, V.i12, V.i13, V.i14, V.i15, V.i21, V.i22, Q0.f6, Q0.f7, Q0.f8, Q0.f9, Q0.f10, Q0.f11, Q0.f12, Q0.f15, Q0.c175, Q0.c176, h1, lt_le, e8]
    exact hok f c fr wa rd rfl SM.rf P
  | succ m ih =>
    intro j f c fr wa rd hj h1 P hok her
    have V := P.V
    have Q0 := P.1
    have e8 : (8 ≤ j) = False := eq_false (by omega)
    rw [loads_s m] at hok her
    have body : (j = 0 ∨ c.2.2.1 = 23) → TT X (d + 8) 173 109 [.ref 171, .int x1, a2] [] f N K Q := by
      intro hjc
      rw [if_pos hjc] at hok her
      simp (disch := first | omega | decide | assumption | exact Nat.le_of_ble_eq_true rfl) only [s173_109, s173_110, s173_113, s173_115, s173_116, s173_119, s173_120, s173_121, s173_122, s173_123, s173_124, ow_some, true_and, and_true, and_self, if_true, if_false, not_true, not_false_eq_true, Bool.false_eq_true, eq_self, Option.toList, List.cons_append, List.nil_append, ix_in, ix_cl, lt_in, lt_cl, lt_add, ix_one, vu_eq, vu_ne, arI_mk, arL_mk, arY_mZ, arY_mB, alen_mI, fld_sfl_ne, fld_sfl_same, Option.isSome_some, pok_i, b1z, b01, z10, b1o, Int32.zero_add, vu_vu, upd_eq, upd_ne, true_or, or_true, V.r1, V.r2, V.r3, V.r4, V.r16, V.r17, V.r18, V.r19, V.r20, V.r23, V.r24, V.r25, V.r26, V.r27, V.r28, V.r29, V.r30, V.c172, V.c173, V.c174, V.c186, V.c187, V.c188, V.n5, V.n13, V.n14, V.i0, V.i5, V.i6, V.i7, V.i8, V.i9, V.i10, V.i11, V.i12, V.i13, V.i14, V.i15, V.i21, V.i22, Q0.f6, Q0.f7, Q0.f8, Q0.f9, Q0.f10, Q0.f11, Q0.f12, Q0.f15, Q0.c175, Q0.c176, h1]
      by_cases t : tko c 0 999 = true
      · rw [if_pos t] at hok her
        have t' := tko_iff.mp t
        refine k173_127 (cno_MR V.mr) (Nat.le_of_ble_eq_true rfl) (P.takeY t'.1 (by rw [i999.1, i999.2.1]; exact t'.2)) ?_
        rintro f1 n1 k1 v1 ⟨rfl, rfl, sm1, P1, rfl⟩
        have V1 := P1.V
        have Q1 := P1.1
        simp (disch := first | omega | decide | assumption | exact Nat.le_of_ble_eq_true rfl) only [s173_130, s173_131, s173_132, s173_135, s173_136, s173_137, s173_138, s173_139, s173_140, h173_141, ow_some, true_and, and_true, and_self, if_true, if_false, not_true, not_false_eq_true, Bool.false_eq_true, eq_self, Option.toList, List.cons_append, List.nil_append, ix_in, ix_cl, lt_in, lt_cl, lt_add, ix_one, vu_eq, vu_ne, arI_mk, arL_mk, arY_mZ, arY_mB, alen_mI, fld_sfl_ne, fld_sfl_same, Option.isSome_some, pok_i, b1z, b01, z10, b1o, Int32.zero_add, vu_vu, upd_eq, upd_ne, true_or, or_true, V1.r1, V1.r2, V1.r3, V1.r4, V1.r16, V1.r17, V1.r18, V1.r19, V1.r20, V1.r23, V1.r24, V1.r25, V1.r26, V1.r27, V1.r28, V1.r29, V1.r30, V1.c172, V1.c173, V1.c174, V1.c186, V1.c187, V1.c188, V1.n5, V1.n13, V1.n14, V1.i0, V1.i5, V1.i6, V1.i7, V1.i8, V1.i9, V1.i10, V1.i11, V1.i12, V1.i13, V1.i14, V1.i15, V1.i21, V1.i22, Q1.f6, Q1.f7, Q1.f8, Q1.f9, Q1.f10, Q1.f11, Q1.f12, Q1.f15, Q1.c175, Q1.c176, upd_ne, h1]
        have P2 : PC (va_up f1 175 (.inl (.int, 1394, .inl (upd (upd fr (9 + j) c.2.2.2) 1 (nI (j + 1)))))) s (upd (upd fr (9 + j) c.2.2.2) 1 (nI (j + 1))) ag sz (nx s.2.2.1 sz c) 0 wa rd := ⟨Q1.fr', P1.2⟩
        have sm2 : SM f (va_up f1 175 (.inl (.int, 1394, .inl (upd (upd fr (9 + j) c.2.2.2) 1 (nI (j + 1)))))) := sm1.tr (SM.up (by omega) (by omega))
        exact ih (j + 1) _ _ _ wa rd (by omega) upd_eq P2 (fun f' c' fr' wa' rd' e sm => hok f' c' fr' wa' rd' e (sm2.tr sm)) (fun f' c' fr' w p' rd' e hw sm => her f' c' fr' w p' rd' e hw (sm2.tr sm))
      · rw [if_neg t] at hok her
        have t' : ¬ (c.2.2.1 = 23 ∧ (0 : Int32).toInt ≤ c.2.2.2.toInt ∧ c.2.2.2.toInt ≤ (999 : Int32).toInt) := by
          rw [i999.1, i999.2.1]; exact fun z => t (tko_iff.mpr z)
        refine k173_127 (cno_MR V.mr) (Nat.le_of_ble_eq_true rfl) (P.takeN (lo := 0) (hi := 999) t') ?_
        rintro f1 n1 k1 v1 ⟨rfl, rfl, sm1, P1, rfl⟩
        have V1 := P1.V
        have Q1 := P1.1
        simp (disch := first | omega | decide | assumption | exact Nat.le_of_ble_eq_true rfl) only [s173_130, s173_131, s173_132, s173_135, s173_136, s173_137, s173_138, s173_139, s173_140, h173_141, ow_some, true_and, and_true, and_self, if_true, if_false, not_true, not_false_eq_true, Bool.false_eq_true, eq_self, Option.toList, List.cons_append, List.nil_append, ix_in, ix_cl, lt_in, lt_cl, lt_add, ix_one, vu_eq, vu_ne, arI_mk, arL_mk, arY_mZ, arY_mB, alen_mI, fld_sfl_ne, fld_sfl_same, Option.isSome_some, pok_i, b1z, b01, z10, b1o, Int32.zero_add, vu_vu, upd_eq, upd_ne, true_or, or_true, V1.r1, V1.r2, V1.r3, V1.r4, V1.r16, V1.r17, V1.r18, V1.r19, V1.r20, V1.r23, V1.r24, V1.r25, V1.r26, V1.r27, V1.r28, V1.r29, V1.r30, V1.c172, V1.c173, V1.c174, V1.c186, V1.c187, V1.c188, V1.n5, V1.n13, V1.n14, V1.i0, V1.i5, V1.i6, V1.i7, V1.i8, V1.i9, V1.i10, V1.i11, V1.i12, V1.i13, V1.i14, V1.i15, V1.i21, V1.i22, Q1.f6, Q1.f7, Q1.f8, Q1.f9, Q1.f10, Q1.f11, Q1.f12, Q1.f15, Q1.c175, Q1.c176, upd_ne, h1]
        have P2 : PC (va_up f1 175 (.inl (.int, 1394, .inl (upd (upd fr (9 + j) c.2.2.2) 1 (nI (j + 1)))))) s (upd (upd fr (9 + j) c.2.2.2) 1 (nI (j + 1))) ag sz c (tkf c 0 999) (nI c.1) rd := ⟨Q1.fr', P1.2⟩
        have sm2 : SM f (va_up f1 175 (.inl (.int, 1394, .inl (upd (upd fr (9 + j) c.2.2.2) 1 (nI (j + 1)))))) := sm1.tr (SM.up (by omega) (by omega))
        have hw : tkf c 0 999 ≠ 0 := tkw_ne
        generalize va_up f1 175 (.inl (.int, 1394, .inl (upd (upd fr (9 + j) c.2.2.2) 1 (nI (j + 1))))) = f2 at P2 sm2 ⊢
        have V2 := P2.V
        have Q2 := P2.1
        unfold TH
        simp (disch := first | omega | decide | assumption | exact Nat.le_of_ble_eq_true rfl) only [s173_73, s173_74, s173_77, ow_some, true_and, and_true, and_self, if_true, if_false, not_true, not_false_eq_true, Bool.false_eq_true, eq_self, Option.toList, List.cons_append, List.nil_append, ix_in, ix_cl, lt_in, lt_cl, lt_add, ix_one, vu_eq, vu_ne, arI_mk, arL_mk, arY_mZ, arY_mB, alen_mI, fld_sfl_ne, fld_sfl_same, Option.isSome_some, pok_i, b1z, b01, z10, b1o, Int32.zero_add, vu_vu, upd_eq, upd_ne, true_or, or_true, V2.r1, V2.r2, V2.r3, V2.r4, V2.r16, V2.r17, V2.r18, V2.r19, V2.r20, V2.r23, V2.r24, V2.r25, V2.r26, V2.r27, V2.r28, V2.r29, V2.r30, V2.c172, V2.c173, V2.c174, V2.c186, V2.c187, V2.c188, V2.n5, V2.n13, V2.n14, V2.i0, V2.i5, V2.i6, V2.i7, V2.i8, V2.i9, V2.i10, V2.i11, V2.i12, V2.i13, V2.i14, V2.i15, V2.i21, V2.i22, Q2.f6, Q2.f7, Q2.f8, Q2.f9, Q2.f10, Q2.f11, Q2.f12, Q2.f15, Q2.c175, Q2.c176, hw]
        exact her _ _ _ _ _ _ rfl hw sm2 P2
    by_cases hj0 : j = 0
    · have e0 : nI j = 0 := by rw [hj0]; rfl
      simp (disch := first | omega | decide | assumption | exact Nat.le_of_ble_eq_true rfl) only [s173_73, s173_74, s173_77, s173_80, s173_81, s173_84, s173_85, s173_86, s173_88, s173_91, s173_92, s173_95, s173_96, s173_97, ow_some, true_and, and_true, and_self, if_true, if_false, not_true, not_false_eq_true, Bool.false_eq_true, eq_self, Option.toList, List.cons_append, List.nil_append, ix_in, ix_cl, lt_in, lt_cl, lt_add, ix_one, vu_eq, vu_ne, arI_mk, arL_mk, arY_mZ, arY_mB, alen_mI, fld_sfl_ne, fld_sfl_same, Option.isSome_some, pok_i, b1z, b01, z10, b1o, Int32.zero_add, vu_vu, upd_eq, upd_ne, true_or, or_true, V.r1, V.r2, V.r3, V.r4, V.r16, V.r17, V.r18, V.r19, V.r20, V.r23, V.r24, V.r25, V.r26, V.r27, V.r28, V.r29, V.r30, V.c172, V.c173, V.c174, V.c186, V.c187, V.c188, V.n5, V.n13, V.n14, V.i0, V.i5, V.i6, V.i7, V.i8, V.i9, V.i10, V.i11, V.i12, V.i13, V.i14, V.i15, V.i21, V.i22, Q0.f6, Q0.f7, Q0.f8, Q0.f9, Q0.f10, Q0.f11, Q0.f12, Q0.f15, Q0.c175, Q0.c176, h1, lt_le, e8, e0, tl_eq]
      first | exact body (Or.inl hj0) | (simp only [hj0, if_true]; exact body (Or.inl hj0))
    · have e0 : (nI j = 0) = False := by rw [tl_eq (c := 0) (by decide) (by omega)]; exact eq_false hj0
      simp (disch := first | omega | decide | assumption | exact Nat.le_of_ble_eq_true rfl) only [s173_73, s173_74, s173_77, s173_80, s173_81, s173_84, s173_85, s173_86, s173_88, s173_91, s173_92, s173_95, s173_96, s173_97, s173_100, s173_101, ow_some, true_and, and_true, and_self, if_true, if_false, not_true, not_false_eq_true, Bool.false_eq_true, eq_self, Option.toList, List.cons_append, List.nil_append, ix_in, ix_cl, lt_in, lt_cl, lt_add, ix_one, vu_eq, vu_ne, arI_mk, arL_mk, arY_mZ, arY_mB, alen_mI, fld_sfl_ne, fld_sfl_same, Option.isSome_some, pok_i, b1z, b01, z10, b1o, Int32.zero_add, vu_vu, upd_eq, upd_ne, true_or, or_true, V.r1, V.r2, V.r3, V.r4, V.r16, V.r17, V.r18, V.r19, V.r20, V.r23, V.r24, V.r25, V.r26, V.r27, V.r28, V.r29, V.r30, V.c172, V.c173, V.c174, V.c186, V.c187, V.c188, V.n5, V.n13, V.n14, V.i0, V.i5, V.i6, V.i7, V.i8, V.i9, V.i10, V.i11, V.i12, V.i13, V.i14, V.i15, V.i21, V.i22, Q0.f6, Q0.f7, Q0.f8, Q0.f9, Q0.f10, Q0.f11, Q0.f12, Q0.f15, Q0.c175, Q0.c176, h1, lt_le, e8, e0]
      rw [p173_103 (cno_MR V.mr) (Nat.le_of_ble_eq_true rfl) P.is]
      by_cases h23 : c.2.2.1 = 23
      · have c1 : (c.2.2.1 = 23) = True := eq_true h23
        simp (disch := first | omega | decide | assumption | exact Nat.le_of_ble_eq_true rfl) only [s173_106, ow_some, true_and, and_true, and_self, if_true, if_false, not_true, not_false_eq_true, Bool.false_eq_true, eq_self, Option.toList, List.cons_append, List.nil_append, ix_in, ix_cl, lt_in, lt_cl, lt_add, ix_one, vu_eq, vu_ne, arI_mk, arL_mk, arY_mZ, arY_mB, alen_mI, fld_sfl_ne, fld_sfl_same, Option.isSome_some, pok_i, b1z, b01, z10, b1o, Int32.zero_add, vu_vu, upd_eq, upd_ne, true_or, or_true, V.r1, V.r2, V.r3, V.r4, V.r16, V.r17, V.r18, V.r19, V.r20, V.r23, V.r24, V.r25, V.r26, V.r27, V.r28, V.r29, V.r30, V.c172, V.c173, V.c174, V.c186, V.c187, V.c188, V.n5, V.n13, V.n14, V.i0, V.i5, V.i6, V.i7, V.i8, V.i9, V.i10, V.i11, V.i12, V.i13, V.i14, V.i15, V.i21, V.i22, c1]
        exact body (Or.inr h23)
      · have c1 : (c.2.2.1 = 23) = False := eq_false h23
        simp (disch := first | omega | decide | assumption | exact Nat.le_of_ble_eq_true rfl) only [s173_106, ow_some, true_and, and_true, and_self, if_true, if_false, not_true, not_false_eq_true, Bool.false_eq_true, eq_self, Option.toList, List.cons_append, List.nil_append, ix_in, ix_cl, lt_in, lt_cl, lt_add, ix_one, vu_eq, vu_ne, arI_mk, arL_mk, arY_mZ, arY_mB, alen_mI, fld_sfl_ne, fld_sfl_same, Option.isSome_some, pok_i, b1z, b01, z10, b1o, Int32.zero_add, vu_vu, upd_eq, upd_ne, true_or, or_true, V.r1, V.r2, V.r3, V.r4, V.r16, V.r17, V.r18, V.r19, V.r20, V.r23, V.r24, V.r25, V.r26, V.r27, V.r28, V.r29, V.r30, V.c172, V.c173, V.c174, V.c186, V.c187, V.c188, V.n5, V.n13, V.n14, V.i0, V.i5, V.i6, V.i7, V.i8, V.i9, V.i10, V.i11, V.i12, V.i13, V.i14, V.i15, V.i21, V.i22, c1]
        rw [if_neg (fun z => z.elim hj0 h23)] at hok
        exact hok f c fr wa rd rfl SM.rf P
