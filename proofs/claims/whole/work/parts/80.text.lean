/-! the lines one behind another -/
def nR (fr : Nat → Int32) : Nat := (fr 52).toNatClampNeg
def l_lines (tx : Nat → Int32) (sz S : Nat) : Nat → Cu → (Nat → Int32) → (Nat → Int32) → Lr → Prop
  | 0 => fun _ _ _ _ => False
  | k + 1 => fun c fr ag r => (c.2.2.1 = 24 ∧ r = .inl (c, fr, ag)) ∨ (c.2.2.1 ≠ 24 ∧ ∃ r1, l_line tx sz S (nR fr) k c fr ag r1 ∧ ((∃ e, r1 = .inr e ∧ r = .inr e) ∨ ∃ c1 fr1 ag1, r1 = .inl (c1, fr1, ag1) ∧ ((c1.2.2.1 ≠ 30 ∧ r = fl' 2 c1) ∨ (c1.2.2.1 = 30 ∧ l_lines tx sz S k (nx tx sz c1) (upd fr1 0 (fr1 0 + 1)) ag1 r))))
theorem person_mono {tx : Nat → Int32} {sz S R k : Nat} {c : Cu} {fr ag : Nat → Int32} {r : Lr} (h : l_person tx sz S R k c fr ag = some r) : l_person tx sz S R (k + 1) c fr ag = some r := by
  unfold l_person at h ⊢
  split at h
  · next h1 => rw [if_pos h1]; exact h
  · next h1 =>
    rw [if_neg h1]
    split at h
    · next h2 =>
      rw [if_pos h2]
      split at h
      · next h3 =>
        rw [if_pos h3]
        split at h
        · next h4 =>
          rw [if_pos h4]
          split at h
          · next h5 =>
            rw [if_pos h5]
            cases hf : l_flags tx sz R k (nx tx sz (nx tx sz (nx tx sz (nx tx sz (nx tx sz c))))) (upd (upd fr (57 + R) (nx tx sz (nx tx sz c)).2.2.2) (66 + R) (nx tx sz (nx tx sz (nx tx sz (nx tx sz c)))).2.2.2) (upd ag R 0) with
            | none => rw [hf] at h; cases h
            | some q => rw [hf] at h; rw [flags_mono _ _ _ _ _ hf]; exact h
          · next h5 => rw [if_neg h5]; exact h
        · next h4 => rw [if_neg h4]; exact h
      · next h3 => rw [if_neg h3]; exact h
    · next h2 => rw [if_neg h2]; exact h
theorem law_mono {tx : Nat → Int32} {sz law k : Nat} {c : Cu} {fr ag : Nat → Int32} {r : Lr} (h : l_law' tx sz law k c fr ag r) : l_law' tx sz law (k + 1) c fr ag r := by
  unfold l_law' at h ⊢
  rcases h with h | ⟨h1, ⟨c3, fr3, h2, h3⟩ | ⟨e, h2, h3⟩⟩
  · exact Or.inl h
  · exact Or.inr ⟨h1, Or.inl ⟨c3, fr3, rs_mono1 _ _ _ _ _ _ h2, h3⟩⟩
  · exact Or.inr ⟨h1, Or.inr ⟨e, rs_mono1 _ _ _ _ _ _ h2, h3⟩⟩
theorem line_mono1 {tx : Nat → Int32} {sz S R k : Nat} {c : Cu} {fr ag : Nat → Int32} {r : Lr} (h : l_line tx sz S R k c fr ag r) : l_line tx sz S R (k + 1) c fr ag r := by
  rcases h with h | ⟨h1, h⟩ | h | h | ⟨h1, h⟩ | ⟨h1, h⟩ | h | h
  · exact Or.inl h
  · exact Or.inr (Or.inl ⟨h1, person_mono h⟩)
  · exact Or.inr (Or.inr (Or.inl h))
  · exact Or.inr (Or.inr (Or.inr (Or.inl h)))
  · exact Or.inr (Or.inr (Or.inr (Or.inr (Or.inl ⟨h1, law_mono h⟩))))
  · exact Or.inr (Or.inr (Or.inr (Or.inr (Or.inr (Or.inl ⟨h1, law_mono h⟩)))))
  · exact Or.inr (Or.inr (Or.inr (Or.inr (Or.inr (Or.inr (Or.inl h))))))
  · exact Or.inr (Or.inr (Or.inr (Or.inr (Or.inr (Or.inr (Or.inr h))))))
theorem line_mono {tx : Nat → Int32} {sz S R k k' : Nat} {c : Cu} {fr ag : Nat → Int32} {r : Lr} (hk : k ≤ k') (h : l_line tx sz S R k c fr ag r) : l_line tx sz S R k' c fr ag r := by
  obtain ⟨j, rfl⟩ : ∃ j, k' = k + j := ⟨k' - k, by omega⟩
  clear hk
  induction j with
  | zero => exact h
  | succ j ih => exact line_mono1 ih
theorem lines_mono1 {tx : Nat → Int32} {sz S : Nat} : ∀ (k : Nat) (c : Cu) (fr ag : Nat → Int32) (r : Lr), l_lines tx sz S k c fr ag r → l_lines tx sz S (k + 1) c fr ag r := by
  intro k
  induction k with
  | zero => intro c fr ag r h; exact h.elim
  | succ k ih =>
    intro c fr ag r h
    rcases h with h | ⟨h1, r1, h2, h3⟩
    · exact Or.inl h
    · refine Or.inr ⟨h1, r1, line_mono1 h2, ?_⟩
      rcases h3 with h3 | ⟨c1, fr1, ag1, e, h4 | ⟨h4, h5⟩⟩
      · exact Or.inl h3
      · exact Or.inr ⟨c1, fr1, ag1, e, Or.inl h4⟩
      · exact Or.inr ⟨c1, fr1, ag1, e, Or.inr ⟨h4, ih _ _ _ _ h5⟩⟩
theorem lines_mono {tx : Nat → Int32} {sz S k k' : Nat} {c : Cu} {fr ag : Nat → Int32} {r : Lr} (hk : k ≤ k') (h : l_lines tx sz S k c fr ag r) : l_lines tx sz S k' c fr ag r := by
  obtain ⟨j, rfl⟩ : ∃ j, k' = k + j := ⟨k' - k, by omega⟩
  clear hk
  induction j with
  | zero => exact h
  | succ j ih => exact lines_mono1 _ _ _ _ _ ih
theorem LI.r {sz S R n : Nat} {c : Cu} {fr : Nat → Int32} (h : LI sz S R n c fr) : nR fr = R := by
  have h1 := h.2.2.1
  have h2 := h.2.2.2.1
  show (fr 52).toNatClampNeg = R
  rw [h1]; exact ix_cl (by omega)
theorem lines_tot {tx : Nat → Int32} {sz S : Nat} (hz : sz ≤ 900) (hS : 1 ≤ S) (h8 : S ≤ 8) : ∀ (M R n : Nat) (c : Cu) (fr ag : Nat → Int32), LI sz S R n c fr → rem sz c ≤ M → ∃ k r, l_lines tx sz S k c fr ag r := by
  intro M
  induction M using Nat.strongRecOn with
  | _ M ih =>
    intro R n c fr ag h hM
    by_cases h24 : c.2.2.1 = 24
    · exact ⟨1, _, Or.inl ⟨h24, rfl⟩⟩
    · obtain ⟨k, r1, h1, h2⟩ := line_tot (tx := tx) (ag := ag) hz hS h8 h h24
      rw [← h.r] at h1
      rcases r1 with ⟨c1, fr1, ag1⟩ | e
      · obtain ⟨R', n', g1, g2⟩ := h2 _ _ _ rfl
        by_cases h30 : c1.2.2.1 = 30
        · have g3 := (g1.up (i := 0) (x := fr1 0 + 1) (by decide) (by decide) (by decide)).go (tx := tx) (by rw [h30]; decide)
          obtain ⟨k2, r2, h3⟩ := ih (rem sz (nx tx sz c1)) (by have := g3.2; omega) R' n' (nx tx sz c1) _ ag1 g3.1 (Nat.le_refl _)
          exact ⟨k + k2 + 1, r2, Or.inr ⟨h24, _, line_mono (by omega) h1, Or.inr ⟨c1, fr1, ag1, rfl, Or.inr ⟨h30, lines_mono (by omega) h3⟩⟩⟩⟩
        · exact ⟨k + 1, _, Or.inr ⟨h24, _, h1, Or.inr ⟨c1, fr1, ag1, rfl, Or.inl ⟨h30, rfl⟩⟩⟩⟩
      · exact ⟨k + 1, _, Or.inr ⟨h24, _, h1, Or.inl ⟨e, rfl, rfl⟩⟩⟩
theorem flags_LI {tx : Nat → Int32} {sz S R n p : Nat} (hp : p < 9) : ∀ (k : Nat) (c c' : Cu) (fr ag fr' ag' : Nat → Int32), LI sz S R n c fr → l_flags tx sz p k c fr ag = some (.inl (c', fr', ag')) → LI sz S R n c' fr' := by
  intro k
  induction k with
  | zero => intro c c' fr ag fr' ag' _ h; cases h
  | succ k ih =>
    intro c c' fr ag fr' ag' hl h
    rw [l_flags] at h
    cases hf : l_flag tx sz p c fr ag with
    | none => rw [hf] at h; cases h; exact hl
    | some q =>
      rw [hf] at h
      rcases q with ⟨c1, fr1, ag1⟩ | e
      · exact ih _ _ _ _ _ _ (flag_LI hp hl hf).1 h
      · cases h
theorem line_LI {tx : Nat → Int32} {sz S R n k : Nat} {c c' : Cu} {fr ag fr' ag' : Nat → Int32} (hz : sz ≤ 900) (h8 : S ≤ 8) (h : LI sz S R n c fr) (hk : c.2.2.1 ≠ 24) (hl : l_line tx sz S R k c fr ag (.inl (c', fr', ag'))) : ∃ R' n', LI sz S R' n' c' fr' := by
  have h9 := h.2.2.2.1
  have g1 := h.go (tx := tx) hk
  have num : ∀ i lo hi, i ≠ 1 → i ≠ 52 → i ≠ 493 → .inl (c', fr', ag') = l_num tx sz i lo hi c fr ag → ∃ R' n', LI sz S R' n' c' fr' := by
    intro i lo hi h1 h2 h3 hr
    unfold l_num at hr
    split at hr
    · next t => cases hr; exact ⟨R, n, (g1.1.go (tx := tx) (tko_24 t)).1.up h1 h2 h3⟩
    · cases hr
  have law : ∀ law, law < 2 → l_law' tx sz law k c fr ag (.inl (c', fr', ag')) → ∃ R' n', LI sz S R' n' c' fr' := by
    intro law hlaw hr
    rcases hr with ⟨_, he⟩ | ⟨h31, ⟨c3, fr3, q1, he⟩ | ⟨e, _, he⟩⟩
    · cases he
    · cases he
      have g2 := g1.1.go (tx := tx) (by rw [h31]; decide)
      obtain ⟨p1, n', w1, w2⟩ := rs_n _ _ _ _ _ _ q1 n g2.1.1 hz g2.1.2.2.2.2.1 g2.1.2.2.2.2.2 _ _ rfl
      have l1 := rs_lo (i := 1) (by decide) _ _ _ _ _ _ q1 _ _ rfl
      have l52 := rs_lo (i := 52) (by decide) _ _ _ _ _ _ q1 _ _ rfl
      have b : LI sz S R n' c' fr3 := ⟨p1, by rw [l1]; exact h.2.1, by rw [l52]; exact h.2.2.1, h9, w1, by have := g2.1.2.2.2.2.2; omega⟩
      exact ⟨R, n', ((b.up (by omega) (by omega) (by omega)).up (by omega) (by omega) (by omega)).up (by omega) (by omega) (by omega)⟩
    · cases he
  rcases hl with ⟨d1, hr⟩ | ⟨d3, hr⟩ | ⟨d9, hr⟩ | ⟨d10, hr⟩ | ⟨d11, hr⟩ | ⟨d12, hr⟩ | ⟨d13, hr⟩ | ⟨_, hr⟩
  · unfold l_joint at hr
    split at hr
    · next t1 =>
      split at hr
      · next t2 =>
        split at hr
        · next t3 =>
          cases hr
          have a1 := tko_iff.mp t1
          have g2 := g1.1.go (tx := tx) (tko_24 t1)
          have g3 := g2.1.go (tx := tx) (by rw [t2]; decide)
          have g4 := g3.1.go (tx := tx) (tko_24 t3)
          exact ⟨R, n, g4.1.up (by omega) (by omega) (by omega)⟩
        · cases hr
      · cases hr
    · cases hr
  · unfold l_person at hr
    split at hr
    · cases hr
    · next hR9 =>
      split at hr
      · next t1 =>
        have g2 := g1.1.go (tx := tx) (by rw [t1]; decide)
        split at hr
        · next t2 =>
          have g3 := g2.1.go (tx := tx) (tko_24 t2)
          split at hr
          · next t3 =>
            have g4 := g3.1.go (tx := tx) (by rw [t3]; decide)
            split at hr
            · next t4 =>
              have g5 := g4.1.go (tx := tx) (tko_24 t4)
              have g6 := (g5.1.up (i := 57 + R) (x := (nx tx sz (nx tx sz c)).2.2.2) (by omega) (by omega) (by omega)).up (i := 66 + R) (x := (nx tx sz (nx tx sz (nx tx sz (nx tx sz c)))).2.2.2) (by omega) (by omega) (by omega)
              cases hf : l_flags tx sz R k (nx tx sz (nx tx sz (nx tx sz (nx tx sz (nx tx sz c))))) (upd (upd fr (57 + R) (nx tx sz (nx tx sz c)).2.2.2) (66 + R) (nx tx sz (nx tx sz (nx tx sz (nx tx sz c)))).2.2.2) (upd ag R 0) with
              | none => rw [hf] at hr; cases hr
              | some q =>
                rw [hf] at hr
                rcases q with ⟨c1, fr1, ag1⟩ | e
                · cases hr
                  have p1 := flags_LI (show R < 9 by omega) _ _ _ _ _ _ _ g6 hf
                  exact ⟨R + 1, n, p1.1, by rw [upd_ne (by decide)]; exact p1.2.1, upd_eq, by omega, ⟨by rw [upd_ne (by decide)]; exact p1.2.2.2.2.1.1, p1.2.2.2.2.1.2⟩, p1.2.2.2.2.2⟩
                · cases hr
            · cases hr
          · cases hr
        · cases hr
      · cases hr
  · unfold l_couple at hr
    have ok : ∀ (c : Cu) nt, l_one c fr R nt = none → tko c 0 ((R : Int) - 1) = true := by
      intro c nt ho
      unfold l_one at ho
      split at ho
      · cases ho
      · split at ho
        · next t => exact t
        · cases ho
    cases ho : l_one (nx tx sz c) fr R none with
    | some e => rw [ho] at hr; cases hr
    | none =>
      rw [ho] at hr
      simp only at hr
      have t1 := ok _ _ ho
      have g2 := g1.1.go (tx := tx) (tko_24 t1)
      cases ho2 : l_one (nx tx sz (nx tx sz c)) fr R (some (nx tx sz c).2.2.2.toInt.toNat) with
      | some e => rw [ho2] at hr; cases hr
      | none =>
        rw [ho2] at hr
        cases hr
        have t2 := ok _ _ ho2
        have g3 := g2.1.go (tx := tx) (tko_24 t2)
        have a1 := tko_iff.mp t1
        have a2 := tko_iff.mp t2
        exact ⟨R, n, (g3.1.up (by omega) (by omega) (by omega)).up (by omega) (by omega) (by omega)⟩
  · exact num 2 1 9 (by decide) (by decide) (by decide) hr
  · exact law 0 (by decide) hr
  · exact law 1 (by decide) hr
  · exact num 56 0 999 (by decide) (by decide) (by decide) hr
  · cases hr
/-- the loop over lines -/
theorem PC.lines {X : Nat × (Nat → Int32)} {d N K : Nat} {s : m_T} {sz S : Nat} {x1 : Int32} {a2 : Value} {Q : t_Q} (hS : 1 ≤ S) (h8 : S ≤ 8) : ∀ (k : Nat) (f : Nat → e_C) (R n : Nat) (c : Cu) (fr ag : Nat → Int32) (wa rd : Int32) (r : Lr), l_lines s.2.2.1 sz S k c fr ag r → LI sz S R n c fr → PC f s fr ag sz c 0 wa rd → (∀ f' c' fr' ag' wa' rd', r = .inl (c', fr', ag') → SM f f' → PC f' s fr' ag' sz c' 0 wa' rd' → TT X (d + 62) 173 175 [.ref 171, .int x1, a2] [] f' N K Q) → (∀ f' c' fr' ag' w p' rd', r = .inr (w, p') → w ≠ 0 → SM f f' → PC f' s fr' ag' sz c' w (nI p') rd' → TT X (d + 62) 173 175 [.ref 171, .int x1, a2] [] f' N K Q) → TT X (d + 62) 173 148 [.ref 171, .int x1, a2] [] f N K Q := by
  intro k
  induction k with
  | zero => intro f R n c fr ag wa rd r h; exact h.elim
  | succ k ih =>
    intro f R n c fr ag wa rd r h hli P hok her
    have V := P.V
    have Q0 := P.1
    rcases h with ⟨h24, he⟩ | ⟨h24, r1, h1, h2⟩
    · have h24' : (c.2.2.1 = 24) = True := eq_true h24
      simp (disch := first | omega | decide | assumption | exact Nat.le_of_ble_eq_true rfl) only [s173_148, s173_149, s173_152, s173_155, s173_156, s173_159, s173_161, ow_some, true_and, and_true, and_self, if_true, if_false, not_true, not_false_eq_true, Bool.false_eq_true, eq_self, Option.toList, List.cons_append, List.nil_append, ix_in, ix_cl, lt_in, lt_cl, lt_add, ix_one, vu_eq, vu_ne, arI_mk, arL_mk, arY_mZ, arY_mB, alen_mI, fld_sfl_ne, fld_sfl_same, Option.isSome_some, pok_i, b1z, b01, z10, b1o, Int32.zero_add, vu_vu, upd_eq, upd_ne, true_or, or_true, V.r1, V.r2, V.r3, V.r4, V.r16, V.r17, V.r18, V.r19, V.r20, V.r23, V.r24, V.r25, V.r26, V.r27, V.r28, V.r29, V.r30, V.c172, V.c173, V.c174, V.c186, V.c187, V.c188, V.n5, V.n13, V.n14, V.i0, V.i5, V.i6, V.i7, V.i8, V.i9, V.i10, V.i11, V.i12, V.i13, V.i14, V.i15, V.i21, V.i22, Q0.f6, Q0.f7, Q0.f8, Q0.f9, Q0.f10, Q0.f11, Q0.f12, Q0.f15, Q0.c175, Q0.c176, h24']
      exact hok f c fr ag wa rd he SM.rf P
    · have h24' : (c.2.2.1 = 24) = False := eq_false h24
      rw [hli.r] at h1
      simp (disch := first | omega | decide | assumption | exact Nat.le_of_ble_eq_true rfl) only [s173_148, s173_149, s173_152, s173_155, s173_156, s173_159, s173_161, s173_164, ow_some, true_and, and_true, and_self, if_true, if_false, not_true, not_false_eq_true, Bool.false_eq_true, eq_self, Option.toList, List.cons_append, List.nil_append, ix_in, ix_cl, lt_in, lt_cl, lt_add, ix_one, vu_eq, vu_ne, arI_mk, arL_mk, arY_mZ, arY_mB, alen_mI, fld_sfl_ne, fld_sfl_same, Option.isSome_some, pok_i, b1z, b01, z10, b1o, Int32.zero_add, vu_vu, upd_eq, upd_ne, true_or, or_true, V.r1, V.r2, V.r3, V.r4, V.r16, V.r17, V.r18, V.r19, V.r20, V.r23, V.r24, V.r25, V.r26, V.r27, V.r28, V.r29, V.r30, V.c172, V.c173, V.c174, V.c186, V.c187, V.c188, V.n5, V.n13, V.n14, V.i0, V.i5, V.i6, V.i7, V.i8, V.i9, V.i10, V.i11, V.i12, V.i13, V.i14, V.i15, V.i21, V.i22, Q0.f6, Q0.f7, Q0.f8, Q0.f9, Q0.f10, Q0.f11, Q0.f12, Q0.f15, Q0.c175, Q0.c176, h24']
      have err : ∀ f1 fr1 ag1 (c1 : Cu) w p rd1, w ≠ 0 → r = .inr (w, p) → SM f f1 → PC f1 s fr1 ag1 sz c1 w (nI p) rd1 → TT X (d + 62) 173 148 [.ref 171, .int x1, a2] [] f1 N K Q := by
        intro f1 fr1 ag1 c1 w p rd1 hw he sm P1
        have V1 := P1.V
        have Q1 := P1.1
        simp (disch := first | omega | decide | assumption | exact Nat.le_of_ble_eq_true rfl) only [s173_148, s173_149, s173_152, ow_some, true_and, and_true, and_self, if_true, if_false, not_true, not_false_eq_true, Bool.false_eq_true, eq_self, Option.toList, List.cons_append, List.nil_append, ix_in, ix_cl, lt_in, lt_cl, lt_add, ix_one, vu_eq, vu_ne, arI_mk, arL_mk, arY_mZ, arY_mB, alen_mI, fld_sfl_ne, fld_sfl_same, Option.isSome_some, pok_i, b1z, b01, z10, b1o, Int32.zero_add, vu_vu, upd_eq, upd_ne, true_or, or_true, V1.r1, V1.r2, V1.r3, V1.r4, V1.r16, V1.r17, V1.r18, V1.r19, V1.r20, V1.r23, V1.r24, V1.r25, V1.r26, V1.r27, V1.r28, V1.r29, V1.r30, V1.c172, V1.c173, V1.c174, V1.c186, V1.c187, V1.c188, V1.n5, V1.n13, V1.n14, V1.i0, V1.i5, V1.i6, V1.i7, V1.i8, V1.i9, V1.i10, V1.i11, V1.i12, V1.i13, V1.i14, V1.i15, V1.i21, V1.i22, Q1.f6, Q1.f7, Q1.f8, Q1.f9, Q1.f10, Q1.f11, Q1.f12, Q1.f15, Q1.c175, Q1.c176, hw]
        exact her f1 c1 fr1 ag1 w p rd1 he hw sm P1
      refine k173_165 (cno_MR V.mr) (Nat.le_of_ble_eq_true rfl) (P.line hli.2.1 hS h8 hli.2.2.1 hli.2.2.2.1 hli.1 hli.2.2.2.2.1 hli.2.2.2.2.2 cnm_nx cnm_nx h1) ?_
      rintro f1 n1 k1 v1 ⟨rfl, rfl, rfl, sm1, ho, he⟩
      rcases h2 with ⟨⟨w, p⟩, rfl, hr⟩ | ⟨c1, fr1, ag1, rfl, h3⟩
      · obtain ⟨hw, fr1, ag1, c1, rd1, P1⟩ := he _ _ rfl
        have V1 := P1.V
        simp (disch := first | omega | decide | assumption | exact Nat.le_of_ble_eq_true rfl) only [s173_168, ow_some, true_and, and_true, and_self, if_true, if_false, not_true, not_false_eq_true, Bool.false_eq_true, eq_self, Option.toList, List.cons_append, List.nil_append, ix_in, ix_cl, lt_in, lt_cl, lt_add, ix_one, vu_eq, vu_ne, arI_mk, arL_mk, arY_mZ, arY_mB, alen_mI, fld_sfl_ne, fld_sfl_same, Option.isSome_some, pok_i, b1z, b01, z10, b1o, Int32.zero_add, vu_vu, upd_eq, upd_ne, true_or, or_true, V1.r1, V1.r2, V1.r3, V1.r4, V1.r16, V1.r17, V1.r18, V1.r19, V1.r20, V1.r23, V1.r24, V1.r25, V1.r26, V1.r27, V1.r28, V1.r29, V1.r30, V1.c172, V1.c173, V1.c174, V1.c186, V1.c187, V1.c188, V1.n5, V1.n13, V1.n14, V1.i0, V1.i5, V1.i6, V1.i7, V1.i8, V1.i9, V1.i10, V1.i11, V1.i12, V1.i13, V1.i14, V1.i15, V1.i21, V1.i22]
        refine k173_169 (cno_MR V1.mr) (Nat.le_of_ble_eq_true rfl) (P1.endE hw) ?_
        rintro f2 n2 k2 v2 ⟨rfl, rfl, rfl, sm2, -, he2⟩
        obtain ⟨-, fr2, ag2, c2, rd2, P2⟩ := he2 _ _ rfl
        simp (disch := first | omega | decide | assumption | exact Nat.le_of_ble_eq_true rfl) only [h173_172, ow_some, true_and, and_true, and_self, if_true, if_false, not_true, not_false_eq_true, Bool.false_eq_true, eq_self, Option.toList, List.cons_append, List.nil_append, ix_in, ix_cl, lt_in, lt_cl, lt_add, ix_one, vu_eq, vu_ne, arI_mk, arL_mk, arY_mZ, arY_mB, alen_mI, fld_sfl_ne, fld_sfl_same, Option.isSome_some, pok_i, b1z, b01, z10, b1o, Int32.zero_add, vu_vu, upd_eq, upd_ne, true_or, or_true]
        exact err f2 fr2 ag2 c2 w p rd2 hw hr (sm1.tr sm2) P2
      · obtain ⟨wa1, rd1, P1⟩ := ho _ _ _ rfl
        have V1 := P1.V
        simp (disch := first | omega | decide | assumption | exact Nat.le_of_ble_eq_true rfl) only [s173_168, ow_some, true_and, and_true, and_self, if_true, if_false, not_true, not_false_eq_true, Bool.false_eq_true, eq_self, Option.toList, List.cons_append, List.nil_append, ix_in, ix_cl, lt_in, lt_cl, lt_add, ix_one, vu_eq, vu_ne, arI_mk, arL_mk, arY_mZ, arY_mB, alen_mI, fld_sfl_ne, fld_sfl_same, Option.isSome_some, pok_i, b1z, b01, z10, b1o, Int32.zero_add, vu_vu, upd_eq, upd_ne, true_or, or_true, V1.r1, V1.r2, V1.r3, V1.r4, V1.r16, V1.r17, V1.r18, V1.r19, V1.r20, V1.r23, V1.r24, V1.r25, V1.r26, V1.r27, V1.r28, V1.r29, V1.r30, V1.c172, V1.c173, V1.c174, V1.c186, V1.c187, V1.c188, V1.n5, V1.n13, V1.n14, V1.i0, V1.i5, V1.i6, V1.i7, V1.i8, V1.i9, V1.i10, V1.i11, V1.i12, V1.i13, V1.i14, V1.i15, V1.i21, V1.i22]
        refine k173_169 (cno_MR V1.mr) (Nat.le_of_ble_eq_true rfl) P1.endY ?_
        rintro f2 n2 k2 v2 ⟨rfl, rfl, rfl, sm2, ho2, he2⟩
        rcases h3 with ⟨h30, hr⟩ | ⟨h30, hl⟩
        · obtain ⟨hw, fr2, ag2, c2, rd2, P2⟩ := he2 _ _ (by rw [if_neg h30]; rfl)
          simp (disch := first | omega | decide | assumption | exact Nat.le_of_ble_eq_true rfl) only [h173_172, ow_some, true_and, and_true, and_self, if_true, if_false, not_true, not_false_eq_true, Bool.false_eq_true, eq_self, Option.toList, List.cons_append, List.nil_append, ix_in, ix_cl, lt_in, lt_cl, lt_add, ix_one, vu_eq, vu_ne, arI_mk, arL_mk, arY_mZ, arY_mB, alen_mI, fld_sfl_ne, fld_sfl_same, Option.isSome_some, pok_i, b1z, b01, z10, b1o, Int32.zero_add, vu_vu, upd_eq, upd_ne, true_or, or_true]
          exact err f2 fr2 ag2 c2 _ _ rd2 hw hr (sm1.tr sm2) P2
        · obtain ⟨wa2, rd2, P2⟩ := ho2 _ _ _ (by rw [if_pos h30])
          simp (disch := first | omega | decide | assumption | exact Nat.le_of_ble_eq_true rfl) only [h173_172, ow_some, true_and, and_true, and_self, if_true, if_false, not_true, not_false_eq_true, Bool.false_eq_true, eq_self, Option.toList, List.cons_append, List.nil_append, ix_in, ix_cl, lt_in, lt_cl, lt_add, ix_one, vu_eq, vu_ne, arI_mk, arL_mk, arY_mZ, arY_mB, alen_mI, fld_sfl_ne, fld_sfl_same, Option.isSome_some, pok_i, b1z, b01, z10, b1o, Int32.zero_add, vu_vu, upd_eq, upd_ne, true_or, or_true]
          obtain ⟨R', n', g1⟩ := line_LI P.2.2 h8 hli h24 h1
          have g3 := (g1.up (i := 0) (x := fr1 0 + 1) (by decide) (by decide) (by decide)).go (tx := s.2.2.1) (by rw [h30]; decide)
          exact ih f2 R' n' _ _ _ wa2 rd2 r hl g3.1 P2 (fun f' c' fr' ag' wa' rd' e sm => hok f' c' fr' ag' wa' rd' e ((sm1.tr sm2).tr sm)) (fun f' c' fr' ag' w p' rd' e hw sm => her f' c' fr' ag' w p' rd' e hw ((sm1.tr sm2).tr sm))
