/-! the class's stair against the reference's -/
theorem new_hi {all fr ag : Nat → Int32} {R i : Nat} (h : 1394 ≤ i) (hR : R ≤ 9) : m_new all fr ag R i = all i := by
  unfold m_new m_nb; rw [if_neg (by omega), if_neg (by omega), if_neg (by omega)]
theorem new_53 {all fr ag : Nat → Int32} {R : Nat} : m_new all fr ag R 53 = nI (2 ^ R - 1) := by
  unfold m_new m_nb; rw [if_pos rfl]
theorem new_75 {all fr ag : Nat → Int32} {R p : Nat} (h : p < R) : m_new all fr ag R (75 + p) = fr 56 - ag p := by
  unfold m_new m_nb; rw [if_neg (by omega), if_pos (by omega), Nat.add_sub_cancel_left]
theorem sum_z : ∀ S, S < 9 → m_sum (fun _ => 0) 84 S 0 0 = 0 := by decide
theorem p2lt : ∀ R, R < 10 → 2 ^ R - 1 < 1000 ∧ 2 ^ R - 1 < 2 ^ R := by decide
theorem new_nT {all fr ag : Nat → Int32} {R : Nat} (h : R ≤ 9) : nT (m_new all fr ag R) = 2 ^ R - 1 := by
  unfold nT; rw [new_53]; exact ix_cl (by have := (p2lt R (by omega)).1; omega)
section NEW
variable {all fr ag v : Nat → Int32} {S R n L : Nat} {r : Nat → Nat → Int32}
theorem FI.lww (h : FI S R n fr ag) : lw2 (m_new all fr ag R) := by
  have hR := h.1.1.2.2
  have h9 := h.1.2.2.1.2
  intro law hl
  rw [new_fr (by omega) (by omega) (by omega) hR]
  rcases h.1.2.2.2.2.2.2 law hl with z | ⟨z, F, M, h5, h7, hFM, hty⟩
  · exact Or.inl z
  · refine Or.inr ⟨z, F, M, by rw [new_fr (by omega) (by omega) (by omega) hR]; exact h5, by rw [new_fr (by omega) (by omega) (by omega) hR]; exact h7, by omega, ?_⟩
    rw [← hty, ← Nat.add_zero F, ← ty_at (g := fun i => fr (494 + i)) (F := F) M 0 []]
    exact tyr_cg _ _ _ (fun i _ hi => by
      show m_new all fr ag R (494 + (F + 0) + i) = fr (494 + (F + i))
      rw [new_fr (by omega) (by omega) (by omega) hR]
      exact congrArg fr (by omega))
theorem FI.isw (h : FI S R n fr ag) : IS (m_new all fr ag R) S R R := by
  have hw := h.lww (all := all)
  obtain ⟨⟨⟨s1, s8, hR⟩, e1, hn, hf, hm, hag, hlw⟩, e52⟩ := h
  have g : ∀ i, i ≠ 53 → ¬ (75 ≤ i ∧ i < 84) → i < 1394 → m_new all fr ag R i = fr i := fun i a b c => new_fr a b c hR
  have p2 := p2lt R (by omega)
  refine ⟨⟨⟨s1, s8, hR⟩, by rw [g 1 (by omega) (by omega) (by omega)]; exact e1, ⟨fun k hk => ?_, fun k hk => ?_⟩, ?_, fun p hp => ?_, fun p hp => ?_, fun p hp => ?_, hw⟩, ⟨Nat.le_refl R, hR⟩, by rw [g 52 (by omega) (by omega) (by omega)]; exact e52, by rw [new_nT hR, new_53], by rw [new_nT hR]; exact p2.2, fun p hp => ?_, fun p hp => ?_, ?_, ?_, fun k hk => ?_, ?_, ?_⟩
  · rw [g _ (by omega) (by omega) (by omega)]
    obtain ⟨x, x1, x2⟩ := (hf (9 + k) (by omega)).2.1 (by omega)
    rw [x2, nI_toInt (by omega)]; omega
  · rw [g _ (by omega) (by omega) (by omega)]
    obtain ⟨x, x1, x2⟩ := (hf (17 + k) (by omega)).2.1 (by omega)
    rw [x2, nI_toInt (by omega)]; omega
  · obtain ⟨x, x1, x2, x3⟩ := (hf 2 (by omega)).1 rfl
    exact ⟨x, x1, x2, by rw [g _ (by omega) (by omega) (by omega)]; exact x3⟩
  · rw [g _ (by omega) (by omega) (by omega)]
    obtain ⟨a, b⟩ := (hf (25 + p) (by omega)).2.2.1 (by omega)
    exact ⟨a, fun q => b (by omega)⟩
  · rw [g _ (by omega) (by omega) (by omega)]
    obtain ⟨a, b⟩ := (hf (34 + p) (by omega)).2.2.2.1 (by omega)
    exact ⟨a, fun q => b (by omega)⟩
  · rw [g _ (by omega) (by omega) (by omega)]
    rcases hm p hp with z | ⟨j, b1, b2, b3, b4, b5⟩
    · exact Or.inl z
    · exact Or.inr ⟨j, b1, b2, b3, b4, by rw [g _ (by omega) (by omega) (by omega)]; exact b5⟩
  · rw [g _ (by omega) (by omega) (by omega)]; exact (hf (57 + p) (by omega)).2.2.2.2.1 (by omega)
  · rw [g _ (by omega) (by omega) (by omega)]; exact (hf (66 + p) (by omega)).2.2.2.2.2.1 (by omega)
  · obtain ⟨x, x1, x2, x3⟩ := (hf 2 (by omega)).1 rfl
    exact ⟨0, x, by omega, x2, by rw [g _ (by omega) (by omega) (by omega)]; exact (hf 55 (by omega)).2.2.2.2.2.2.2.1 (by omega), by rw [g _ (by omega) (by omega) (by omega)]; exact x3⟩
  · rw [g _ (by omega) (by omega) (by omega)]
    obtain ⟨x, x1, x2⟩ := (hf 56 (by omega)).2.2.2.2.2.2.1 rfl
    exact ⟨x, by omega, x2⟩
  · rw [g _ (by omega) (by omega) (by omega)]
    have := (hf (84 + k) (by omega)).2.2.2.2.2.2.2.2 (by omega)
    exact ⟨⟨0, by omega, this⟩, fun _ => this⟩
  · rw [sum_cg (all := fun _ => 0) S 0 0 (fun i _ hi => by rw [g _ (by omega) (by omega) (by omega)]; exact (hf (84 + i) (by omega)).2.2.2.2.2.2.2.2 (by omega)), sum_z S (by omega)]
    decide
  · rw [g _ (by omega) (by omega) (by omega)]; exact Or.inl ((hf 54 (by omega)).2.2.2.2.2.2.2.1 (by omega))
theorem PN.lrw {law i j : Nat} (h : FI S R n fr ag) (P : PN S R n fr ag v r) (hL : n ≤ L) (hL9 : L ≤ 900) (hl : law < 2) (l : lw1 fr v law i j) : lr (m_new all fr ag R) law L (r 13) (v i) (v j) := by
  have hR := h.1.1.2.2
  have h9 := h.1.2.2.1.2
  unfold lr
  rw [new_fr (by omega) (by omega) (by omega) hR, new_fr (by omega) (by omega) (by omega) hR, new_fr (by omega) (by omega) (by omega) hR]
  rcases l with ⟨z, hv⟩ | ⟨z, F, M, l5, l7, lv1, lv2⟩
  · exact Or.inl ⟨z, hv⟩
  · rcases h.1.2.2.2.2.2.2 law hl with y | ⟨y, F', M', h5, h7, hFM, hty⟩
    · rw [y] at z; exact absurd z (by decide)
    · refine Or.inr ⟨z, F', M', h5, h7, by rw [lv1, ← l5]; exact h5, ?_, by omega, hL9, fun q hq => ?_, ?_⟩
      · rw [lv2, ← nI_add, ← l5, ← l7, h5, h7, nI_add]
      · rw [new_fr (by omega) (by omega) (by omega) hR, P.2.2.1.2.2 (F' + q) (by omega)]
        exact congrArg (fun z => tr (fr z)) (by omega)
      · rw [← hty, ← Nat.add_zero F', ← ty_at (g := fun i => fr (494 + i)) (F := F') M' 0 []]
        exact tyr_cg _ _ _ (fun i _ hi => by
          show m_new all fr ag R (494 + (F' + 0) + i) = fr (494 + (F' + i))
          rw [new_fr (by omega) (by omega) (by omega) hR]
          exact congrArg fr (by omega))
theorem PN.crw {w : Nat → Int32} {x : Nat → Nat → Int32} (h : FI S R n fr ag) (P : PN S R n fr ag v r) (hL : n ≤ L) (hL9 : L ≤ 900) (B : begS v r w x) : CR (m_new all fr ag R) S R w x v r L := by
  have hl0 := P.lrw (all := all) h hL hL9 (show 0 < 2 by omega) P.2.2.2.2.2.2.2.2.1
  have hl1 := P.lrw (all := all) h hL hL9 (show 1 < 2 by omega) P.2.2.2.2.2.2.2.2.2
  obtain ⟨⟨⟨s1, s8, hR⟩, e1, hn, hf, hm, hag, hlw⟩, e52⟩ := h
  obtain ⟨⟨z1, z2⟩, ⟨a1, a2, a3, a4, a5⟩, b, c, ⟨d1, d2, d3⟩, e, e', q, l0, l1⟩ := P
  obtain ⟨⟨w1, w6, w7, w8, w9⟩, x2, x3, x4, x5⟩ := B
  have g : ∀ i, i ≠ 53 → ¬ (75 ≤ i ∧ i < 84) → i < 1394 → m_new all fr ag R i = fr i := fun i a b c => new_fr a b c hR
  refine ⟨⟨?_, ?_, ?_, ?_, ?_⟩, fun p hp => ?_, fun p hp => ?_, fun p hp => ?_, fun k hk => ?_, ⟨?_, ?_, ?_⟩, fun k hk => ?_, fun i hi => ?_, fun p hp => ?_, fun p hp => ?_, fun p hp => ?_, hl0, hl1⟩
  · rw [w1, a2, g _ (by omega) (by omega) (by omega)]
  · rw [w6, a2, e52, p2m R (by omega), new_53]
  · rw [w7, g _ (by omega) (by omega) (by omega)]; exact ((hf 55 (by omega)).2.2.2.2.2.2.2.1 (by omega)).symm
  · rw [w8, a4, g _ (by omega) (by omega) (by omega)]
  · rw [w9, g _ (by omega) (by omega) (by omega)]; exact ((hf 54 (by omega)).2.2.2.2.2.2.2.1 (by omega)).symm
  · rw [x2 p (by omega), (e p hp).1, g _ (by omega) (by omega) (by omega)]
  · rw [x3 p (by omega), (e p hp).2.1, g _ (by omega) (by omega) (by omega)]
  · rw [x4 p (by omega), a4, (e p hp).2.2, new_75 hp]
  · rw [x5 k hk, g _ (by omega) (by omega) (by omega)]; exact ((hf (84 + k) (by omega)).2.2.2.2.2.2.2.2 (by omega)).symm
  · rw [a1, g _ (by omega) (by omega) (by omega)]
  · rw [a3, g _ (by omega) (by omega) (by omega)]
  · rw [a5, g _ (by omega) (by omega) (by omega)]
  · rw [c k hk, g _ (by omega) (by omega) (by omega)]
  · unfold jnt
    by_cases i0 : i = 0
    · rw [if_pos i0, i0]; exact d1
    · rw [if_neg i0]
      obtain ⟨k, rfl⟩ : ∃ k, i = k + 1 := ⟨i - 1, by omega⟩
      by_cases iS : k + 1 < S
      · rw [if_pos iS, g _ (by omega) (by omega) (by omega), d2 k (by omega)]
        exact congrArg fr (by omega)
      · rw [if_neg iS, d2 k (by omega), d3 k (by omega) (by omega)]
  · rw [(q p hp).1, g _ (by omega) (by omega) (by omega)]
  · rw [(q p hp).2.1, g _ (by omega) (by omega) (by omega)]
  · rw [(q p hp).2.2, g _ (by omega) (by omega) (by omega)]
end NEW
section STAIR
variable {X : Nat × (Nat → Int32)} {d N K : Nat} {f f' : Nat → e_C} {t t' : Nat → Int32} {s : m_T} {S R P D B : Nat}
/-- a text that is read: the class's cells beside what is new -/
theorem ST.rdE {w x : Int32} (Z : ST f N s S R P D B t) (hf : ∀ b, b ≠ 0 → ¬ (99 ≤ b ∧ b < 102) → b < N → f' b = f b) (hN : 189 ≤ N) (H : HV f' t') (h1 : t' 1 = 0) (h2 : t' 2 = w) (h3 : t' 3 = x) (h7 : t' 7 = t 7) (h8 : t' 8 = t 8) (V : RDV f') : ST f' (N + 10) (s.1, (0, w, x), s.2.2) S R P D B t' := by
  obtain ⟨a1, a2, a3, ⟨j', b1, b2, b3⟩, a5, a6, a7, a8, a9⟩ := Z
  refine ⟨H, a2.fr (by omega) (Nat.le_refl _) (fun b hb => hf b (by omega) (by omega) (by omega)), a3.fr (fun b p1 p2 => hf b (by omega) (by omega) (by omega)), ⟨j', by rw [h7]; exact b1, by rw [h8]; exact b2, ?_⟩, ?_, a6.fr (fun b p1 p2 => hf b (by omega) (by omega) (by omega)), ?_, ⟨h2, h3⟩, V⟩
  · obtain ⟨c1, c2, c3, c4, c5, c6⟩ := b3
    refine ⟨by rw [hf 22 (by omega) (by omega) (by omega)]; exact c1, fun i hi => (c2 i hi).fr (fun b p1 p2 => hf b (by omega) (by omega) (by omega)), c3, c4, c5, fun i hi => ?_⟩
    obtain ⟨P', h⟩ := c6 i hi
    have := Nat.mod_lt (j' + 10 - i) (show 11 > 0 by omega)
    exact ⟨P', h.fr (by omega) (Nat.le_refl _) (fun b hb => hf b (by omega) (by omega) (by omega))⟩
  · obtain ⟨c1, c2, c3, c4⟩ := a5
    refine ⟨by rw [hf 78 (by omega) (by omega) (by omega)]; exact c1, by rw [hf 89 (by omega) (by omega) (by omega)]; exact c2, fun i hi => (c3 i hi).fr (fun b p1 p2 => hf b (by omega) (by omega) (by omega)), fun i hi hz => ?_⟩
    obtain ⟨S', R', P', h⟩ := c4 i hi hz
    exact ⟨S', R', P', h.fr (by omega) (Nat.le_refl _) (fun b hb => hf b (by omega) (by omega) (by omega))⟩
  · obtain ⟨tb, F, q1, q2, q3, q4, q5⟩ := a7
    exact ⟨tb, 0, by rw [hf 1 (by omega) (by omega) (by omega)]; exact q1, h1, rfl, by omega, fun i hi => absurd hi (by omega)⟩
theorem ST.rdN {all2 : Nat → Int32} {S2 R2 : Nat} (Z : ST f N s S R P D B t) (hf : ∀ b, b ≠ 0 → ¬ (99 ≤ b ∧ b < 102) → ¬ (12 ≤ b ∧ b < 17) → ¬ (119 ≤ b ∧ b < 127) → b < N → f' b = f b) (hN : 189 ≤ N) (H : HV f' t') (h1 : t' 1 = 0) (h2 : t' 2 = 0) (h3 : t' 3 = -1) (h7 : t' 7 = t 7) (h8 : t' 8 = 0) (V : RDV f') (h12 : SR f' (N + 10) 12 all2 S2 R2 R2 B) (h92 : all2 92 = 0) (hi : ∀ i, 1394 ≤ i → all2 i = s.1 i) : ST f' (N + 10) (all2, (0, 0, -1), s.2.2) S2 R2 R2 0 B t' := by
  obtain ⟨a1, a2, a3, ⟨j', b1, b2, b3⟩, a5, a6, a7, a8, a9⟩ := Z
  refine ⟨H, h12, a3.fr (fun b p1 p2 => hf b (by omega) (by omega) (by omega) (by omega) (by omega)), ⟨j', by rw [h7]; exact b1, h8, ?_⟩, ?_, a6.fr (fun b p1 p2 => hf b (by omega) (by omega) (by omega) (by omega) (by omega)), ?_, ⟨h2, h3⟩, V⟩
  · obtain ⟨c1, c2, c3, c4, c5, c6⟩ := b3
    exact ⟨by rw [hf 22 (by omega) (by omega) (by omega) (by omega) (by omega)]; exact c1, fun i hi => (c2 i hi).fr (fun b p1 p2 => hf b (by omega) (by omega) (by omega) (by omega) (by omega)), h92, by omega, c5, fun i hi => absurd hi (by omega)⟩
  · obtain ⟨c1, c2, c3, c4⟩ := a5
    refine ⟨by rw [hf 78 (by omega) (by omega) (by omega) (by omega) (by omega)]; exact c1, by rw [hf 89 (by omega) (by omega) (by omega) (by omega) (by omega)]; exact c2, fun i hi => (c3 i hi).fr (fun b p1 p2 => hf b (by omega) (by omega) (by omega) (by omega) (by omega)), fun i hi' hz => ?_⟩
    obtain ⟨S', R', P', h⟩ := c4 i hi' hz
    have e : (fun a => all2 (1394 * (i + 1) + a)) = fun a => s.1 (1394 * (i + 1) + a) := funext (fun a => hi _ (by omega))
    refine ⟨S', R', P', ?_⟩
    show SR f' (N + 10) (79 + 5 * i) (fun a => all2 (1394 * (i + 1) + a)) S' R' P' B
    rw [e]
    exact h.fr (by omega) (Nat.le_refl _) (fun b hb => hf b (by omega) (by omega) (by omega) (by omega) (by omega))
  · obtain ⟨tb, F, q1, q2, q3, q4, q5⟩ := a7
    exact ⟨tb, 0, by rw [hf 1 (by omega) (by omega) (by omega) (by omega) (by omega)]; exact q1, h1, rfl, by omega, fun i hi => absurd hi (by omega)⟩
/-- what the class's stair leaves -/
def QT (f : Nat → e_C) (N K : Nat) (s' : m_T) (B : Nat) (z : Int32) : t_Q := fun f' n' k' v => n' = N + 10 ∧ k' ≤ K + 5000 ∧ (∀ b, 171 ≤ b ∧ b < 189 → f' b = f b) ∧ SCR f' ∧ (∃ S R P D t, ST f' (N + 10) s' S R P D B t) ∧ v = some (.int z)
theorem sp_stairC {F L : Nat} {res : Lr} (Z : ST f N s S R P D B t) (Y : SCR f) (hN : 189 ≤ N) (hB : 1000 ≤ B) (hq : s.2.1.1 = nI F) (hF : F ≤ 900) (hL : L ≤ F) (hr : rd_of s.2.2.1 L res) {u2 : Value} : TT X (d + 64) 115 0 [.ref 0, .int (nI L), u2] [] f N K (QT f N K (o_read s res).1 B (o_read s res).2) := by
  obtain ⟨tb, F', hb, h1, h2, h3, htb⟩ := Z.2.2.2.2.2.2.1
  have e : F' = F := by
    rw [h2, ix_eq (by omega) (by omega)] at hq
    exact hq
  subst e
  have H := Z.1
  have v1 := H.v1
  have i1 := hv_p1 H
  have c1 : (nI L < 0) = False := by rw [tl_lt (c := 0) (by decide) (by omega)]; exact eq_false (by omega)
  have c2 : (L ≤ F') = True := eq_true hL
  simp (disch := first | omega | decide | assumption | exact Nat.le_of_ble_eq_true rfl) only [s115_0, s115_1, s115_4, s115_5, s115_6, s115_9, s115_15, s115_16, s115_17, ow_some, true_and, and_true, and_self, if_true, if_false, not_true, not_false_eq_true, Bool.false_eq_true, eq_self, Option.toList, List.cons_append, List.nil_append, ix_in, ix_cl, lt_in, lt_cl, lt_add, ix_one, vu_eq, vu_ne, arI_mk, arL_mk, arY_mZ, arY_mB, alen_mI, fld_sfl_ne, fld_sfl_same, Option.isSome_some, pok_i, b1z, b01, z10, b1o, Int32.zero_add, vu_vu, upd_eq, upd_ne, true_or, or_true, v1, h1, i1, c1, ix_le, c2]
  have H1 := H.set (i := 1) (z := 0) (by decide)
  have s1 : ∀ b, b ≠ 0 → va_up f 0 (sfl (f 0) 1 (.int 0)) b = f b := fun b hb => vu_ne hb
  generalize va_up f 0 (sfl (f 0) 1 (.int 0)) = f1 at H1 s1 ⊢
  have V1 : RDV f1 := Z.2.2.2.2.2.2.2.2.frm (s1 99 (by omega)) (s1 100 (by omega)) (s1 101 (by omega))
  have B1 : TB f1 tb s.2.2.1 L := ⟨by rw [s1 1 (by omega)]; exact hb, by omega, fun i hi => htb i (by omega)⟩
  have q12 := H1.r12
  have q0 := H1.r0
  have cn99 : cno (f1 99) = some 3 := cno_fld (j := 0) (V1.1 0 (by omega))
  obtain ⟨nm, fr0, ag0, k, hp0, ht⟩ := hr
  obtain ⟨M, rfl⟩ : ∃ M, N = M + 2 := ⟨N - 2, by omega⟩
  simp (disch := first | omega | decide | assumption | exact Nat.le_of_ble_eq_true rfl) only [s115_20, s115_21, s115_24, s115_25, s115_28, ow_some, true_and, and_true, and_self, if_true, if_false, not_true, not_false_eq_true, Bool.false_eq_true, eq_self, Option.toList, List.cons_append, List.nil_append, ix_in, ix_cl, lt_in, lt_cl, lt_add, ix_one, vu_eq, vu_ne, arI_mk, arL_mk, arY_mZ, arY_mB, alen_mI, fld_sfl_ne, fld_sfl_same, Option.isSome_some, pok_i, b1z, b01, z10, b1o, Int32.zero_add, vu_vu, upd_eq, upd_ne, true_or, or_true, q12, q0]
  refine k115_29 cn99 (Nat.le_of_ble_eq_true rfl) (sp_read (d := d) (by omega) B1 V1 (by omega) hp0 ht) ?_
  rintro f2 n2 k2 v2 ⟨rfl, hk2, rfl, s2, V2, hres⟩
  have H2 := H1.fr (s2 0 (by omega) (by omega))
  have g2 : ∀ b, b ≠ 0 → ¬ (99 ≤ b ∧ b < 102) → b < M + 2 → f2 b = f b := fun b p1 p2 p3 => by rw [s2 b p2 p3, s1 b p1]
  have q122 := H2.r12
  rcases hres with ⟨w, p, he, hw, w7, w8⟩ | ⟨c, fr, ag, S2, R2, n2, v, r, he, ⟨w7, w8⟩, PV2, PN2, hn2, hS2, hR2⟩
  · have i2 : (fld (f2 0) 11 2).isSome = true := by rw [H2.v2]; rfl
    simp (disch := first | omega | decide | assumption | exact Nat.le_of_ble_eq_true rfl) only [s115_32, s115_33, s115_34, s115_35, s115_38, s115_41, ow_some, true_and, and_true, and_self, if_true, if_false, not_true, not_false_eq_true, Bool.false_eq_true, eq_self, Option.toList, List.cons_append, List.nil_append, ix_in, ix_cl, lt_in, lt_cl, lt_add, ix_one, vu_eq, vu_ne, arI_mk, arL_mk, arY_mZ, arY_mB, alen_mI, fld_sfl_ne, fld_sfl_same, Option.isSome_some, pok_i, b1z, b01, z10, b1o, Int32.zero_add, vu_vu, upd_eq, upd_ne, true_or, or_true, q122, w7, i2]
    have H3 := H2.set (i := 2) (z := w) (by decide)
    have s3 : ∀ b, b ≠ 0 → va_up f2 0 (sfl (f2 0) 2 (.int w)) b = f2 b := fun b hb => vu_ne hb
    generalize va_up f2 0 (sfl (f2 0) 2 (.int w)) = f3 at H3 s3 ⊢
    have q123 := H3.r12
    have i3 : (fld (f3 0) 11 3).isSome = true := by rw [H3.v3]; rfl
    have w8' : fld (f3 99) 3 8 = some (.int (nI p)) := by rw [s3 99 (by omega)]; exact w8
    simp (disch := first | omega | decide | assumption | exact Nat.le_of_ble_eq_true rfl) only [s115_44, s115_45, s115_46, s115_49, s115_52, ow_some, true_and, and_true, and_self, if_true, if_false, not_true, not_false_eq_true, Bool.false_eq_true, eq_self, Option.toList, List.cons_append, List.nil_append, ix_in, ix_cl, lt_in, lt_cl, lt_add, ix_one, vu_eq, vu_ne, arI_mk, arL_mk, arY_mZ, arY_mB, alen_mI, fld_sfl_ne, fld_sfl_same, Option.isSome_some, pok_i, b1z, b01, z10, b1o, Int32.zero_add, vu_vu, upd_eq, upd_ne, true_or, or_true, q123, w8', i3]
    have H4 := H3.set (i := 3) (z := nI p) (by decide)
    have s4 : ∀ b, b ≠ 0 → va_up f3 0 (sfl (f3 0) 3 (.int (nI p))) b = f3 b := fun b hb => vu_ne hb
    generalize va_up f3 0 (sfl (f3 0) 3 (.int (nI p))) = f4 at H4 s4 ⊢
    have v24 := H4.v2
    have e2 : upd (upd (upd t 1 0) 2 w) 3 (nI p) 2 = w := by rw [upd_ne (by decide), upd_eq]
    rw [e2] at v24
    have hw' : (w = 0) = False := eq_false hw
    simp (disch := first | omega | decide | assumption | exact Nat.le_of_ble_eq_true rfl) only [s115_55, s115_56, s115_59, s115_62, s115_64, s115_65, s115_68, s115_69, ow_some, true_and, and_true, and_self, if_true, if_false, not_true, not_false_eq_true, Bool.false_eq_true, eq_self, Option.toList, List.cons_append, List.nil_append, ix_in, ix_cl, lt_in, lt_cl, lt_add, ix_one, vu_eq, vu_ne, arI_mk, arL_mk, arY_mZ, arY_mB, alen_mI, fld_sfl_ne, fld_sfl_same, Option.isSome_some, pok_i, b1z, b01, z10, b1o, Int32.zero_add, vu_vu, upd_eq, upd_ne, true_or, or_true, v24, hw']
    rw [he]
    have g4 : ∀ b, b ≠ 0 → ¬ (99 ≤ b ∧ b < 102) → b < M + 2 → f4 b = f b := fun b p1 p2 p3 => by rw [s4 b p1, s3 b p1, g2 b p1 p2 p3]
    refine ⟨by omega, by omega, fun b hb => g4 b (by omega) (by omega) (by omega), Y.fr (fun b p1 p2 => g4 b (by omega) (by omega) (by omega)), ⟨S, R, P, D, _, Z.rdE g4 hN H4 ?_ e2 upd_eq ?_ ?_ ?_⟩, rfl⟩
    · rw [upd_ne (by decide), upd_ne (by decide), upd_eq]
    · rw [upd_ne (by decide), upd_ne (by decide), upd_ne (by decide)]
    · rw [upd_ne (by decide), upd_ne (by decide), upd_ne (by decide)]
    · exact V2.frm (by rw [s4 99 (by omega), s3 99 (by omega)]) (by rw [s4 100 (by omega), s3 100 (by omega)]) (by rw [s4 101 (by omega), s3 101 (by omega)])
  · have i2 : (fld (f2 0) 11 2).isSome = true := by rw [H2.v2]; rfl
    simp (disch := first | omega | decide | assumption | exact Nat.le_of_ble_eq_true rfl) only [s115_32, s115_33, s115_34, s115_35, s115_38, s115_41, ow_some, true_and, and_true, and_self, if_true, if_false, not_true, not_false_eq_true, Bool.false_eq_true, eq_self, Option.toList, List.cons_append, List.nil_append, ix_in, ix_cl, lt_in, lt_cl, lt_add, ix_one, vu_eq, vu_ne, arI_mk, arL_mk, arY_mZ, arY_mB, alen_mI, fld_sfl_ne, fld_sfl_same, Option.isSome_some, pok_i, b1z, b01, z10, b1o, Int32.zero_add, vu_vu, upd_eq, upd_ne, true_or, or_true, q122, w7, i2]
    have H3 := H2.set (i := 2) (z := 0) (by decide)
    have s3 : ∀ b, b ≠ 0 → va_up f2 0 (sfl (f2 0) 2 (.int 0)) b = f2 b := fun b hb => vu_ne hb
    generalize va_up f2 0 (sfl (f2 0) 2 (.int 0)) = f3 at H3 s3 ⊢
    have q123 := H3.r12
    have i3 : (fld (f3 0) 11 3).isSome = true := by rw [H3.v3]; rfl
    have w8' : fld (f3 99) 3 8 = some (.int (-1)) := by rw [s3 99 (by omega)]; exact w8
    simp (disch := first | omega | decide | assumption | exact Nat.le_of_ble_eq_true rfl) only [s115_44, s115_45, s115_46, s115_49, s115_52, ow_some, true_and, and_true, and_self, if_true, if_false, not_true, not_false_eq_true, Bool.false_eq_true, eq_self, Option.toList, List.cons_append, List.nil_append, ix_in, ix_cl, lt_in, lt_cl, lt_add, ix_one, vu_eq, vu_ne, arI_mk, arL_mk, arY_mZ, arY_mB, alen_mI, fld_sfl_ne, fld_sfl_same, Option.isSome_some, pok_i, b1z, b01, z10, b1o, Int32.zero_add, vu_vu, upd_eq, upd_ne, true_or, or_true, q123, w8', i3]
    have H4 := H3.set (i := 3) (z := -1) (by decide)
    have s4 : ∀ b, b ≠ 0 → va_up f3 0 (sfl (f3 0) 3 (.int (-1))) b = f3 b := fun b hb => vu_ne hb
    generalize va_up f3 0 (sfl (f3 0) 3 (.int (-1))) = f4 at H4 s4 ⊢
    have v24 := H4.v2
    have e2 : upd (upd (upd t 1 0) 2 0) 3 (-1) 2 = 0 := by rw [upd_ne (by decide), upd_eq]
    rw [e2] at v24
    have r44 := H4.r4
    simp (disch := first | omega | decide | assumption | exact Nat.le_of_ble_eq_true rfl) only [s115_55, s115_56, s115_59, s115_62, s115_64, s115_65, s115_68, s115_69, s115_70, s115_71, s115_74, ow_some, true_and, and_true, and_self, if_true, if_false, not_true, not_false_eq_true, Bool.false_eq_true, eq_self, Option.toList, List.cons_append, List.nil_append, ix_in, ix_cl, lt_in, lt_cl, lt_add, ix_one, vu_eq, vu_ne, arI_mk, arL_mk, arY_mZ, arY_mB, alen_mI, fld_sfl_ne, fld_sfl_same, Option.isSome_some, pok_i, b1z, b01, z10, b1o, Int32.zero_add, vu_vu, upd_eq, upd_ne, true_or, or_true, v24, r44]
    have g4 : ∀ b, b ≠ 0 → ¬ (99 ≤ b ∧ b < 102) → b < M + 2 → f4 b = f b := fun b p1 p2 p3 => by rw [s4 b p1, s3 b p1, g2 b p1 p2 p3]
    have PV4 : PV f4 (M + 2) v r L := PV2.fr (fun b p1 p2 => by rw [s4 b (by omega), s3 b (by omega)])
    obtain ⟨pl0', w0, x0, v0, r0, C0, V0, -⟩ := Z.2.1
    have V4 : SV f4 12 pl0' w0 x0 := V0.fr (fun b p1 p2 => g4 b (by omega) (by omega) (by omega))
    refine k115_75 (cno_fld (j := 0) (by rw [V4.pl]; rfl)) (Nat.le_of_ble_eq_true rfl) (sp_beginS (d := d + 63) V4 PV4 (by omega)) ?_
    rintro f5 n5 k5 v5 ⟨rfl, rfl, rfl, s5, w5, x5, V5, Bg⟩
    have H5 := H4.fr (s5 0 (by omega))
    have r45 := H5.r4
    have r145 := H5.r14
    simp (disch := first | omega | decide | assumption | exact Nat.le_of_ble_eq_true rfl) only [s115_78, s115_79, s115_82, s115_83, ow_some, true_and, and_true, and_self, if_true, if_false, not_true, not_false_eq_true, Bool.false_eq_true, eq_self, Option.toList, List.cons_append, List.nil_append, ix_in, ix_cl, lt_in, lt_cl, lt_add, ix_one, vu_eq, vu_ne, arI_mk, arL_mk, arY_mZ, arY_mB, alen_mI, fld_sfl_ne, fld_sfl_same, Option.isSome_some, pok_i, b1z, b01, z10, b1o, Int32.zero_add, vu_vu, upd_eq, upd_ne, true_or, or_true, r45, r145]
    rw [he] at ht
    obtain ⟨S3, R3, n3, hFI⟩ := text_FI (by omega) hp0 cv_lx ht
    have hS : S3 = S2 := by
      have := hFI.1.2.1
      rw [hS2, ix_eq (by have := PN2.1.1; omega) (by have := hFI.1.1.2.1; omega)] at this
      exact this.symm
    have hR : R3 = R2 := by
      have := hFI.2
      rw [hR2, ix_eq (by have := PN2.1.2; omega) (by have := hFI.1.1.2.2; omega)] at this
      exact this.symm
    have hnn : n3 = n2 := by rw [← PN2.2.2.1.2.1.eq, ← hFI.1.2.2.1.eq]
    subst hS hR hnn
    have hR9 := hFI.1.1.2.2
    have PV5 : PV f5 (M + 2) v r L := PV4.fr (fun b p1 p2 => s5 b (by omega))
    obtain ⟨sd, wy, y2, D2, L2⟩ := Y.2.1
    have g5 : ∀ b, b ≠ 0 → ¬ (99 ≤ b ∧ b < 102) → ¬ (12 ≤ b ∧ b < 17) → b < M + 2 → f5 b = f b := fun b p1 p2 p4 p3 => by rw [s5 b (by omega), g4 b p1 p2 p3]
    have L5 : LV f5 120 y2 := L2.fr (fun b p1 p2 => g5 b (by omega) (by omega) (by omega) (by omega))
    have D5 : DV f5 sd wy := by unfold DV; rw [g5 119 (by omega) (by omega) (by omega) (by omega)]; exact D2
    have G5 := PN2.crw (all := s.1) hFI hn2 (by omega) Bg
    have I5 := hFI.isw (all := s.1)
    have h54 : m_new s.1 fr ag R3 54 = 0 := by rw [new_fr (by omega) (by omega) (by omega) hR9]; exact (hFI.1.2.2.2.1 54 (by omega)).2.2.2.2.2.2.2.1 (by omega)
    have cn119 : cno (f5 119) = some 0 := D5.cn
    refine k115_86 cn119 (Nat.le_of_ble_eq_true rfl) (sp_settle (d := d + 59) L5 D5 V5 PV5 G5 I5 ⟨by omega, by omega, by omega, by omega⟩ h54) ?_
    rintro f6 n6 k6 v6 ⟨rfl, rfl, rfl, s6, W6⟩
    have H6 := H5.fr (s6 0 (by omega) (by omega))
    have i8 : (fld (f6 0) 11 8).isSome = true := by rw [H6.v8]; rfl
    simp (disch := first | omega | decide | assumption | exact Nat.le_of_ble_eq_true rfl) only [s115_89, s115_90, s115_91, ow_some, true_and, and_true, and_self, if_true, if_false, not_true, not_false_eq_true, Bool.false_eq_true, eq_self, Option.toList, List.cons_append, List.nil_append, ix_in, ix_cl, lt_in, lt_cl, lt_add, ix_one, vu_eq, vu_ne, arI_mk, arL_mk, arY_mZ, arY_mB, alen_mI, fld_sfl_ne, fld_sfl_same, Option.isSome_some, pok_i, b1z, b01, z10, b1o, Int32.zero_add, vu_vu, upd_eq, upd_ne, true_or, or_true, i8]
    have H7 := H6.set (i := 8) (z := 0) (by decide)
    have s7 : ∀ b, b ≠ 0 → va_up f6 0 (sfl (f6 0) 8 (.int 0)) b = f6 b := fun b hb => vu_ne hb
    generalize va_up f6 0 (sfl (f6 0) 8 (.int 0)) = f7 at H7 s7 ⊢
    have PV7 : PV f7 (M + 2) v r L := PV5.fr (fun b p1 p2 => by rw [s7 b (by omega), s6 b (by omega) (by omega)])
    have v12 := PV7.v12
    have e12 : v 12 = fr 0 := PN2.2.1.2.2.2.2
    simp (disch := first | omega | decide | assumption | exact Nat.le_of_ble_eq_true rfl) only [s115_94, s115_95, s115_98, ow_some, true_and, and_true, and_self, if_true, if_false, not_true, not_false_eq_true, Bool.false_eq_true, eq_self, Option.toList, List.cons_append, List.nil_append, ix_in, ix_cl, lt_in, lt_cl, lt_add, ix_one, vu_eq, vu_ne, arI_mk, arL_mk, arY_mZ, arY_mB, alen_mI, fld_sfl_ne, fld_sfl_same, Option.isSome_some, pok_i, b1z, b01, z10, b1o, Int32.zero_add, vu_vu, upd_eq, upd_ne, true_or, or_true, v12, e12]
    have enR : nR fr = R3 := by unfold nR; rw [hFI.2]; exact ix_cl (by omega)
    have enS : nS fr = S3 := by unfold nS; rw [hFI.1.2.1]; exact ix_cl (by have := hFI.1.1.2.1; omega)
    have hT := new_nT (all := s.1) (fr := fr) (ag := ag) hR9
    have eo : o_read s (.inl (c, fr, ag)) = ((m_fall (m_new s.1 fr ag R3) S3 R3 (nT (m_new s.1 fr ag R3)), (0, 0, -1), s.2.2), fr 0) := by
      show ((m_fall (m_new s.1 fr ag (nR fr)) (nS fr) (nR fr) (2 ^ nR fr - 1), ((0 : Int32), (0 : Int32), (-1 : Int32)), s.2.2), fr 0) = _
      rw [enR, enS, hT]
    rw [he, eo]
    have hmf := mfl_fall (all := m_new s.1 fr ag R3) hFI.1.1.2.1 hR9 h54
    have h56 : (m_fall (m_new s.1 fr ag R3) S3 R3 (nT (m_new s.1 fr ag R3)) 56).toInt ≤ B := by
      rw [fall_ne (by omega), new_fr (by omega) (by omega) (by omega) hR9]
      obtain ⟨x, x1, x2⟩ := (hFI.1.2.2.2.1 56 (by omega)).2.2.2.2.2.2.1 rfl
      rw [x2, nI_toInt (by omega)]; omega
    have h92 : m_fall (m_new s.1 fr ag R3) S3 R3 (nT (m_new s.1 fr ag R3)) 92 = 0 := by
      rw [fall_ne (by omega), new_fr (by omega) (by omega) (by omega) hR9]; exact (hFI.1.2.2.2.1 92 (by omega)).2.2.2.2.2.2.2.2 (by omega)
    have hhi : ∀ i, 1394 ≤ i → m_fall (m_new s.1 fr ag R3) S3 R3 (nT (m_new s.1 fr ag R3)) i = s.1 i := fun i hi => by rw [fall_ne (by omega), new_hi hi hR9]
    have g7 : ∀ b, b ≠ 0 → ¬ (99 ≤ b ∧ b < 102) → ¬ (12 ≤ b ∧ b < 17) → ¬ (119 ≤ b ∧ b < 127) → b < M + 2 → f7 b = f b := fun b p1 p2 p4 p5 p3 => by rw [s7 b p1, s6 b (by omega) (by omega), g5 b p1 p2 p4 p3]
    have hsc : sc2 f7 := W6.sc.fr (fun b p1 p2 => s7 b (by omega))
    have V7 : RDV f7 := V2.frm (by rw [s7 99 (by omega), s6 99 (by omega) (by omega), s5 99 (by omega), s4 99 (by omega), s3 99 (by omega)]) (by rw [s7 100 (by omega), s6 100 (by omega) (by omega), s5 100 (by omega), s4 100 (by omega), s3 100 (by omega)]) (by rw [s7 101 (by omega), s6 101 (by omega) (by omega), s5 101 (by omega), s4 101 (by omega), s3 101 (by omega)])
    have h12 : SR f7 (M + 2 + 10) 12 (m_fall (m_new s.1 fr ag R3) S3 R3 (nT (m_new s.1 fr ag R3))) S3 R3 R3 B := by
      obtain ⟨w6, x6, v6, r6, C6, y6, -, -, V6, P6, G6, I6, -⟩ := W6
      exact ⟨M + 2, w6, x6, v6, r6, C6, V6.fr (fun b p1 p2 => s7 b (by omega)), P6.fr (fun b p1 p2 => s7 b (by omega)), G6, I6, hmf, Or.inr ⟨by omega, by omega⟩, h56⟩
    refine ⟨by omega, by omega, fun b hb => g7 b (by omega) (by omega) (by omega) (by omega) (by omega), Y.d (fun b hb => g7 b (by omega) (by omega) (by omega) (by omega) (by omega)) hsc, ⟨S3, R3, R3, 0, _, Z.rdN g7 hN H7 ?_ ?_ ?_ ?_ upd_eq V7 h12 h92 hhi⟩, rfl⟩
    · rw [upd_ne (by decide), upd_ne (by decide), upd_ne (by decide), upd_eq]
    · rw [upd_ne (by decide), upd_ne (by decide), upd_eq]
    · rw [upd_ne (by decide), upd_eq]
    · rw [upd_ne (by decide), upd_ne (by decide), upd_ne (by decide), upd_ne (by decide)]
theorem sp_stairCn {F : Nat} {x : Int32} (Z : ST f N s S R P D B t) (Y : SCR f) (hq : s.2.1.1 = nI F) (hF : F ≤ 900) (hx : ¬ (0 ≤ x.toInt ∧ x.toInt ≤ F)) {u2 : Value} : TT X d 115 0 [.ref 0, .int x, u2] [] f N K (QG f N K s B (.int (-3))) := by
  obtain ⟨tb, F', hb, h1, h2, h3, htb⟩ := Z.2.2.2.2.2.2.1
  have e : F' = F := by
    rw [h2, ix_eq (by omega) (by omega)] at hq
    exact hq
  subst e
  have v1 := Z.1.v1
  by_cases c : x < 0
  · have c1 : (x < 0) = True := eq_true c
    simp (disch := first | omega | decide | assumption | exact Nat.le_of_ble_eq_true rfl) only [s115_0, s115_1, s115_12, s115_14, ow_some, true_and, and_true, and_self, if_true, if_false, not_true, not_false_eq_true, Bool.false_eq_true, eq_self, Option.toList, List.cons_append, List.nil_append, ix_in, ix_cl, lt_in, lt_cl, lt_add, ix_one, vu_eq, vu_ne, arI_mk, arL_mk, arY_mZ, arY_mB, alen_mI, fld_sfl_ne, fld_sfl_same, Option.isSome_some, pok_i, b1z, b01, z10, b1o, Int32.zero_add, vu_vu, upd_eq, upd_ne, true_or, or_true, c1]
    exact qg_q Z Y (fun _ _ => rfl)
  · have c1 : (x < 0) = False := eq_false c
    rw [Int32.lt_iff_toInt_lt, show (0 : Int32).toInt = 0 by decide] at c
    have c2 : (x ≤ nI F') = False := eq_false (by rw [Int32.le_iff_toInt_le, nI_toInt (by omega)]; omega)
    simp (disch := first | omega | decide | assumption | exact Nat.le_of_ble_eq_true rfl) only [s115_0, s115_1, s115_4, s115_5, s115_6, s115_9, s115_12, s115_14, ow_some, true_and, and_true, and_self, if_true, if_false, not_true, not_false_eq_true, Bool.false_eq_true, eq_self, Option.toList, List.cons_append, List.nil_append, ix_in, ix_cl, lt_in, lt_cl, lt_add, ix_one, vu_eq, vu_ne, arI_mk, arL_mk, arY_mZ, arY_mB, alen_mI, fld_sfl_ne, fld_sfl_same, Option.isSome_some, pok_i, b1z, b01, z10, b1o, Int32.zero_add, vu_vu, upd_eq, upd_ne, true_or, or_true, v1, h1, c1, c2]
    exact qg_q Z Y (fun _ _ => rfl)
set_option maxRecDepth 20000 in
theorem k_bd {a b c : Nat} (h1 : a ≤ b + 5000) (h2 : b ≤ 100000 + 10000 * c) : a ≤ 100000 + 10000 * (c + 1) := by omega
theorem n_bd {a b c : Nat} (h1 : a = b + 10) (h2 : b ≤ 189 + 100 * c) : a ≤ 189 + 100 * (c + 1) := by omega
theorem pr_stair {c : Nat} {x0 : Int32} (A : REL f N K c) (hc : c < 512) : PRI X 999 115 173 [.ref 0, .int x0, .float 0] [.ref 171, .int x0, .float 0] f N K c := by
  obtain ⟨h1, h2, h3, Y, s, S, R, P, D, t, V, Z⟩ := A
  obtain ⟨F, -, hF1, hF2⟩ := Z.fd
  refine ⟨Z.1.cn, ?_⟩
  have ref := fun f1 (V1 : MV f1 s) n1 k1 => sp_stair (X := X) (d := 929) (N := n1) (K := k1) V1 hF1 hF2 (n := x0) (a2 := .float 0)
  by_cases hx : 0 ≤ x0.toInt ∧ x0.toInt ≤ F
  · obtain ⟨L, hL, hL1, hL2⟩ := i9 (v := x0) (N := 901) hx.1 (by omega) (by omega)
    have hLn : x0.toInt.toNat = L := by rw [hL2, Int.toNat_natCast]
    have tot : ∃ r, rd_of s.2.2.1 L r := by
      obtain ⟨k, r, h⟩ := text_tot (tx := s.2.2.1) (sz := L) (by omega) (c0 := lx s.2.2.1 L 0 0) (fr0 := pl0) (ag := fun _ => 0) (fun _ _ => rfl) cv_lx
      exact ⟨r, 0, pl0, fun _ => 0, k, fun _ _ => rfl, h⟩
    have cls := TT.all (X := X) (d := 999) (mi := 115) (pc := 0) (lv := [.ref 0, .int x0, .float 0]) (st := []) (f := f) (n := N) (k := K) (P := fun r => rd_of s.2.2.1 L r) (Q := fun r => QT f N K (o_read s r).1 (1000 + 99 * c) (o_read s r).2) tot (fun r hr => by
      rw [hL1]
      exact sp_stairC (d := 935) Z Y h1 (by omega) hF1 hF2 (by omega) hr)
    refine cls.mono ?_
    intro f1 n1 k1 v1 hall
    obtain ⟨r0, hr0⟩ := tot
    obtain ⟨e1, e2, e3, Y1, -, ev⟩ := hall r0 hr0
    have V1 : MV f1 s := fun a a1 a2 => by rw [e3 a ⟨a1, a2⟩]; exact V a a1 a2
    refine ⟨_, ev, cno_MR V1.mr, ?_⟩
    refine (ref f1 V1 n1 k1).mono ?_
    rintro f2 n2 k2 v2 ⟨rfl, rfl, sw, h⟩
    rcases h with ⟨hn, -⟩ | ⟨-, r, hr, V2, hv⟩
    · exact absurd hx hn
    · rw [hLn] at hr
      obtain ⟨q1, q2, q3, Y2, ⟨S', R', P', D', t', Z'⟩, qv⟩ := hall r hr
      have ez : (o_read s r).2 = (o_read s r0).2 := by
        rw [ev] at qv
        have := Option.some.inj qv
        injection this with this
        exact this.symm
      refine ⟨by rw [hv, ez], by omega, n_bd q1 h2, k_bd q2 h3, Y2.fr (fun b p1 p2 => sw b (by omega)), (o_read s r).1, S', R', P', D', t', V2, ?_⟩
      subst q1
      exact Z'.fr (Nat.le_refl _) (by omega) (fun b hb => sw b (by omega))
  · refine (sp_stairCn (d := 999) Z Y hF1 hF2 hx).mono ?_
    rintro f1 n1 k1 v1 ⟨rfl, rfl, e3, Y1, ⟨S', R', P', D', t', Z'⟩, ev⟩
    have V1 : MV f1 s := fun a a1 a2 => by rw [e3 a ⟨a1, a2⟩]; exact V a a1 a2
    refine ⟨_, ev, cno_MR V1.mr, ?_⟩
    refine (ref f1 V1 _ _).mono ?_
    rintro f2 n2 k2 v2 ⟨rfl, rfl, sw, h⟩
    rcases h with ⟨-, V2, hv⟩ | ⟨hn, -⟩
    · exact ⟨hv, by omega, by omega, by omega, Y1.fr (fun b p1 p2 => sw b (by omega)), s, S', R', P', D', t', V2, Z'.fr (Nat.le_refl _) (by omega) (fun b hb => sw b (by omega))⟩
    · exact absurd hn hx
end STAIR
theorem stair_ok {X : Nat × (Nat → Int32)} : stairP X := fun _ _ _ _ _ hc A => pr_stair A hc
