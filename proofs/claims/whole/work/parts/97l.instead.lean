/-! the class: one in another's place; how long it stands -/
def XV (f : Nat → e_C) (q : Nat) (br mo up : Nat → Int32) (li : Nat → Int64) : Prop := fld (f 159) 10 0 = some (.ref q) ∧ fld (f 159) 10 1 = some (.ref 167) ∧ fld (f 159) 10 2 = some (.ref 168) ∧ fld (f 159) 10 3 = some (.ref 169) ∧ fld (f 159) 10 4 = some (.ref 170) ∧ arI (f 167) = some (8, br) ∧ arI (f 168) = some (8, mo) ∧ arI (f 169) = some (9, up) ∧ arL (f 170) = some (8, li)
theorem XV.cn {f : Nat → e_C} {q : Nat} {br mo up : Nat → Int32} {li : Nat → Int64} (h : XV f q br mo up li) : cno (f 159) = some 10 := cno_fld (j := 0) (by rw [h.1]; rfl)
theorem XV.fr {f f' : Nat → e_C} {q : Nat} {br mo up : Nat → Int32} {li : Nat → Int64} (h : XV f q br mo up li) (h1 : f' 159 = f 159) (h2 : ∀ b, 167 ≤ b → b < 171 → f' b = f b) : XV f' q br mo up li := by unfold XV; rw [h1, h2 167 (by omega) (by omega), h2 168 (by omega) (by omega), h2 169 (by omega) (by omega), h2 170 (by omega) (by omega)]; exact h
theorem XV.u7 {f : Nat → e_C} {q : Nat} {br mo up g : Nat → Int32} {li : Nat → Int64} (h : XV f q br mo up li) : XV (va_up f 167 (.inl (.int, 8, .inl g))) q g mo up li := by
  obtain ⟨a1, a2, a3, a4, a5, a6, a7, a8, a9⟩ := h
  exact ⟨by rw [vu_ne (by decide)]; exact a1, by rw [vu_ne (by decide)]; exact a2, by rw [vu_ne (by decide)]; exact a3, by rw [vu_ne (by decide)]; exact a4, by rw [vu_ne (by decide)]; exact a5, by rw [vu_eq]; rfl, by rw [vu_ne (by decide)]; exact a7, by rw [vu_ne (by decide)]; exact a8, by rw [vu_ne (by decide)]; exact a9⟩
theorem XV.u8 {f : Nat → e_C} {q : Nat} {br mo up g : Nat → Int32} {li : Nat → Int64} (h : XV f q br mo up li) : XV (va_up f 168 (.inl (.int, 8, .inl g))) q br g up li := by
  obtain ⟨a1, a2, a3, a4, a5, a6, a7, a8, a9⟩ := h
  exact ⟨by rw [vu_ne (by decide)]; exact a1, by rw [vu_ne (by decide)]; exact a2, by rw [vu_ne (by decide)]; exact a3, by rw [vu_ne (by decide)]; exact a4, by rw [vu_ne (by decide)]; exact a5, by rw [vu_ne (by decide)]; exact a6, by rw [vu_eq]; rfl, by rw [vu_ne (by decide)]; exact a8, by rw [vu_ne (by decide)]; exact a9⟩
theorem XV.u9 {f : Nat → e_C} {q : Nat} {br mo up g : Nat → Int32} {li : Nat → Int64} (h : XV f q br mo up li) : XV (va_up f 169 (.inl (.int, 9, .inl g))) q br mo g li := by
  obtain ⟨a1, a2, a3, a4, a5, a6, a7, a8, a9⟩ := h
  exact ⟨by rw [vu_ne (by decide)]; exact a1, by rw [vu_ne (by decide)]; exact a2, by rw [vu_ne (by decide)]; exact a3, by rw [vu_ne (by decide)]; exact a4, by rw [vu_ne (by decide)]; exact a5, by rw [vu_ne (by decide)]; exact a6, by rw [vu_ne (by decide)]; exact a7, by rw [vu_eq]; rfl, by rw [vu_ne (by decide)]; exact a9⟩
theorem XV.u0 {f : Nat → e_C} {q : Nat} {br mo up : Nat → Int32} {li g : Nat → Int64} (h : XV f q br mo up li) : XV (va_up f 170 (.inl (.long, 8, .inr (.inl g)))) q br mo up g := by
  obtain ⟨a1, a2, a3, a4, a5, a6, a7, a8, a9⟩ := h
  exact ⟨by rw [vu_ne (by decide)]; exact a1, by rw [vu_ne (by decide)]; exact a2, by rw [vu_ne (by decide)]; exact a3, by rw [vu_ne (by decide)]; exact a4, by rw [vu_ne (by decide)]; exact a5, by rw [vu_ne (by decide)]; exact a6, by rw [vu_ne (by decide)]; exact a7, by rw [vu_ne (by decide)]; exact a8, by rw [vu_eq]; rfl⟩
/-- what a question of the what-ifs ends with -/
def QX (f : Nat → e_C) (N K q : Nat) (z : Int32) : t_Q := fun f' n' k' v => n' = N ∧ k' = K ∧ SI 162 171 f f' ∧ (∃ y' br mo up li, LV f' q y' ∧ XV f' q br mo up li) ∧ v = some (.int z)
theorem by_nal {all : Nat → Int32} {S R P p c j : Nat} (I : IS all S R P) : m_by all S P (nI j) (nI c) p = m_sp (nal (upd all 53 (nI (clr (nT all) p))) P (clr (nT all) p) c j 0) S (P + 1) (clr (nT all) p ||| 2 ^ P) := by
  unfold m_by nal; rw [lat_0]
theorem IS.u53 {all : Nat → Int32} {S R P p : Nat} (I : IS all S R P) : IS (upd all 53 (nI (clr (nT all) p))) S R P ∧ nT (upd all 53 (nI (clr (nT all) p))) = clr (nT all) p := by
  have h8 := I.s8
  have h9 := I.p9
  have t5 := I.t5
  have hle := clr_le (nT all) p
  have hn : ∀ i, i ≠ 53 → upd all 53 (nI (clr (nT all) p)) i = all i := fun i h => upd_ne h
  have hT : nT (upd all 53 (nI (clr (nT all) p))) = clr (nT all) p := nT_of upd_eq (by omega)
  refine ⟨⟨I.1.cg (fun i hi => hn i (by omega)), I.2.1, by rw [hn 52 (by omega)]; exact I.eP, by rw [hT]; exact upd_eq, by rw [hT]; exact Nat.lt_of_le_of_lt hle I.tP, fun j hj => by rw [hn _ (by omega)]; exact I.st hj, fun p hp => by rw [hn _ (by omega)]; exact I.bd hp, by rw [hn 55 (by omega), hn 2 (by omega)]; exact I.sn, by rw [hn _ (by omega)]; exact I.dy, fun k hk => by rw [hn _ (by omega)]; exact I.pr hk, ?_, by rw [hn _ (by omega)]; exact I.fl⟩, hT⟩
  rw [sum_cg (all := all) S 0 0 (fun i _ hi => hn _ (by omega))]; exact I.ps
/-- the class's row with one brought gives what the reference spares -/
theorem slack_by {all jt ld ro : Nat → Int32} {S R P p c j : Nat} (I : IS all S R P) (hP : P < 9) (hp : p < P) (hj : j < S) (hc : c < 100) (h1 : ∀ i, i ≤ S → jt i = jnt all S i) (h2 : ∀ k, k < S → ld k = all (9 + k)) (hr : ∀ k, k < S → ro k = if k = j then m_bo all (clr (nT all) p) P k + nwc all P c j 0 else m_bo all (clr (nT all) p) P k) : (k_sl jt ld ro S).2.2 = m_by all S P (nI j) (nI c) p := by
  have h8 := I.s8
  have h9 := I.p9
  obtain ⟨I1, hT1⟩ := I.u53 (p := p)
  rw [by_nal I]
  have hn : ∀ i, i ≠ 53 → upd all 53 (nI (clr (nT all) p)) i = all i := fun i h => upd_ne h
  refine sp_nal I1 hP hj hc (fun i hi => by rw [jnt_cg h8 (fun i hi => hn i (by omega))]; exact h1 i hi) (fun k hk => by rw [hn _ (by omega)]; exact h2 k hk) (fun k hk => ?_)
  rw [lat_0, hr k hk]
  have e1 : m_bo (upd all 53 (nI (clr (nT all) p))) (clr (nT all) p) P k = m_bo all (clr (nT all) p) P k := bo_cg (fun i hi => hn i (by rintro rfl; unfold hl_i at hi; omega)) P k h9 (by omega)
  have e2 : nwc (upd all 53 (nI (clr (nT all) p))) P c j 0 = nwc all P c j 0 := by
    unfold nwc; rw [hn 56 (by decide)]; exact c_str_cg (fun i hi => hn i (by omega))
  rw [e1, e2]
theorem sp_leastInstead {X : Nat × (Nat → Int32)} {d N K a pl C S R P q : Nat} {f : Nat → e_C} {y x r : Nat → Nat → Int32} {w v all br mo up : Nat → Int32} {li : Nat → Int64} (L : LV f q y) (V : SV f a pl w x) (W : PV f pl v r C) (G : CR all S P w x v r C) (I : IS all S R P) (hd : AD a pl q) (O : XV f q br mo up li) (hq : q = 160) {p : Nat} (hp : p < P) (hP9 : P < 9) {u3 u4 u5 : Value} : TT X (d + 4) 102 0 [.ref 159, .ref a, .int (nI p), u3, u4, u5] [] f N K (QX f N K q (oI (m_fi (fun b => decide (0 ≤ m_by all S P (all (57 + p)) (nI b) p)) 100 0))) := by
  have h8 := I.s8
  have h9 := I.p9
  have t5 := I.t5
  have hS : v 0 = nI S := by rw [G.v0]; exact I.eS
  have hT : w 6 = nI (nT all) := by rw [G.w6]; exact I.eT
  have o1 := O.1
  obtain ⟨hcl, hclt⟩ := bit_clr (nT all) t5 p (by omega)
  obtain ⟨sj, hsj, hst⟩ := I.st hp
  have e2 : x 2 p = nI sj := by rw [G.x2 hp]; exact hst
  simp (disch := first | omega | decide | assumption | exact Nat.le_of_ble_eq_true rfl) only [s102_0, s102_1, s102_4, ow_some, true_and, and_true, and_self, if_true, if_false, not_true, not_false_eq_true, Bool.false_eq_true, eq_self, Option.toList, List.cons_append, List.nil_append, ix_in, ix_cl, lt_in, lt_cl, lt_add, ix_one, vu_eq, vu_ne, arI_mk, arL_mk, arY_mZ, arY_mB, alen_mI, fld_sfl_ne, fld_sfl_same, Option.isSome_some, pok_i, b1z, b01, z10, b1o, Int32.zero_add, vu_vu, upd_eq, upd_ne, true_or, or_true, o1]
  refine k102_5 L.cn (Nat.le_of_ble_eq_true rfl) (sp_weigh L V W G I hd) ?_
  rintro f1 n1 k1 v1 ⟨rfl, rfl, rfl, s1, y1, L1, -, hw1⟩
  have V1 := V.fr (f' := f1) (fun b h1 h2 => s1 b (by omega))
  have W1 := W.fr (f' := f1) (fun b h1 h2 => s1 b (by omega))
  have O1 : XV f1 q br mo up li := O.fr (s1 159 (by omega)) (fun b h1 h2 => s1 b (by omega))
  have q1 := O1.1
  simp (disch := first | omega | decide | assumption | exact Nat.le_of_ble_eq_true rfl) only [s102_8, s102_9, s102_12, s102_13, s102_14, s102_17, s102_18, s102_19, s102_20, s102_21, s102_22, ow_some, true_and, and_true, and_self, if_true, if_false, not_true, not_false_eq_true, Bool.false_eq_true, eq_self, Option.toList, List.cons_append, List.nil_append, ix_in, ix_cl, lt_in, lt_cl, lt_add, ix_one, vu_eq, vu_ne, arI_mk, arL_mk, arY_mZ, arY_mB, alen_mI, fld_sfl_ne, fld_sfl_same, Option.isSome_some, pok_i, b1z, b01, z10, b1o, Int32.zero_add, vu_vu, upd_eq, upd_ne, true_or, or_true, V1.v1, V1.v6, V1.v7, V1.v8, V1.v9, V1.i1, V1.i6, V1.i7, V1.i8, V1.i9, V1.r2, V1.r3, V1.r4, V1.r5, V1.pl, V1.a2, V1.a3, V1.a4, V1.a5, q1, hT, hcl]
  refine k102_23 L1.cn (Nat.le_of_ble_eq_true rfl) (sp_slackOf L1 V1 W1 G I hd (clr_sb t5 (by omega)) hw1) ?_
  rintro f2 n2 k2 v2 ⟨rfl, rfl, s2, ⟨g2, L2, hg2⟩, rfl⟩
  have s2' : SI 162 171 f f2 := (s1.wd (by omega) (by omega)).tr (s2.wd (by omega) (by omega))
  have V2 := V.fr (f' := f2) (fun b h1 h2 => s2' b (by omega))
  have O2 : XV f2 q br mo up li := O1.fr (s2 159 (by omega)) (fun b h1 h2 => s2 b (by omega))
  have q2 := O2.1
  have hgs := hg2 sj hsj
  simp (disch := first | omega | decide | assumption | exact Nat.le_of_ble_eq_true rfl) only [s102_26, s102_27, s102_28, s102_31, s102_32, s102_33, s102_34, s102_35, s102_38, s102_41, s102_42, s102_43, s102_45, h102_46, ow_some, true_and, and_true, and_self, if_true, if_false, not_true, not_false_eq_true, Bool.false_eq_true, eq_self, Option.toList, List.cons_append, List.nil_append, ix_in, ix_cl, lt_in, lt_cl, lt_add, ix_one, vu_eq, vu_ne, arI_mk, arL_mk, arY_mZ, arY_mB, alen_mI, fld_sfl_ne, fld_sfl_same, Option.isSome_some, pok_i, b1z, b01, z10, b1o, Int32.zero_add, vu_vu, upd_eq, upd_ne, true_or, or_true, V2.v1, V2.v6, V2.v7, V2.v8, V2.v9, V2.i1, V2.i6, V2.i7, V2.i8, V2.i9, V2.r2, V2.r3, V2.r4, V2.r5, V2.pl, V2.a2, V2.a3, V2.a4, V2.a5, L2.r0, L2.r1, L2.r2, L2.r3, L2.l0, L2.l1, L2.a0, L2.a1, L2.a2, L2.a3, L2.a4, q2, e2, up2_eq]
  rw [hst]
  suffices h : ∀ (m b : Nat) (e : Nat → e_C) (y3 : Nat → Nat → Int32), b + m = 100 → SI 162 171 f e → LV e q y3 → XV e q br mo up li → (∀ k, k < S → k ≠ sj → y3 4 k = m_bo all (clr (nT all) p) P k) → TH X (d + 4) 102 48 [.ref 159, .ref a, .int (nI p), .int (nI sj), .int (g2 sj), .int (nI b)] [] e n2 k2 (QX f n2 k2 q (oI (m_fi (fun b => decide (0 ≤ m_by all S P (nI sj) (nI b) p)) m b))) from h 100 0 f2 _ rfl s2' L2 O2 (fun k hk _ => by rw [up2_eq]; exact hg2 k hk)
  intro m
  induction m with
  | zero =>
    intro b e y3 hb s3 L3 O3 hk3
    unfold TH
    have hc : (100 ≤ b) = True := eq_true (by omega)
    simp (disch := first | omega | decide | assumption | exact Nat.le_of_ble_eq_true rfl) only [s102_48, s102_50, s102_52, s102_99, s102_100, ow_some, true_and, and_true, and_self, if_true, if_false, not_true, not_false_eq_true, Bool.false_eq_true, eq_self, Option.toList, List.cons_append, List.nil_append, ix_in, ix_cl, lt_in, lt_cl, lt_add, ix_one, vu_eq, vu_ne, arI_mk, arL_mk, arY_mZ, arY_mB, alen_mI, fld_sfl_ne, fld_sfl_same, Option.isSome_some, pok_i, b1z, b01, z10, b1o, Int32.zero_add, vu_vu, upd_eq, upd_ne, true_or, or_true, lt_le, hc]
    exact ⟨rfl, rfl, s3, ⟨y3, br, mo, up, li, L3, O3⟩, rfl⟩
  | succ m ih =>
    intro b e y3 hb s3 L3 O3 hk3
    unfold TH
    have V3 := V.fr (f' := e) (fun b h1 h2 => s3 b (by omega))
    have W3 := W.fr (f' := e) (fun b h1 h2 => s3 b (by omega))
    have hc : (100 ≤ b) = False := eq_false (by omega)
    have q3 := O3.1
    simp (disch := first | omega | decide | assumption | exact Nat.le_of_ble_eq_true rfl) only [s102_48, s102_50, s102_52, s102_55, s102_56, s102_59, s102_62, s102_63, s102_65, s102_66, s102_69, s102_70, s102_71, s102_73, ow_some, true_and, and_true, and_self, if_true, if_false, not_true, not_false_eq_true, Bool.false_eq_true, eq_self, Option.toList, List.cons_append, List.nil_append, ix_in, ix_cl, lt_in, lt_cl, lt_add, ix_one, vu_eq, vu_ne, arI_mk, arL_mk, arY_mZ, arY_mB, alen_mI, fld_sfl_ne, fld_sfl_same, Option.isSome_some, pok_i, b1z, b01, z10, b1o, Int32.zero_add, vu_vu, upd_eq, upd_ne, true_or, or_true, L3.r0, L3.r1, L3.r2, L3.r3, L3.l0, L3.l1, L3.a0, L3.a1, L3.a2, L3.a3, L3.a4, lt_le, hc, q3]
    refine k102_74 L3.cn (Nat.le_of_ble_eq_true rfl) (sp_newcomer L3 V3 W3 G I hd) ?_
    rintro f4 n4 k4 v4 ⟨rfl, rfl, s4, ⟨y4, L4, hy4⟩, rfl⟩
    have hnw : c_str all (nI P) (nI b) 0 (nI sj) (all 56 + 0) 0 = nwc all P b sj 0 := rfl
    rw [hnw]
    simp (disch := first | omega | decide | assumption | exact Nat.le_of_ble_eq_true rfl) only [s102_77, s102_78, ow_some, true_and, and_true, and_self, if_true, if_false, not_true, not_false_eq_true, Bool.false_eq_true, eq_self, Option.toList, List.cons_append, List.nil_append, ix_in, ix_cl, lt_in, lt_cl, lt_add, ix_one, vu_eq, vu_ne, arI_mk, arL_mk, arY_mZ, arY_mB, alen_mI, fld_sfl_ne, fld_sfl_same, Option.isSome_some, pok_i, b1z, b01, z10, b1o, Int32.zero_add, vu_vu, upd_eq, upd_ne, true_or, or_true, L4.r0, L4.r1, L4.r2, L4.r3, L4.l0, L4.l1, L4.a0, L4.a1, L4.a2, L4.a3, L4.a4]
    have L5 := L4.s4 (g := upd (y4 4) sj (g2 sj + nwc all P b sj 0))
    have s5 : SI 162 171 f (va_up f4 (q + 6) (.inl (.int, 8, .inl (upd (y4 4) sj (g2 sj + nwc all P b sj 0))))) := (s3.tr (s4.wd (by omega) (by omega))).tr (SI.up (by omega) (by omega))
    have O5 : XV (va_up f4 (q + 6) (.inl (.int, 8, .inl (upd (y4 4) sj (g2 sj + nwc all P b sj 0))))) q br mo up li := (O3.fr (f' := f4) (s4 159 (by omega)) (fun b h1 h2 => s4 b (by omega))).fr (vu_ne (by omega)) (fun b h1 h2 => vu_ne (by omega))
    generalize va_up f4 (q + 6) (.inl (.int, 8, .inl (upd (y4 4) sj (g2 sj + nwc all P b sj 0)))) = f5 at L5 s5 O5 ⊢
    have V5 := V.fr (f' := f5) (fun b h1 h2 => s5 b (by omega))
    have W5 := W.fr (f' := f5) (fun b h1 h2 => s5 b (by omega))
    have q5 := O5.1
    have hrow : ∀ k, k < S → up2 y4 4 (upd (y4 4) sj (g2 sj + nwc all P b sj 0)) 4 k = if k = sj then m_bo all (clr (nT all) p) P k + nwc all P b sj 0 else m_bo all (clr (nT all) p) P k := by
      intro k hk
      rw [up2_eq]
      by_cases hks : k = sj
      · subst hks; rw [upd_eq, if_pos rfl, hgs]
      · rw [upd_ne hks, if_neg hks, hy4 4 (by omega)]; exact hk3 k hk hks
    have hsl := slack_by (c := b) I hP9 hp hsj (by omega) (fun i hi => G.jt hi) (fun k hk => G.ld hk) hrow
    simp (disch := first | omega | decide | assumption | exact Nat.le_of_ble_eq_true rfl) only [s102_79, s102_80, s102_83, ow_some, true_and, and_true, and_self, if_true, if_false, not_true, not_false_eq_true, Bool.false_eq_true, eq_self, Option.toList, List.cons_append, List.nil_append, ix_in, ix_cl, lt_in, lt_cl, lt_add, ix_one, vu_eq, vu_ne, arI_mk, arL_mk, arY_mZ, arY_mB, alen_mI, fld_sfl_ne, fld_sfl_same, Option.isSome_some, pok_i, b1z, b01, z10, b1o, Int32.zero_add, vu_vu, upd_eq, upd_ne, true_or, or_true, q5]
    rw [p102_84 L5.cn (Nat.le_of_ble_eq_true rfl) (sp_slack L5 V5 W5 hS h8), hsl, m_fi_s m]
    by_cases hge : 0 ≤ m_by all S P (nI sj) (nI b) p
    · have hge' : (m_by all S P (nI sj) (nI b) p < 0) = False := eq_false (Int32.not_lt.mpr hge)
      rw [if_pos (decide_eq_true hge)]
      simp (disch := first | omega | decide | assumption | exact Nat.le_of_ble_eq_true rfl) only [s102_87, s102_90, s102_92, ow_some, true_and, and_true, and_self, if_true, if_false, not_true, not_false_eq_true, Bool.false_eq_true, eq_self, Option.toList, List.cons_append, List.nil_append, ix_in, ix_cl, lt_in, lt_cl, lt_add, ix_one, vu_eq, vu_ne, arI_mk, arL_mk, arY_mZ, arY_mB, alen_mI, fld_sfl_ne, fld_sfl_same, Option.isSome_some, pok_i, b1z, b01, z10, b1o, Int32.zero_add, vu_vu, upd_eq, upd_ne, true_or, or_true, hge']
      exact ⟨rfl, rfl, s5, ⟨_, br, mo, up, li, L5, O5⟩, rfl⟩
    · have hge' : (m_by all S P (nI sj) (nI b) p < 0) = True := eq_true (Int32.not_le.mp hge)
      have hdn : ¬ decide (0 ≤ m_by all S P (nI sj) (nI b) p) = true := by rw [decide_eq_true_iff]; exact hge
      rw [if_neg hdn]
      simp (disch := first | omega | decide | assumption | exact Nat.le_of_ble_eq_true rfl) only [s102_87, s102_93, h102_96, ow_some, true_and, and_true, and_self, if_true, if_false, not_true, not_false_eq_true, Bool.false_eq_true, eq_self, Option.toList, List.cons_append, List.nil_append, ix_in, ix_cl, lt_in, lt_cl, lt_add, ix_one, vu_eq, vu_ne, arI_mk, arL_mk, arY_mZ, arY_mB, alen_mI, fld_sfl_ne, fld_sfl_same, Option.isSome_some, pok_i, b1z, b01, z10, b1o, Int32.zero_add, vu_vu, upd_eq, upd_ne, true_or, or_true, hge']
      refine ih (b + 1) f5 _ (by omega) s5 L5 O5 (fun k hk hks => ?_)
      rw [hrow k hk, if_neg hks]
