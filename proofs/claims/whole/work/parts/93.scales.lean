/-! the class's scales: all who are there, so many days later -/
theorem lat_ne {all : Nat → Int32} {n i : Nat} (h : i ≠ 56) : m_lat all n i = all i := upd_ne h
theorem lat_56 {all : Nat → Int32} {n : Nat} : m_lat all n 56 = all 56 + nI n := upd_eq
theorem lat_nT {all : Nat → Int32} {n : Nat} : nT (m_lat all n) = nT all := nT_up (by decide)
theorem lw2_cg {all all' : Nat → Int32} (h : lw2 all) (he : ∀ i, (3 ≤ i ∧ i ≤ 8) ∨ 494 ≤ i ∧ i < 1394 → all' i = all i) : lw2 all' := by
  intro l hl
  rcases h l hl with z | ⟨b1, F, M, b2, b3, b4, b5⟩
  · exact Or.inl (by rw [he _ (by omega)]; exact z)
  · refine Or.inr ⟨by rw [he _ (by omega)]; exact b1, F, M, by rw [he _ (by omega)]; exact b2, by rw [he _ (by omega)]; exact b3, b4, ?_⟩
    rw [← b5]
    exact tyr_cg _ _ _ (fun i _ hi => he _ (by omega))
theorem bnd_cg {all all' : Nat → Int32} (h : bnd all) (he : ∀ i, 9 ≤ i ∧ i < 25 → all' i = all i) : bnd all' := ⟨fun k hk => by rw [he _ (by omega)]; exact h.1 k hk, fun k hk => by rw [he _ (by omega)]; exact h.2 k hk⟩
theorem jnt_cg {all all' : Nat → Int32} {S i : Nat} (hS : S ≤ 8) (he : ∀ i, 9 ≤ i ∧ i < 25 → all' i = all i) : jnt all' S i = jnt all S i := by
  unfold jnt
  split
  · rfl
  · split
    · rw [he _ (by omega)]
    · rfl
theorem wed_cg {all all' : Nat → Int32} {p T : Nat} (h : all' (43 + p) = all (43 + p)) : m_wed all' p T = m_wed all p T := by unfold m_wed; rw [h]
theorem bears_lat {all : Nat → Int32} {n p T : Nat} (hl : lw2 all) (hb : vb (all (66 + p)) 100) (hp : p < 9) : m_bears (m_lat all n) p T = c_str all (nI p) (all (66 + p)) (all 56 + nI n - all (75 + p)) (all (57 + p)) (all 56 + nI n) (m_wed all p T) := by
  rw [bears_str (lw2_cg hl (fun i hi => lat_ne (by omega))) (by rw [lat_ne (by omega)]; exact hb), lat_56, lat_ne (by omega), lat_ne (by omega), lat_ne (by omega), wed_cg (lat_ne (by omega))]
  exact c_str_cg (fun i hi => lat_ne (by omega))
theorem up2_up2 {x : Nat → Nat → Int32} {i : Nat} {g g' : Nat → Int32} : up2 (up2 x i g) i g' = up2 x i g' := by
  funext j; by_cases h : j = i <;> simp [up2, h]
theorem sp_later {X : Nat × (Nat → Int32)} {d N K q a pl C S R P : Nat} {f : Nat → e_C} {y x r : Nat → Nat → Int32} {w v all : Nat → Int32} (L : LV f q y) (V : SV f a pl w x) (W : PV f pl v r C) (G : CR all S P w x v r C) (I : IS all S R P) (hd : AD a pl q) {n : Nat} (hn : n < 1000) {u3 u4 u5 : Value} : TT X (d + 3) 56 0 [.ref q, .ref a, .int (nI n), u3, u4, u5] [] f N K (fun f' n' k' z => n' = N ∧ k' = K ∧ SI (q + 2) (q + 7) f f' ∧ (∃ y', LV f' q y' ∧ (∀ j, 2 ≤ j → j < 4 → y' j = y j) ∧ ∀ k, k < S → y' 4 k = m_bo (m_lat all n) (nT all) P k) ∧ z = some (.int (m_sp (m_lat all n) S P (nT all)))) := by
  have h8 := I.s8
  have h9 := I.p9
  have hS : v 0 = nI S := by rw [G.v0]; exact I.eS
  have hP : w 1 = nI P := by rw [G.w1]; exact I.eP
  have hT : w 6 = nI (nT all) := by rw [G.w6]; exact I.eT
  simp (disch := first | omega | decide | assumption | exact Nat.le_of_ble_eq_true rfl) only [s56_0, s56_1, ow_some, true_and, and_true, and_self, if_true, if_false, not_true, not_false_eq_true, Bool.false_eq_true, eq_self, Option.toList, List.cons_append, List.nil_append, ix_in, ix_cl, lt_in, lt_cl, lt_add, ix_one, vu_eq, vu_ne, arI_mk, arL_mk, arY_mZ, arY_mB, alen_mI, fld_sfl_ne, fld_sfl_same, Option.isSome_some, pok_i, b1z, b01, z10, b1o, Int32.zero_add, vu_vu, upd_eq, upd_ne, true_or, or_true]
  refine k56_2 L.cn (Nat.le_of_ble_eq_true rfl) (sp_fillProps L V W hS h8 (by omega) (by omega)) ?_
  rintro f1 n1 k1 v1 ⟨rfl, rfl, rfl, s1, g0, L1, hg0⟩
  simp (disch := first | omega | decide | assumption | exact Nat.le_of_ble_eq_true rfl) only [s56_5, h56_6, ow_some, true_and, and_true, and_self, if_true, if_false, not_true, not_false_eq_true, Bool.false_eq_true, eq_self, Option.toList, List.cons_append, List.nil_append, ix_in, ix_cl, lt_in, lt_cl, lt_add, ix_one, vu_eq, vu_ne, arI_mk, arL_mk, arY_mZ, arY_mB, alen_mI, fld_sfl_ne, fld_sfl_same, Option.isSome_some, pok_i, b1z, b01, z10, b1o, Int32.zero_add, vu_vu, upd_eq, upd_ne, true_or, or_true]
  refine lp (fun p e (z : (Nat → Nat → Int32) × Value × Value) => SI (q + 2) (q + 7) f e ∧ LV e q z.1 ∧ (∀ j, 2 ≤ j → j < 4 → z.1 j = y j) ∧ ∀ k, k < S → z.1 4 k = m_bo (m_lat all n) (nT all) p k) (fun p z => [.ref q, .ref a, .int (nI n), .int (nI p), z.2.1, z.2.2]) P ?_ ?_ 0 f1 (up2 y 4 g0, u4, u5) (by omega) ⟨s1.wd (by omega) (by omega), L1, fun j h1 h2 => up2_ne (by omega), fun k hk => ?_⟩
  · rintro p e ⟨y1, z4, z5⟩ hp ⟨s2, L2, hy, hk⟩ hI
    have V2 := V.fr (f' := e) (fun b h1 h2 => s2 b (by omega))
    have W2 := W.fr (f' := e) (fun b h1 h2 => s2 b (by omega))
    have hc : (P ≤ p) = False := eq_false (by omega)
    simp (disch := first | omega | decide | assumption | exact Nat.le_of_ble_eq_true rfl) only [s56_7, s56_8, s56_9, s56_12, s56_15, s56_16, ow_some, true_and, and_true, and_self, if_true, if_false, not_true, not_false_eq_true, Bool.false_eq_true, eq_self, Option.toList, List.cons_append, List.nil_append, ix_in, ix_cl, lt_in, lt_cl, lt_add, ix_one, vu_eq, vu_ne, arI_mk, arL_mk, arY_mZ, arY_mB, alen_mI, fld_sfl_ne, fld_sfl_same, Option.isSome_some, pok_i, b1z, b01, z10, b1o, Int32.zero_add, vu_vu, upd_eq, upd_ne, true_or, or_true, V2.v1, V2.v6, V2.v7, V2.v8, V2.v9, V2.i1, V2.i6, V2.i7, V2.i8, V2.i9, V2.r2, V2.r3, V2.r4, V2.r5, V2.pl, V2.a2, V2.a3, V2.a4, V2.a5, hP, ix_le, hc]
    rw [p56_17 V2.cn (Nat.le_of_ble_eq_true rfl) (sp_isTj V2 hP h9 hT I.t5 hp)]
    by_cases hb : (nT all).testBit p = true
    · obtain ⟨sp, hsp, hst⟩ := I.st hp
      have e2 : x 2 p = nI sp := by rw [G.x2 hp]; exact hst
      simp (disch := first | omega | decide | assumption | exact Nat.le_of_ble_eq_true rfl) only [s56_20, s56_23, s56_24, s56_25, s56_26, ow_some, true_and, and_true, and_self, if_true, if_false, not_true, not_false_eq_true, Bool.false_eq_true, eq_self, Option.toList, List.cons_append, List.nil_append, ix_in, ix_cl, lt_in, lt_cl, lt_add, ix_one, vu_eq, vu_ne, arI_mk, arL_mk, arY_mZ, arY_mB, alen_mI, fld_sfl_ne, fld_sfl_same, Option.isSome_some, pok_i, b1z, b01, z10, b1o, Int32.zero_add, vu_vu, upd_eq, upd_ne, true_or, or_true, V2.v1, V2.v6, V2.v7, V2.v8, V2.v9, V2.i1, V2.i6, V2.i7, V2.i8, V2.i9, V2.r2, V2.r3, V2.r4, V2.r5, V2.pl, V2.a2, V2.a3, V2.a4, V2.a5, hb, hT]
      rw [p56_29 V2.cn (Nat.le_of_ble_eq_true rfl) (sp_wed V2 W2 (fun p hp => G.r9 hp) (show p < 9 by omega) (I.m9 (by omega)) I.t5)]
      simp (disch := first | omega | decide | assumption | exact Nat.le_of_ble_eq_true rfl) only [s56_32, s56_34, s56_35, s56_38, s56_39, s56_40, s56_42, s56_43, s56_46, s56_47, s56_50, s56_51, s56_52, s56_53, s56_54, s56_55, s56_56, s56_59, s56_60, s56_61, s56_64, s56_65, s56_66, s56_68, s56_69, s56_72, s56_73, s56_74, s56_75, s56_76, s56_79, s56_80, s56_81, s56_83, ow_some, true_and, and_true, and_self, if_true, if_false, not_true, not_false_eq_true, Bool.false_eq_true, eq_self, Option.toList, List.cons_append, List.nil_append, ix_in, ix_cl, lt_in, lt_cl, lt_add, ix_one, vu_eq, vu_ne, arI_mk, arL_mk, arY_mZ, arY_mB, alen_mI, fld_sfl_ne, fld_sfl_same, Option.isSome_some, pok_i, b1z, b01, z10, b1o, Int32.zero_add, vu_vu, upd_eq, upd_ne, true_or, or_true, V2.v1, V2.v6, V2.v7, V2.v8, V2.v9, V2.i1, V2.i6, V2.i7, V2.i8, V2.i9, V2.r2, V2.r3, V2.r4, V2.r5, V2.pl, V2.a2, V2.a3, V2.a4, V2.a5, L2.r0, L2.r1, L2.r2, L2.r3, L2.l0, L2.l1, L2.a0, L2.a1, L2.a2, L2.a3, L2.a4, e2]
      refine k56_85 L2.cn (Nat.le_of_ble_eq_true rfl) (sp_strength L2 W2 (by omega) G.l0) ?_
      rintro f3 n3 k3 v3 ⟨rfl, rfl, s3, ⟨y3, L3, hy3⟩, rfl⟩
      have e4 : y3 4 = y1 4 := hy3 4 (by omega)
      have hbear : c_str all (nI p) (x 3 p) (w 8 + nI n - x 4 p) (nI sp) (w 8 + nI n) (m_wed all p (nT all)) = m_bears (m_lat all n) p (nT all) := by
        rw [bears_lat I.lw (I.bd hp) (by omega), G.x3 hp, G.x4 hp, G.w8, hst]
      simp (disch := first | omega | decide | assumption | exact Nat.le_of_ble_eq_true rfl) only [s56_88, s56_89, s56_90, h56_93, ow_some, true_and, and_true, and_self, if_true, if_false, not_true, not_false_eq_true, Bool.false_eq_true, eq_self, Option.toList, List.cons_append, List.nil_append, ix_in, ix_cl, lt_in, lt_cl, lt_add, ix_one, vu_eq, vu_ne, arI_mk, arL_mk, arY_mZ, arY_mB, alen_mI, fld_sfl_ne, fld_sfl_same, Option.isSome_some, pok_i, b1z, b01, z10, b1o, Int32.zero_add, vu_vu, upd_eq, upd_ne, true_or, or_true, L3.r0, L3.r1, L3.r2, L3.r3, L3.l0, L3.l1, L3.a0, L3.a1, L3.a2, L3.a3, L3.a4, hbear, e4]
      refine hI _ (up2 y3 4 (upd (y1 4) sp (y1 4 sp + m_bears (m_lat all n) p (nT all))), _, _) ⟨(s2.tr (s3.wd (by omega) (by omega))).tr (SI.up (by omega) (by omega)), L3.s4, fun j h1 h2 => by dsimp only; rw [up2_ne (by omega), hy3 j h1]; exact hy j h1 h2, fun k hk' => ?_⟩
      dsimp only
      rw [up2_eq, m_bo, if_pos hb, lat_ne (by omega), hst, ix_cl (by omega)]
      have hks := hk sp hsp
      by_cases h : k = sp
      · subst h; rw [upd_eq, upd_eq]; simp only at hks; rw [hks]
      · rw [upd_ne h, upd_ne h]; exact hk k hk'
    · simp (disch := first | omega | decide | assumption | exact Nat.le_of_ble_eq_true rfl) only [s56_20, s56_90, h56_93, ow_some, true_and, and_true, and_self, if_true, if_false, not_true, not_false_eq_true, Bool.false_eq_true, eq_self, Option.toList, List.cons_append, List.nil_append, ix_in, ix_cl, lt_in, lt_cl, lt_add, ix_one, vu_eq, vu_ne, arI_mk, arL_mk, arY_mZ, arY_mB, alen_mI, fld_sfl_ne, fld_sfl_same, Option.isSome_some, pok_i, b1z, b01, z10, b1o, Int32.zero_add, vu_vu, upd_eq, upd_ne, true_or, or_true, V2.v1, V2.v6, V2.v7, V2.v8, V2.v9, V2.i1, V2.i6, V2.i7, V2.i8, V2.i9, V2.r2, V2.r3, V2.r4, V2.r5, V2.pl, V2.a2, V2.a3, V2.a4, V2.a5, hb]
      refine hI _ (y1, _, _) ⟨s2, L2, hy, fun k hk' => ?_⟩
      rw [m_bo, if_neg hb]; exact hk k hk'
  · rintro e ⟨y1, z4, z5⟩ ⟨s2, L2, hy, hk⟩
    have V2 := V.fr (f' := e) (fun b h1 h2 => s2 b (by omega))
    have W2 := W.fr (f' := e) (fun b h1 h2 => s2 b (by omega))
    simp (disch := first | omega | decide | assumption | exact Nat.le_of_ble_eq_true rfl) only [s56_7, s56_8, s56_9, s56_12, s56_96, s56_97, ow_some, true_and, and_true, and_self, if_true, if_false, not_true, not_false_eq_true, Bool.false_eq_true, eq_self, Option.toList, List.cons_append, List.nil_append, ix_in, ix_cl, lt_in, lt_cl, lt_add, ix_one, vu_eq, vu_ne, arI_mk, arL_mk, arY_mZ, arY_mB, alen_mI, fld_sfl_ne, fld_sfl_same, Option.isSome_some, pok_i, b1z, b01, z10, b1o, Int32.zero_add, vu_vu, upd_eq, upd_ne, true_or, or_true, V2.v1, V2.v6, V2.v7, V2.v8, V2.v9, V2.i1, V2.i6, V2.i7, V2.i8, V2.i9, V2.r2, V2.r3, V2.r4, V2.r5, V2.pl, V2.a2, V2.a3, V2.a4, V2.a5, hP, ix_le, Nat.le_refl]
    rw [p56_98 L2.cn (Nat.le_of_ble_eq_true rfl) (sp_slack L2 V2 W2 hS h8)]
    simp (disch := first | omega | decide | assumption | exact Nat.le_of_ble_eq_true rfl) only [s56_101, ow_some, true_and, and_true, and_self, if_true, if_false, not_true, not_false_eq_true, Bool.false_eq_true, eq_self, Option.toList, List.cons_append, List.nil_append, ix_in, ix_cl, lt_in, lt_cl, lt_add, ix_one, vu_eq, vu_ne, arI_mk, arL_mk, arY_mZ, arY_mB, alen_mI, fld_sfl_ne, fld_sfl_same, Option.isSome_some, pok_i, b1z, b01, z10, b1o, Int32.zero_add, vu_vu, upd_eq, upd_ne, true_or, or_true]
    have lc : ∀ i, 9 ≤ i ∧ i < 25 → m_lat all n i = all i := fun i hi => lat_ne (by omega)
    refine ⟨s2, ⟨y1, L2, hy, hk⟩, ?_⟩
    rw [sp_of (all := m_lat all n) (bnd_cg I.bn lc) (fun k hk => by rw [lat_ne (by omega)]; exact (I.pr hk).1) h9 I.s1 h8 (fun i hi => by rw [jnt_cg h8 lc]; exact G.jt hi) (fun k hk => by rw [lat_ne (by omega)]; exact G.ld hk) hk]
  · dsimp only
    rw [up2_eq, hg0 k hk, G.x5 (by omega)]
    show _ = 10 * m_lat all n (84 + k)
    rw [lat_ne (by omega)]
