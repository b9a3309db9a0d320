/-! the class: who may be seen, cracks, who is on a step, all props -/
theorem wait_same {all : Nat → Int32} {S R P p : Nat} (I : IS all S R P) (hp : p < 9) (hb : ¬ all (34 + p) = -1) : mxI 0 (all (34 + p) - all 56) = m_wait all p := by
  obtain ⟨v, hv, hve⟩ := (I.bY hp).1.resolve_left hb
  obtain ⟨dd, hd, hde⟩ := I.dy
  have e1 : (all (34 + p)).toInt = v := by rw [hve, nI_toInt (by omega)]
  have e2 : (all 56).toInt = dd := by rw [hde, nI_toInt (by omega)]
  have es : (all (34 + p) - all 56).toInt = (v : Int) - dd := by rw [t_sub (by omega) (by omega), e1, e2]
  have e0 : (0 : Int32).toInt = 0 := by decide
  unfold m_wait mxI
  rw [if_neg hb]
  by_cases h : all (34 + p) < all 56
  · rw [if_pos h]
    rw [Int32.lt_iff_toInt_lt, e1, e2] at h
    rw [if_neg]
    rw [Int32.lt_iff_toInt_lt, es, e0]
    omega
  · rw [if_neg h]
    rw [Int32.lt_iff_toInt_lt, e1, e2] at h
    by_cases h2 : (v : Int) = dd
    · rw [if_neg]
      · apply Int32.toInt_inj.mp
        rw [es, e0]; omega
      · rw [Int32.lt_iff_toInt_lt, es, e0]; omega
    · rw [if_pos]
      rw [Int32.lt_iff_toInt_lt, es, e0]; omega
theorem sp_may {X : Nat × (Nat → Int32)} {d N K q a pl C S R P : Nat} {f : Nat → e_C} {y x r : Nat → Nat → Int32} {w v all : Nat → Int32} (L : LV f q y) (V : SV f a pl w x) (W : PV f pl v r C) (G : CR all S P w x v r C) (I : IS all S R P) (hd : AD a pl q) {p : Nat} (hp : p < P) {u3 u4 : Value} : TT X (d + 2) 62 0 [.ref q, .ref a, .int (nI p), u3, u4] [] f N K (fun f' n' k' z => n' = N ∧ k' = K ∧ SI (q + 2) (q + 4) f f' ∧ (∃ y', LV f' q y' ∧ ∀ j, 2 ≤ j → y' j = y j) ∧ z = some (.int (if all 4 = 0 ∨ l_law all (all 6).toNatClampNeg (all 8).toNatClampNeg p (m_wed all p (nT all)) = 1 then 1 else 0))) := by
  have h9 := I.p9
  have hT : w 6 = nI (nT all) := by rw [G.w6]; exact I.eT
  rcases G.l1 with ⟨h0, hf⟩ | ⟨h1, F, M, h5, h7, hfm, hto, hFM, hC9, hcs, hty⟩
  · have h0 : all 4 = 0 := h0
    simp (disch := first | omega | decide | assumption | exact Nat.le_of_ble_eq_true rfl) only [s62_0, s62_1, s62_4, s62_7, s62_8, s62_11, s62_12, ow_some, true_and, and_true, and_self, if_true, if_false, not_true, not_false_eq_true, Bool.false_eq_true, eq_self, Option.toList, List.cons_append, List.nil_append, ix_in, ix_cl, lt_in, lt_cl, lt_add, ix_one, vu_eq, vu_ne, arI_mk, arL_mk, arY_mZ, arY_mB, alen_mI, fld_sfl_ne, fld_sfl_same, Option.isSome_some, pok_i, b1z, b01, z10, b1o, Int32.zero_add, vu_vu, upd_eq, upd_ne, true_or, or_true, V.v1, V.v6, V.v7, V.v8, V.v9, V.i1, V.i6, V.i7, V.i8, V.i9, V.r2, V.r3, V.r4, V.r5, V.pl, V.a2, V.a3, V.a4, V.a5, W.v0, W.v3, W.v10, W.v11, W.v12, W.v14, W.v15, W.v16, W.v17, W.v18, W.r1, W.r2, W.r4, W.r5, W.r6, W.r7, W.r8, W.r9, W.r13, W.a1, W.a2, W.a4, W.a5, W.a6, W.a7, W.a8, W.a9, W.a13, hf, h0, ne_eq]
    exact ⟨SI.rf, y, L, fun _ _ => rfl⟩
  · have h4 : all 4 = 1 := h1
    have h01 : (all 4 = 0) = False := by rw [h4]; decide
    have h5 : all 6 = nI F := h5
    have h7 : all 8 = nI M := h7
    have hne := ne_m1 (m := F) (by omega)
    have e8 := G.r8 (p := p) (by omega)
    have e2 := G.x2 hp
    have e3 := G.x3 hp
    have e4 := G.x4 hp
    have ed := G.w8
    have main : ∀ u, TT X (d + 2) 62 43 [.ref q, .ref a, .int (nI p), u, u4] [.int (m_wait all p)] f N K (fun f' n' k' z => n' = N ∧ k' = K ∧ SI (q + 2) (q + 4) f f' ∧ (∃ y', LV f' q y' ∧ ∀ j, 2 ≤ j → y' j = y j) ∧ z = some (.int (if all 4 = 0 ∨ l_law all (all 6).toNatClampNeg (all 8).toNatClampNeg p (m_wed all p (nT all)) = 1 then 1 else 0))) := by
      intro u
      simp (disch := first | omega | decide | assumption | exact Nat.le_of_ble_eq_true rfl) only [s62_43, s62_45, s62_46, s62_49, s62_50, s62_51, s62_54, s62_55, s62_56, s62_57, ow_some, true_and, and_true, and_self, if_true, if_false, not_true, not_false_eq_true, Bool.false_eq_true, eq_self, Option.toList, List.cons_append, List.nil_append, ix_in, ix_cl, lt_in, lt_cl, lt_add, ix_one, vu_eq, vu_ne, arI_mk, arL_mk, arY_mZ, arY_mB, alen_mI, fld_sfl_ne, fld_sfl_same, Option.isSome_some, pok_i, b1z, b01, z10, b1o, Int32.zero_add, vu_vu, upd_eq, upd_ne, true_or, or_true, V.v1, V.v6, V.v7, V.v8, V.v9, V.i1, V.i6, V.i7, V.i8, V.i9, V.r2, V.r3, V.r4, V.r5, V.pl, V.a2, V.a3, V.a4, V.a5, L.r0, L.r1, L.r2, L.r3, L.l0, L.l1, L.a0, L.a1, L.a2, L.a3, L.a4, e3]
      rw [p62_58 V.cn (Nat.le_of_ble_eq_true rfl) (sp_ageOf V (show p < 9 by omega))]
      simp (disch := first | omega | decide | assumption | exact Nat.le_of_ble_eq_true rfl) only [s62_61, s62_62, s62_65, s62_66, s62_67, s62_68, s62_71, s62_72, s62_73, s62_74, ow_some, true_and, and_true, and_self, if_true, if_false, not_true, not_false_eq_true, Bool.false_eq_true, eq_self, Option.toList, List.cons_append, List.nil_append, ix_in, ix_cl, lt_in, lt_cl, lt_add, ix_one, vu_eq, vu_ne, arI_mk, arL_mk, arY_mZ, arY_mB, alen_mI, fld_sfl_ne, fld_sfl_same, Option.isSome_some, pok_i, b1z, b01, z10, b1o, Int32.zero_add, vu_vu, upd_eq, upd_ne, true_or, or_true, V.v1, V.v6, V.v7, V.v8, V.v9, V.i1, V.i6, V.i7, V.i8, V.i9, V.r2, V.r3, V.r4, V.r5, V.pl, V.a2, V.a3, V.a4, V.a5, e2, e4, ed, hT]
      rw [p62_77 V.cn (Nat.le_of_ble_eq_true rfl) (sp_wed V W (fun p hp => G.r9 hp) (show p < 9 by omega) (I.m9 (by omega)) I.t5)]
      simp (disch := first | omega | decide | assumption | exact Nat.le_of_ble_eq_true rfl) only [s62_80, ow_some, true_and, and_true, and_self, if_true, if_false, not_true, not_false_eq_true, Bool.false_eq_true, eq_self, Option.toList, List.cons_append, List.nil_append, ix_in, ix_cl, lt_in, lt_cl, lt_add, ix_one, vu_eq, vu_ne, arI_mk, arL_mk, arY_mZ, arY_mB, alen_mI, fld_sfl_ne, fld_sfl_same, Option.isSome_some, pok_i, b1z, b01, z10, b1o, Int32.zero_add, vu_vu, upd_eq, upd_ne, true_or, or_true]
      refine k62_82 L.cl (Nat.le_of_ble_eq_true rfl) (sp_tell L) ?_
      rintro f1 n1 k1 v1 ⟨rfl, rfl, rfl, s1, g, L1, hg⟩
      have V1 := V.fr (f' := f1) (fun b h1 h2 => s1 b (by omega))
      have W1 := W.fr (f' := f1) (fun b h1 h2 => s1 b (by omega))
      simp (disch := first | omega | decide | assumption | exact Nat.le_of_ble_eq_true rfl) only [s62_85, s62_86, s62_89, s62_90, s62_93, s62_96, s62_97, s62_100, s62_103, s62_104, s62_107, ow_some, true_and, and_true, and_self, if_true, if_false, not_true, not_false_eq_true, Bool.false_eq_true, eq_self, Option.toList, List.cons_append, List.nil_append, ix_in, ix_cl, lt_in, lt_cl, lt_add, ix_one, vu_eq, vu_ne, arI_mk, arL_mk, arY_mZ, arY_mB, alen_mI, fld_sfl_ne, fld_sfl_same, Option.isSome_some, pok_i, b1z, b01, z10, b1o, Int32.zero_add, vu_vu, upd_eq, upd_ne, true_or, or_true, V1.v1, V1.v6, V1.v7, V1.v8, V1.v9, V1.i1, V1.i6, V1.i7, V1.i8, V1.i9, V1.r2, V1.r3, V1.r4, V1.r5, V1.pl, V1.a2, V1.a3, V1.a4, V1.a5, W1.v0, W1.v3, W1.v10, W1.v11, W1.v12, W1.v14, W1.v15, W1.v16, W1.v17, W1.v18, W1.r1, W1.r2, W1.r4, W1.r5, W1.r6, W1.r7, W1.r8, W1.r9, W1.r13, W1.a1, W1.a2, W1.a4, W1.a5, W1.a6, W1.a7, W1.a8, W1.a9, W1.a13, L1.r0, L1.r1, L1.r2, L1.r3, L1.l0, L1.l1, L1.a0, L1.a1, L1.a2, L1.a3, L1.a4, hfm, hto]
      refine k62_110 L1.cl (Nat.le_of_ble_eq_true rfl) (sp_run (F := F) (M := M) (cs := fun i => all (494 + F + i)) (w := m_words all p (m_wed all p (nT all))) (by omega) hFM hC9 hcs L1 W1.a13 (fun i hi => ?_) hty) ?_
      · rw [up2_eq, hg i hi]
        rcases (show i = 0 ∨ i = 1 ∨ i = 2 ∨ i = 3 ∨ i = 4 ∨ i = 5 ∨ i = 6 by omega) with rfl | rfl | rfl | rfl | rfl | rfl | rfl <;> simp [m_words, c_words]
      · rintro f2 n2 k2 v2 ⟨rfl, rfl, s2, ⟨y2, L2, hy2⟩, rfl, h01b⟩
        have e : (l_it (m_words all p (m_wed all p (nT all))) (fun i => all (494 + F + i)) M 0 []).headD 0 = l_law all (all 6).toNatClampNeg (all 8).toNatClampNeg p (m_wed all p (nT all)) := by
          unfold l_law
          rw [h5, h7, ix_cl (by omega), ix_cl (by omega)]
        rw [e] at h01b ⊢
        have hpost : SI (q + 2) (q + 4) f f2 ∧ ∃ y', LV f2 q y' ∧ ∀ j, 2 ≤ j → y' j = y j := ⟨(s1.wd (by omega) (by omega)).tr (s2.wd (by omega) (by omega)), y2, L2, fun j hj => by rw [hy2 j (by omega), up2_ne (by omega)]⟩
        rcases h01b rfl with z | z
        · have t : ((0 : Int32) = 1) = False := by decide
          simp (disch := first | omega | decide | assumption | exact Nat.le_of_ble_eq_true rfl) only [s62_113, s62_116, s62_117, s62_120, s62_121, ow_some, true_and, and_true, and_self, if_true, if_false, not_true, not_false_eq_true, Bool.false_eq_true, eq_self, Option.toList, List.cons_append, List.nil_append, ix_in, ix_cl, lt_in, lt_cl, lt_add, ix_one, vu_eq, vu_ne, arI_mk, arL_mk, arY_mZ, arY_mB, alen_mI, fld_sfl_ne, fld_sfl_same, Option.isSome_some, pok_i, b1z, b01, z10, b1o, Int32.zero_add, vu_vu, upd_eq, upd_ne, true_or, or_true, z, h01, t, false_or, or_false]
          exact hpost
        · simp (disch := first | omega | decide | assumption | exact Nat.le_of_ble_eq_true rfl) only [s62_113, s62_116, s62_117, s62_120, s62_121, ow_some, true_and, and_true, and_self, if_true, if_false, not_true, not_false_eq_true, Bool.false_eq_true, eq_self, Option.toList, List.cons_append, List.nil_append, ix_in, ix_cl, lt_in, lt_cl, lt_add, ix_one, vu_eq, vu_ne, arI_mk, arL_mk, arY_mZ, arY_mB, alen_mI, fld_sfl_ne, fld_sfl_same, Option.isSome_some, pok_i, b1z, b01, z10, b1o, Int32.zero_add, vu_vu, upd_eq, upd_ne, true_or, or_true, z, h01, false_or]
          exact hpost
    by_cases hb : all (34 + p) = -1
    · have hb' : (r 8 p = -1) = True := by rw [e8]; exact eq_true hb
      have hw : m_wait all p = 99 := by unfold m_wait; rw [if_pos hb]
      have m := main (.int (r 8 p))
      rw [hw] at m
      have e8' : r 8 p = -1 := by rw [e8]; exact hb
      rw [e8'] at m
      simp (disch := first | omega | decide | assumption | exact Nat.le_of_ble_eq_true rfl) only [s62_0, s62_1, s62_4, s62_7, s62_8, s62_11, s62_12, s62_13, s62_14, s62_17, s62_20, s62_21, s62_22, s62_23, s62_24, s62_25, s62_28, s62_30, ow_some, true_and, and_true, and_self, if_true, if_false, not_true, not_false_eq_true, Bool.false_eq_true, eq_self, Option.toList, List.cons_append, List.nil_append, ix_in, ix_cl, lt_in, lt_cl, lt_add, ix_one, vu_eq, vu_ne, arI_mk, arL_mk, arY_mZ, arY_mB, alen_mI, fld_sfl_ne, fld_sfl_same, Option.isSome_some, pok_i, b1z, b01, z10, b1o, Int32.zero_add, vu_vu, upd_eq, upd_ne, true_or, or_true, V.v1, V.v6, V.v7, V.v8, V.v9, V.i1, V.i6, V.i7, V.i8, V.i9, V.r2, V.r3, V.r4, V.r5, V.pl, V.a2, V.a3, V.a4, V.a5, W.v0, W.v3, W.v10, W.v11, W.v12, W.v14, W.v15, W.v16, W.v17, W.v18, W.r1, W.r2, W.r4, W.r5, W.r6, W.r7, W.r8, W.r9, W.r13, W.a1, W.a2, W.a4, W.a5, W.a6, W.a7, W.a8, W.a9, W.a13, hfm, hne, e8', ne_eq]
      exact m
    · have hb' : (all (34 + p) = -1) = False := eq_false hb
      have m := main (.int (all (34 + p)))
      simp (disch := first | omega | decide | assumption | exact Nat.le_of_ble_eq_true rfl) only [s62_0, s62_1, s62_4, s62_7, s62_8, s62_11, s62_12, s62_13, s62_14, s62_17, s62_20, s62_21, s62_22, s62_23, s62_24, s62_25, s62_28, s62_30, s62_33, s62_34, s62_35, s62_36, s62_39, ow_some, true_and, and_true, and_self, if_true, if_false, not_true, not_false_eq_true, Bool.false_eq_true, eq_self, Option.toList, List.cons_append, List.nil_append, ix_in, ix_cl, lt_in, lt_cl, lt_add, ix_one, vu_eq, vu_ne, arI_mk, arL_mk, arY_mZ, arY_mB, alen_mI, fld_sfl_ne, fld_sfl_same, Option.isSome_some, pok_i, b1z, b01, z10, b1o, Int32.zero_add, vu_vu, upd_eq, upd_ne, true_or, or_true, V.v1, V.v6, V.v7, V.v8, V.v9, V.i1, V.i6, V.i7, V.i8, V.i9, V.r2, V.r3, V.r4, V.r5, V.pl, V.a2, V.a3, V.a4, V.a5, W.v0, W.v3, W.v10, W.v11, W.v12, W.v14, W.v15, W.v16, W.v17, W.v18, W.r1, W.r2, W.r4, W.r5, W.r6, W.r7, W.r8, W.r9, W.r13, W.a1, W.a2, W.a4, W.a5, W.a6, W.a7, W.a8, W.a9, W.a13, hfm, hne, e8, hb', ne_eq, ed]
      rw [p62_40 (Nat.le_of_ble_eq_true rfl) sp_max, wait_same I (by omega) hb]
      exact m
theorem ov_r {all b : Nat → Int32} : ∀ (m k : Nat) (s : Int32), m_ov all b (m + 1) k s = m_ov all b m k s + (b (k + m) - all (9 + (k + m))) := by
  intro m
  induction m with
  | zero => intro k s; rfl
  | succ m ih =>
    intro k s
    rw [m_ov, ih (k + 1), show k + 1 + m = k + (m + 1) by omega]
    rfl
theorem ov_add {all b : Nat → Int32} {t : Int32} : ∀ (m k : Nat) (s : Int32), m_ov all b m k (s + t) = m_ov all b m k s + t := by
  intro m
  induction m with
  | zero => intro k s; rfl
  | succ m ih =>
    intro k s
    rw [m_ov, m_ov, ← ih]
    congr 1
    rw [Int32.add_assoc, Int32.add_comm t, ← Int32.add_assoc]
theorem over_j {all b : Nat → Int32} {S i j : Nat} (hi : i < S) (hij : i ≤ j) (hj : j < S) : m_over all b S i j = m_ov all b (j + 1 - i) i (jnt all S i) + jnt all S (j + 1) := by
  unfold m_over
  rw [ov_add]
  congr 1
  · congr 1
    unfold jnt
    by_cases h0 : i = 0
    · rw [if_pos h0, if_pos h0]
    · rw [if_neg h0, if_neg h0, if_pos hi]
  · unfold jnt
    have h0 : ¬ j + 1 = 0 := by omega
    rw [if_neg h0, show 16 + (j + 1) = 17 + j by omega]
theorem sp_crackFrom {X : Nat × (Nat → Int32)} {d N K q a pl C S R P : Nat} {f : Nat → e_C} {y x r : Nat → Nat → Int32} {w v all b : Nat → Int32} (L : LV f q y) (V : SV f a pl w x) (W : PV f pl v r C) (G : CR all S P w x v r C) (I : IS all S R P) (hb : ∀ k, k < S → y 4 k = b k) {i : Nat} (hi : i < S) {u3 u4 : Value} : PU X d 61 [.ref q, .ref a, .int (nI i), u3, u4] f N K (some (.int (oI (m_ck all b S i (S - i) i)))) := by
  have h8 := I.s8
  have hS : v 0 = nI S := by rw [G.v0]; exact I.eS
  unfold PU
  simp (disch := first | omega | decide | assumption | exact Nat.le_of_ble_eq_true rfl) only [s61_0, s61_1, s61_4, s61_7, s61_8, s61_9, s61_10, h61_11, ow_some, true_and, and_true, and_self, if_true, if_false, not_true, not_false_eq_true, Bool.false_eq_true, eq_self, Option.toList, List.cons_append, List.nil_append, ix_in, ix_cl, lt_in, lt_cl, lt_add, ix_one, vu_eq, vu_ne, arI_mk, arL_mk, arY_mZ, arY_mB, alen_mI, fld_sfl_ne, fld_sfl_same, Option.isSome_some, pok_i, b1z, b01, z10, b1o, Int32.zero_add, vu_vu, upd_eq, upd_ne, true_or, or_true, V.v1, V.v6, V.v7, V.v8, V.v9, V.i1, V.i6, V.i7, V.i8, V.i9, V.r2, V.r3, V.r4, V.r5, V.pl, V.a2, V.a3, V.a4, V.a5, W.v0, W.v3, W.v10, W.v11, W.v12, W.v14, W.v15, W.v16, W.v17, W.v18, W.r1, W.r2, W.r4, W.r5, W.r6, W.r7, W.r8, W.r9, W.r13, W.a1, W.a2, W.a4, W.a5, W.a6, W.a7, W.a8, W.a9, W.a13]
  have hji : r 2 i = m_ov all b (i - i) i (jnt all S i) := by rw [Nat.sub_self, G.jt (by omega)]; rfl
  suffices h : ∀ m j z, j + m = S → i ≤ j → z = m_ov all b (j - i) i (jnt all S i) → TH X d 61 13 [.ref q, .ref a, .int (nI i), .int z, .int (nI j)] [] f N K (fun f' n' k' v => f' = f ∧ n' = N ∧ k' = K ∧ v = some (.int (oI (m_ck all b S i m j)))) from h (S - i) i _ (by omega) (Nat.le_refl _) hji
  intro m
  induction m with
  | zero =>
    intro j z hj hij hz
    unfold TH
    have hc : (S ≤ j) = True := eq_true (by omega)
    simp (disch := first | omega | decide | assumption | exact Nat.le_of_ble_eq_true rfl) only [s61_13, s61_15, s61_16, s61_19, s61_22, s61_72, s61_73, ow_some, true_and, and_true, and_self, if_true, if_false, not_true, not_false_eq_true, Bool.false_eq_true, eq_self, Option.toList, List.cons_append, List.nil_append, ix_in, ix_cl, lt_in, lt_cl, lt_add, ix_one, vu_eq, vu_ne, arI_mk, arL_mk, arY_mZ, arY_mB, alen_mI, fld_sfl_ne, fld_sfl_same, Option.isSome_some, pok_i, b1z, b01, z10, b1o, Int32.zero_add, vu_vu, upd_eq, upd_ne, true_or, or_true, V.v1, V.v6, V.v7, V.v8, V.v9, V.i1, V.i6, V.i7, V.i8, V.i9, V.r2, V.r3, V.r4, V.r5, V.pl, V.a2, V.a3, V.a4, V.a5, W.v0, W.v3, W.v10, W.v11, W.v12, W.v14, W.v15, W.v16, W.v17, W.v18, W.r1, W.r2, W.r4, W.r5, W.r6, W.r7, W.r8, W.r9, W.r13, W.a1, W.a2, W.a4, W.a5, W.a6, W.a7, W.a8, W.a9, W.a13, hS, ix_le, hc]
    rfl
  | succ m ih =>
    intro j z hj hij hz
    unfold TH
    have hc : (S ≤ j) = False := eq_false (by omega)
    have e1 : z + (y 4 j - r 1 j) = m_ov all b (j + 1 - i) i (jnt all S i) := by
      rw [show j + 1 - i = (j - i) + 1 by omega, ov_r, show i + (j - i) = j by omega, hz, hb j (by omega), G.ld (by omega)]
    have e2 : z + (y 4 j - r 1 j) + r 2 (j + 1) = m_over all b S i j := by
      rw [e1, G.jt (by omega), over_j hi hij (by omega)]
    simp (disch := first | omega | decide | assumption | exact Nat.le_of_ble_eq_true rfl) only [s61_13, s61_15, s61_16, s61_19, s61_22, s61_25, s61_26, s61_27, s61_30, s61_32, s61_33, s61_34, s61_37, s61_40, s61_42, s61_43, s61_44, s61_45, s61_46, s61_47, s61_48, s61_51, s61_54, s61_56, s61_57, s61_58, s61_59, ow_some, true_and, and_true, and_self, if_true, if_false, not_true, not_false_eq_true, Bool.false_eq_true, eq_self, Option.toList, List.cons_append, List.nil_append, ix_in, ix_cl, lt_in, lt_cl, lt_add, ix_one, vu_eq, vu_ne, arI_mk, arL_mk, arY_mZ, arY_mB, alen_mI, fld_sfl_ne, fld_sfl_same, Option.isSome_some, pok_i, b1z, b01, z10, b1o, Int32.zero_add, vu_vu, upd_eq, upd_ne, true_or, or_true, V.v1, V.v6, V.v7, V.v8, V.v9, V.i1, V.i6, V.i7, V.i8, V.i9, V.r2, V.r3, V.r4, V.r5, V.pl, V.a2, V.a3, V.a4, V.a5, W.v0, W.v3, W.v10, W.v11, W.v12, W.v14, W.v15, W.v16, W.v17, W.v18, W.r1, W.r2, W.r4, W.r5, W.r6, W.r7, W.r8, W.r9, W.r13, W.a1, W.a2, W.a4, W.a5, W.a6, W.a7, W.a8, W.a9, W.a13, L.r0, L.r1, L.r2, L.r3, L.l0, L.l1, L.a0, L.a1, L.a2, L.a3, L.a4, hS, ix_le, hc]
    rw [e2]
    have hm : m_ck all b S i (m + 1) j = if m_over all b S i j < 0 then some j else m_ck all b S i m (j + 1) := rfl
    rw [hm]
    by_cases h : m_over all b S i j < 0
    · have h' : (0 ≤ m_over all b S i j) = False := eq_false (Int32.not_le.mpr h)
      rw [if_pos h]
      simp (disch := first | omega | decide | assumption | exact Nat.le_of_ble_eq_true rfl) only [s61_60, s61_63, s61_65, ow_some, true_and, and_true, and_self, if_true, if_false, not_true, not_false_eq_true, Bool.false_eq_true, eq_self, Option.toList, List.cons_append, List.nil_append, ix_in, ix_cl, lt_in, lt_cl, lt_add, ix_one, vu_eq, vu_ne, arI_mk, arL_mk, arY_mZ, arY_mB, alen_mI, fld_sfl_ne, fld_sfl_same, Option.isSome_some, pok_i, b1z, b01, z10, b1o, Int32.zero_add, vu_vu, upd_eq, upd_ne, true_or, or_true, h']
      rfl
    · have h' : (0 ≤ m_over all b S i j) = True := eq_true (Int32.not_lt.mp h)
      rw [if_neg h]
      simp (disch := first | omega | decide | assumption | exact Nat.le_of_ble_eq_true rfl) only [s61_60, s61_66, h61_69, ow_some, true_and, and_true, and_self, if_true, if_false, not_true, not_false_eq_true, Bool.false_eq_true, eq_self, Option.toList, List.cons_append, List.nil_append, ix_in, ix_cl, lt_in, lt_cl, lt_add, ix_one, vu_eq, vu_ne, arI_mk, arL_mk, arY_mZ, arY_mB, alen_mI, fld_sfl_ne, fld_sfl_same, Option.isSome_some, pok_i, b1z, b01, z10, b1o, Int32.zero_add, vu_vu, upd_eq, upd_ne, true_or, or_true, h']
      rw [e1]
      exact ih (j + 1) _ (by omega) (by omega) rfl
theorem sp_onStp {X : Nat × (Nat → Int32)} {d N K a pl C S R P : Nat} {f : Nat → e_C} {x r : Nat → Nat → Int32} {w v all : Nat → Int32} (V : SV f a pl w x) (G : CR all S P w x v r C) (I : IS all S R P) {j : Nat} {u2 u3 : Value} : PU X d 73 [.ref a, .int (nI j), u2, u3] f N K (some (.int (nI (m_on all (nT all) P j)))) := by
  have h9 := I.p9
  have hP : w 1 = nI P := by rw [G.w1]; exact I.eP
  have hT : w 6 = nI (nT all) := by rw [G.w6]; exact I.eT
  unfold PU
  simp (disch := first | omega | decide | assumption | exact Nat.le_of_ble_eq_true rfl) only [s73_0, s73_1, s73_2, h73_3, ow_some, true_and, and_true, and_self, if_true, if_false, not_true, not_false_eq_true, Bool.false_eq_true, eq_self, Option.toList, List.cons_append, List.nil_append, ix_in, ix_cl, lt_in, lt_cl, lt_add, ix_one, vu_eq, vu_ne, arI_mk, arL_mk, arY_mZ, arY_mB, alen_mI, fld_sfl_ne, fld_sfl_same, Option.isSome_some, pok_i, b1z, b01, z10, b1o, Int32.zero_add, vu_vu, upd_eq, upd_ne, true_or, or_true]
  refine lp (fun p g z => g = f ∧ z = sel (fun p => decide (all (57 + p) = nI j)) p) (fun p z => [.ref a, .int (nI j), .int (nI z), .int (nI p)]) P ?_ ?_ 0 f 0 (by omega) ⟨rfl, rfl⟩
  · rintro p g z hp ⟨rfl, rfl⟩ hI
    have hc : (P ≤ p) = False := eq_false (by omega)
    have hlt : sel (fun p => decide (all (57 + p) = nI j)) p < 512 := Nat.lt_of_lt_of_le sel_lt (pw9 (by omega))
    have hb := (bit_set _ hlt p (by omega)).1
    have e2 := G.x2 hp
    by_cases h2 : all (57 + p) = nI j
    · have h2' : (all (57 + p) = nI j) = True := eq_true h2
      simp (disch := first | omega | decide | assumption | exact Nat.le_of_ble_eq_true rfl) only [s73_4, s73_5, s73_6, s73_9, s73_12, s73_13, s73_16, s73_17, s73_18, s73_19, s73_22, s73_23, s73_24, s73_25, s73_26, s73_27, s73_28, h73_31, ow_some, true_and, and_true, and_self, if_true, if_false, not_true, not_false_eq_true, Bool.false_eq_true, eq_self, Option.toList, List.cons_append, List.nil_append, ix_in, ix_cl, lt_in, lt_cl, lt_add, ix_one, vu_eq, vu_ne, arI_mk, arL_mk, arY_mZ, arY_mB, alen_mI, fld_sfl_ne, fld_sfl_same, Option.isSome_some, pok_i, b1z, b01, z10, b1o, Int32.zero_add, vu_vu, upd_eq, upd_ne, true_or, or_true, V.v1, V.v6, V.v7, V.v8, V.v9, V.i1, V.i6, V.i7, V.i8, V.i9, V.r2, V.r3, V.r4, V.r5, V.pl, V.a2, V.a3, V.a4, V.a5, hP, ix_le, hc, e2, h2', hb]
      refine hI _ _ ⟨rfl, ?_⟩
      rw [sel_s]; simp [h2]
    · have h2' : (all (57 + p) = nI j) = False := eq_false h2
      simp (disch := first | omega | decide | assumption | exact Nat.le_of_ble_eq_true rfl) only [s73_4, s73_5, s73_6, s73_9, s73_12, s73_13, s73_16, s73_17, s73_18, s73_19, s73_22, s73_23, s73_24, s73_25, s73_26, s73_27, s73_28, h73_31, ow_some, true_and, and_true, and_self, if_true, if_false, not_true, not_false_eq_true, Bool.false_eq_true, eq_self, Option.toList, List.cons_append, List.nil_append, ix_in, ix_cl, lt_in, lt_cl, lt_add, ix_one, vu_eq, vu_ne, arI_mk, arL_mk, arY_mZ, arY_mB, alen_mI, fld_sfl_ne, fld_sfl_same, Option.isSome_some, pok_i, b1z, b01, z10, b1o, Int32.zero_add, vu_vu, upd_eq, upd_ne, true_or, or_true, V.v1, V.v6, V.v7, V.v8, V.v9, V.i1, V.i6, V.i7, V.i8, V.i9, V.r2, V.r3, V.r4, V.r5, V.pl, V.a2, V.a3, V.a4, V.a5, hP, ix_le, hc, e2, h2']
      refine hI _ _ ⟨rfl, ?_⟩
      rw [sel_s]; simp [h2]
  · rintro g z ⟨rfl, rfl⟩
    simp (disch := first | omega | decide | assumption | exact Nat.le_of_ble_eq_true rfl) only [s73_4, s73_5, s73_6, s73_9, s73_34, s73_35, s73_36, s73_39, s73_40, ow_some, true_and, and_true, and_self, if_true, if_false, not_true, not_false_eq_true, Bool.false_eq_true, eq_self, Option.toList, List.cons_append, List.nil_append, ix_in, ix_cl, lt_in, lt_cl, lt_add, ix_one, vu_eq, vu_ne, arI_mk, arL_mk, arY_mZ, arY_mB, alen_mI, fld_sfl_ne, fld_sfl_same, Option.isSome_some, pok_i, b1z, b01, z10, b1o, Int32.zero_add, vu_vu, upd_eq, upd_ne, true_or, or_true, V.v1, V.v6, V.v7, V.v8, V.v9, V.i1, V.i6, V.i7, V.i8, V.i9, V.r2, V.r3, V.r4, V.r5, V.pl, V.a2, V.a3, V.a4, V.a5, hP, ix_le, Nat.le_refl, hT, and_nI]
    congr 3
    unfold m_on
    apply Nat.eq_of_testBit_eq
    intro i
    rw [Nat.testBit_and, sel_bit, sel_bit]
    cases decide (i < P) <;> cases (nT all).testBit i <;> simp
theorem sum_app {all : Nat → Int32} {a m2 : Nat} : ∀ (m1 k : Nat) (s : Int32), m_sum all a (m1 + m2) k s = m_sum all a m2 (k + m1) (m_sum all a m1 k s) := by
  intro m1
  induction m1 with
  | zero => intro k s; rw [Nat.zero_add]; rfl
  | succ m1 ih =>
    intro k s
    rw [show m1 + 1 + m2 = (m1 + m2) + 1 by omega, m_sum, m_sum, ih, show k + 1 + m1 = k + (m1 + 1) by omega]
theorem sum_0 {all : Nat → Int32} {a : Nat} : ∀ (m k : Nat) (s : Int32), (∀ i, k ≤ i → i < k + m → all (a + i) = 0) → m_sum all a m k s = s := by
  intro m
  induction m with
  | zero => intro k s _; rfl
  | succ m ih =>
    intro k s h
    rw [m_sum, h k (by omega) (by omega), ih (k + 1) _ (fun i h1 h2 => h i (by omega) (by omega))]
    exact Int32.add_zero s
theorem sum_r {all : Nat → Int32} {a m k : Nat} {s : Int32} : m_sum all a (m + 1) k s = m_sum all a m k s + all (a + (k + m)) := by
  rw [sum_app m k s]; rfl
theorem sp_propsAl {X : Nat × (Nat → Int32)} {d N K a pl C S R P : Nat} {f : Nat → e_C} {x r : Nat → Nat → Int32} {w v all : Nat → Int32} (V : SV f a pl w x) (G : CR all S P w x v r C) (I : IS all S R P) {u1 u2 : Value} : PU X d 75 [.ref a, u1, u2] f N K (some (.int (m_sum all 84 S 0 0))) := by
  have h8 := I.s8
  have e : m_sum all 84 S 0 0 = m_sum all 84 8 0 0 := by
    rw [show 8 = S + (8 - S) by omega, sum_app, sum_0 (8 - S)]
    intro i h1 h2
    exact (I.pr (show i < 8 by omega)).2 (by omega)
  rw [e]
  unfold PU
  simp (disch := first | omega | decide | assumption | exact Nat.le_of_ble_eq_true rfl) only [s75_0, s75_1, s75_2, h75_3, ow_some, true_and, and_true, and_self, if_true, if_false, not_true, not_false_eq_true, Bool.false_eq_true, eq_self, Option.toList, List.cons_append, List.nil_append, ix_in, ix_cl, lt_in, lt_cl, lt_add, ix_one, vu_eq, vu_ne, arI_mk, arL_mk, arY_mZ, arY_mB, alen_mI, fld_sfl_ne, fld_sfl_same, Option.isSome_some, pok_i, b1z, b01, z10, b1o, Int32.zero_add, vu_vu, upd_eq, upd_ne, true_or, or_true]
  refine lp (fun k g z => g = f ∧ z = m_sum all 84 k 0 0) (fun k z => [.ref a, .int z, .int (nI k)]) 8 ?_ ?_ 0 f 0 (by omega) ⟨rfl, rfl⟩
  · rintro k g z hk ⟨rfl, rfl⟩ hI
    have hc : (8 ≤ k) = False := eq_false (by omega)
    have e5 := G.x5 hk
    simp (disch := first | omega | decide | assumption | exact Nat.le_of_ble_eq_true rfl) only [s75_4, s75_5, s75_7, s75_10, s75_11, s75_12, s75_15, s75_16, s75_17, s75_18, s75_19, h75_22, ow_some, true_and, and_true, and_self, if_true, if_false, not_true, not_false_eq_true, Bool.false_eq_true, eq_self, Option.toList, List.cons_append, List.nil_append, ix_in, ix_cl, lt_in, lt_cl, lt_add, ix_one, vu_eq, vu_ne, arI_mk, arL_mk, arY_mZ, arY_mB, alen_mI, fld_sfl_ne, fld_sfl_same, Option.isSome_some, pok_i, b1z, b01, z10, b1o, Int32.zero_add, vu_vu, upd_eq, upd_ne, true_or, or_true, V.v1, V.v6, V.v7, V.v8, V.v9, V.i1, V.i6, V.i7, V.i8, V.i9, V.r2, V.r3, V.r4, V.r5, V.pl, V.a2, V.a3, V.a4, V.a5, lt_le, hc, e5]
    refine hI _ _ ⟨rfl, ?_⟩
    rw [sum_r, Nat.zero_add]
  · rintro g z ⟨rfl, rfl⟩
    simp (disch := first | omega | decide | assumption | exact Nat.le_of_ble_eq_true rfl) only [s75_4, s75_5, s75_7, s75_25, s75_26, ow_some, true_and, and_true, and_self, if_true, if_false, not_true, not_false_eq_true, Bool.false_eq_true, eq_self, Option.toList, List.cons_append, List.nil_append, ix_in, ix_cl, lt_in, lt_cl, lt_add, ix_one, vu_eq, vu_ne, arI_mk, arL_mk, arY_mZ, arY_mB, alen_mI, fld_sfl_ne, fld_sfl_same, Option.isSome_some, pok_i, b1z, b01, z10, b1o, Int32.zero_add, vu_vu, upd_eq, upd_ne, true_or, or_true, lt_le, Nat.le_refl]
