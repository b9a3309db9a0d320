/-! the class reads law lines and lines -/
section RD
variable {X : Nat × (Nat → Int32)} {d N K : Nat} {f f' : Nat → e_C} {b L T t t' : Nat} {kk pp v v' tx : Nat → Int32} {wt wt' : Int32} {r r' : Nat → Nat → Int32} {c0 c : Cu} {S A R n : Nat} {fr ag : Nat → Int32}
theorem GA.wt5 {x : Int32} (G : GA f b L kk pp T tx c0 t c wt v r) : GA (va_up f 99 (sfl (f 99) 5 (.int x))) b L kk pp T tx c0 t c x v r := by
  obtain ⟨⟨u, R, ⟨e2, e3, e4, e5, e7, e8⟩, P, hn⟩, h⟩ := G
  have hb := R.1
  exact ⟨⟨_, R.s5 (z := x), ⟨e2, e3, e4, Or.inr (by rw [vu_eq, fld_sfl_same R.i5]), e7, e8⟩, P.fr (fun e h1 h2 => vu_ne (by omega)), hn⟩, h⟩
theorem GE.wt5 {x w : Int32} {p : Nat} (E : GE f b L kk pp T w p) : GE (va_up f 99 (sfl (f 99) 5 (.int x))) b L kk pp T w p := by
  obtain ⟨hw, u, v, r, n, R, ⟨e2, e4, e7, e8⟩, P, hn⟩ := E
  have hb := R.1
  exact ⟨hw, _, v, r, n, R.s5 (z := x), ⟨e2, e4, e7, e8⟩, P.fr (fun e h1 h2 => vu_ne (by omega)), hn⟩
theorem sp_bearsLine (Z : TKS tx L c0 T kk pp) {k : Nat} {res : Lr} (G : GA f b L kk pp T tx c0 t c wt v r) (P : PN S A n fr ag v r) (hA : fr 52 = nI A) (hk : c.2.2.1 = 11) (hle : n ≤ c.1) (hr : l_law' tx L 0 k c fr ag res) : TT X (d + 60) 37 0 [.ref 99] [] f N K (LO f b L kk pp T tx c0 t S N K res) := by
  have hz := Z.1.2.2
  have hT : T ≤ 901 := by have := Z.1.2.1; omega
  have hcv := (G.kv Z).2.1
  have g1 := cv_go (tx := tx) hcv (by rw [hk]; decide)
  simp (disch := first | omega | decide | assumption | exact Nat.le_of_ble_eq_true rfl) only [s37_0, ow_some, true_and, and_true, and_self, if_true, if_false, not_true, not_false_eq_true, Bool.false_eq_true, eq_self, Option.toList, List.cons_append, List.nil_append, ix_in, ix_cl, lt_in, lt_cl, lt_add, ix_one, vu_eq, vu_ne, arI_mk, arL_mk, arY_mZ, arY_mB, alen_mI, fld_sfl_ne, fld_sfl_same, Option.isSome_some, pok_i, b1z, b01, z10, b1o, Int32.zero_add, vu_vu, upd_eq, upd_ne, true_or, or_true]
  refine k37_1 G.1.cn (Nat.le_of_ble_eq_true rfl) (G.next Z (by rw [hk]; decide) (by rw [hk]; decide)) ?_
  rintro f1 n1 k1 v1 ⟨rfl, rfl, rfl, s1, G1⟩
  unfold l_law' at hr
  generalize nx tx L c = c1 at G1 hr g1
  have eE : ∀ (w : Int32) (p : Nat) f', SJ b f f' → GE f' b L kk pp T w p → TT X (d + 60) 37 34 [.ref 99] [] f' n1 k1 (LO f b L kk pp T tx c0 t S n1 k1 (.inr (w, p))) := by
    intro w p f' s E
    obtain ⟨v2, r2, m2, P2, h14, hm⟩ := E.pv
    have q6 := E.r6
    have ii := P2.i16
    simp (disch := first | omega | decide | assumption | exact Nat.le_of_ble_eq_true rfl) only [s37_34, s37_35, s37_38, s37_39, s37_42, s37_45, s37_48, ow_some, true_and, and_true, and_self, if_true, if_false, not_true, not_false_eq_true, Bool.false_eq_true, eq_self, Option.toList, List.cons_append, List.nil_append, ix_in, ix_cl, lt_in, lt_cl, lt_add, ix_one, vu_eq, vu_ne, arI_mk, arL_mk, arY_mZ, arY_mB, alen_mI, fld_sfl_ne, fld_sfl_same, Option.isSome_some, pok_i, b1z, b01, z10, b1o, Int32.zero_add, vu_vu, upd_eq, upd_ne, true_or, or_true, P2.v0, P2.v3, P2.v10, P2.v11, P2.v12, P2.v14, P2.v15, P2.v16, P2.v17, P2.v18, P2.r1, P2.r2, P2.r4, P2.r5, P2.r6, P2.r7, P2.r8, P2.r9, P2.r13, P2.a1, P2.a2, P2.a4, P2.a5, P2.a6, P2.a7, P2.a8, P2.a9, P2.a13, q6, ii]
    exact LO.er (s.tr (SJ.up (by omega))) (E.pl (fun a h => vu_ne (by omega)) (P2.set (i := 16) (by decide)) ((upd_ne (by decide)).trans h14) hm)
  simp (disch := first | omega | decide | assumption | exact Nat.le_of_ble_eq_true rfl) only [s37_4, s37_5, ow_some, true_and, and_true, and_self, if_true, if_false, not_true, not_false_eq_true, Bool.false_eq_true, eq_self, Option.toList, List.cons_append, List.nil_append, ix_in, ix_cl, lt_in, lt_cl, lt_add, ix_one, vu_eq, vu_ne, arI_mk, arL_mk, arY_mZ, arY_mB, alen_mI, fld_sfl_ne, fld_sfl_same, Option.isSome_some, pok_i, b1z, b01, z10, b1o, Int32.zero_add, vu_vu, upd_eq, upd_ne, true_or, or_true]
  rcases hr with ⟨t1, he⟩ | ⟨t1, hr⟩
  · refine k37_7 G1.1.cn (Nat.le_of_ble_eq_true rfl) (G1.expN Z 31 (by decide) (by decide) t1) ?_
    rintro f2 n2 k2 v2 ⟨rfl, rfl, rfl, s2, E2⟩
    have i5 := E2.i5
    simp (disch := first | omega | decide | assumption | exact Nat.le_of_ble_eq_true rfl) only [s37_10, s37_11, s37_12, ow_some, true_and, and_true, and_self, if_true, if_false, not_true, not_false_eq_true, Bool.false_eq_true, eq_self, Option.toList, List.cons_append, List.nil_append, ix_in, ix_cl, lt_in, lt_cl, lt_add, ix_one, vu_eq, vu_ne, arI_mk, arL_mk, arY_mZ, arY_mB, alen_mI, fld_sfl_ne, fld_sfl_same, Option.isSome_some, pok_i, b1z, b01, z10, b1o, Int32.zero_add, vu_vu, upd_eq, upd_ne, true_or, or_true, i5, pok_b0]
    have E3 := E2.wt5 (x := 0)
    have s3 : SJ b f (va_up f2 99 (sfl (f2 99) 5 (.int 0))) := (s1.tr s2).tr (SJ.up (by omega))
    generalize va_up f2 99 (sfl (f2 99) 5 (.int 0)) = f3 at E3 s3 ⊢
    obtain ⟨v2, r2, m2, P2, h14, hm⟩ := E3.pv
    have q6 := E3.r6
    have ii := P2.i15
    simp (disch := first | omega | decide | assumption | exact Nat.le_of_ble_eq_true rfl) only [s37_15, s37_16, s37_19, s37_20, s37_23, s37_26, s37_29, s37_30, ow_some, true_and, and_true, and_self, if_true, if_false, not_true, not_false_eq_true, Bool.false_eq_true, eq_self, Option.toList, List.cons_append, List.nil_append, ix_in, ix_cl, lt_in, lt_cl, lt_add, ix_one, vu_eq, vu_ne, arI_mk, arL_mk, arY_mZ, arY_mB, alen_mI, fld_sfl_ne, fld_sfl_same, Option.isSome_some, pok_i, b1z, b01, z10, b1o, Int32.zero_add, vu_vu, upd_eq, upd_ne, true_or, or_true, P2.v0, P2.v3, P2.v10, P2.v11, P2.v12, P2.v14, P2.v15, P2.v16, P2.v17, P2.v18, P2.r1, P2.r2, P2.r4, P2.r5, P2.r6, P2.r7, P2.r8, P2.r9, P2.r13, P2.a1, P2.a2, P2.a4, P2.a5, P2.a6, P2.a7, P2.a8, P2.a9, P2.a13, q6, ii]
    have E4 := E3.pl (fun a h => vu_ne (by omega)) (P2.set (i := 15) (z := v2 14) (by decide)) ((upd_ne (by decide)).trans h14) hm
    rw [p37_31 E4.cn (Nat.le_of_ble_eq_true rfl) (E4.sum hT), he]
    simp only [Option.toList, List.nil_append]
    exact eE _ _ _ (s3.tr (SJ.up (by omega))) E4
  · refine k37_7 G1.1.cn (Nat.le_of_ble_eq_true rfl) (G1.exp Z 31 (by decide) (by decide) (by decide) t1) ?_
    rintro f2 n2 k2 v2 ⟨rfl, rfl, rfl, s2, G2⟩
    have g2 := cv_go (tx := tx) g1.1 (by rw [t1]; decide)
    have i5 := G2.1.i5
    simp (disch := first | omega | decide | assumption | exact Nat.le_of_ble_eq_true rfl) only [s37_10, s37_11, s37_12, ow_some, true_and, and_true, and_self, if_true, if_false, not_true, not_false_eq_true, Bool.false_eq_true, eq_self, Option.toList, List.cons_append, List.nil_append, ix_in, ix_cl, lt_in, lt_cl, lt_add, ix_one, vu_eq, vu_ne, arI_mk, arL_mk, arY_mZ, arY_mB, alen_mI, fld_sfl_ne, fld_sfl_same, Option.isSome_some, pok_i, b1z, b01, z10, b1o, Int32.zero_add, vu_vu, upd_eq, upd_ne, true_or, or_true, i5, pok_b0]
    have G3 := G2.wt5 (x := 0)
    have s3 : SJ b f (va_up f2 99 (sfl (f2 99) 5 (.int 0))) := (s1.tr s2).tr (SJ.up (by omega))
    generalize va_up f2 99 (sfl (f2 99) 5 (.int 0)) = f3 at G3 s3 ⊢
    generalize nx tx L c1 = c2 at G3 hr g2
    have P3 := G3.1.pv
    have q6 := G3.1.r6
    have ii := P3.i15
    have e14 := P.2.2.1.1
    simp (disch := first | omega | decide | assumption | exact Nat.le_of_ble_eq_true rfl) only [s37_15, s37_16, s37_19, s37_20, s37_23, s37_26, s37_29, s37_30, ow_some, true_and, and_true, and_self, if_true, if_false, not_true, not_false_eq_true, Bool.false_eq_true, eq_self, Option.toList, List.cons_append, List.nil_append, ix_in, ix_cl, lt_in, lt_cl, lt_add, ix_one, vu_eq, vu_ne, arI_mk, arL_mk, arY_mZ, arY_mB, alen_mI, fld_sfl_ne, fld_sfl_same, Option.isSome_some, pok_i, b1z, b01, z10, b1o, Int32.zero_add, vu_vu, upd_eq, upd_ne, true_or, or_true, P3.v0, P3.v3, P3.v10, P3.v11, P3.v12, P3.v14, P3.v15, P3.v16, P3.v17, P3.v18, P3.r1, P3.r2, P3.r4, P3.r5, P3.r6, P3.r7, P3.r8, P3.r9, P3.r13, P3.a1, P3.a2, P3.a4, P3.a5, P3.a6, P3.a7, P3.a8, P3.a9, P3.a13, q6, ii, e14]
    have G4 : GA (va_up f3 (b + 2) (sfl (f3 (b + 2)) 15 (.int (nI n)))) b L kk pp T tx c0 (t + 1 + 1) c2 0 (upd v 15 (nI n)) r := ⟨G3.1.pl (fun a h => vu_ne (by omega)) (P3.set (i := 15) (by decide)) (upd_ne (by decide)), G3.2⟩
    have s4 : SJ b f (va_up f3 (b + 2) (sfl (f3 (b + 2)) 15 (.int (nI n)))) := s3.tr (SJ.up (by omega))
    generalize va_up f3 (b + 2) (sfl (f3 (b + 2)) 15 (.int (nI n))) = f4 at G4 s4 ⊢
    have C4 : CD fr (upd v 15 (nI n)) r n := P.2.2.1.cg (fun _ _ => rfl) (upd_ne (by decide)) rfl
    have hrk : rk 3 = 3 := rfl
    rcases hr with ⟨c3, fr3, hrs, he⟩ | ⟨⟨w, p⟩, hrs, he⟩
    · have sub := cd_tt (X := X) Z (rd := 0) (Or.inl rfl) k 3 0 c2 fr _ hrs (d + 59) n2 k2 f4 (t + 1 + 1) _ r n 0 (.float 0) (by omega) (by omega) (by omega) G4 C4 (by omega)
      refine k37_31 G4.1.cn (Nat.le_of_ble_eq_true rfl) sub ?_
      rintro f5 n5 k5 v5 ⟨rfl, rfl, rfl, s5, ho, -⟩
      obtain ⟨t5, v5, r5, n5, ht5, G5, C5, o5⟩ := ho _ _ rfl
      have hlo : ∀ i, i < 493 → fr3 i = fr i := fun i hi => rs_lo hi _ _ _ _ _ _ hrs _ _ rfl
      obtain ⟨i1, n6, i2, i3⟩ := rs_n _ _ _ _ _ _ hrs n g2.1 hz C4.2.1 (by omega) _ _ rfl
      have hge : n ≤ n5 := by
        have hty := rs_ty _ _ _ _ _ _ hrs n g2.1 (G3.kv Z).1.1 hz (by omega) C4.2.1 (by omega) _ _ rfl
        obtain ⟨-, -, n7, j1, -, j3, -⟩ := hty
        have : n5 = n7 := by rw [← C5.2.1.eq, ← j1.eq]
        omega
      have P5 := G5.1.pv
      have q65 := G5.1.r6
      have ii5 := P5.i16
      have e145 := C5.1
      simp (disch := first | omega | decide | assumption | exact Nat.le_of_ble_eq_true rfl) only [s37_34, s37_35, s37_38, s37_39, s37_42, s37_45, s37_48, ow_some, true_and, and_true, and_self, if_true, if_false, not_true, not_false_eq_true, Bool.false_eq_true, eq_self, Option.toList, List.cons_append, List.nil_append, ix_in, ix_cl, lt_in, lt_cl, lt_add, ix_one, vu_eq, vu_ne, arI_mk, arL_mk, arY_mZ, arY_mB, alen_mI, fld_sfl_ne, fld_sfl_same, Option.isSome_some, pok_i, b1z, b01, z10, b1o, Int32.zero_add, vu_vu, upd_eq, upd_ne, true_or, or_true, P5.v0, P5.v3, P5.v10, P5.v11, P5.v12, P5.v14, P5.v15, P5.v16, P5.v17, P5.v18, P5.r1, P5.r2, P5.r4, P5.r5, P5.r6, P5.r7, P5.r8, P5.r9, P5.r13, P5.a1, P5.a2, P5.a4, P5.a5, P5.a6, P5.a7, P5.a8, P5.a9, P5.a13, q65, ii5, e145]
      rw [he]
      have enN : nN fr = n := C4.2.1.eq
      rw [enN]
      refine LO.ok ((s4.tr s5).tr (SJ.up (by omega))) (by omega) ⟨G5.1.pl (fun a h => vu_ne (by omega)) (P5.set (i := 16) (z := nI n5) (by decide)) (upd_ne (by decide)), G5.2⟩ (P.law (law := 0) (by omega) hlo C5 hge C5.2.1.2 o5) ?_
      unfold l_end
      rw [upd_ne (by omega), upd_ne (by omega), upd_ne (by omega), hlo 52 (by omega)]; exact hA
    · have sub := cd_tt (X := X) Z (rd := 0) (Or.inl rfl) k 3 0 c2 fr _ hrs (d + 59) n2 k2 f4 (t + 1 + 1) _ r n 0 (.float 0) (by omega) (by omega) (by omega) G4 C4 (by omega)
      refine k37_31 G4.1.cn (Nat.le_of_ble_eq_true rfl) sub ?_
      rintro f5 n5 k5 v5 ⟨rfl, rfl, rfl, s5, -, he5⟩
      simp only [Option.toList, List.nil_append]
      rw [he]
      exact eE _ _ _ (s4.tr s5) (he5 _ _ rfl)
theorem sp_mayLine (Z : TKS tx L c0 T kk pp) {k : Nat} {res : Lr} (G : GA f b L kk pp T tx c0 t c wt v r) (P : PN S A n fr ag v r) (hA : fr 52 = nI A) (hk : c.2.2.1 = 12) (hle : n ≤ c.1) (hr : l_law' tx L 1 k c fr ag res) : TT X (d + 60) 42 0 [.ref 99] [] f N K (LO f b L kk pp T tx c0 t S N K res) := by
  have hz := Z.1.2.2
  have hT : T ≤ 901 := by have := Z.1.2.1; omega
  have hcv := (G.kv Z).2.1
  have g1 := cv_go (tx := tx) hcv (by rw [hk]; decide)
  simp (disch := first | omega | decide | assumption | exact Nat.le_of_ble_eq_true rfl) only [s42_0, ow_some, true_and, and_true, and_self, if_true, if_false, not_true, not_false_eq_true, Bool.false_eq_true, eq_self, Option.toList, List.cons_append, List.nil_append, ix_in, ix_cl, lt_in, lt_cl, lt_add, ix_one, vu_eq, vu_ne, arI_mk, arL_mk, arY_mZ, arY_mB, alen_mI, fld_sfl_ne, fld_sfl_same, Option.isSome_some, pok_i, b1z, b01, z10, b1o, Int32.zero_add, vu_vu, upd_eq, upd_ne, true_or, or_true]
  refine k42_1 G.1.cn (Nat.le_of_ble_eq_true rfl) (G.next Z (by rw [hk]; decide) (by rw [hk]; decide)) ?_
  rintro f1 n1 k1 v1 ⟨rfl, rfl, rfl, s1, G1⟩
  unfold l_law' at hr
  generalize nx tx L c = c1 at G1 hr g1
  have eE : ∀ (w : Int32) (p : Nat) f', SJ b f f' → GE f' b L kk pp T w p → TT X (d + 60) 42 34 [.ref 99] [] f' n1 k1 (LO f b L kk pp T tx c0 t S n1 k1 (.inr (w, p))) := by
    intro w p f' s E
    obtain ⟨v2, r2, m2, P2, h14, hm⟩ := E.pv
    have q6 := E.r6
    have ii := P2.i18
    simp (disch := first | omega | decide | assumption | exact Nat.le_of_ble_eq_true rfl) only [s42_34, s42_35, s42_38, s42_39, s42_42, s42_45, s42_48, ow_some, true_and, and_true, and_self, if_true, if_false, not_true, not_false_eq_true, Bool.false_eq_true, eq_self, Option.toList, List.cons_append, List.nil_append, ix_in, ix_cl, lt_in, lt_cl, lt_add, ix_one, vu_eq, vu_ne, arI_mk, arL_mk, arY_mZ, arY_mB, alen_mI, fld_sfl_ne, fld_sfl_same, Option.isSome_some, pok_i, b1z, b01, z10, b1o, Int32.zero_add, vu_vu, upd_eq, upd_ne, true_or, or_true, P2.v0, P2.v3, P2.v10, P2.v11, P2.v12, P2.v14, P2.v15, P2.v16, P2.v17, P2.v18, P2.r1, P2.r2, P2.r4, P2.r5, P2.r6, P2.r7, P2.r8, P2.r9, P2.r13, P2.a1, P2.a2, P2.a4, P2.a5, P2.a6, P2.a7, P2.a8, P2.a9, P2.a13, q6, ii]
    exact LO.er (s.tr (SJ.up (by omega))) (E.pl (fun a h => vu_ne (by omega)) (P2.set (i := 18) (by decide)) ((upd_ne (by decide)).trans h14) hm)
  simp (disch := first | omega | decide | assumption | exact Nat.le_of_ble_eq_true rfl) only [s42_4, s42_5, ow_some, true_and, and_true, and_self, if_true, if_false, not_true, not_false_eq_true, Bool.false_eq_true, eq_self, Option.toList, List.cons_append, List.nil_append, ix_in, ix_cl, lt_in, lt_cl, lt_add, ix_one, vu_eq, vu_ne, arI_mk, arL_mk, arY_mZ, arY_mB, alen_mI, fld_sfl_ne, fld_sfl_same, Option.isSome_some, pok_i, b1z, b01, z10, b1o, Int32.zero_add, vu_vu, upd_eq, upd_ne, true_or, or_true]
  rcases hr with ⟨t1, he⟩ | ⟨t1, hr⟩
  · refine k42_7 G1.1.cn (Nat.le_of_ble_eq_true rfl) (G1.expN Z 31 (by decide) (by decide) t1) ?_
    rintro f2 n2 k2 v2 ⟨rfl, rfl, rfl, s2, E2⟩
    have i5 := E2.i5
    simp (disch := first | omega | decide | assumption | exact Nat.le_of_ble_eq_true rfl) only [s42_10, s42_11, s42_12, ow_some, true_and, and_true, and_self, if_true, if_false, not_true, not_false_eq_true, Bool.false_eq_true, eq_self, Option.toList, List.cons_append, List.nil_append, ix_in, ix_cl, lt_in, lt_cl, lt_add, ix_one, vu_eq, vu_ne, arI_mk, arL_mk, arY_mZ, arY_mB, alen_mI, fld_sfl_ne, fld_sfl_same, Option.isSome_some, pok_i, b1z, b01, z10, b1o, Int32.zero_add, vu_vu, upd_eq, upd_ne, true_or, or_true, i5, pok_b1]
    have E3 := E2.wt5 (x := 1)
    have s3 : SJ b f (va_up f2 99 (sfl (f2 99) 5 (.int 1))) := (s1.tr s2).tr (SJ.up (by omega))
    generalize va_up f2 99 (sfl (f2 99) 5 (.int 1)) = f3 at E3 s3 ⊢
    obtain ⟨v2, r2, m2, P2, h14, hm⟩ := E3.pv
    have q6 := E3.r6
    have ii := P2.i17
    simp (disch := first | omega | decide | assumption | exact Nat.le_of_ble_eq_true rfl) only [s42_15, s42_16, s42_19, s42_20, s42_23, s42_26, s42_29, s42_30, ow_some, true_and, and_true, and_self, if_true, if_false, not_true, not_false_eq_true, Bool.false_eq_true, eq_self, Option.toList, List.cons_append, List.nil_append, ix_in, ix_cl, lt_in, lt_cl, lt_add, ix_one, vu_eq, vu_ne, arI_mk, arL_mk, arY_mZ, arY_mB, alen_mI, fld_sfl_ne, fld_sfl_same, Option.isSome_some, pok_i, b1z, b01, z10, b1o, Int32.zero_add, vu_vu, upd_eq, upd_ne, true_or, or_true, P2.v0, P2.v3, P2.v10, P2.v11, P2.v12, P2.v14, P2.v15, P2.v16, P2.v17, P2.v18, P2.r1, P2.r2, P2.r4, P2.r5, P2.r6, P2.r7, P2.r8, P2.r9, P2.r13, P2.a1, P2.a2, P2.a4, P2.a5, P2.a6, P2.a7, P2.a8, P2.a9, P2.a13, q6, ii]
    have E4 := E3.pl (fun a h => vu_ne (by omega)) (P2.set (i := 17) (z := v2 14) (by decide)) ((upd_ne (by decide)).trans h14) hm
    rw [p42_31 E4.cn (Nat.le_of_ble_eq_true rfl) (E4.truth hT), he]
    simp only [Option.toList, List.nil_append]
    exact eE _ _ _ (s3.tr (SJ.up (by omega))) E4
  · refine k42_7 G1.1.cn (Nat.le_of_ble_eq_true rfl) (G1.exp Z 31 (by decide) (by decide) (by decide) t1) ?_
    rintro f2 n2 k2 v2 ⟨rfl, rfl, rfl, s2, G2⟩
    have g2 := cv_go (tx := tx) g1.1 (by rw [t1]; decide)
    have i5 := G2.1.i5
    simp (disch := first | omega | decide | assumption | exact Nat.le_of_ble_eq_true rfl) only [s42_10, s42_11, s42_12, ow_some, true_and, and_true, and_self, if_true, if_false, not_true, not_false_eq_true, Bool.false_eq_true, eq_self, Option.toList, List.cons_append, List.nil_append, ix_in, ix_cl, lt_in, lt_cl, lt_add, ix_one, vu_eq, vu_ne, arI_mk, arL_mk, arY_mZ, arY_mB, alen_mI, fld_sfl_ne, fld_sfl_same, Option.isSome_some, pok_i, b1z, b01, z10, b1o, Int32.zero_add, vu_vu, upd_eq, upd_ne, true_or, or_true, i5, pok_b1]
    have G3 := G2.wt5 (x := 1)
    have s3 : SJ b f (va_up f2 99 (sfl (f2 99) 5 (.int 1))) := (s1.tr s2).tr (SJ.up (by omega))
    generalize va_up f2 99 (sfl (f2 99) 5 (.int 1)) = f3 at G3 s3 ⊢
    generalize nx tx L c1 = c2 at G3 hr g2
    have P3 := G3.1.pv
    have q6 := G3.1.r6
    have ii := P3.i17
    have e14 := P.2.2.1.1
    simp (disch := first | omega | decide | assumption | exact Nat.le_of_ble_eq_true rfl) only [s42_15, s42_16, s42_19, s42_20, s42_23, s42_26, s42_29, s42_30, ow_some, true_and, and_true, and_self, if_true, if_false, not_true, not_false_eq_true, Bool.false_eq_true, eq_self, Option.toList, List.cons_append, List.nil_append, ix_in, ix_cl, lt_in, lt_cl, lt_add, ix_one, vu_eq, vu_ne, arI_mk, arL_mk, arY_mZ, arY_mB, alen_mI, fld_sfl_ne, fld_sfl_same, Option.isSome_some, pok_i, b1z, b01, z10, b1o, Int32.zero_add, vu_vu, upd_eq, upd_ne, true_or, or_true, P3.v0, P3.v3, P3.v10, P3.v11, P3.v12, P3.v14, P3.v15, P3.v16, P3.v17, P3.v18, P3.r1, P3.r2, P3.r4, P3.r5, P3.r6, P3.r7, P3.r8, P3.r9, P3.r13, P3.a1, P3.a2, P3.a4, P3.a5, P3.a6, P3.a7, P3.a8, P3.a9, P3.a13, q6, ii, e14]
    have G4 : GA (va_up f3 (b + 2) (sfl (f3 (b + 2)) 17 (.int (nI n)))) b L kk pp T tx c0 (t + 1 + 1) c2 1 (upd v 17 (nI n)) r := ⟨G3.1.pl (fun a h => vu_ne (by omega)) (P3.set (i := 17) (by decide)) (upd_ne (by decide)), G3.2⟩
    have s4 : SJ b f (va_up f3 (b + 2) (sfl (f3 (b + 2)) 17 (.int (nI n)))) := s3.tr (SJ.up (by omega))
    generalize va_up f3 (b + 2) (sfl (f3 (b + 2)) 17 (.int (nI n))) = f4 at G4 s4 ⊢
    have C4 : CD fr (upd v 17 (nI n)) r n := P.2.2.1.cg (fun _ _ => rfl) (upd_ne (by decide)) rfl
    have hrk : rk 8 = 6 := rfl
    rcases hr with ⟨c3, fr3, hrs, he⟩ | ⟨⟨w, p⟩, hrs, he⟩
    · have sub := cd_tt (X := X) Z (rd := 1) (Or.inr rfl) k 8 0 c2 fr _ hrs (d + 59) n2 k2 f4 (t + 1 + 1) _ r n 0 (.float 0) (by omega) (by omega) (by omega) G4 C4 (by omega)
      refine k42_31 G4.1.cn (Nat.le_of_ble_eq_true rfl) sub ?_
      rintro f5 n5 k5 v5 ⟨rfl, rfl, rfl, s5, ho, -⟩
      obtain ⟨t5, v5, r5, n5, ht5, G5, C5, o5⟩ := ho _ _ rfl
      have hlo : ∀ i, i < 493 → fr3 i = fr i := fun i hi => rs_lo hi _ _ _ _ _ _ hrs _ _ rfl
      obtain ⟨i1, n6, i2, i3⟩ := rs_n _ _ _ _ _ _ hrs n g2.1 hz C4.2.1 (by omega) _ _ rfl
      have hge : n ≤ n5 := by
        have hty := rs_ty _ _ _ _ _ _ hrs n g2.1 (G3.kv Z).1.1 hz (by omega) C4.2.1 (by omega) _ _ rfl
        obtain ⟨-, -, n7, j1, -, j3, -⟩ := hty
        have : n5 = n7 := by rw [← C5.2.1.eq, ← j1.eq]
        omega
      have P5 := G5.1.pv
      have q65 := G5.1.r6
      have ii5 := P5.i18
      have e145 := C5.1
      simp (disch := first | omega | decide | assumption | exact Nat.le_of_ble_eq_true rfl) only [s42_34, s42_35, s42_38, s42_39, s42_42, s42_45, s42_48, ow_some, true_and, and_true, and_self, if_true, if_false, not_true, not_false_eq_true, Bool.false_eq_true, eq_self, Option.toList, List.cons_append, List.nil_append, ix_in, ix_cl, lt_in, lt_cl, lt_add, ix_one, vu_eq, vu_ne, arI_mk, arL_mk, arY_mZ, arY_mB, alen_mI, fld_sfl_ne, fld_sfl_same, Option.isSome_some, pok_i, b1z, b01, z10, b1o, Int32.zero_add, vu_vu, upd_eq, upd_ne, true_or, or_true, P5.v0, P5.v3, P5.v10, P5.v11, P5.v12, P5.v14, P5.v15, P5.v16, P5.v17, P5.v18, P5.r1, P5.r2, P5.r4, P5.r5, P5.r6, P5.r7, P5.r8, P5.r9, P5.r13, P5.a1, P5.a2, P5.a4, P5.a5, P5.a6, P5.a7, P5.a8, P5.a9, P5.a13, q65, ii5, e145]
      rw [he]
      have enN : nN fr = n := C4.2.1.eq
      rw [enN]
      refine LO.ok ((s4.tr s5).tr (SJ.up (by omega))) (by omega) ⟨G5.1.pl (fun a h => vu_ne (by omega)) (P5.set (i := 18) (z := nI n5) (by decide)) (upd_ne (by decide)), G5.2⟩ (P.law (law := 1) (by omega) hlo C5 hge C5.2.1.2 o5) ?_
      unfold l_end
      rw [upd_ne (by omega), upd_ne (by omega), upd_ne (by omega), hlo 52 (by omega)]; exact hA
    · have sub := cd_tt (X := X) Z (rd := 1) (Or.inr rfl) k 8 0 c2 fr _ hrs (d + 59) n2 k2 f4 (t + 1 + 1) _ r n 0 (.float 0) (by omega) (by omega) (by omega) G4 C4 (by omega)
      refine k42_31 G4.1.cn (Nat.le_of_ble_eq_true rfl) sub ?_
      rintro f5 n5 k5 v5 ⟨rfl, rfl, rfl, s5, -, he5⟩
      simp only [Option.toList, List.nil_append]
      rw [he]
      exact eE _ _ _ (s4.tr s5) (he5 _ _ rfl)
/-- a line -/
theorem sp_lineC (Z : TKS tx L c0 T kk pp) {k : Nat} {res : Lr} (G : GA f b L kk pp T tx c0 t c wt v r) (P : PN S R n fr ag v r) (h1 : 1 ≤ S) (hS : fr 1 = nI S) (hR : fr 52 = nI R) (hle : n ≤ c.1) (hr : l_line tx L S R k c fr ag res) : TT X (d + 62) 31 0 [.ref 99] [] f N K (LO f b L kk pp T tx c0 t S N K res) := by
  have hkv := (G.kv Z).1
  have k4 := G.k4 Z
  have q6 := G.1.r6
  have P1 := G.1.pv
  have e3 : v 3 = nI R := P.2.1.2.1.trans hR
  have kof : ∀ j, j ∈ kvl → c.2.2.1 = nI j → (ck c).toInt = (ckt (nI j)).toInt := fun j hj h => by rw [of_eq_true ((ck_is hkv j hj).trans (eq_true h))]
  simp (disch := first | omega | decide | assumption | exact Nat.le_of_ble_eq_true rfl) only [s31_0, s31_1, ow_some, true_and, and_true, and_self, if_true, if_false, not_true, not_false_eq_true, Bool.false_eq_true, eq_self, Option.toList, List.cons_append, List.nil_append, ix_in, ix_cl, lt_in, lt_cl, lt_add, ix_one, vu_eq, vu_ne, arI_mk, arL_mk, arY_mZ, arY_mB, alen_mI, fld_sfl_ne, fld_sfl_same, Option.isSome_some, pok_i, b1z, b01, z10, b1o, Int32.zero_add, vu_vu, upd_eq, upd_ne, true_or, or_true, k4]
  rw [s31_4]
  rcases hr with ⟨hk, he⟩ | ⟨hk, he⟩ | ⟨hk, he⟩ | ⟨hk, he⟩ | ⟨hk, he⟩ | ⟨hk, he⟩ | ⟨hk, he⟩ | ⟨⟨a1, a2, a3, a4, a5, a6, a7⟩, he⟩
  · rw [tsw_at _ _ 0 72 rfl ((kof 1 (by decide) hk).trans (by decide)), he]
    simp (disch := first | omega | decide | assumption | exact Nat.le_of_ble_eq_true rfl) only [s31_72, ow_some, true_and, and_true, and_self, if_true, if_false, not_true, not_false_eq_true, Bool.false_eq_true, eq_self, Option.toList, List.cons_append, List.nil_append, ix_in, ix_cl, lt_in, lt_cl, lt_add, ix_one, vu_eq, vu_ne, arI_mk, arL_mk, arY_mZ, arY_mB, alen_mI, fld_sfl_ne, fld_sfl_same, Option.isSome_some, pok_i, b1z, b01, z10, b1o, Int32.zero_add, vu_vu, upd_eq, upd_ne, true_or, or_true]
    refine k31_73 G.1.cn (Nat.le_of_ble_eq_true rfl) (sp_jointLine Z G P h1 hS hR hk) ?_
    rintro f1 n1 k1 v1 ⟨rfl, rfl, rfl, h⟩
    simp (disch := first | omega | decide | assumption | exact Nat.le_of_ble_eq_true rfl) only [s31_76, s31_162, ow_some, true_and, and_true, and_self, if_true, if_false, not_true, not_false_eq_true, Bool.false_eq_true, eq_self, Option.toList, List.cons_append, List.nil_append, ix_in, ix_cl, lt_in, lt_cl, lt_add, ix_one, vu_eq, vu_ne, arI_mk, arL_mk, arY_mZ, arY_mB, alen_mI, fld_sfl_ne, fld_sfl_same, Option.isSome_some, pok_i, b1z, b01, z10, b1o, Int32.zero_add, vu_vu, upd_eq, upd_ne, true_or, or_true]
    exact ⟨rfl, rfl, rfl, h⟩
  · rw [tsw_at _ _ 2 79 rfl ((kof 3 (by decide) hk).trans (by decide))]
    simp (disch := first | omega | decide | assumption | exact Nat.le_of_ble_eq_true rfl) only [s31_79, s31_80, s31_81, s31_84, ow_some, true_and, and_true, and_self, if_true, if_false, not_true, not_false_eq_true, Bool.false_eq_true, eq_self, Option.toList, List.cons_append, List.nil_append, ix_in, ix_cl, lt_in, lt_cl, lt_add, ix_one, vu_eq, vu_ne, arI_mk, arL_mk, arY_mZ, arY_mB, alen_mI, fld_sfl_ne, fld_sfl_same, Option.isSome_some, pok_i, b1z, b01, z10, b1o, Int32.zero_add, vu_vu, upd_eq, upd_ne, true_or, or_true, P1.v0, P1.v3, P1.v10, P1.v11, P1.v12, P1.v14, P1.v15, P1.v16, P1.v17, P1.v18, P1.r1, P1.r2, P1.r4, P1.r5, P1.r6, P1.r7, P1.r8, P1.r9, P1.r13, P1.a1, P1.a2, P1.a4, P1.a5, P1.a6, P1.a7, P1.a8, P1.a9, P1.a13, q6, e3]
    refine k31_87 G.1.cn (Nat.le_of_ble_eq_true rfl) (sp_personLine Z G P h1 hS hR hk he) ?_
    rintro f1 n1 k1 v1 ⟨rfl, rfl, rfl, h⟩
    simp (disch := first | omega | decide | assumption | exact Nat.le_of_ble_eq_true rfl) only [s31_90, s31_162, ow_some, true_and, and_true, and_self, if_true, if_false, not_true, not_false_eq_true, Bool.false_eq_true, eq_self, Option.toList, List.cons_append, List.nil_append, ix_in, ix_cl, lt_in, lt_cl, lt_add, ix_one, vu_eq, vu_ne, arI_mk, arL_mk, arY_mZ, arY_mB, alen_mI, fld_sfl_ne, fld_sfl_same, Option.isSome_some, pok_i, b1z, b01, z10, b1o, Int32.zero_add, vu_vu, upd_eq, upd_ne, true_or, or_true]
    exact ⟨rfl, rfl, rfl, h⟩
  · rw [tsw_at _ _ 8 93 rfl ((kof 9 (by decide) hk).trans (by decide)), he]
    simp (disch := first | omega | decide | assumption | exact Nat.le_of_ble_eq_true rfl) only [s31_93, ow_some, true_and, and_true, and_self, if_true, if_false, not_true, not_false_eq_true, Bool.false_eq_true, eq_self, Option.toList, List.cons_append, List.nil_append, ix_in, ix_cl, lt_in, lt_cl, lt_add, ix_one, vu_eq, vu_ne, arI_mk, arL_mk, arY_mZ, arY_mB, alen_mI, fld_sfl_ne, fld_sfl_same, Option.isSome_some, pok_i, b1z, b01, z10, b1o, Int32.zero_add, vu_vu, upd_eq, upd_ne, true_or, or_true]
    refine k31_94 G.1.cn (Nat.le_of_ble_eq_true rfl) (sp_coupleLine Z G P hR hk) ?_
    rintro f1 n1 k1 v1 ⟨rfl, rfl, rfl, h⟩
    simp (disch := first | omega | decide | assumption | exact Nat.le_of_ble_eq_true rfl) only [s31_97, s31_162, ow_some, true_and, and_true, and_self, if_true, if_false, not_true, not_false_eq_true, Bool.false_eq_true, eq_self, Option.toList, List.cons_append, List.nil_append, ix_in, ix_cl, lt_in, lt_cl, lt_add, ix_one, vu_eq, vu_ne, arI_mk, arL_mk, arY_mZ, arY_mB, alen_mI, fld_sfl_ne, fld_sfl_same, Option.isSome_some, pok_i, b1z, b01, z10, b1o, Int32.zero_add, vu_vu, upd_eq, upd_ne, true_or, or_true]
    exact ⟨rfl, rfl, rfl, h⟩
  · rw [tsw_at _ _ 9 100 rfl ((kof 10 (by decide) hk).trans (by decide)), he]
    exact sp_quotaLine (d := d + 60) Z G P hR hk
  · rw [tsw_at _ _ 10 121 rfl ((kof 11 (by decide) hk).trans (by decide))]
    simp (disch := first | omega | decide | assumption | exact Nat.le_of_ble_eq_true rfl) only [s31_121, ow_some, true_and, and_true, and_self, if_true, if_false, not_true, not_false_eq_true, Bool.false_eq_true, eq_self, Option.toList, List.cons_append, List.nil_append, ix_in, ix_cl, lt_in, lt_cl, lt_add, ix_one, vu_eq, vu_ne, arI_mk, arL_mk, arY_mZ, arY_mB, alen_mI, fld_sfl_ne, fld_sfl_same, Option.isSome_some, pok_i, b1z, b01, z10, b1o, Int32.zero_add, vu_vu, upd_eq, upd_ne, true_or, or_true]
    refine k31_122 G.1.cn (Nat.le_of_ble_eq_true rfl) (sp_bearsLine (d := d + 1) Z G P hR hk hle he) ?_
    rintro f1 n1 k1 v1 ⟨rfl, rfl, rfl, h⟩
    simp (disch := first | omega | decide | assumption | exact Nat.le_of_ble_eq_true rfl) only [s31_125, s31_162, ow_some, true_and, and_true, and_self, if_true, if_false, not_true, not_false_eq_true, Bool.false_eq_true, eq_self, Option.toList, List.cons_append, List.nil_append, ix_in, ix_cl, lt_in, lt_cl, lt_add, ix_one, vu_eq, vu_ne, arI_mk, arL_mk, arY_mZ, arY_mB, alen_mI, fld_sfl_ne, fld_sfl_same, Option.isSome_some, pok_i, b1z, b01, z10, b1o, Int32.zero_add, vu_vu, upd_eq, upd_ne, true_or, or_true]
    exact ⟨rfl, rfl, rfl, h⟩
  · rw [tsw_at _ _ 11 128 rfl ((kof 12 (by decide) hk).trans (by decide))]
    simp (disch := first | omega | decide | assumption | exact Nat.le_of_ble_eq_true rfl) only [s31_128, ow_some, true_and, and_true, and_self, if_true, if_false, not_true, not_false_eq_true, Bool.false_eq_true, eq_self, Option.toList, List.cons_append, List.nil_append, ix_in, ix_cl, lt_in, lt_cl, lt_add, ix_one, vu_eq, vu_ne, arI_mk, arL_mk, arY_mZ, arY_mB, alen_mI, fld_sfl_ne, fld_sfl_same, Option.isSome_some, pok_i, b1z, b01, z10, b1o, Int32.zero_add, vu_vu, upd_eq, upd_ne, true_or, or_true]
    refine k31_129 G.1.cn (Nat.le_of_ble_eq_true rfl) (sp_mayLine (d := d + 1) Z G P hR hk hle he) ?_
    rintro f1 n1 k1 v1 ⟨rfl, rfl, rfl, h⟩
    simp (disch := first | omega | decide | assumption | exact Nat.le_of_ble_eq_true rfl) only [s31_132, s31_162, ow_some, true_and, and_true, and_self, if_true, if_false, not_true, not_false_eq_true, Bool.false_eq_true, eq_self, Option.toList, List.cons_append, List.nil_append, ix_in, ix_cl, lt_in, lt_cl, lt_add, ix_one, vu_eq, vu_ne, arI_mk, arL_mk, arY_mZ, arY_mB, alen_mI, fld_sfl_ne, fld_sfl_same, Option.isSome_some, pok_i, b1z, b01, z10, b1o, Int32.zero_add, vu_vu, upd_eq, upd_ne, true_or, or_true]
    exact ⟨rfl, rfl, rfl, h⟩
  · rw [tsw_at _ _ 12 135 rfl ((kof 13 (by decide) hk).trans (by decide)), he]
    exact sp_dayLine (d := d + 60) Z G P hR hk
  · have main : TT X (d + 62) 31 157 [.ref 99] [] f N K (LO f b L kk pp T tx c0 t S N K res) := by
      simp (disch := first | omega | decide | assumption | exact Nat.le_of_ble_eq_true rfl) only [s31_157, s31_158, ow_some, true_and, and_true, and_self, if_true, if_false, not_true, not_false_eq_true, Bool.false_eq_true, eq_self, Option.toList, List.cons_append, List.nil_append, ix_in, ix_cl, lt_in, lt_cl, lt_add, ix_one, vu_eq, vu_ne, arI_mk, arL_mk, arY_mZ, arY_mB, alen_mI, fld_sfl_ne, fld_sfl_same, Option.isSome_some, pok_i, b1z, b01, z10, b1o, Int32.zero_add, vu_vu, upd_eq, upd_ne, true_or, or_true]
      refine k31_159 G.1.cn (Nat.le_of_ble_eq_true rfl) (G.fail Z (w := 2) (by decide)) ?_
      rintro f1 n1 k1 v1 ⟨rfl, rfl, rfl, s1, E1⟩
      simp (disch := first | omega | decide | assumption | exact Nat.le_of_ble_eq_true rfl) only [s31_162, ow_some, true_and, and_true, and_self, if_true, if_false, not_true, not_false_eq_true, Bool.false_eq_true, eq_self, Option.toList, List.cons_append, List.nil_append, ix_in, ix_cl, lt_in, lt_cl, lt_add, ix_one, vu_eq, vu_ne, arI_mk, arL_mk, arY_mZ, arY_mB, alen_mI, fld_sfl_ne, fld_sfl_same, Option.isSome_some, pok_i, b1z, b01, z10, b1o, Int32.zero_add, vu_vu, upd_eq, upd_ne, true_or, or_true]
      rw [he]
      exact LO.er s1 E1
    have hne : ∀ j, j ∈ kvl → c.2.2.1 ≠ nI j → (ck c).toInt ≠ (ckt (nI j)).toInt := fun j hj h e => h (of_eq_true ((ck_is hkv j hj).symm.trans (eq_true (Int32.toInt_inj.mp e))))
    have b1 := hne 1 (by decide) a1
    have b2 := hne 3 (by decide) a2
    have b3 := hne 9 (by decide) a3
    have b4 := hne 10 (by decide) a4
    have b5 := hne 11 (by decide) a5
    have b6 := hne 12 (by decide) a6
    have b7 := hne 13 (by decide) a7
    rw [show (ckt (nI 1)).toInt = 101 by decide] at b1
    rw [show (ckt (nI 3)).toInt = 103 by decide] at b2
    rw [show (ckt (nI 9)).toInt = 109 by decide] at b3
    rw [show (ckt (nI 10)).toInt = 110 by decide] at b4
    rw [show (ckt (nI 11)).toInt = 111 by decide] at b5
    rw [show (ckt (nI 12)).toInt = 112 by decide] at b6
    rw [show (ckt (nI 13)).toInt = 113 by decide] at b7
    by_cases hout : (ck c).toInt < 101 ∨ 114 ≤ (ck c).toInt
    · rw [tsw_out _ _ (by simpa using hout)]; exact main
    · rcases (show (ck c).toInt = 102 ∨ (ck c).toInt = 104 ∨ (ck c).toInt = 105 ∨ (ck c).toInt = 106 ∨ (ck c).toInt = 107 ∨ (ck c).toInt = 108 by omega) with h | h | h | h | h | h
      · rw [tsw_at _ _ 1 157 rfl h]; exact main
      · rw [tsw_at _ _ 3 157 rfl h]; exact main
      · rw [tsw_at _ _ 4 157 rfl h]; exact main
      · rw [tsw_at _ _ 5 157 rfl h]; exact main
      · rw [tsw_at _ _ 6 157 rfl h]; exact main
      · rw [tsw_at _ _ 7 157 rfl h]; exact main
end RD
