/-! the class: most that are served -/
theorem EV.fr {f f' : Nat → e_C} {mm kk : Int32} {A O : Nat} {sb cb ra oa : Nat → Int32} (E : EV f mm kk A O sb cb ra oa) (h : ∀ b, b = 136 ∨ (144 ≤ b ∧ b < 148) → f' b = f b) : EV f' mm kk A O sb cb ra oa := by
  obtain ⟨e, a1, a2, a3, a4, hAO⟩ := E
  exact ⟨by rw [h 136 (by omega)]; exact e, by rw [h 144 (by omega)]; exact a1, by rw [h 145 (by omega)]; exact a2, by rw [h A (by omega)]; exact a3, by rw [h O (by omega)]; exact a4, hAO⟩
def EW (f : Nat → e_C) : Prop := ∃ mm kk A O sb cb ra oa, EV f mm kk A O sb cb ra oa
def mor (j : Nat) : Option Nat → Bool
  | none => true
  | some x => decide (bits x < bits j)
/-- what the question ends with -/
def QE (f : Nat → e_C) (N K : Nat) (z : Int32) : t_Q := fun f' n' k' v => n' = N ∧ k' = K ∧ SI 136 148 f f' ∧ (∃ y', LV f' 137 y') ∧ EW f' ∧ v = some (.int z)
theorem sp_greatest {X : Nat × (Nat → Int32)} {d N K a pl C S R P : Nat} {f : Nat → e_C} {y x r : Nat → Nat → Int32} {w v all : Nat → Int32} (L : LV f 137 y) (V : SV f a pl w x) (W : PV f pl v r C) (G : CR all S P w x v r C) (I : IS all S R P) (hd : AD a pl 137) (E : EW f) (can : Nat → Bool) (hcan : ∀ i, i < 512 → (can i = true ↔ rch all P 10 i)) {u2 u3 u4 u5 : Value} : TT X (d + 5) 77 0 [.ref 136, .ref a, u2, u3, u4, u5] [] f N K (QE f N K (oI (m_gone all S P can))) := by
  have h9 := I.p9
  have hT : w 6 = nI (nT all) := by rw [G.w6]; exact I.eT
  have t5 := I.t5
  obtain ⟨mm, kk, A, O, sb, cb, ra, oa, E0⟩ := E
  have e0 := E0.1.1
  simp (disch := first | omega | decide | assumption | exact Nat.le_of_ble_eq_true rfl) only [s77_0, s77_1, s77_4, ow_some, true_and, and_true, and_self, if_true, if_false, not_true, not_false_eq_true, Bool.false_eq_true, eq_self, Option.toList, List.cons_append, List.nil_append, ix_in, ix_cl, lt_in, lt_cl, lt_add, ix_one, vu_eq, vu_ne, arI_mk, arL_mk, arY_mZ, arY_mB, alen_mI, fld_sfl_ne, fld_sfl_same, Option.isSome_some, pok_i, b1z, b01, z10, b1o, Int32.zero_add, vu_vu, upd_eq, upd_ne, true_or, or_true, e0]
  refine k77_5 L.cn (Nat.le_of_ble_eq_true rfl) (sp_weigh L V W G I hd) ?_
  rintro f1 n1 k1 v1 ⟨rfl, rfl, rfl, s1, y1, L1, -, hw1⟩
  have V1 := V.fr (f' := f1) (fun b h1 h2 => s1 b (by omega))
  have W1 := W.fr (f' := f1) (fun b h1 h2 => s1 b (by omega))
  have s1' : SI 136 148 f f1 := s1.wd (by omega) (by omega)
  have E1 : EW f1 := ⟨_, _, _, _, _, _, _, _, E0.fr (fun b hb => s1 b (by omega))⟩
  simp (disch := first | omega | decide | assumption | exact Nat.le_of_ble_eq_true rfl) only [s77_8, ow_some, true_and, and_true, and_self, if_true, if_false, not_true, not_false_eq_true, Bool.false_eq_true, eq_self, Option.toList, List.cons_append, List.nil_append, ix_in, ix_cl, lt_in, lt_cl, lt_add, ix_one, vu_eq, vu_ne, arI_mk, arL_mk, arY_mZ, arY_mB, alen_mI, fld_sfl_ne, fld_sfl_same, Option.isSome_some, pok_i, b1z, b01, z10, b1o, Int32.zero_add, vu_vu, upd_eq, upd_ne, true_or, or_true]
  rw [p77_9 (Nat.le_of_ble_eq_true rfl) (sp_want V1 W1 G I)]
  have hWP : sel (wnt all) P < 2 ^ P := sel_lt
  have hWb : ∀ i, (sel (wnt all) P).testBit i = (decide (i < P) && wnt all i) := fun i => sel_bit
  generalize sel (wnt all) P = Wt at hWP hWb ⊢
  have hW5 : Wt < 512 := Nat.lt_of_lt_of_le hWP (pw9 h9)
  have canW : ∀ j, j < 512 → can j = true → sub j Wt = true := fun j hj h => sub_iff.mpr (fun p hp => by
    obtain ⟨q1, q2⟩ := rch_want I 10 (by omega) j ((hcan j hj).mp h) p hp
    rw [hWb, q2, decide_eq_true q1]; rfl)
  have WT : ∀ j, sub j Wt = true → sub j (nT all) = true := fun j h => sub_iff.mpr (fun p hp => by
    have := sub_iff.mp h p hp
    rw [hWb] at this
    unfold wnt at this
    simp only [Bool.and_eq_true] at this
    exact this.2.1)
  have e : m_gone all S P can = pick (fun g => (sub g (nT all) && can g) && m_h all S P (dif (nT all) g)) (fun j x => decide (bits x < bits j)) 512 := by
    unfold m_gone
    refine (pick_more (pw9 h9) (fun j h1 _ => ?_)).symm
    rw [sub_hi I.tP h1]; rfl
  rw [e]
  simp (disch := first | omega | decide | assumption | exact Nat.le_of_ble_eq_true rfl) only [s77_12, s77_13, s77_14, s77_15, h77_16, ow_some, true_and, and_true, and_self, if_true, if_false, not_true, not_false_eq_true, Bool.false_eq_true, eq_self, Option.toList, List.cons_append, List.nil_append, ix_in, ix_cl, lt_in, lt_cl, lt_add, ix_one, vu_eq, vu_ne, arI_mk, arL_mk, arY_mZ, arY_mB, alen_mI, fld_sfl_ne, fld_sfl_same, Option.isSome_some, pok_i, b1z, b01, z10, b1o, Int32.zero_add, vu_vu, upd_eq, upd_ne, true_or, or_true]
  refine lp (fun j g (z : Option Nat × (Nat → Nat → Int32) × Value) => SI 136 148 f g ∧ LV g 137 z.2.1 ∧ wgd all P z.2.1 ∧ EW g ∧ z.1 = pick (fun g => (sub g (nT all) && can g) && m_h all S P (dif (nT all) g)) (fun j x => decide (bits x < bits j)) j) (fun j z => [.ref 136, .ref a, .int (nI Wt), .int (oI z.1), .int (nI j), z.2.2]) 512 ?_ ?_ 0 f1 (none, y1, u5) (by omega) ⟨s1', L1, hw1, E1, rfl⟩
  · rintro j g ⟨b, y2, u⟩ hj ⟨s2, L2, hw2, E2, hbp⟩ hI
    dsimp only at L2 hw2 hbp hI ⊢
    obtain ⟨mm, kk, A, O, sb, cb, ra, oa, E2'⟩ := id E2
    have e0 := E2'.1.1
    have V2 := V.fr (f' := g) (fun b h1 h2 => s2 b (by omega))
    have W2 := W.fr (f' := g) (fun b h1 h2 => s2 b (by omega))
    have hc : (512 ≤ j) = False := eq_false (by omega)
    have hps := pick_s (c := fun g => (sub g (nT all) && can g) && m_h all S P (dif (nT all) g)) (bt := fun j x => decide (bits x < bits j)) (n := j)
    rw [← hbp] at hps
    have hpt := part_nI hj hW5
    have hdn := dif_nI (s := j) t5
    have key : ∀ mo : Bool, mo = mor j b → TT X (d + 5) 77 50 [.ref 136, .ref a, .int (nI Wt), .int (oI b), .int (nI j), .int (bI mo)] [] g n1 k1 (QE f n1 k1 (oI (pick (fun g => (sub g (nT all) && can g) && m_h all S P (dif (nT all) g)) (fun j x => decide (bits x < bits j)) 512))) := by
      intro mo hmo
      have hps : pick (fun g => (sub g (nT all) && can g) && m_h all S P (dif (nT all) g)) (fun j x => decide (bits x < bits j)) (j + 1) = if ((sub j (nT all) && can j) && m_h all S P (dif (nT all) j) && mo) = true then some j else b := by rw [hps, hmo]; cases b <;> rfl
      cases hs : sub j Wt with
      | false =>
        have hs' : (sub j Wt = true) = False := by rw [hs]; exact eq_false (by decide)
        have hcj : can j = false := by
          cases hz : can j with
          | false => rfl
          | true => rw [canW j hj hz] at hs; exact absurd hs (by decide)
        simp (disch := first | omega | decide | assumption | exact Nat.le_of_ble_eq_true rfl) only [s77_50, s77_52, s77_53, s77_54, s77_55, s77_56, s77_97, h77_100, ow_some, true_and, and_true, and_self, if_true, if_false, not_true, not_false_eq_true, Bool.false_eq_true, eq_self, Option.toList, List.cons_append, List.nil_append, ix_in, ix_cl, lt_in, lt_cl, lt_add, ix_one, vu_eq, vu_ne, arI_mk, arL_mk, arY_mZ, arY_mB, alen_mI, fld_sfl_ne, fld_sfl_same, Option.isSome_some, pok_i, b1z, b01, z10, b1o, Int32.zero_add, vu_vu, upd_eq, upd_ne, true_or, or_true, V2.v1, V2.v6, V2.v7, V2.v8, V2.v9, V2.i1, V2.i6, V2.i7, V2.i8, V2.i9, V2.r2, V2.r3, V2.r4, V2.r5, V2.pl, V2.a2, V2.a3, V2.a4, V2.a5, hpt, hs', ne_eq]
        exact hI _ (b, y2, _) ⟨s2, L2, hw2, E2, by rw [hps, hcj]; simp⟩
      | true =>
        have hs' : (sub j Wt = true) = True := eq_true hs
        cases hmo2 : mo with
        | false =>
          have q0 : (bI false = 0) = True := by decide
          simp (disch := first | omega | decide | assumption | exact Nat.le_of_ble_eq_true rfl) only [s77_50, s77_52, s77_53, s77_54, s77_55, s77_56, s77_59, s77_61, s77_97, h77_100, ow_some, true_and, and_true, and_self, if_true, if_false, not_true, not_false_eq_true, Bool.false_eq_true, eq_self, Option.toList, List.cons_append, List.nil_append, ix_in, ix_cl, lt_in, lt_cl, lt_add, ix_one, vu_eq, vu_ne, arI_mk, arL_mk, arY_mZ, arY_mB, alen_mI, fld_sfl_ne, fld_sfl_same, Option.isSome_some, pok_i, b1z, b01, z10, b1o, Int32.zero_add, vu_vu, upd_eq, upd_ne, true_or, or_true, V2.v1, V2.v6, V2.v7, V2.v8, V2.v9, V2.i1, V2.i6, V2.i7, V2.i8, V2.i9, V2.r2, V2.r3, V2.r4, V2.r5, V2.pl, V2.a2, V2.a3, V2.a4, V2.a5, hpt, hs', ne_eq, q0]
          exact hI _ (b, y2, _) ⟨s2, L2, hw2, E2, by rw [hps, hmo2]; simp⟩
        | true =>
          have q0 : (bI true = 0) = False := by decide
          have hjT := WT j hs
          have hjP : j < 2 ^ P := Nat.lt_of_le_of_lt (sub_le hs) hWP
          simp (disch := first | omega | decide | assumption | exact Nat.le_of_ble_eq_true rfl) only [s77_50, s77_52, s77_53, s77_54, s77_55, s77_56, s77_59, s77_61, s77_64, s77_65, s77_68, s77_69, s77_70, s77_73, s77_75, s77_76, s77_77, ow_some, true_and, and_true, and_self, if_true, if_false, not_true, not_false_eq_true, Bool.false_eq_true, eq_self, Option.toList, List.cons_append, List.nil_append, ix_in, ix_cl, lt_in, lt_cl, lt_add, ix_one, vu_eq, vu_ne, arI_mk, arL_mk, arY_mZ, arY_mB, alen_mI, fld_sfl_ne, fld_sfl_same, Option.isSome_some, pok_i, b1z, b01, z10, b1o, Int32.zero_add, vu_vu, upd_eq, upd_ne, true_or, or_true, V2.v1, V2.v6, V2.v7, V2.v8, V2.v9, V2.i1, V2.i6, V2.i7, V2.i8, V2.i9, V2.r2, V2.r3, V2.r4, V2.r5, V2.pl, V2.a2, V2.a3, V2.a4, V2.a5, hpt, hs', ne_eq, q0, hT, hdn, e0]
          refine k77_78 L2.cn (Nat.le_of_ble_eq_true rfl) (sp_slackOf L2 V2 W2 G I hd (dif_sub t5) hw2) ?_
          rintro g3 n3 k3 v3 ⟨rfl, rfl, s3, ⟨y3, L3, -⟩, rfl⟩
          have s3' : SI 136 148 f g3 := s2.tr (s3.wd (by omega) (by omega))
          have E3 := E2'.fr (f' := g3) (fun b hb => s3 b (by omega))
          have V3 := V.fr (f' := g3) (fun b h1 h2 => s3' b (by omega))
          have W3 := W.fr (f' := g3) (fun b h1 h2 => s3' b (by omega))
          have hh := sp_lt0 (all := all) (S := S) (P := P) (T := dif (nT all) j)
          have hmh : m_h all S P (dif (nT all) j) = m_hold all S P (dif (nT all) j) := by unfold m_h; rw [dif_sub t5]; rfl
          by_cases hm : m_hold all S P (dif (nT all) j) = true
          · have hm' : (¬ (m_hold all S P (dif (nT all) j) = true)) = False := eq_false (fun z => z hm)
            simp (disch := first | omega | decide | assumption | exact Nat.le_of_ble_eq_true rfl) only [s77_81, s77_84, s77_85, s77_86, ow_some, true_and, and_true, and_self, if_true, if_false, not_true, not_false_eq_true, Bool.false_eq_true, eq_self, Option.toList, List.cons_append, List.nil_append, ix_in, ix_cl, lt_in, lt_cl, lt_add, ix_one, vu_eq, vu_ne, arI_mk, arL_mk, arY_mZ, arY_mB, alen_mI, fld_sfl_ne, fld_sfl_same, Option.isSome_some, pok_i, b1z, b01, z10, b1o, Int32.zero_add, vu_vu, upd_eq, upd_ne, true_or, or_true, hh, hm']
            refine k77_88 E3.cn (Nat.le_of_ble_eq_true rfl) (sp_inTime V3 W3 G I hd E3 hjP hjT) ?_
            rintro g4 n4 k4 v4 ⟨rfl, rfl, s4, E4, t, rfl, ht⟩
            have L4 := L3.fr (f' := g4) (fun b h1 h2 => s4 b (by omega))
            have s4' : SI 136 148 f g4 := fun b hb => (s4 b (by omega)).trans (s3' b hb)
            have hct : can j = t := by
              have := (hcan j hj).trans ht.symm
              cases hx : can j <;> cases hy : t
              · rfl
              · rw [hx, hy] at this; exact absurd (this.mpr rfl) (by decide)
              · rw [hx, hy] at this; exact absurd (this.mp rfl) (by decide)
              · rfl
            cases ht2 : t with
            | true =>
              have q1 : (bI true = 0) = False := by decide
              simp (disch := first | omega | decide | assumption | exact Nat.le_of_ble_eq_true rfl) only [s77_91, s77_94, s77_96, s77_97, h77_100, ow_some, true_and, and_true, and_self, if_true, if_false, not_true, not_false_eq_true, Bool.false_eq_true, eq_self, Option.toList, List.cons_append, List.nil_append, ix_in, ix_cl, lt_in, lt_cl, lt_add, ix_one, vu_eq, vu_ne, arI_mk, arL_mk, arY_mZ, arY_mB, alen_mI, fld_sfl_ne, fld_sfl_same, Option.isSome_some, pok_i, b1z, b01, z10, b1o, Int32.zero_add, vu_vu, upd_eq, upd_ne, true_or, or_true, q1]
              exact hI _ (some j, up2 y2 4 y3, _) ⟨s4', L4, wgd_up hw2, E4, by rw [hps, hct, ht2, hjT, hmh, hm, hmo2]; rfl⟩
            | false =>
              have q1 : (bI false = 0) = True := by decide
              simp (disch := first | omega | decide | assumption | exact Nat.le_of_ble_eq_true rfl) only [s77_91, s77_97, h77_100, ow_some, true_and, and_true, and_self, if_true, if_false, not_true, not_false_eq_true, Bool.false_eq_true, eq_self, Option.toList, List.cons_append, List.nil_append, ix_in, ix_cl, lt_in, lt_cl, lt_add, ix_one, vu_eq, vu_ne, arI_mk, arL_mk, arY_mZ, arY_mB, alen_mI, fld_sfl_ne, fld_sfl_same, Option.isSome_some, pok_i, b1z, b01, z10, b1o, Int32.zero_add, vu_vu, upd_eq, upd_ne, true_or, or_true, q1]
              exact hI _ (b, up2 y2 4 y3, _) ⟨s4', L4, wgd_up hw2, E4, by rw [hps, hct, ht2]; simp⟩
          · have hm' : (¬ (m_hold all S P (dif (nT all) j) = true)) = True := eq_true hm
            simp (disch := first | omega | decide | assumption | exact Nat.le_of_ble_eq_true rfl) only [s77_81, s77_97, h77_100, ow_some, true_and, and_true, and_self, if_true, if_false, not_true, not_false_eq_true, Bool.false_eq_true, eq_self, Option.toList, List.cons_append, List.nil_append, ix_in, ix_cl, lt_in, lt_cl, lt_add, ix_one, vu_eq, vu_ne, arI_mk, arL_mk, arY_mZ, arY_mB, alen_mI, fld_sfl_ne, fld_sfl_same, Option.isSome_some, pok_i, b1z, b01, z10, b1o, Int32.zero_add, vu_vu, upd_eq, upd_ne, true_or, or_true, hh, hm']
            exact hI _ (b, up2 y2 4 y3, _) ⟨s3', L3, wgd_up hw2, ⟨_, _, _, _, _, _, _, _, E3⟩, by rw [hps, hmh, Bool.eq_false_iff.mpr hm]; simp⟩
    cases hb : b with
    | none =>
      have e1 : oI none = -1 := rfl
      have := key true (by rw [hb]; rfl)
      rw [hb] at this
      simp (disch := first | omega | decide | assumption | exact Nat.le_of_ble_eq_true rfl) only [s77_18, s77_20, s77_23, s77_26, s77_27, s77_28, s77_43, s77_44, s77_47, s77_48, ow_some, true_and, and_true, and_self, if_true, if_false, not_true, not_false_eq_true, Bool.false_eq_true, eq_self, Option.toList, List.cons_append, List.nil_append, ix_in, ix_cl, lt_in, lt_cl, lt_add, ix_one, vu_eq, vu_ne, arI_mk, arL_mk, arY_mZ, arY_mB, alen_mI, fld_sfl_ne, fld_sfl_same, Option.isSome_some, pok_i, b1z, b01, z10, b1o, Int32.zero_add, vu_vu, upd_eq, upd_ne, true_or, or_true, lt_le, hc, e1]
      exact this
    | some q =>
      have hq : q < 512 := Nat.lt_of_lt_of_le (pick_lt (hbp.symm.trans hb)) (by omega)
      have e1 : oI (some q) = nI q := rfl
      have hne := ne_m1 (m := q) (by omega)
      simp (disch := first | omega | decide | assumption | exact Nat.le_of_ble_eq_true rfl) only [s77_18, s77_20, s77_23, s77_26, s77_27, s77_28, s77_31, ow_some, true_and, and_true, and_self, if_true, if_false, not_true, not_false_eq_true, Bool.false_eq_true, eq_self, Option.toList, List.cons_append, List.nil_append, ix_in, ix_cl, lt_in, lt_cl, lt_add, ix_one, vu_eq, vu_ne, arI_mk, arL_mk, arY_mZ, arY_mB, alen_mI, fld_sfl_ne, fld_sfl_same, Option.isSome_some, pok_i, b1z, b01, z10, b1o, Int32.zero_add, vu_vu, upd_eq, upd_ne, true_or, or_true, lt_le, hc, e1, hne]
      rw [p77_33 (Nat.le_of_ble_eq_true rfl) (sp_bitCount hj)]
      simp (disch := first | omega | decide | assumption | exact Nat.le_of_ble_eq_true rfl) only [s77_36, ow_some, true_and, and_true, and_self, if_true, if_false, not_true, not_false_eq_true, Bool.false_eq_true, eq_self, Option.toList, List.cons_append, List.nil_append, ix_in, ix_cl, lt_in, lt_cl, lt_add, ix_one, vu_eq, vu_ne, arI_mk, arL_mk, arY_mZ, arY_mB, alen_mI, fld_sfl_ne, fld_sfl_same, Option.isSome_some, pok_i, b1z, b01, z10, b1o, Int32.zero_add, vu_vu, upd_eq, upd_ne, true_or, or_true]
      rw [p77_37 (Nat.le_of_ble_eq_true rfl) (sp_bitCount hq)]
      have l1 := bits_lt (T := j)
      have l2 := bits_lt (T := q)
      by_cases hlt : bits q < bits j
      · have c1 : (bits j ≤ bits q) = False := eq_false (by omega)
        have := key true (by rw [hb]; simp [mor, hlt])
        rw [hb] at this
        simp (disch := first | omega | decide | assumption | exact Nat.le_of_ble_eq_true rfl) only [s77_40, s77_43, s77_44, s77_47, s77_48, ow_some, true_and, and_true, and_self, if_true, if_false, not_true, not_false_eq_true, Bool.false_eq_true, eq_self, Option.toList, List.cons_append, List.nil_append, ix_in, ix_cl, lt_in, lt_cl, lt_add, ix_one, vu_eq, vu_ne, arI_mk, arL_mk, arY_mZ, arY_mB, alen_mI, fld_sfl_ne, fld_sfl_same, Option.isSome_some, pok_i, b1z, b01, z10, b1o, Int32.zero_add, vu_vu, upd_eq, upd_ne, true_or, or_true, ix_le, c1]
        exact this
      · have c1 : (bits j ≤ bits q) = True := eq_true (by omega)
        have := key false (by rw [hb]; simp [mor, hlt])
        rw [hb] at this
        simp (disch := first | omega | decide | assumption | exact Nat.le_of_ble_eq_true rfl) only [s77_40, s77_43, s77_44, s77_47, s77_48, ow_some, true_and, and_true, and_self, if_true, if_false, not_true, not_false_eq_true, Bool.false_eq_true, eq_self, Option.toList, List.cons_append, List.nil_append, ix_in, ix_cl, lt_in, lt_cl, lt_add, ix_one, vu_eq, vu_ne, arI_mk, arL_mk, arY_mZ, arY_mB, alen_mI, fld_sfl_ne, fld_sfl_same, Option.isSome_some, pok_i, b1z, b01, z10, b1o, Int32.zero_add, vu_vu, upd_eq, upd_ne, true_or, or_true, ix_le, c1]
        exact this
  · rintro g ⟨b, y2, u⟩ ⟨s2, L2, hw2, E2, hbp⟩
    dsimp only at L2 hw2 hbp ⊢
    simp (disch := first | omega | decide | assumption | exact Nat.le_of_ble_eq_true rfl) only [s77_18, s77_20, s77_23, s77_103, s77_104, ow_some, true_and, and_true, and_self, if_true, if_false, not_true, not_false_eq_true, Bool.false_eq_true, eq_self, Option.toList, List.cons_append, List.nil_append, ix_in, ix_cl, lt_in, lt_cl, lt_add, ix_one, vu_eq, vu_ne, arI_mk, arL_mk, arY_mZ, arY_mB, alen_mI, fld_sfl_ne, fld_sfl_same, Option.isSome_some, pok_i, b1z, b01, z10, b1o, Int32.zero_add, vu_vu, upd_eq, upd_ne, true_or, or_true, lt_le, Nat.le_refl]
    exact ⟨rfl, rfl, s2, ⟨y2, L2⟩, E2, by rw [hbp]⟩
