/-! the class: who is served -/
def wnt (all : Nat → Int32) (p : Nat) : Bool := (nT all).testBit p && decide (all 56 ≤ all (34 + p))
theorem sp_want {X : Nat × (Nat → Int32)} {d N K a pl C S R P : Nat} {f : Nat → e_C} {x r : Nat → Nat → Int32} {w v all : Nat → Int32} (V : SV f a pl w x) (W : PV f pl v r C) (G : CR all S P w x v r C) (I : IS all S R P) {u1 u2 : Value} : PU X (d + 2) 78 [.ref a, u1, u2] f N K (some (.int (nI (sel (wnt all) P)))) := by
  unfold PU
  have h9 := I.p9
  have hP : w 1 = nI P := by rw [G.w1]; exact I.eP
  have hT : w 6 = nI (nT all) := by rw [G.w6]; exact I.eT
  have g8 := G.w8
  simp (disch := first | omega | decide | assumption | exact Nat.le_of_ble_eq_true rfl) only [s78_0, s78_1, s78_2, h78_3, ow_some, true_and, and_true, and_self, if_true, if_false, not_true, not_false_eq_true, Bool.false_eq_true, eq_self, Option.toList, List.cons_append, List.nil_append, ix_in, ix_cl, lt_in, lt_cl, lt_add, ix_one, vu_eq, vu_ne, arI_mk, arL_mk, arY_mZ, arY_mB, alen_mI, fld_sfl_ne, fld_sfl_same, Option.isSome_some, pok_i, b1z, b01, z10, b1o, Int32.zero_add, vu_vu, upd_eq, upd_ne, true_or, or_true]
  refine lp (fun p e (z : Nat) => e = f ∧ z = sel (wnt all) p) (fun p z => [.ref a, .int (nI z), .int (nI p)]) P ?_ ?_ 0 f 0 (by omega) ⟨rfl, rfl⟩
  · rintro p e z hp ⟨rfl, hz⟩ hI
    have hc : (P ≤ p) = False := eq_false (by omega)
    have hlt : z < 512 := by rw [hz]; exact Nat.lt_of_lt_of_le sel_lt (pw9 (by omega))
    have hbs := (bit_set z hlt p (by omega)).1
    have hr8 := G.r8 (p := p) (by omega)
    simp (disch := first | omega | decide | assumption | exact Nat.le_of_ble_eq_true rfl) only [s78_4, s78_5, s78_6, s78_9, s78_12, s78_13, ow_some, true_and, and_true, and_self, if_true, if_false, not_true, not_false_eq_true, Bool.false_eq_true, eq_self, Option.toList, List.cons_append, List.nil_append, ix_in, ix_cl, lt_in, lt_cl, lt_add, ix_one, vu_eq, vu_ne, arI_mk, arL_mk, arY_mZ, arY_mB, alen_mI, fld_sfl_ne, fld_sfl_same, Option.isSome_some, pok_i, b1z, b01, z10, b1o, Int32.zero_add, vu_vu, upd_eq, upd_ne, true_or, or_true, V.v1, V.v6, V.v7, V.v8, V.v9, V.i1, V.i6, V.i7, V.i8, V.i9, V.r2, V.r3, V.r4, V.r5, V.pl, V.a2, V.a3, V.a4, V.a5, hP, ix_le, hc]
    rw [p78_14 V.cn (Nat.le_of_ble_eq_true rfl) (sp_isTj V hP h9 hT I.t5 hp)]
    by_cases h1 : (nT all).testBit p = true
    · rw [if_pos h1]
      by_cases h2 : all 56 ≤ all (34 + p)
      · have h2' : (all (34 + p) < all 56) = False := eq_false (fun z => by rw [Int32.lt_iff_toInt_lt] at z; rw [Int32.le_iff_toInt_le] at h2; omega)
        simp (disch := first | omega | decide | assumption | exact Nat.le_of_ble_eq_true rfl) only [s78_17, s78_20, s78_21, s78_24, s78_27, s78_28, s78_29, s78_30, s78_33, s78_36, s78_37, s78_38, s78_39, s78_40, s78_41, s78_42, h78_45, ow_some, true_and, and_true, and_self, if_true, if_false, not_true, not_false_eq_true, Bool.false_eq_true, eq_self, Option.toList, List.cons_append, List.nil_append, ix_in, ix_cl, lt_in, lt_cl, lt_add, ix_one, vu_eq, vu_ne, arI_mk, arL_mk, arY_mZ, arY_mB, alen_mI, fld_sfl_ne, fld_sfl_same, Option.isSome_some, pok_i, b1z, b01, z10, b1o, Int32.zero_add, vu_vu, upd_eq, upd_ne, true_or, or_true, V.v1, V.v6, V.v7, V.v8, V.v9, V.i1, V.i6, V.i7, V.i8, V.i9, V.r2, V.r3, V.r4, V.r5, V.pl, V.a2, V.a3, V.a4, V.a5, W.v0, W.v3, W.v10, W.v11, W.v12, W.v14, W.v15, W.v16, W.v17, W.v18, W.r1, W.r2, W.r4, W.r5, W.r6, W.r7, W.r8, W.r9, W.r13, W.a1, W.a2, W.a4, W.a5, W.a6, W.a7, W.a8, W.a9, W.a13, hr8, g8, h2', hbs]
        exact hI _ (z ||| 2 ^ p) ⟨rfl, by rw [sel_s, hz]; unfold wnt; simp [h1, h2]⟩
      · have h2' : (all (34 + p) < all 56) = True := eq_true (Int32.not_le.mp h2)
        simp (disch := first | omega | decide | assumption | exact Nat.le_of_ble_eq_true rfl) only [s78_17, s78_20, s78_21, s78_24, s78_27, s78_28, s78_29, s78_30, s78_33, s78_42, h78_45, ow_some, true_and, and_true, and_self, if_true, if_false, not_true, not_false_eq_true, Bool.false_eq_true, eq_self, Option.toList, List.cons_append, List.nil_append, ix_in, ix_cl, lt_in, lt_cl, lt_add, ix_one, vu_eq, vu_ne, arI_mk, arL_mk, arY_mZ, arY_mB, alen_mI, fld_sfl_ne, fld_sfl_same, Option.isSome_some, pok_i, b1z, b01, z10, b1o, Int32.zero_add, vu_vu, upd_eq, upd_ne, true_or, or_true, V.v1, V.v6, V.v7, V.v8, V.v9, V.i1, V.i6, V.i7, V.i8, V.i9, V.r2, V.r3, V.r4, V.r5, V.pl, V.a2, V.a3, V.a4, V.a5, W.v0, W.v3, W.v10, W.v11, W.v12, W.v14, W.v15, W.v16, W.v17, W.v18, W.r1, W.r2, W.r4, W.r5, W.r6, W.r7, W.r8, W.r9, W.r13, W.a1, W.a2, W.a4, W.a5, W.a6, W.a7, W.a8, W.a9, W.a13, hr8, g8, h2']
        exact hI _ z ⟨rfl, by rw [sel_s, hz]; unfold wnt; simp [h1, h2]⟩
    · rw [if_neg h1]
      simp (disch := first | omega | decide | assumption | exact Nat.le_of_ble_eq_true rfl) only [s78_17, s78_42, h78_45, ow_some, true_and, and_true, and_self, if_true, if_false, not_true, not_false_eq_true, Bool.false_eq_true, eq_self, Option.toList, List.cons_append, List.nil_append, ix_in, ix_cl, lt_in, lt_cl, lt_add, ix_one, vu_eq, vu_ne, arI_mk, arL_mk, arY_mZ, arY_mB, alen_mI, fld_sfl_ne, fld_sfl_same, Option.isSome_some, pok_i, b1z, b01, z10, b1o, Int32.zero_add, vu_vu, upd_eq, upd_ne, true_or, or_true]
      exact hI _ z ⟨rfl, by rw [sel_s, hz]; unfold wnt; simp [h1]⟩
  · rintro e z ⟨rfl, rfl⟩
    simp (disch := first | omega | decide | assumption | exact Nat.le_of_ble_eq_true rfl) only [s78_4, s78_5, s78_6, s78_9, s78_48, s78_49, ow_some, true_and, and_true, and_self, if_true, if_false, not_true, not_false_eq_true, Bool.false_eq_true, eq_self, Option.toList, List.cons_append, List.nil_append, ix_in, ix_cl, lt_in, lt_cl, lt_add, ix_one, vu_eq, vu_ne, arI_mk, arL_mk, arY_mZ, arY_mB, alen_mI, fld_sfl_ne, fld_sfl_same, Option.isSome_some, pok_i, b1z, b01, z10, b1o, Int32.zero_add, vu_vu, upd_eq, upd_ne, true_or, or_true, V.v1, V.v6, V.v7, V.v8, V.v9, V.i1, V.i6, V.i7, V.i8, V.i9, V.r2, V.r3, V.r4, V.r5, V.pl, V.a2, V.a3, V.a4, V.a5, hP, ix_le, Nat.le_refl]
theorem rch_want {all : Nat → Int32} {S R P : Nat} (I : IS all S R P) : ∀ e, e < 100 → ∀ g, rch all P e g → ∀ p, g.testBit p = true → p < P ∧ wnt all p = true := by
  intro e
  induction e with
  | zero =>
    intro _ g h p hp
    have : g = 0 := h
    rw [this, Nat.zero_testBit] at hp
    exact absurd hp (by decide)
  | succ e ih =>
    intro he g h p hp
    rcases h with h | ⟨s0, t, hr, hs0, ht0, hsub, hc, rfl⟩
    · exact ih (by omega) g h p hp
    · rw [Nat.testBit_or, Bool.or_eq_true] at hp
      rcases hp with hp | hp
      · exact ih (by omega) s0 hr p hp
      · have hti := sub_iff.mp hsub p hp
        rw [dif_bit I.t5, Bool.and_eq_true] at hti
        have hpP : p < P := by
          refine Decidable.byContradiction (fun hn => ?_)
          have : nT all < 2 ^ p := Nat.lt_of_lt_of_le I.tP (Nat.pow_le_pow_right (by decide) (by omega))
          rw [Nat.testBit_lt_two_pow this] at hti
          exact absurd hti.1 (by decide)
        have ht5 : t < 512 := Nat.lt_of_le_of_lt (sub_le hsub) (dif_lt I.t5)
        obtain ⟨e0, Q, hle, hQ9, he0, hQ⟩ := I.sn
        have := (((can_iff I hQ he0 hle hQ9 (show e < 100 by omega)) t s0 ht5 hs0).mp hc).2 p hpP hp
        refine ⟨hpP, ?_⟩
        unfold wnt
        rw [hti.1, Bool.true_and, decide_eq_true_iff, Int32.le_iff_toInt_le]
        omega
