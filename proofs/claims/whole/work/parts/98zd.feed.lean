/-! the class is fed -/
theorem b8_b8 (x : Int32) : x.toInt8.toInt32.toInt8.toInt32 = x.toInt8.toInt32 := by simp
theorem b8_r (x : Int32) : -128 ≤ x.toInt8.toInt32.toInt ∧ x.toInt8.toInt32.toInt ≤ 127 := by
  have h1 := Int8.le_toInt x.toInt8
  have h2 := Int8.toInt_lt x.toInt8
  rw [Int8.toInt_toInt32]
  omega
theorem bit255 : ∀ i, i < 32 → (255#32).getLsbD i = decide (i < 8) := by decide
theorem b8_a (x : Int32) : x.toInt8.toInt32 &&& 255 = x &&& 255 := by
  apply Int32.toBitVec_inj.mp
  rw [Int32.toBitVec_and, Int32.toBitVec_and, Int8.toBitVec_toInt32, Int32.toBitVec_toInt8]
  apply BitVec.eq_of_getLsbD_eq
  intro i hi
  rw [BitVec.getLsbD_and, BitVec.getLsbD_and]
  have e : (255 : Int32).toBitVec = 255#32 := rfl
  rw [e, bit255 i hi]
  by_cases h : i < 8
  · rw [BitVec.getLsbD_signExtend, BitVec.getLsbD_signExtend]
    simp [h, hi]
  · simp [h]
def shf (j : Nat) : Int32 := if j = 4 then -8 else nI (24 - 8 * j)
theorem shf_s : ∀ j, j < 4 → shf j + Int32.ofInt (-8) = shf (j + 1) ∧ ¬ shf j < 0 ∧ shf j = nI (24 - 8 * j) := by decide
def TPx (f : Nat → e_C) (t : Nat → Int32) (F : Nat) (tp : Nat → Int32) : Prop := ∃ tb, arB (f 1) = some (900, tb) ∧ t 1 = nI F ∧ ∀ i, i < F → (-128 ≤ (tb i).toInt ∧ (tb i).toInt ≤ 127) ∧ tp i = tb i &&& 255
theorem hv_p1 {f : Nat → e_C} {t : Nat → Int32} (h : HV f t) : (fld (f 0) 11 1).isSome = true := by rw [h.v1]; rfl
section DEED
variable {X : Nat × (Nat → Int32)} {d N K : Nat} {f f' f'' : Nat → e_C} {t t' : Nat → Int32} {s : m_T} {S R P P2 D B B2 j : Nat} {all2 : Nat → Int32}
theorem sp_putInt {F : Nat} {tp : Nat → Int32} {v : Int32} (H : HV f t) (T : TPx f t F tp) (hF : F + 4 ≤ 900) (hv : ∀ k, k < 4 → tp (F + k) = v >>> (nI (24 - 8 * k) &&& 31) &&& 255) {u2 : Value} : TT X d 114 0 [.ref 0, .int v, u2] [] f N K (fun f' n' k' z => n' = N ∧ k' = K ∧ z = none ∧ SI 0 2 f f' ∧ ∃ t', HV f' t' ∧ TPx f' t' (F + 4) tp ∧ ∀ i, i ≠ 1 → t' i = t i) := by
  have e24 : (24 : Int32) = shf 0 := by decide
  simp (disch := first | omega | decide | assumption | exact Nat.le_of_ble_eq_true rfl) only [s114_0, h114_2, ow_some, true_and, and_true, and_self, if_true, if_false, not_true, not_false_eq_true, Bool.false_eq_true, eq_self, Option.toList, List.cons_append, List.nil_append, ix_in, ix_cl, lt_in, lt_cl, lt_add, ix_one, vu_eq, vu_ne, arI_mk, arL_mk, arY_mZ, arY_mB, alen_mI, fld_sfl_ne, fld_sfl_same, Option.isSome_some, pok_i, b1z, b01, z10, b1o, Int32.zero_add, vu_vu, upd_eq, upd_ne, true_or, or_true, e24]
  refine lp (fun j g (t' : Nat → Int32) => SI 0 2 f g ∧ HV g t' ∧ TPx g t' (F + j) tp ∧ ∀ i, i ≠ 1 → t' i = t i) (fun j _ => [.ref 0, .int v, .int (shf j)]) 4 ?_ ?_ 0 f t (by omega) ⟨SI.rf, H, T, fun _ _ => rfl⟩
  · rintro j g t' hj ⟨sg, Hg, ⟨tb, hb, h1, htb⟩, ht⟩ hI
    obtain ⟨q1, q2, q3⟩ := shf_s j hj
    have q2' : (shf j < 0) = False := eq_false q2
    have v1 := Hg.v1
    have r0 := Hg.r0
    have i1 := hv_p1 Hg
    have hy := arY_B hb
    have hal := alen_B hb
    have hc : (nI 900 ≤ nI (F + j)) = False := eq_false (by rw [Int32.le_iff_toInt_le, nI_toInt (by omega), nI_toInt (by omega)]; omega)
    have hn : ∀ x : Int32, vp_nar .byte x.toInt8.toInt32 = x.toInt8.toInt32 := fun x => by rw [vp_nar_byte, b8_b8]
    simp (disch := first | omega | decide | assumption | exact Nat.le_of_ble_eq_true rfl) only [s114_3, s114_4, s114_7, s114_8, s114_11, s114_12, y114_15, s114_16, s114_19, s114_20, s114_23, s114_24, s114_27, s114_28, s114_29, s114_30, y114_31, s114_32, s114_33, s114_33i, s114_34, s114_37, s114_38, s114_39, s114_42, h114_45, ow_some, true_and, and_true, and_self, if_true, if_false, not_true, not_false_eq_true, Bool.false_eq_true, eq_self, Option.toList, List.cons_append, List.nil_append, ix_in, ix_cl, lt_in, lt_cl, lt_add, ix_one, vu_eq, vu_ne, arI_mk, arL_mk, arY_mZ, arY_mB, alen_mI, fld_sfl_ne, fld_sfl_same, Option.isSome_some, pok_i, b1z, b01, z10, b1o, Int32.zero_add, vu_vu, upd_eq, upd_ne, true_or, or_true, q2', q1, v1, r0, i1, h1, hy, hal, hc, hn]
    refine hI _ (upd t' 1 (nI (F + j + 1))) ⟨(sg.tr (SI.up (a := 1) (by omega) (by omega))).tr (SI.up (a := 0) (by omega) (by omega)), ?_, ?_, fun i hi => by rw [upd_ne hi]; exact ht i hi⟩
    · have hs := (Hg.fr (f' := va_up g 1 (.inl (.byte, 900, .inl (upd tb (F + j) (v >>> (shf j &&& 31)).toInt8.toInt32)))) (vu_ne (by omega))).set (i := 1) (z := nI (F + j + 1)) (by decide)
      rw [vu_ne (show 0 ≠ 1 by omega)] at hs
      exact hs
    · refine ⟨upd tb (F + j) (v >>> (shf j &&& 31)).toInt8.toInt32, by rw [vu_ne (by omega), vu_eq]; rfl, upd_eq, fun i hi => ?_⟩
      by_cases e : i = F + j
      · subst e
        rw [upd_eq]
        exact ⟨b8_r _, by rw [b8_a, hv j hj, q3]⟩
      · rw [upd_ne e]; exact htb i (by omega)
  · rintro g t' ⟨sg, Hg, Tg, ht⟩
    have q2' : (shf 4 < 0) = True := eq_true (by decide)
    simp (disch := first | omega | decide | assumption | exact Nat.le_of_ble_eq_true rfl) only [s114_3, s114_4, s114_48, ow_some, true_and, and_true, and_self, if_true, if_false, not_true, not_false_eq_true, Bool.false_eq_true, eq_self, Option.toList, List.cons_append, List.nil_append, ix_in, ix_cl, lt_in, lt_cl, lt_add, ix_one, vu_eq, vu_ne, arI_mk, arL_mk, arY_mZ, arY_mB, alen_mI, fld_sfl_ne, fld_sfl_same, Option.isSome_some, pok_i, b1z, b01, z10, b1o, Int32.zero_add, vu_vu, upd_eq, upd_ne, true_or, or_true, q2']
    exact ⟨sg, t', Hg, Tg, ht⟩
theorem ST.feed {tp : Nat → Int32} {F : Nat} (Z : ST f N s S R P D B t) (hf : SI 0 2 f f') (H : HV f' t') (ht : ∀ i, i ≠ 1 → t' i = t i) (T : TPx f' t' F tp) (hF : F ≤ 900) : ST f' N (s.1, (nI F, s.2.1.2), tp, s.2.2.2) S R P D B t' := by
  obtain ⟨a1, a2, a3, ⟨j', b1, b2, b3⟩, a5, a6, a7, a8, a9⟩ := Z
  refine ⟨H, a2.fr (Nat.le_refl _) (Nat.le_refl _) (fun b hb => hf b (by omega)), a3.fr (fun b h1 h2 => hf b (by omega)), ⟨j', by rw [ht 7 (by omega)]; exact b1, by rw [ht 8 (by omega)]; exact b2, ?_⟩, ?_, a6.fr (fun b h1 h2 => hf b (by omega)), ?_, by rw [ht 2 (by omega), ht 3 (by omega)]; exact a8, ?_⟩
  · obtain ⟨c1, c2, c3, c4, c5, c6⟩ := b3
    refine ⟨by rw [hf 22 (by omega)]; exact c1, fun i hi => (c2 i hi).fr (fun b h1 h2 => hf b (by omega)), c3, c4, c5, fun i hi => ?_⟩
    obtain ⟨P', h⟩ := c6 i hi
    have := Nat.mod_lt (j' + 10 - i) (show 11 > 0 by omega)
    exact ⟨P', h.fr (Nat.le_refl _) (Nat.le_refl _) (fun b hb => hf b (by omega))⟩
  · obtain ⟨c1, c2, c3, c4⟩ := a5
    refine ⟨by rw [hf 78 (by omega)]; exact c1, by rw [hf 89 (by omega)]; exact c2, fun i hi => (c3 i hi).fr (fun b h1 h2 => hf b (by omega)), fun i hi hz => ?_⟩
    obtain ⟨S', R', P', h⟩ := c4 i hi hz
    exact ⟨S', R', P', h.fr (Nat.le_refl _) (Nat.le_refl _) (fun b hb => hf b (by omega))⟩
  · obtain ⟨tb, h1, h2, h3⟩ := T
    exact ⟨tb, F, h1, h2, rfl, hF, h3⟩
  · unfold RDV; rw [hf 99 (by omega), hf 100 (by omega), hf 101 (by omega)]; exact a9
theorem ST.fd (Z : ST f N s S R P D B t) : ∃ F, t 1 = nI F ∧ s.2.1.1 = nI F ∧ F ≤ 900 := by
  obtain ⟨tb, F, -, h1, h2, h3, -⟩ := Z.2.2.2.2.2.2.1
  exact ⟨F, h1, h2, h3⟩
theorem sp_feedC {F : Nat} (Z : ST f N s S R P D B t) (Y : SCR f) (hq : s.2.1.1 = nI F) (hq2 : F ≤ 900) {x1 x2 x3 x4 x5 : Int32} : TT X (d + 1) 113 0 [.ref 0, .int x1, .int x2, .int x3, .int x4, .int x5] [] f N K (QG f N K (o_feed s F x1 x2 x3 x4 x5).1 B (.int (o_feed s F x1 x2 x3 x4 x5).2)) := by
  obtain ⟨tb, F', hb, h1, h2, h3, htb⟩ := Z.2.2.2.2.2.2.1
  have e : F' = F := by
    rw [h2] at hq
    have := congrArg Int32.toInt hq
    rw [nI_toInt (by omega), nI_toInt (by omega)] at this
    omega
  subst e
  have v1 := Z.1.v1
  have e20 : nI F' + 20 = nI (F' + 20) := by rw [lit_nI 20, nI_add]
  unfold o_feed
  by_cases h : F' + 20 ≤ 900
  · rw [if_pos h]
    have hc : (nI (F' + 20) ≤ (900 : Int32)) = True := eq_true (by rw [Int32.le_iff_toInt_le, nI_toInt (by omega)]; show _ ≤ (900 : Int); omega)
    have T0 : TPx f t F' (f_t s.2.2.1 F' (fun k => f_b (f_v x1 x2 x3 x4 x5 k) k) 20) := ⟨tb, hb, h1, fun i hi => by rw [f_t, if_neg (by omega)]; exact htb i hi⟩
    have key : ∀ c k, c < 5 → k < 4 → f_t s.2.2.1 F' (fun k => f_b (f_v x1 x2 x3 x4 x5 k) k) 20 (F' + 4 * c + k) = f_v x1 x2 x3 x4 x5 (4 * c) >>> (nI (24 - 8 * k) &&& 31) &&& 255 := by
      intro c k hc hk
      rw [f_t, if_pos (by omega), show F' + 4 * c + k - F' = 4 * c + k by omega]
      unfold f_b
      rw [show (4 * c + k) % 4 = k by omega]
      have : f_v x1 x2 x3 x4 x5 (4 * c + k) = f_v x1 x2 x3 x4 x5 (4 * c) := by
        rcases (show c = 0 ∨ c = 1 ∨ c = 2 ∨ c = 3 ∨ c = 4 by omega) with rfl | rfl | rfl | rfl | rfl
        all_goals
          unfold f_v
          rcases (show k = 0 ∨ k = 1 ∨ k = 2 ∨ k = 3 by omega) with rfl | rfl | rfl | rfl <;> rfl
      rw [this]
    generalize f_t s.2.2.1 F' (fun k => f_b (f_v x1 x2 x3 x4 x5 k) k) 20 = tp at T0 key ⊢
    simp (disch := first | omega | decide | assumption | exact Nat.le_of_ble_eq_true rfl) only [s113_0, s113_1, s113_4, s113_6, s113_7, s113_10, s113_16, s113_17, ow_some, true_and, and_true, and_self, if_true, if_false, not_true, not_false_eq_true, Bool.false_eq_true, eq_self, Option.toList, List.cons_append, List.nil_append, ix_in, ix_cl, lt_in, lt_cl, lt_add, ix_one, vu_eq, vu_ne, arI_mk, arL_mk, arY_mZ, arY_mB, alen_mI, fld_sfl_ne, fld_sfl_same, Option.isSome_some, pok_i, b1z, b01, z10, b1o, Int32.zero_add, vu_vu, upd_eq, upd_ne, true_or, or_true, v1, h1, e20, hc]
    refine k113_18 Z.1.cn (Nat.le_of_ble_eq_true rfl) (sp_putInt Z.1 T0 (by omega) (fun k hk => key 0 k (by omega) hk)) ?_
    rintro f1 n1 k1 v1 ⟨rfl, rfl, rfl, s1, t1, H1, T1, ht1⟩
    simp (disch := first | omega | decide | assumption | exact Nat.le_of_ble_eq_true rfl) only [s113_21, s113_22, ow_some, true_and, and_true, and_self, if_true, if_false, not_true, not_false_eq_true, Bool.false_eq_true, eq_self, Option.toList, List.cons_append, List.nil_append, ix_in, ix_cl, lt_in, lt_cl, lt_add, ix_one, vu_eq, vu_ne, arI_mk, arL_mk, arY_mZ, arY_mB, alen_mI, fld_sfl_ne, fld_sfl_same, Option.isSome_some, pok_i, b1z, b01, z10, b1o, Int32.zero_add, vu_vu, upd_eq, upd_ne, true_or, or_true]
    refine k113_23 H1.cn (Nat.le_of_ble_eq_true rfl) (sp_putInt H1 T1 (by omega) (fun k hk => key 1 k (by omega) hk)) ?_
    rintro f2 n2 k2 v2 ⟨rfl, rfl, rfl, s2, t2, H2, T2, ht2⟩
    simp (disch := first | omega | decide | assumption | exact Nat.le_of_ble_eq_true rfl) only [s113_26, s113_27, ow_some, true_and, and_true, and_self, if_true, if_false, not_true, not_false_eq_true, Bool.false_eq_true, eq_self, Option.toList, List.cons_append, List.nil_append, ix_in, ix_cl, lt_in, lt_cl, lt_add, ix_one, vu_eq, vu_ne, arI_mk, arL_mk, arY_mZ, arY_mB, alen_mI, fld_sfl_ne, fld_sfl_same, Option.isSome_some, pok_i, b1z, b01, z10, b1o, Int32.zero_add, vu_vu, upd_eq, upd_ne, true_or, or_true]
    refine k113_28 H2.cn (Nat.le_of_ble_eq_true rfl) (sp_putInt H2 T2 (by omega) (fun k hk => key 2 k (by omega) hk)) ?_
    rintro f3 n3 k3 v3 ⟨rfl, rfl, rfl, s3, t3, H3, T3, ht3⟩
    simp (disch := first | omega | decide | assumption | exact Nat.le_of_ble_eq_true rfl) only [s113_31, s113_32, ow_some, true_and, and_true, and_self, if_true, if_false, not_true, not_false_eq_true, Bool.false_eq_true, eq_self, Option.toList, List.cons_append, List.nil_append, ix_in, ix_cl, lt_in, lt_cl, lt_add, ix_one, vu_eq, vu_ne, arI_mk, arL_mk, arY_mZ, arY_mB, alen_mI, fld_sfl_ne, fld_sfl_same, Option.isSome_some, pok_i, b1z, b01, z10, b1o, Int32.zero_add, vu_vu, upd_eq, upd_ne, true_or, or_true]
    refine k113_34 H3.cn (Nat.le_of_ble_eq_true rfl) (sp_putInt H3 T3 (by omega) (fun k hk => key 3 k (by omega) hk)) ?_
    rintro f4 n4 k4 v4 ⟨rfl, rfl, rfl, s4, t4, H4, T4, ht4⟩
    simp (disch := first | omega | decide | assumption | exact Nat.le_of_ble_eq_true rfl) only [s113_37, s113_38, ow_some, true_and, and_true, and_self, if_true, if_false, not_true, not_false_eq_true, Bool.false_eq_true, eq_self, Option.toList, List.cons_append, List.nil_append, ix_in, ix_cl, lt_in, lt_cl, lt_add, ix_one, vu_eq, vu_ne, arI_mk, arL_mk, arY_mZ, arY_mB, alen_mI, fld_sfl_ne, fld_sfl_same, Option.isSome_some, pok_i, b1z, b01, z10, b1o, Int32.zero_add, vu_vu, upd_eq, upd_ne, true_or, or_true]
    refine k113_40 H4.cn (Nat.le_of_ble_eq_true rfl) (sp_putInt H4 T4 (by omega) (fun k hk => key 4 k (by omega) hk)) ?_
    rintro f5 n5 k5 v5 ⟨rfl, rfl, rfl, s5, t5, H5, T5, ht5⟩
    have w1 := H5.v1
    have ht : t5 1 = nI (F' + 20) := by obtain ⟨-, -, q, -⟩ := T5; exact q
    simp (disch := first | omega | decide | assumption | exact Nat.le_of_ble_eq_true rfl) only [s113_43, s113_44, s113_47, ow_some, true_and, and_true, and_self, if_true, if_false, not_true, not_false_eq_true, Bool.false_eq_true, eq_self, Option.toList, List.cons_append, List.nil_append, ix_in, ix_cl, lt_in, lt_cl, lt_add, ix_one, vu_eq, vu_ne, arI_mk, arL_mk, arY_mZ, arY_mB, alen_mI, fld_sfl_ne, fld_sfl_same, Option.isSome_some, pok_i, b1z, b01, z10, b1o, Int32.zero_add, vu_vu, upd_eq, upd_ne, true_or, or_true, w1, ht]
    have sa := (((s1.tr s2).tr s3).tr s4).tr s5
    exact ⟨rfl, rfl, fun b hb => sa b (by omega), Y.fr (fun b h1 h2 => sa b (by omega)), ⟨S, R, P, D, t5, Z.feed sa H5 (fun i hi => by rw [ht5 i hi, ht4 i hi, ht3 i hi, ht2 i hi, ht1 i hi]) T5 (by omega)⟩, rfl⟩
  · rw [if_neg h]
    have hc : (nI (F' + 20) ≤ (900 : Int32)) = False := eq_false (by rw [Int32.le_iff_toInt_le, nI_toInt (by omega)]; show ¬ _ ≤ (900 : Int); omega)
    simp (disch := first | omega | decide | assumption | exact Nat.le_of_ble_eq_true rfl) only [s113_0, s113_1, s113_4, s113_6, s113_7, s113_10, s113_13, s113_15, ow_some, true_and, and_true, and_self, if_true, if_false, not_true, not_false_eq_true, Bool.false_eq_true, eq_self, Option.toList, List.cons_append, List.nil_append, ix_in, ix_cl, lt_in, lt_cl, lt_add, ix_one, vu_eq, vu_ne, arI_mk, arL_mk, arY_mZ, arY_mB, alen_mI, fld_sfl_ne, fld_sfl_same, Option.isSome_some, pok_i, b1z, b01, z10, b1o, Int32.zero_add, vu_vu, upd_eq, upd_ne, true_or, or_true, v1, h1, e20, hc]
    exact qg_q Z Y (fun _ _ => rfl)
end DEED
