/-! both begin alike -/
section START
variable {f : Nat → e_C} {h : Nat → Int32}
theorem pl_i {i : Nat} (hh : ∀ i, h i = if i < 1394 then pl0 i else 0) (hi : i < 1394) (h1 : i ≠ 1) (h2 : i ≠ 2) (h3 : ¬ (34 ≤ i ∧ i < 52)) : h i = 0 := by rw [hh, if_pos hi, pl0_0 h1 h2 h3]
theorem pl_n {i : Nat} (hh : ∀ i, h i = if i < 1394 then pl0 i else 0) (h3 : 34 ≤ i ∧ i < 52) : h i = -1 := by rw [hh, if_pos (by omega), pl0_n h3]
theorem pl_lw2 (hh : ∀ i, h i = if i < 1394 then pl0 i else 0) : lw2 h := fun law hl => Or.inl (pl_i hh (by omega) (by omega) (by omega) (by omega))
theorem pl_nT (hh : ∀ i, h i = if i < 1394 then pl0 i else 0) : nT h = 0 := by unfold nT; rw [pl_i hh (by omega) (by omega) (by omega) (by omega)]; decide
theorem pl_IS (hh : ∀ i, h i = if i < 1394 then pl0 i else 0) : IS h 1 0 0 := by
  have z : ∀ i, i < 1394 → i ≠ 1 → i ≠ 2 → ¬ (34 ≤ i ∧ i < 52) → h i = 0 := fun i a b c d => pl_i hh a b c d
  have h1 : h 1 = nI 1 := by rw [hh]; rfl
  have h2 : h 2 = nI 1 := by rw [hh]; rfl
  refine ⟨⟨⟨by omega, by omega, by omega⟩, h1, ⟨fun k hk => ?_, fun k hk => ?_⟩, ⟨1, by omega, by omega, h2⟩, fun p hp => ?_, fun p hp => ?_, fun p hp => Or.inl (pl_n hh (by omega)), pl_lw2 hh⟩, ⟨by omega, by omega⟩, z 52 (by omega) (by omega) (by omega) (by omega), ?_, ?_, fun p hp => absurd hp (by omega), fun p hp => absurd hp (by omega), ⟨0, 1, by omega, by omega, z 55 (by omega) (by omega) (by omega) (by omega), h2⟩, ⟨0, by omega, z 56 (by omega) (by omega) (by omega) (by omega)⟩, fun k hk => ?_, ?_, Or.inl (z 54 (by omega) (by omega) (by omega) (by omega))⟩
  · rw [z _ (by omega) (by omega) (by omega) (by omega)]; decide
  · rw [z _ (by omega) (by omega) (by omega) (by omega)]; decide
  · have := z (25 + p) (by omega) (by omega) (by omega) (by omega)
    exact ⟨⟨0, by omega, this⟩, fun _ => this⟩
  · have := pl_n hh (i := 34 + p) (by omega)
    exact ⟨Or.inl this, fun _ => this⟩
  · rw [pl_nT hh]; exact z 53 (by omega) (by omega) (by omega) (by omega)
  · rw [pl_nT hh]; omega
  · have := z (84 + k) (by omega) (by omega) (by omega) (by omega)
    exact ⟨⟨0, by omega, this⟩, fun _ => this⟩
  · rw [sum_cg (all := fun _ => 0) 1 0 0 (fun i _ hi => z _ (by omega) (by omega) (by omega) (by omega)), sum_z 1 (by omega)]
    decide
theorem pl_hold : m_hold pl0 1 0 0 = true := by decide +kernel
theorem pl_mfl (hh : ∀ i, h i = if i < 1394 then pl0 i else 0) : mfl h 1 0 := by
  refine Or.inl ⟨pl_i hh (by omega) (by omega) (by omega) (by omega), ?_⟩
  rw [pl_nT hh, ← pl_hold]
  exact hold_cb (fun i hi => by rw [hh, if_pos (by omega)]) (fun law hl => Or.inl (pl0_0 (by omega) (by omega) (by omega))) (by omega) (by omega)
theorem pl_CR {w v : Nat → Int32} {x r : Nat → Nat → Int32} (hh : ∀ i, h i = if i < 1394 then pl0 i else 0) (hw : ∀ i, w i = 0) (hx : ∀ i k, x i k = 0) (hp : planI v r) : CR h 1 0 w x v r 0 := by
  have z : ∀ i, i < 1394 → i ≠ 1 → i ≠ 2 → ¬ (34 ≤ i ∧ i < 52) → h i = 0 := fun i a b c d => pl_i hh a b c d
  obtain ⟨⟨b0, b3, b10, b11, b12, b14, b15, b16, b17, b18⟩, c1, c2⟩ := hp
  refine ⟨⟨by rw [hw, z 52 (by omega) (by omega) (by omega) (by omega)], by rw [hw, z 53 (by omega) (by omega) (by omega) (by omega)], by rw [hw, z 55 (by omega) (by omega) (by omega) (by omega)], by rw [hw, z 56 (by omega) (by omega) (by omega) (by omega)], by rw [hw, z 54 (by omega) (by omega) (by omega) (by omega)]⟩, fun p hp => absurd hp (by omega), fun p hp => absurd hp (by omega), fun p hp => absurd hp (by omega), fun k hk => by rw [hx, z _ (by omega) (by omega) (by omega) (by omega)], ⟨by rw [b0, hh]; rfl, by rw [b10, hh]; rfl, by rw [b12, z 0 (by omega) (by omega) (by omega) (by omega)]⟩, fun k hk => by rw [c1 1 k (by omega) (by omega), z _ (by omega) (by omega) (by omega) (by omega)], fun i hi => ?_, fun p hp => by rw [c1 7 p (by omega) (by omega), z _ (by omega) (by omega) (by omega) (by omega)], fun p hp => by rw [(c2 p hp).1, pl_n hh (by omega)], fun p hp => by rw [(c2 p hp).2, pl_n hh (by omega)], Or.inl ⟨z 3 (by omega) (by omega) (by omega) (by omega), b15⟩, Or.inl ⟨z 4 (by omega) (by omega) (by omega) (by omega), b17⟩⟩
  unfold jnt
  rw [c1 2 i (by omega) (by omega)]
  by_cases i0 : i = 0
  · rw [if_pos i0]
  · rw [if_neg i0, if_neg (by omega)]
/-- the first relation -/
theorem rel_start {K : Nat} (hK : K ≤ 100000) (A : I112 f) (hh : ∀ i, h i = if i < 1394 then pl0 i else 0) (V : MV f (h, (0, 0, -1), (fun _ => 0), (fun _ => 0), rs0, (fun _ => 0), (fun _ => 0))) : REL f 189 K 0 := by
  obtain ⟨hf, ⟨q1, ⟨v, r, P, pI⟩, ⟨w, x, W, hw, hx⟩, q17⟩, ⟨hp1, hp2⟩, ⟨hi1, hi2⟩, h89, ⟨ht1, ht2⟩, rd, Y⟩ := A
  have z : ∀ i, i < 1394 → i ≠ 1 → i ≠ 2 → ¬ (34 ≤ i ∧ i < 52) → h i = 0 := fun i a b c d => pl_i hh a b c d
  have H : HV f (fun i => if i = 3 then -1 else 0) := by
    unfold HV
    rw [hf]
    refine ⟨?_, ?_⟩
    · simp only [List.forall_mem_cons]
      exact ⟨rfl, rfl, rfl, rfl, rfl, fun _ h => nomatch h⟩
    · simp only [List.forall_mem_cons]
      exact ⟨rfl, rfl, rfl, rfl, rfl, rfl, rfl, rfl, rfl, rfl, rfl, rfl, rfl, rfl, fun _ h => nomatch h⟩
  refine ⟨by omega, by omega, by omega, Y, _, 1, 0, 0, 0, _, V, H, ⟨2, w, x, v, r, 0, W, P, pl_CR hh hw hx pI, pl_IS hh, pl_mfl hh, Or.inl rfl, ?_⟩, q17, ⟨0, rfl, rfl, ?_⟩, ?_, ?_, ?_, ⟨rfl, rfl⟩, rd⟩
  · show (h 56).toInt ≤ _
    rw [z 56 (by omega) (by omega) (by omega) (by omega)]
    show (0 : Int) ≤ _
    omega
  · exact ⟨hp1, hp2, z 92 (by omega) (by omega) (by omega) (by omega), by omega, by omega, fun i hi => absurd hi (by omega)⟩
  · exact ⟨hi1, ⟨_, h89, fun i hi => ⟨rfl, Or.inl rfl⟩⟩, hi2, fun i hi hz => absurd rfl hz⟩
  · refine ⟨ht1, fun i hi => ⟨0, -1, fun _ => 0, 0, ht2 i hi, ⟨0, by omega, rfl⟩, by omega, rfl, Or.inl ⟨?_, rfl⟩⟩⟩
    have : ∀ i, i < 4 → rs0 i = -1 := by decide
    exact this i hi
  · exact ⟨_, 0, q1, rfl, rfl, by omega, fun i hi => absurd hi (by omega)⟩
end START
theorem law_all {X : Nat × (Nat → Int32)} (hL : X.1 ≤ 3072) {f : Nat → e_C} : TT X 1000 999 0 [.retAddr 20, .float 0, .float 0, .float 0] [] f 0 0 (fun f' n' k' v => n' ≤ 600000 ∧ k' ≤ 7302250 ∧ v = some (.int 1)) := by
  rw [s999_0]
  simp (disch := first | omega | decide | assumption | exact Nat.le_of_ble_eq_true rfl) only [s999_3, s999_3i, ow_some, true_and, and_true, and_self, if_true, if_false, not_true, not_false_eq_true, Bool.false_eq_true, eq_self, Option.toList, List.cons_append, List.nil_append, ix_in, ix_cl, lt_in, lt_cl, lt_add, ix_one, vu_eq, vu_ne, arI_mk, arL_mk, arY_mZ, arY_mB, alen_mI, fld_sfl_ne, fld_sfl_same, Option.isSome_some, pok_i, b1z, b01, z10, b1o, Int32.zero_add, vu_vu, upd_eq, upd_ne, true_or, or_true, Nat.zero_add]
  refine k999_4 (by rw [vu_eq]; rfl) (Nat.le_of_ble_eq_true rfl) (sp_stairI (d := 995) (by rw [vu_eq])) ?_
  rintro f1 n1 k1 v1 ⟨rfl, hk1, rfl, A1⟩
  simp (disch := first | omega | decide | assumption | exact Nat.le_of_ble_eq_true rfl) only [s999_7, ow_some, true_and, and_true, and_self, if_true, if_false, not_true, not_false_eq_true, Bool.false_eq_true, eq_self, Option.toList, List.cons_append, List.nil_append, ix_in, ix_cl, lt_in, lt_cl, lt_add, ix_one, vu_eq, vu_ne, arI_mk, arL_mk, arY_mZ, arY_mB, alen_mI, fld_sfl_ne, fld_sfl_same, Option.isSome_some, pok_i, b1z, b01, z10, b1o, Int32.zero_add, vu_vu, upd_eq, upd_ne, true_or, or_true]
  rw [s999_8]
  simp (disch := first | omega | decide | assumption | exact Nat.le_of_ble_eq_true rfl) only [s999_11, s999_11i, ow_some, true_and, and_true, and_self, if_true, if_false, not_true, not_false_eq_true, Bool.false_eq_true, eq_self, Option.toList, List.cons_append, List.nil_append, ix_in, ix_cl, lt_in, lt_cl, lt_add, ix_one, vu_eq, vu_ne, arI_mk, arL_mk, arY_mZ, arY_mB, alen_mI, fld_sfl_ne, fld_sfl_same, Option.isSome_some, pok_i, b1z, b01, z10, b1o, Int32.zero_add, vu_vu, upd_eq, upd_ne, true_or, or_true]
  refine k999_12 (by rw [vu_eq]; rfl) (Nat.le_of_ble_eq_true rfl) (sp_modelI (d := 998) (by rw [vu_eq])) ?_
  rintro f2 n2 k2 v2 ⟨rfl, hk2, rfl, s2, h, V2, hh⟩
  simp (disch := first | omega | decide | assumption | exact Nat.le_of_ble_eq_true rfl) only [s999_15, s999_16, h999_17, ow_some, true_and, and_true, and_self, if_true, if_false, not_true, not_false_eq_true, Bool.false_eq_true, eq_self, Option.toList, List.cons_append, List.nil_append, ix_in, ix_cl, lt_in, lt_cl, lt_add, ix_one, vu_eq, vu_ne, arI_mk, arL_mk, arY_mZ, arY_mB, alen_mI, fld_sfl_ne, fld_sfl_same, Option.isSome_some, pok_i, b1z, b01, z10, b1o, Int32.zero_add, vu_vu, upd_eq, upd_ne, true_or, or_true]
  have A2 : I112 f2 := by
    obtain ⟨a1, a2, a3, a4, a5, a6, a7, a8⟩ := A1
    have g : ∀ b, b < 171 → f2 b = f1 b := fun b hb => by rw [s2 b hb, vu_ne (by omega)]
    exact ⟨by rw [g 0 (by omega)]; exact a1, a2.fr (fun b p1 p2 => g b (by omega)), a3.fr (fun b p1 p2 => g b (by omega)), a4.fr (fun b p1 p2 => g b (by omega)), by rw [g 89 (by omega)]; exact a5, a6.fr (fun b p1 p2 => g b (by omega)), a7.frm (g 99 (by omega)) (g 100 (by omega)) (g 101 (by omega)), a8.fr (fun b p1 p2 => g b (by omega))⟩
  have R2 := rel_start (K := k2) (by omega) A2 hh V2
  exact law_run hL stair_ok (X.1 / 6) 0 f2 189 k2 (by omega) R2
