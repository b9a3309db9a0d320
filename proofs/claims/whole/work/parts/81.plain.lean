/-! the reference: a plain row, what is told beside the state -/
def pl0 (i : Nat) : Int32 := if i = 1 ∨ i = 2 then 1 else if 34 ≤ i ∧ i < 52 then -1 else 0
theorem sp_plain {X : Nat × (Nat → Int32)} {d N K a L : Nat} {f : Nat → e_C} {g : Nat → Int32} {a1 : Value} (hg : arI (f a) = some (L, g)) (h1 : 1394 ≤ L) (h2 : L ≤ 65536) : TT X d 171 0 [.ref a, a1] [] f N K (fun f' n' k' v => n' = N ∧ k' = K ∧ v = none ∧ SX [a] f f' ∧ ∃ h, f' a = .inl (.int, L, .inl h) ∧ ∀ i, h i = if i < 1394 then pl0 i else g i) := by
  simp (disch := first | omega | decide | assumption | exact Nat.le_of_ble_eq_true rfl) only [s171_0, h171_1, ow_some, true_and, and_true, and_self, if_true, if_false, not_true, not_false_eq_true, Bool.false_eq_true, eq_self, Option.toList, List.cons_append, List.nil_append, ix_in, ix_cl, lt_in, lt_cl, lt_add, ix_one, vu_eq, vu_ne, arI_mk, arL_mk, arY_mZ, arY_mB, alen_mI, fld_sfl_ne, fld_sfl_same, Option.isSome_some, pok_i, b1z, b01, z10, b1o, Int32.zero_add, vu_vu, upd_eq, upd_ne, true_or, or_true]
  have hf : ∃ h, f a = .inl (.int, L, .inl h) ∧ h = g := by
    unfold arI at hg
    split at hg
    · next n h hc => cases hg; exact ⟨_, hc, rfl⟩
    · cases hg
  obtain ⟨g', hf, rfl⟩ := hf
  refine lp (fun j e (h : Nat → Int32) => SX [a] f e ∧ e a = .inl (.int, L, .inl h) ∧ ∀ i, h i = if i < j then 0 else g' i) (fun j _ => [.ref a, .int (nI j)]) 1394 ?_ ?_ 0 f g' (by omega) ⟨SX.rf, hf, fun i => by rw [if_neg (by omega)]⟩
  · rintro j e h hj ⟨sx, he, hv⟩ hI
    have hc : (1394 ≤ j) = False := eq_false (by omega)
    have ha : arI (e a) = some (L, h) := by rw [he]; rfl
    simp (disch := first | omega | decide | assumption | exact Nat.le_of_ble_eq_true rfl) only [s171_2, s171_3, s171_6, s171_9, s171_10, s171_11, s171_12, s171_13, h171_16, ow_some, true_and, and_true, and_self, if_true, if_false, not_true, not_false_eq_true, Bool.false_eq_true, eq_self, Option.toList, List.cons_append, List.nil_append, ix_in, ix_cl, lt_in, lt_cl, lt_add, ix_one, vu_eq, vu_ne, arI_mk, arL_mk, arY_mZ, arY_mB, alen_mI, fld_sfl_ne, fld_sfl_same, Option.isSome_some, pok_i, b1z, b01, z10, b1o, Int32.zero_add, vu_vu, upd_eq, upd_ne, true_or, or_true, lt_le, hc, ha]
    refine hI _ (upd h j 0) ⟨sx.tr (SX.up (by simp)), by rw [vu_eq], fun i => ?_⟩
    by_cases hij : i = j
    · subst hij; rw [upd_eq, if_pos (by omega)]
    · rw [upd_ne hij, hv]
      by_cases hlt : i < j
      · rw [if_pos hlt, if_pos (by omega)]
      · rw [if_neg hlt, if_neg (by omega)]
  · rintro e h ⟨sx, he, hv⟩
    have ha : arI (e a) = some (L, h) := by rw [he]; rfl
    have i1 : e_in 1 L = true := lt_in (c := 1) (by omega) h2
    have i2 : e_in 2 L = true := lt_in (c := 2) (by omega) h2
    simp (disch := first | omega | decide | assumption | exact Nat.le_of_ble_eq_true rfl) only [s171_2, s171_3, s171_6, s171_19, s171_20, s171_21, s171_22, s171_23, s171_24, s171_25, s171_26, s171_27, h171_28, ow_some, true_and, and_true, and_self, if_true, if_false, not_true, not_false_eq_true, Bool.false_eq_true, eq_self, Option.toList, List.cons_append, List.nil_append, ix_in, ix_cl, lt_in, lt_cl, lt_add, ix_one, vu_eq, vu_ne, arI_mk, arL_mk, arY_mZ, arY_mB, alen_mI, fld_sfl_ne, fld_sfl_same, Option.isSome_some, pok_i, b1z, b01, z10, b1o, Int32.zero_add, vu_vu, upd_eq, upd_ne, true_or, or_true, lt_le, Nat.le_refl, ha, i1, i2]
    refine lp (fun j e' (h' : Nat → Int32) => SX [a] f e' ∧ e' a = .inl (.int, L, .inl h') ∧ ∀ i, h' i = if 34 ≤ i ∧ i < 34 + j ∨ 43 ≤ i ∧ i < 43 + j then -1 else if i = 1 ∨ i = 2 then 1 else h i) (fun j _ => [.ref a, .int (nI j)]) 9 ?_ ?_ 0 _ (upd (upd h 1 1) 2 1) (by omega) ⟨sx.tr (SX.up (List.mem_singleton.mpr rfl)), by rw [vu_eq], fun i => ?_⟩
    · rintro j e' h' hj ⟨sx', he', hv'⟩ hI
      have hc : (9 ≤ j) = False := eq_false (by omega)
      have ha' : arI (e' a) = some (L, h') := by rw [he']; rfl
      simp (disch := first | omega | decide | assumption | exact Nat.le_of_ble_eq_true rfl) only [s171_29, s171_30, s171_32, s171_35, s171_36, s171_38, s171_39, s171_40, s171_41, s171_42, s171_43, s171_45, s171_46, s171_47, s171_48, s171_49, h171_52, ow_some, true_and, and_true, and_self, if_true, if_false, not_true, not_false_eq_true, Bool.false_eq_true, eq_self, Option.toList, List.cons_append, List.nil_append, ix_in, ix_cl, lt_in, lt_cl, lt_add, ix_one, vu_eq, vu_ne, arI_mk, arL_mk, arY_mZ, arY_mB, alen_mI, fld_sfl_ne, fld_sfl_same, Option.isSome_some, pok_i, b1z, b01, z10, b1o, Int32.zero_add, vu_vu, upd_eq, upd_ne, true_or, or_true, lt_le, hc, ha']
      refine hI _ (upd (upd h' (34 + j) (-1)) (43 + j) (-1)) ⟨sx'.tr (SX.up (by simp)), by rw [vu_eq], fun i => ?_⟩
      by_cases h1 : i = 43 + j
      · subst h1; rw [upd_eq, if_pos (by omega)]
      · rw [upd_ne h1]
        by_cases h2 : i = 34 + j
        · subst h2; rw [upd_eq, if_pos (by omega)]
        · rw [upd_ne h2, hv']
          by_cases h3 : 34 ≤ i ∧ i < 34 + j ∨ 43 ≤ i ∧ i < 43 + j
          · rw [if_pos h3, if_pos (by omega)]
          · have h5 : ¬ (34 ≤ i ∧ i < 34 + (j + 1) ∨ 43 ≤ i ∧ i < 43 + (j + 1)) := by omega
            rw [if_neg h3, if_neg h5]
    · rintro e' h' ⟨sx', he', hv'⟩
      simp (disch := first | omega | decide | assumption | exact Nat.le_of_ble_eq_true rfl) only [s171_29, s171_30, s171_32, s171_55, ow_some, true_and, and_true, and_self, if_true, if_false, not_true, not_false_eq_true, Bool.false_eq_true, eq_self, Option.toList, List.cons_append, List.nil_append, ix_in, ix_cl, lt_in, lt_cl, lt_add, ix_one, vu_eq, vu_ne, arI_mk, arL_mk, arY_mZ, arY_mB, alen_mI, fld_sfl_ne, fld_sfl_same, Option.isSome_some, pok_i, b1z, b01, z10, b1o, Int32.zero_add, vu_vu, upd_eq, upd_ne, true_or, or_true, lt_le, Nat.le_refl]
      refine ⟨sx', h', he', fun i => ?_⟩
      rw [hv', hv]
      unfold pl0
      by_cases h3 : 34 ≤ i ∧ i < 34 + 9 ∨ 43 ≤ i ∧ i < 43 + 9
      · rw [if_pos h3, if_pos (by omega), if_neg (by omega), if_pos (by omega)]
      · rw [if_neg h3]
        by_cases h4 : i = 1 ∨ i = 2
        · rw [if_pos h4, if_pos (by omega), if_pos h4]
        · have h5 : ¬ (34 ≤ i ∧ i < 52) := by omega
          rw [if_neg h4, if_neg h4, if_neg h5]
    · rw [if_neg (by omega)]
      by_cases h4 : i = 2
      · subst h4; rw [upd_eq, if_pos (by omega)]
      · rw [upd_ne h4]
        by_cases h5 : i = 1
        · subst h5; rw [upd_eq, if_pos (by omega)]
        · rw [upd_ne h5, if_neg (by omega)]
theorem MV.nums {f : Nat → e_C} {s : m_T} {t : Int32 × Int32 × Int32} {j : Nat} {x : Int32} (h : MV f s) (hj : (j = 5 ∧ t = (x, s.2.1.2)) ∨ (j = 13 ∧ t = (s.2.1.1, x, s.2.1.2.2)) ∨ (j = 14 ∧ t = (s.2.1.1, s.2.1.2.1, x))) : MV (va_up f 171 (sfl (f 171) j (.int x))) (s.1, t, s.2.2) := by
  intro b h1 h2
  by_cases hb : b = 171
  · subst hb
    rw [vu_eq]
    have hob : m_obj s (f 171) := h 171 (by omega) (by omega)
    obtain ⟨a1, a2, a3, a4, a5⟩ := hob
    have hs : (fld (f 171) 12 j).isSome = true := by
      rcases hj with ⟨rfl, _⟩ | ⟨rfl, _⟩ | ⟨rfl, _⟩
      · rw [a3]; rfl
      · rw [a4]; rfl
      · rw [a5]; rfl
    have hne : ∀ q ∈ m_ref, q.1 ≠ j := by
      rcases hj with ⟨rfl, _⟩ | ⟨rfl, _⟩ | ⟨rfl, _⟩ <;> decide
    have hne2 : ∀ i ∈ [0, 6, 7, 8, 9, 10, 11, 12, 15, 21, 22], i ≠ j := by
      rcases hj with ⟨rfl, _⟩ | ⟨rfl, _⟩ | ⟨rfl, _⟩ <;> decide
    have b5 : 5 ≠ j → fld (sfl (f 171) j (.int x)) 12 5 = some (.int s.2.1.1) := fun z => by rw [fld_sfl_ne z]; exact a3
    have b13 : 13 ≠ j → fld (sfl (f 171) j (.int x)) 12 13 = some (.int s.2.1.2.1) := fun z => by rw [fld_sfl_ne z]; exact a4
    have b14 : 14 ≠ j → fld (sfl (f 171) j (.int x)) 12 14 = some (.int s.2.1.2.2) := fun z => by rw [fld_sfl_ne z]; exact a5
    have bs := fld_sfl_same (v := .int x) hs
    show m_obj (s.1, t, s.2.2) _
    refine ⟨fun q hq => by rw [fld_sfl_ne (hne q hq)]; exact a1 q hq, fun i hi => by rw [fld_sfl_ne (hne2 i hi)]; exact a2 i hi, ?_⟩
    rcases hj with ⟨rfl, rfl⟩ | ⟨rfl, rfl⟩ | ⟨rfl, rfl⟩
    · exact ⟨bs, b13 (by decide), b14 (by decide)⟩
    · exact ⟨b5 (by decide), bs, b14 (by decide)⟩
    · exact ⟨b5 (by decide), b13 (by decide), bs⟩
  · rw [vu_ne hb]
    have := h b h1 h2
    unfold mcell at this ⊢
    simp only [hb, if_false] at this ⊢
    exact this
