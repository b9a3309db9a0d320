/-! the class does a tray's deeds, draws -/
def TV (f : Nat → e_C) (t : Nat) (so sz : Int32) (g : Nat → Int64) : Prop := fld (f t) 9 0 = some (.int so) ∧ fld (f t) 9 1 = some (.int sz) ∧ fld (f t) 9 2 = some (.ref (t + 1)) ∧ arL (f (t + 1)) = some (40, g)
theorem TV.cn {f : Nat → e_C} {t : Nat} {so sz : Int32} {g : Nat → Int64} (h : TV f t so sz g) : cno (f t) = some 9 := cno_fld (j := 0) (by rw [h.1]; rfl)
theorem TV.fr {f f' : Nat → e_C} {t : Nat} {so sz : Int32} {g : Nat → Int64} (h : TV f t so sz g) (h1 : f' t = f t) (h2 : f' (t + 1) = f (t + 1)) : TV f' t so sz g := by unfold TV; rw [h1, h2]; exact h
theorem DW.is {f : Nat → e_C} {a pl S R P : Nat} {all : Nat → Int32} {sd wy : Int32} (H : DW f a pl all S R P sd wy) : IS all S R P := by
  obtain ⟨w, x, v, r, C, y, L, D, V, W, G, I, hd⟩ := H; exact I
theorem DW.ad {f : Nat → e_C} {a pl S R P : Nat} {all : Nat → Int32} {sd wy : Int32} (H : DW f a pl all S R P sd wy) : AD a pl 120 := by
  obtain ⟨w, x, v, r, C, y, L, D, V, W, G, I, hd⟩ := H; exact hd
theorem DW.dv {f : Nat → e_C} {a pl S R P : Nat} {all : Nat → Int32} {sd wy : Int32} (H : DW f a pl all S R P sd wy) : DV f sd wy := by
  obtain ⟨w, x, v, r, C, y, L, D, V, W, G, I, hd⟩ := H; exact D
theorem DW.up119 {f : Nat → e_C} {a pl S R P : Nat} {all : Nat → Int32} {sd wy sd' wy' : Int32} {c : e_C} (H : DW f a pl all S R P sd wy) (hc : fld c 0 0 = some (.ref 120) ∧ fld c 0 1 = some (.int sd') ∧ fld c 0 2 = some (.int wy')) : DW (va_up f 119 c) a pl all S R P sd' wy' := by
  obtain ⟨w, x, v, r, C, y, L, D, V, W, G, I, hd⟩ := H
  exact ⟨w, x, v, r, C, y, L.fr (fun b h1 h2 => vu_ne (by omega)), by unfold DV; rw [vu_eq]; exact hc, V.fr (fun b h1 h2 => vu_ne (by omega)), W.fr (fun b h1 h2 => vu_ne (by omega)), G, I, hd⟩
theorem DW.why {f : Nat → e_C} {a pl S R P : Nat} {all : Nat → Int32} {sd wy z : Int32} (H : DW f a pl all S R P sd wy) : DW (va_up f 119 (sfl (f 119) 2 (.int z))) a pl all S R P sd z := by
  obtain ⟨d0, d1, d2⟩ := H.dv
  exact H.up119 ⟨by rw [fld_sfl_ne (by decide)]; exact d0, by rw [fld_sfl_ne (by decide)]; exact d1, fld_sfl_same (by rw [d2]; rfl)⟩
theorem DW.seed {f : Nat → e_C} {a pl S R P : Nat} {all : Nat → Int32} {sd wy z : Int32} (H : DW f a pl all S R P sd wy) : DW (va_up f 119 (sfl (f 119) 1 (.int z))) a pl all S R P z wy := by
  obtain ⟨d0, d1, d2⟩ := H.dv
  exact H.up119 ⟨by rw [fld_sfl_ne (by decide)]; exact d0, fld_sfl_same (by rw [d1]; rfl), by rw [fld_sfl_ne (by decide)]; exact d2⟩
theorem IS.does {all : Nat → Int32} {S R P : Nat} {v : Int} (I : IS all S R P) (h : w_not all S P (nT all) v = 0) (hdy : (all 56).toInt + 1 < 100000) : (IS (m_does all S P v) S R P ∧ mfl (m_does all S P v) S P) ∧ (m_does all S P v 56).toInt ≤ (all 56).toInt + 1 := by
  have h9 := I.p9
  have h8 := I.s8
  unfold w_not at h
  unfold m_does
  by_cases h1 : v = -1
  · rw [if_pos h1] at h ⊢
    by_cases h2 : all 54 = 1
    · rw [if_pos h2] at h; exact absurd h (by decide)
    · refine ⟨I.day h2 hdy, ?_⟩
      unfold m_day
      rw [fall_ne (by decide), upd_ne (by decide), upd_eq]
      obtain ⟨e, he, hee⟩ := I.dy
      rw [hee, nI_1, nI_toInt (by omega), nI_toInt (by omega)]
      omega
  · rw [if_neg h1] at h ⊢
    by_cases h2 : 0 ≤ v ∧ v ≤ 9
    · have q : v < 100 := by omega
      rw [if_pos h2] at h
      rw [if_pos q]
      refine ⟨I.see h, ?_⟩
      unfold m_see
      rw [fall_ne (by decide), upd_ne (by decide), upd_ne (by decide)]
      omega
    · rw [if_neg h2] at h
      by_cases h3 : 100 ≤ v ∧ v ≤ 199
      · have q0 : ¬ v < 100 := by omega
        have q : v < 200 := by omega
        rw [if_pos h3] at h
        rw [if_neg q0, if_pos q]
        refine ⟨I.move h, ?_⟩
        unfold m_move
        have := (w_move_0 h).1
        rw [fall_ne (by decide), upd_ne (by omega)]
        omega
      · rw [if_neg h3] at h
        by_cases h4 : 200 ≤ v ∧ v ≤ 209
        · have q0 : ¬ v < 100 := by omega
          have q : ¬ v < 200 := by omega
          rw [if_pos h4] at h
          rw [if_neg q0, if_neg q]
          refine ⟨I.prop h, ?_⟩
          unfold m_prop
          rw [fall_ne (by decide), upd_ne (by omega)]
          omega
        · rw [if_neg h4] at h; exact absurd h (by decide)
theorem tell_s {q : Nat → Int64} {S P m k : Nat} {all : Nat → Int32} : m_tell q S P (m + 1) k all = if w_not all S P (nT all) (q k).toInt = 0 then m_tell q S P m (k + 1) (m_does all S P (q k).toInt) else (k, w_not all S P (nT all) (q k).toInt, all) := rfl
theorem tell_cg {q q' : Nat → Int64} {S P : Nat} : ∀ (m k : Nat) (all : Nat → Int32), (∀ i, k ≤ i → i < k + m → q i = q' i) → m_tell q S P m k all = m_tell q' S P m k all := by
  intro m
  induction m with
  | zero => intro k all _; rfl
  | succ m ih =>
    intro k all h
    rw [tell_s, tell_s, h k (by omega) (by omega), ih (k + 1) _ (fun i h1 h2 => h i (by omega) (by omega))]
/-- a tray's deeds keep what holds -/
theorem IS.tell {q : Nat → Int64} {S R P : Nat} : ∀ (m k : Nat) (all : Nat → Int32), IS all S R P → (all 56).toInt + m < 100000 → IS (m_tell q S P m k all).2.2 S R P ∧ ((m_tell q S P m k all).1 = k ∧ (m_tell q S P m k all).2.2 = all ∨ mfl (m_tell q S P m k all).2.2 S P) ∧ ((m_tell q S P m k all).2.2 56).toInt ≤ (all 56).toInt + m ∧ (mfl all S P → mfl (m_tell q S P m k all).2.2 S P) := by
  intro m
  induction m with
  | zero => intro k all I _; exact ⟨I, Or.inl ⟨rfl, rfl⟩, by show (all 56).toInt ≤ _; omega, fun h => h⟩
  | succ m ih =>
    intro k all I hd
    rw [tell_s]
    by_cases h : w_not all S P (nT all) (q k).toInt = 0
    · rw [if_pos h]
      obtain ⟨⟨I1, F1⟩, hd1⟩ := I.does h (by push_cast at hd; omega)
      obtain ⟨a1, a2, a3, a4⟩ := ih (k + 1) _ I1 (by push_cast at hd; omega)
      exact ⟨a1, Or.inr (a4 F1), by push_cast; omega, fun _ => a4 F1⟩
    · rw [if_neg h]
      exact ⟨I, Or.inl ⟨rfl, rfl⟩, by show (all 56).toInt ≤ _; omega, fun h => h⟩
theorem sp_doAll {X : Nat × (Nat → Int32)} {d N K a pl S R P t M : Nat} {f : Nat → e_C} {all : Nat → Int32} {sd wy so : Int32} {g : Nat → Int64} (H : DW f a pl all S R P sd wy) (T : TV f t so (nI M) g) (hM : M ≤ 40) (ha : a ≤ 17) (ht : 91 ≤ t ∧ t + 1 < 99) (hdy : (all 56).toInt + 40 < 100000) {u3 : Value} : TT X (d + 7) 7 0 [.ref 119, .ref a, .ref t, u3] [] f N K (DP f N K a pl (m_tell g S P M 0 all).2.2 S R P sd (m_tell g S P M 0 all).2.1 (nI (m_tell g S P M 0 all).1)) := by
  obtain ⟨d0, d1, d2⟩ := H.dv
  have i2 : (fld (f 119) 0 2).isSome = true := by rw [d2]; rfl
  simp (disch := first | omega | decide | assumption | exact Nat.le_of_ble_eq_true rfl) only [s7_0, s7_1, s7_2, s7_5, h7_6, ow_some, true_and, and_true, and_self, if_true, if_false, not_true, not_false_eq_true, Bool.false_eq_true, eq_self, Option.toList, List.cons_append, List.nil_append, ix_in, ix_cl, lt_in, lt_cl, lt_add, ix_one, vu_eq, vu_ne, arI_mk, arL_mk, arY_mZ, arY_mB, alen_mI, fld_sfl_ne, fld_sfl_same, Option.isSome_some, pok_i, b1z, b01, z10, b1o, Int32.zero_add, vu_vu, upd_eq, upd_ne, true_or, or_true, i2]
  have H1 := H.why (z := 0)
  have s1 : SD a f (va_up f 119 (sfl (f 119) 2 (.int 0))) := SD.up (by omega)
  suffices h : ∀ (m k : Nat) (f1 : Nat → e_C) (all1 : Nat → Int32), k + m = M → (all1 56).toInt + (m : Int) < 100000 → DW f1 a pl all1 S R P sd 0 → SD a f f1 → TH X (d + 7) 7 7 [.ref 119, .ref a, .ref t, .int (nI k)] [] f1 N K (DP f N K a pl (m_tell g S P m k all1).2.2 S R P sd (m_tell g S P m k all1).2.1 (nI (m_tell g S P m k all1).1)) from h M 0 _ all (by omega) (by omega) H1 s1
  intro m
  induction m with
  | zero =>
    intro k f1 all1 hk hd1 H1 s1
    unfold TH
    have T1 : TV f1 t so (nI M) g := T.fr (s1 t (by omega) (by omega)) (s1 (t + 1) (by omega) (by omega))
    have t1 := T1.2.1
    have hc : (M ≤ k) = True := eq_true (by omega)
    have hkM : nI M = nI k := by rw [show M = k by omega]
    simp (disch := first | omega | decide | assumption | exact Nat.le_of_ble_eq_true rfl) only [s7_7, s7_8, s7_9, s7_12, s7_45, s7_46, s7_49, ow_some, true_and, and_true, and_self, if_true, if_false, not_true, not_false_eq_true, Bool.false_eq_true, eq_self, Option.toList, List.cons_append, List.nil_append, ix_in, ix_cl, lt_in, lt_cl, lt_add, ix_one, vu_eq, vu_ne, arI_mk, arL_mk, arY_mZ, arY_mB, alen_mI, fld_sfl_ne, fld_sfl_same, Option.isSome_some, pok_i, b1z, b01, z10, b1o, Int32.zero_add, vu_vu, upd_eq, upd_ne, true_or, or_true, t1, ix_le, hc]
    rw [hkM]
    exact ⟨rfl, rfl, s1, H1, rfl⟩
  | succ m ih =>
    intro k f1 all1 hk hd1 H1 s1
    unfold TH
    have T1 : TV f1 t so (nI M) g := T.fr (s1 t (by omega) (by omega)) (s1 (t + 1) (by omega) (by omega))
    obtain ⟨t0, t1, t2, t3⟩ := T1
    have hc : (M ≤ k) = False := eq_false (by omega)
    have I1 := H1.is
    simp (disch := first | omega | decide | assumption | exact Nat.le_of_ble_eq_true rfl) only [s7_7, s7_8, s7_9, s7_12, s7_15, s7_16, s7_17, s7_18, s7_19, s7_22, s7_23, ow_some, true_and, and_true, and_self, if_true, if_false, not_true, not_false_eq_true, Bool.false_eq_true, eq_self, Option.toList, List.cons_append, List.nil_append, ix_in, ix_cl, lt_in, lt_cl, lt_add, ix_one, vu_eq, vu_ne, arI_mk, arL_mk, arY_mZ, arY_mB, alen_mI, fld_sfl_ne, fld_sfl_same, Option.isSome_some, pok_i, b1z, b01, z10, b1o, Int32.zero_add, vu_vu, upd_eq, upd_ne, true_or, or_true, t1, t2, t3, ix_le, hc]
    refine k7_24 H1.dv.cn (Nat.le_of_ble_eq_true rfl) (sp_doOne H1 (by push_cast at hd1; omega)) ?_
    rintro f2 n2 k2 v2 ⟨rfl, rfl, s2, H2, rfl⟩
    have j2 : (fld (f2 119) 0 2).isSome = true := by rw [H2.dv.2.2]; rfl
    rw [tell_s]
    by_cases h : w_not all1 S P (nT all1) (g k).toInt = 0
    · rw [h] at H2 ⊢
      rw [if_pos rfl] at H2 ⊢
      simp (disch := first | omega | decide | assumption | exact Nat.le_of_ble_eq_true rfl) only [s7_27, ow_some, true_and, and_true, and_self, if_true, if_false, not_true, not_false_eq_true, Bool.false_eq_true, eq_self, Option.toList, List.cons_append, List.nil_append, ix_in, ix_cl, lt_in, lt_cl, lt_add, ix_one, vu_eq, vu_ne, arI_mk, arL_mk, arY_mZ, arY_mB, alen_mI, fld_sfl_ne, fld_sfl_same, Option.isSome_some, pok_i, b1z, b01, z10, b1o, Int32.zero_add, vu_vu, upd_eq, upd_ne, true_or, or_true, j2]
      have H3 := H2.why (z := 0)
      have s3 : SD a f (va_up f2 119 (sfl (f2 119) 2 (.int 0))) := (s1.tr s2).tr (SD.up (by omega))
      generalize va_up f2 119 (sfl (f2 119) 2 (.int 0)) = f3 at H3 s3 ⊢
      have e3 := H3.dv.2.2
      simp (disch := first | omega | decide | assumption | exact Nat.le_of_ble_eq_true rfl) only [s7_30, s7_31, s7_34, s7_37, s7_38, s7_39, h7_42, ow_some, true_and, and_true, and_self, if_true, if_false, not_true, not_false_eq_true, Bool.false_eq_true, eq_self, Option.toList, List.cons_append, List.nil_append, ix_in, ix_cl, lt_in, lt_cl, lt_add, ix_one, vu_eq, vu_ne, arI_mk, arL_mk, arY_mZ, arY_mB, alen_mI, fld_sfl_ne, fld_sfl_same, Option.isSome_some, pok_i, b1z, b01, z10, b1o, Int32.zero_add, vu_vu, upd_eq, upd_ne, true_or, or_true, e3]
      exact ih (k + 1) f3 _ (by omega) (by have := (I1.does h (by push_cast at hd1; omega)).2; push_cast at hd1; omega) H3 s3
    · rw [if_neg h] at H2 ⊢
      simp (disch := first | omega | decide | assumption | exact Nat.le_of_ble_eq_true rfl) only [s7_27, ow_some, true_and, and_true, and_self, if_true, if_false, not_true, not_false_eq_true, Bool.false_eq_true, eq_self, Option.toList, List.cons_append, List.nil_append, ix_in, ix_cl, lt_in, lt_cl, lt_add, ix_one, vu_eq, vu_ne, arI_mk, arL_mk, arY_mZ, arY_mB, alen_mI, fld_sfl_ne, fld_sfl_same, Option.isSome_some, pok_i, b1z, b01, z10, b1o, Int32.zero_add, vu_vu, upd_eq, upd_ne, true_or, or_true, j2]
      have H3 := H2.why (z := w_not all1 S P (nT all1) (g k).toInt)
      have s3 : SD a f (va_up f2 119 (sfl (f2 119) 2 (.int (w_not all1 S P (nT all1) (g k).toInt)))) := (s1.tr s2).tr (SD.up (by omega))
      generalize va_up f2 119 (sfl (f2 119) 2 (.int (w_not all1 S P (nT all1) (g k).toInt))) = f3 at H3 s3 ⊢
      have e3 := H3.dv.2.2
      have h' : (w_not all1 S P (nT all1) (g k).toInt = 0) = False := eq_false h
      simp (disch := first | omega | decide | assumption | exact Nat.le_of_ble_eq_true rfl) only [s7_30, s7_31, s7_34, s7_37, s7_38, ow_some, true_and, and_true, and_self, if_true, if_false, not_true, not_false_eq_true, Bool.false_eq_true, eq_self, Option.toList, List.cons_append, List.nil_append, ix_in, ix_cl, lt_in, lt_cl, lt_add, ix_one, vu_eq, vu_ne, arI_mk, arL_mk, arY_mZ, arY_mB, alen_mI, fld_sfl_ne, fld_sfl_same, Option.isSome_some, pok_i, b1z, b01, z10, b1o, Int32.zero_add, vu_vu, upd_eq, upd_ne, true_or, or_true, e3, h']
      exact ⟨rfl, rfl, s3, H3, rfl⟩
theorem sp_drw {X : Nat × (Nat → Int32)} {d N K a pl S R P : Nat} {f : Nat → e_C} {all : Nat → Int32} {sd wy : Int32} (H : DW f a pl all S R P sd wy) : TT X d 11 0 [.ref 119] [] f N K (DP f N K a pl all S R P (d_x sd) wy (nI (d_v sd))) := by
  obtain ⟨d0, d1, d2⟩ := H.dv
  have i1 : (fld (f 119) 0 1).isSome = true := by rw [d1]; rfl
  simp (disch := first | omega | decide | assumption | exact Nat.le_of_ble_eq_true rfl) only [s11_0, s11_1, s11_3, s11_4, s11_7, s11_8, s11_11, s11_12, ow_some, true_and, and_true, and_self, if_true, if_false, not_true, not_false_eq_true, Bool.false_eq_true, eq_self, Option.toList, List.cons_append, List.nil_append, ix_in, ix_cl, lt_in, lt_cl, lt_add, ix_one, vu_eq, vu_ne, arI_mk, arL_mk, arY_mZ, arY_mB, alen_mI, fld_sfl_ne, fld_sfl_same, Option.isSome_some, pok_i, b1z, b01, z10, b1o, Int32.zero_add, vu_vu, upd_eq, upd_ne, true_or, or_true, d1, i1]
  have H1 := H.seed (z := d_x sd)
  have s1 : SD a f (va_up f 119 (sfl (f 119) 1 (.int (d_x sd)))) := SD.up (by omega)
  have e : 1103515245 * sd + 12345 = d_x sd := rfl
  rw [e]
  generalize va_up f 119 (sfl (f 119) 1 (.int (d_x sd))) = f1 at H1 s1 ⊢
  have e1 := H1.dv.2.1
  have hs := d_sh sd
  simp (disch := first | omega | decide | assumption | exact Nat.le_of_ble_eq_true rfl) only [s11_15, s11_16, s11_19, s11_21, s11_22, ow_some, true_and, and_true, and_self, if_true, if_false, not_true, not_false_eq_true, Bool.false_eq_true, eq_self, Option.toList, List.cons_append, List.nil_append, ix_in, ix_cl, lt_in, lt_cl, lt_add, ix_one, vu_eq, vu_ne, arI_mk, arL_mk, arY_mZ, arY_mB, alen_mI, fld_sfl_ne, fld_sfl_same, Option.isSome_some, pok_i, b1z, b01, z10, b1o, Int32.zero_add, vu_vu, upd_eq, upd_ne, true_or, or_true, e1, hs]
  exact ⟨rfl, rfl, s1, H1, rfl⟩
theorem rm_c {v c : Nat} (hv : v < 65536) (hc : 0 < c) (hc2 : c < 100) : nI v - nI v / nI c * nI c = nI (v % c) := pk_rem (by omega) (by omega) (by omega)
theorem sp_drawOne {X : Nat × (Nat → Int32)} {d N K a pl S R P : Nat} {f : Nat → e_C} {all : Nat → Int32} {sd wy : Int32} (H : DW f a pl all S R P sd wy) (hdy : (all 56).toInt + 1 < 100000) {u2 : Value} : TT X (d + 6) 10 0 [.ref 119, .ref a, u2] [] f N K (DP f N K a pl (if w_not all S P (nT all) (d_n sd).1 = 0 then m_does all S P (d_n sd).1 else all) S R P (d_n sd).2 wy (w_not all S P (nT all) (d_n sd).1)) := by
  have I := H.is
  have h9 := I.p9
  have l0 := d_lt sd
  have l1 := d_lt (d_x sd)
  have l2 := d_lt (d_x (d_x sd))
  have q5 : ((5 : Int32) = 0) = False := by decide
  have q9 : ((9 : Int32) = 0) = False := by decide
  have q8 : ((8 : Int32) = 0) = False := by decide
  have r5 : nI (d_v sd) - nI (d_v sd) / 5 * 5 = nI (d_v sd % 5) := rm_c (c := 5) l0 (by omega) (by omega)
  have r9 : nI (d_v (d_x sd)) - nI (d_v (d_x sd)) / 9 * 9 = nI (d_v (d_x sd) % 9) := rm_c (c := 9) l1 (by omega) (by omega)
  have r8 : nI (d_v (d_x sd)) - nI (d_v (d_x sd)) / 8 * 8 = nI (d_v (d_x sd) % 8) := rm_c (c := 8) l1 (by omega) (by omega)
  have r8' : nI (d_v (d_x (d_x sd))) - nI (d_v (d_x (d_x sd))) / 8 * 8 = nI (d_v (d_x (d_x sd)) % 8) := rm_c (c := 8) l2 (by omega) (by omega)
  simp (disch := first | omega | decide | assumption | exact Nat.le_of_ble_eq_true rfl) only [s10_0, ow_some, true_and, and_true, and_self, if_true, if_false, not_true, not_false_eq_true, Bool.false_eq_true, eq_self, Option.toList, List.cons_append, List.nil_append, ix_in, ix_cl, lt_in, lt_cl, lt_add, ix_one, vu_eq, vu_ne, arI_mk, arL_mk, arY_mZ, arY_mB, alen_mI, fld_sfl_ne, fld_sfl_same, Option.isSome_some, pok_i, b1z, b01, z10, b1o, Int32.zero_add, vu_vu, upd_eq, upd_ne, true_or, or_true]
  refine k10_1 H.dv.cn (Nat.le_of_ble_eq_true rfl) (sp_drw H) ?_
  rintro f1 n1 k1 v1 ⟨rfl, rfl, s1, H1, rfl⟩
  simp (disch := first | omega | decide | assumption | exact Nat.le_of_ble_eq_true rfl) only [s10_4, s10_5, ow_some, true_and, and_true, and_self, if_true, if_false, not_true, not_false_eq_true, Bool.false_eq_true, eq_self, Option.toList, List.cons_append, List.nil_append, ix_in, ix_cl, lt_in, lt_cl, lt_add, ix_one, vu_eq, vu_ne, arI_mk, arL_mk, arY_mZ, arY_mB, alen_mI, fld_sfl_ne, fld_sfl_same, Option.isSome_some, pok_i, b1z, b01, z10, b1o, Int32.zero_add, vu_vu, upd_eq, upd_ne, true_or, or_true, q5, ne_eq, r5]
  have h5 : d_v sd % 5 < 5 := Nat.mod_lt _ (by omega)
  have ti : (nI (d_v sd % 5)).toInt = ((d_v sd % 5 : Nat) : Int) := nI_toInt (by omega)
  simp only [s10_6, tsw, ti]
  unfold d_n
  by_cases c0 : d_v sd % 5 = 0
  · have z0 : ((d_v sd % 5 : Nat) : Int) = 0 := by rw [c0]; rfl
    rw [if_pos c0, if_pos z0]
    simp (disch := first | omega | decide | assumption | exact Nat.le_of_ble_eq_true rfl) only [s10_36, s10_37, ow_some, true_and, and_true, and_self, if_true, if_false, not_true, not_false_eq_true, Bool.false_eq_true, eq_self, Option.toList, List.cons_append, List.nil_append, ix_in, ix_cl, lt_in, lt_cl, lt_add, ix_one, vu_eq, vu_ne, arI_mk, arL_mk, arY_mZ, arY_mB, alen_mI, fld_sfl_ne, fld_sfl_same, Option.isSome_some, pok_i, b1z, b01, z10, b1o, Int32.zero_add, vu_vu, upd_eq, upd_ne, true_or, or_true]
    refine k10_38 H1.dv.cn (Nat.le_of_ble_eq_true rfl) (sp_dayGoes H1 hdy) ?_
    rintro f2 n2 k2 v2 ⟨rfl, rfl, s2, H2, rfl⟩
    simp (disch := first | omega | decide | assumption | exact Nat.le_of_ble_eq_true rfl) only [s10_41, ow_some, true_and, and_true, and_self, if_true, if_false, not_true, not_false_eq_true, Bool.false_eq_true, eq_self, Option.toList, List.cons_append, List.nil_append, ix_in, ix_cl, lt_in, lt_cl, lt_add, ix_one, vu_eq, vu_ne, arI_mk, arL_mk, arY_mZ, arY_mB, alen_mI, fld_sfl_ne, fld_sfl_same, Option.isSome_some, pok_i, b1z, b01, z10, b1o, Int32.zero_add, vu_vu, upd_eq, upd_ne, true_or, or_true]
    have e1 : w_not all S P (nT all) (-1) = if all 54 = 1 then 2 else 0 := by unfold w_not; rw [if_pos rfl]
    have e2 : m_does all S P (-1) = m_day all S P (nT all) := by unfold m_does; rw [if_pos rfl]
    simp only [e1, e2]
    refine ⟨rfl, rfl, s1.tr s2, ?_, rfl⟩
    by_cases h : all 54 = 1
    · rw [if_pos h] at H2
      rw [if_pos h, if_neg (by decide)]; exact H2
    · rw [if_neg h] at H2
      rw [if_neg h, if_pos rfl]; exact H2
  · have z0 : ¬ ((d_v sd % 5 : Nat) : Int) = 0 := by omega
    rw [if_neg c0, if_neg z0]
    by_cases c4 : d_v sd % 5 = 4
    · have z1 : ¬ ((d_v sd % 5 : Nat) : Int) = 0 + 1 := by omega
      have z2 : ¬ ((d_v sd % 5 : Nat) : Int) = 0 + 1 + 1 := by omega
      have z3 : ¬ ((d_v sd % 5 : Nat) : Int) = 0 + 1 + 1 + 1 := by omega
      rw [if_pos c4, if_neg z1, if_neg z2, if_neg z3]
      simp (disch := first | omega | decide | assumption | exact Nat.le_of_ble_eq_true rfl) only [s10_77, s10_78, s10_79, ow_some, true_and, and_true, and_self, if_true, if_false, not_true, not_false_eq_true, Bool.false_eq_true, eq_self, Option.toList, List.cons_append, List.nil_append, ix_in, ix_cl, lt_in, lt_cl, lt_add, ix_one, vu_eq, vu_ne, arI_mk, arL_mk, arY_mZ, arY_mB, alen_mI, fld_sfl_ne, fld_sfl_same, Option.isSome_some, pok_i, b1z, b01, z10, b1o, Int32.zero_add, vu_vu, upd_eq, upd_ne, true_or, or_true]
      refine k10_80 H1.dv.cn (Nat.le_of_ble_eq_true rfl) (sp_drw H1) ?_
      rintro f2 n2 k2 v2 ⟨rfl, rfl, s2, H2, rfl⟩
      simp (disch := first | omega | decide | assumption | exact Nat.le_of_ble_eq_true rfl) only [s10_83, s10_85, ow_some, true_and, and_true, and_self, if_true, if_false, not_true, not_false_eq_true, Bool.false_eq_true, eq_self, Option.toList, List.cons_append, List.nil_append, ix_in, ix_cl, lt_in, lt_cl, lt_add, ix_one, vu_eq, vu_ne, arI_mk, arL_mk, arY_mZ, arY_mB, alen_mI, fld_sfl_ne, fld_sfl_same, Option.isSome_some, pok_i, b1z, b01, z10, b1o, Int32.zero_add, vu_vu, upd_eq, upd_ne, true_or, or_true, q8, ne_eq, r8]
      refine k10_86 H2.dv.cn (Nat.le_of_ble_eq_true rfl) (sp_propOne H2) ?_
      rintro f3 n3 k3 v3 ⟨rfl, rfl, s3, H3, rfl⟩
      simp (disch := first | omega | decide | assumption | exact Nat.le_of_ble_eq_true rfl) only [s10_89, ow_some, true_and, and_true, and_self, if_true, if_false, not_true, not_false_eq_true, Bool.false_eq_true, eq_self, Option.toList, List.cons_append, List.nil_append, ix_in, ix_cl, lt_in, lt_cl, lt_add, ix_one, vu_eq, vu_ne, arI_mk, arL_mk, arY_mZ, arY_mB, alen_mI, fld_sfl_ne, fld_sfl_same, Option.isSome_some, pok_i, b1z, b01, z10, b1o, Int32.zero_add, vu_vu, upd_eq, upd_ne, true_or, or_true]
      have hm : d_v (d_x sd) % 8 < 8 := Nat.mod_lt _ (by omega)
      generalize d_v (d_x sd) % 8 = m at hm H3 ⊢
      have t1 : (nI m).toInt = m := nI_toInt (by omega)
      have e1 : w_not all S P (nT all) ((200 + m : Nat) : Int) = w_prop all S m := by
        unfold w_not
        have q1 : ¬ ((200 + m : Nat) : Int) = -1 := by omega
        have q2 : ¬ (0 ≤ ((200 + m : Nat) : Int) ∧ ((200 + m : Nat) : Int) ≤ 9) := by omega
        have q3 : ¬ (100 ≤ ((200 + m : Nat) : Int) ∧ ((200 + m : Nat) : Int) ≤ 199) := by omega
        have q4 : 200 ≤ ((200 + m : Nat) : Int) ∧ ((200 + m : Nat) : Int) ≤ 209 := by omega
        rw [if_neg q1, if_neg q2, if_neg q3, if_pos q4, show ((200 + m : Nat) : Int) - 200 = m by omega]
      have e2 : m_does all S P ((200 + m : Nat) : Int) = m_prop all S P (nT all) m := by
        unfold m_does
        have q1 : ¬ ((200 + m : Nat) : Int) = -1 := by omega
        have q2 : ¬ ((200 + m : Nat) : Int) < 100 := by omega
        have q3 : ¬ ((200 + m : Nat) : Int) < 200 := by omega
        rw [if_neg q1, if_neg q2, if_neg q3, show (((200 + m : Nat) : Int) - 200).toNat = m by omega]
      simp only [e1, e2]
      rw [t1] at H3 ⊢
      exact ⟨rfl, rfl, (s1.tr s2).tr s3, H3, rfl⟩
    · rw [if_neg c4]
      by_cases c3 : d_v sd % 5 < 3
      · rw [if_pos c3]
        have go : TT X (d + 6) 10 42 [.ref 119, .ref a, u2] [] f1 n1 k1 (DP f n1 k1 a pl (if w_not all S P (nT all) ((d_v (d_x sd) % 9 : Nat) : Int) = 0 then m_does all S P ((d_v (d_x sd) % 9 : Nat) : Int) else all) S R P (d_x (d_x sd)) wy (w_not all S P (nT all) ((d_v (d_x sd) % 9 : Nat) : Int))) := by
          simp (disch := first | omega | decide | assumption | exact Nat.le_of_ble_eq_true rfl) only [s10_42, s10_43, s10_44, ow_some, true_and, and_true, and_self, if_true, if_false, not_true, not_false_eq_true, Bool.false_eq_true, eq_self, Option.toList, List.cons_append, List.nil_append, ix_in, ix_cl, lt_in, lt_cl, lt_add, ix_one, vu_eq, vu_ne, arI_mk, arL_mk, arY_mZ, arY_mB, alen_mI, fld_sfl_ne, fld_sfl_same, Option.isSome_some, pok_i, b1z, b01, z10, b1o, Int32.zero_add, vu_vu, upd_eq, upd_ne, true_or, or_true]
          refine k10_45 H1.dv.cn (Nat.le_of_ble_eq_true rfl) (sp_drw H1) ?_
          rintro f2 n2 k2 v2 ⟨rfl, rfl, s2, H2, rfl⟩
          simp (disch := first | omega | decide | assumption | exact Nat.le_of_ble_eq_true rfl) only [s10_48, s10_50, ow_some, true_and, and_true, and_self, if_true, if_false, not_true, not_false_eq_true, Bool.false_eq_true, eq_self, Option.toList, List.cons_append, List.nil_append, ix_in, ix_cl, lt_in, lt_cl, lt_add, ix_one, vu_eq, vu_ne, arI_mk, arL_mk, arY_mZ, arY_mB, alen_mI, fld_sfl_ne, fld_sfl_same, Option.isSome_some, pok_i, b1z, b01, z10, b1o, Int32.zero_add, vu_vu, upd_eq, upd_ne, true_or, or_true, q9, ne_eq, r9]
          refine k10_51 H2.dv.cn (Nat.le_of_ble_eq_true rfl) (sp_seeOne H2) ?_
          rintro f3 n3 k3 v3 ⟨rfl, rfl, s3, H3, rfl⟩
          simp (disch := first | omega | decide | assumption | exact Nat.le_of_ble_eq_true rfl) only [s10_54, ow_some, true_and, and_true, and_self, if_true, if_false, not_true, not_false_eq_true, Bool.false_eq_true, eq_self, Option.toList, List.cons_append, List.nil_append, ix_in, ix_cl, lt_in, lt_cl, lt_add, ix_one, vu_eq, vu_ne, arI_mk, arL_mk, arY_mZ, arY_mB, alen_mI, fld_sfl_ne, fld_sfl_same, Option.isSome_some, pok_i, b1z, b01, z10, b1o, Int32.zero_add, vu_vu, upd_eq, upd_ne, true_or, or_true]
          have hm : d_v (d_x sd) % 9 < 9 := Nat.mod_lt _ (by omega)
          generalize d_v (d_x sd) % 9 = m at hm H3 ⊢
          have t1 : (nI m).toInt = m := nI_toInt (by omega)
          have e1 : w_not all S P (nT all) (m : Int) = w_see all P (nT all) m := by
            unfold w_not
            have q1 : ¬ (m : Int) = -1 := by omega
            have q2 : 0 ≤ (m : Int) ∧ (m : Int) ≤ 9 := by omega
            rw [if_neg q1, if_pos q2]
          have e2 : m_does all S P (m : Int) = m_see all S P (nT all) m := by
            unfold m_does
            have q1 : ¬ (m : Int) = -1 := by omega
            have q2 : (m : Int) < 100 := by omega
            rw [if_neg q1, if_pos q2, Int.toNat_natCast]
          rw [e1, e2]
          rw [t1] at H3 ⊢
          exact ⟨rfl, rfl, (s1.tr s2).tr s3, H3, rfl⟩
        by_cases z1 : ((d_v sd % 5 : Nat) : Int) = 0 + 1
        · rw [if_pos z1]; exact go
        · have z2 : ((d_v sd % 5 : Nat) : Int) = 0 + 1 + 1 := by omega
          rw [if_neg z1, if_pos z2]; exact go
      · rw [if_neg c3]
        have z1 : ¬ ((d_v sd % 5 : Nat) : Int) = 0 + 1 := by omega
        have z2 : ¬ ((d_v sd % 5 : Nat) : Int) = 0 + 1 + 1 := by omega
        have z3 : ((d_v sd % 5 : Nat) : Int) = 0 + 1 + 1 + 1 := by omega
        rw [if_neg z1, if_neg z2, if_pos z3]
        simp (disch := first | omega | decide | assumption | exact Nat.le_of_ble_eq_true rfl) only [s10_55, ow_some, true_and, and_true, and_self, if_true, if_false, not_true, not_false_eq_true, Bool.false_eq_true, eq_self, Option.toList, List.cons_append, List.nil_append, ix_in, ix_cl, lt_in, lt_cl, lt_add, ix_one, vu_eq, vu_ne, arI_mk, arL_mk, arY_mZ, arY_mB, alen_mI, fld_sfl_ne, fld_sfl_same, Option.isSome_some, pok_i, b1z, b01, z10, b1o, Int32.zero_add, vu_vu, upd_eq, upd_ne, true_or, or_true]
        refine k10_56 H1.dv.cn (Nat.le_of_ble_eq_true rfl) (sp_drw H1) ?_
        rintro f2 n2 k2 v2 ⟨rfl, rfl, s2, H2, rfl⟩
        simp (disch := first | omega | decide | assumption | exact Nat.le_of_ble_eq_true rfl) only [s10_59, s10_61, s10_62, s10_63, s10_64, s10_65, s10_66, ow_some, true_and, and_true, and_self, if_true, if_false, not_true, not_false_eq_true, Bool.false_eq_true, eq_self, Option.toList, List.cons_append, List.nil_append, ix_in, ix_cl, lt_in, lt_cl, lt_add, ix_one, vu_eq, vu_ne, arI_mk, arL_mk, arY_mZ, arY_mB, alen_mI, fld_sfl_ne, fld_sfl_same, Option.isSome_some, pok_i, b1z, b01, z10, b1o, Int32.zero_add, vu_vu, upd_eq, upd_ne, true_or, or_true, q9, ne_eq, r9]
        refine k10_67 H2.dv.cn (Nat.le_of_ble_eq_true rfl) (sp_drw H2) ?_
        rintro f3 n3 k3 v3 ⟨rfl, rfl, s3, H3, rfl⟩
        simp (disch := first | omega | decide | assumption | exact Nat.le_of_ble_eq_true rfl) only [s10_70, s10_72, ow_some, true_and, and_true, and_self, if_true, if_false, not_true, not_false_eq_true, Bool.false_eq_true, eq_self, Option.toList, List.cons_append, List.nil_append, ix_in, ix_cl, lt_in, lt_cl, lt_add, ix_one, vu_eq, vu_ne, arI_mk, arL_mk, arY_mZ, arY_mB, alen_mI, fld_sfl_ne, fld_sfl_same, Option.isSome_some, pok_i, b1z, b01, z10, b1o, Int32.zero_add, vu_vu, upd_eq, upd_ne, true_or, or_true, q8, ne_eq, r8']
        refine k10_73 H3.dv.cn (Nat.le_of_ble_eq_true rfl) (sp_moveOne H3) ?_
        rintro f4 n4 k4 v4 ⟨rfl, rfl, s4, H4, rfl⟩
        simp (disch := first | omega | decide | assumption | exact Nat.le_of_ble_eq_true rfl) only [s10_76, ow_some, true_and, and_true, and_self, if_true, if_false, not_true, not_false_eq_true, Bool.false_eq_true, eq_self, Option.toList, List.cons_append, List.nil_append, ix_in, ix_cl, lt_in, lt_cl, lt_add, ix_one, vu_eq, vu_ne, arI_mk, arL_mk, arY_mZ, arY_mB, alen_mI, fld_sfl_ne, fld_sfl_same, Option.isSome_some, pok_i, b1z, b01, z10, b1o, Int32.zero_add, vu_vu, upd_eq, upd_ne, true_or, or_true]
        have hm : d_v (d_x sd) % 9 < 9 := Nat.mod_lt _ (by omega)
        have hk : d_v (d_x (d_x sd)) % 8 < 8 := Nat.mod_lt _ (by omega)
        generalize d_v (d_x sd) % 9 = m at hm H4 ⊢
        generalize d_v (d_x (d_x sd)) % 8 = k at hk H4 ⊢
        have t1 : (nI m).toInt = m := nI_toInt (by omega)
        have t2 : (nI k).toInt = k := nI_toInt (by omega)
        have e1 : w_not all S P (nT all) ((100 + 10 * m + k : Nat) : Int) = w_move all S P (nT all) m k := by
          unfold w_not
          have q1 : ¬ ((100 + 10 * m + k : Nat) : Int) = -1 := by omega
          have q2 : ¬ (0 ≤ ((100 + 10 * m + k : Nat) : Int) ∧ ((100 + 10 * m + k : Nat) : Int) ≤ 9) := by omega
          have q3 : 100 ≤ ((100 + 10 * m + k : Nat) : Int) ∧ ((100 + 10 * m + k : Nat) : Int) ≤ 199 := by omega
          rw [if_neg q1, if_neg q2, if_pos q3, show (((100 + 10 * m + k : Nat) : Int) - 100) / 10 = m by omega, show ((100 + 10 * m + k : Nat) : Int) % 10 = k by omega]
        have e2 : m_does all S P ((100 + 10 * m + k : Nat) : Int) = m_move all S P (nT all) m k := by
          unfold m_does
          have q1 : ¬ ((100 + 10 * m + k : Nat) : Int) = -1 := by omega
          have q2 : ¬ ((100 + 10 * m + k : Nat) : Int) < 100 := by omega
          have q3 : ((100 + 10 * m + k : Nat) : Int) < 200 := by omega
          rw [if_neg q1, if_neg q2, if_pos q3, show ((((100 + 10 * m + k : Nat) : Int) - 100) / 10).toNat = m by omega, show (((100 + 10 * m + k : Nat) : Int) % 10).toNat = k by omega]
        simp only [e1, e2]
        rw [t1, t2] at H4 ⊢
        exact ⟨rfl, rfl, ((s1.tr s2).tr s3).tr s4, H4, rfl⟩
