/-! the class's own constructor -/
theorem tt_anew {X : Nat × (Nat → Int32)} {d mi pc n k : Nat} {f : Nat → e_C} {Q : t_Q} {lv st : List Value} {m idx ci : Nat} {q : vw_C × (Nat → FieldType) × List Value} (hc : e_cd mi pc = some (.anewarray idx, 3)) (hn : e_nw (e_ow mi) idx = some ci) (hq : e_K[ci]? = some q) (hok : e_okT (.object q.1.1) = true) (hm : m ≤ 65536) : TT X d mi pc lv (.int (nI m) :: st) f n k Q = TT X d mi (pc + 3) lv (.ref n :: st) (va_up f n (.inl (.object q.1.1, (m, .inr (.inr (.inr (.inr (fun _ => none)))))))) (n + 1) (k + m) Q := by
  refine tt_st hc rfl ?_
  have h1 : (nI m).toNatClampNeg = m := nI_clamp (by omega)
  simp only [e_st, hn, hq, hok, if_true, e_newa, h1]
  rw [if_pos ⟨nI_pos (by omega), hm⟩]
theorem lpn {X : Nat × (Nat → Int32)} {d mi pc : Nat} {Q : t_Q} {α : Type} (I : Nat → (Nat → e_C) → α → Prop) (L : Nat → α → List Value) (n k : Nat → Nat) (b : Nat) (hs : ∀ j f x, j < b → I j f x → (∀ f' x', I (j + 1) f' x' → TH X d mi pc (L (j + 1) x') [] f' (n (j + 1)) (k (j + 1)) Q) → TT X d mi pc (L j x) [] f (n j) (k j) Q) (he : ∀ f x, I b f x → TT X d mi pc (L b x) [] f (n b) (k b) Q) : ∀ j f x, j ≤ b → I j f x → TH X d mi pc (L j x) [] f (n j) (k j) Q := by
  suffices h : ∀ m j f x, j + m = b → I j f x → TH X d mi pc (L j x) [] f (n j) (k j) Q from fun j f x hj hI => h (b - j) j f x (by omega) hI
  intro m
  induction m with
  | zero =>
    intro j f x hj hI
    obtain rfl : j = b := by omega
    exact he f x hI
  | succ m ih =>
    intro j f x hj hI
    exact hs j f x (by omega) hI (fun f' x' h => ih (j + 1) f' x' (by omega) h)
theorem vo_eq {y : Nat → Option Nat} {a : Nat} {c : Option Nat} : va_up y a c a = c := by simp [va_up]
theorem vo_ne {y : Nat → Option Nat} {a b : Nat} {c : Option Nat} (h : b ≠ a) : va_up y a c b = y b := by simp [va_up, h]
theorem eK6 : ∃ q, e_K[6]? = some q ∧ e_okT (.object q.1.1) = true := ⟨_, rfl, by decide +kernel⟩
theorem eK9 : ∃ q, e_K[9]? = some q ∧ e_okT (.object q.1.1) = true := ⟨_, rfl, by decide +kernel⟩
theorem li900 : (900 : Int32) = nI 900 := rfl
theorem li11 : (11 : Int32) = nI 11 := rfl
theorem li2 : (2 : Int32) = nI 2 := rfl
theorem pok_ab {p : Nat} : (e_pok (.array .byte) (.ref p) = true) = True := eq_true rfl
theorem pok_aO {C : String} {p : Nat} : (e_pok (.array (.object C)) (.ref p) = true) = True := eq_true rfl
def ia1 (f : Nat → e_C) : Prop := arB (f 1) = some (900, fun _ => 0) ∧ (∃ v r, PV f 2 v r 0 ∧ planI v r) ∧ (∃ w x, SV f 12 2 w x ∧ (∀ i, w i = 0) ∧ ∀ i k, x i k = 0) ∧ anyS f 17
theorem ia1.fr {f f' : Nat → e_C} (h : ia1 f) (hf : ∀ b, 1 ≤ b → b < 22 → f' b = f b) : ia1 f' := by
  obtain ⟨h1, ⟨v, r, P, hp⟩, ⟨w, x, V, hz⟩, hA⟩ := h
  exact ⟨by rw [hf 1 (by omega) (by omega)]; exact h1, ⟨v, r, P.fr (fun b h1 h2 => hf b (by omega) (by omega)), hp⟩, ⟨w, x, V.fr (fun b h1 h2 => hf b (by omega) (by omega)), hz⟩, hA.fr (fun b h1 h2 => hf b (by omega) (by omega))⟩
def iaS (f : Nat → e_C) (a m : Nat) : Prop := (∃ g, arS (f a) = some (m, g) ∧ ∀ i, i < m → g i = some (a + 1 + 5 * i)) ∧ ∀ i, i < m → anyS f (a + 1 + 5 * i)
theorem iaS.fr {f f' : Nat → e_C} {a m : Nat} (h : iaS f a m) (hf : ∀ b, a ≤ b → b < a + 1 + 5 * m → f' b = f b) : iaS f' a m := by
  obtain ⟨⟨g, h1, h2⟩, h3⟩ := h
  exact ⟨⟨g, by rw [hf a (by omega) (by omega)]; exact h1, h2⟩, fun i hi => (h3 i hi).fr (fun b h1 h2 => hf b (by omega) (by omega))⟩
def iaT (f : Nat → e_C) : Prop := (∃ g, arS (f 90) = some (4, g) ∧ ∀ i, i < 4 → g i = some (91 + 2 * i)) ∧ ∀ i, i < 4 → TV f (91 + 2 * i) 0 (-1) (fun _ => 0)
theorem iaT.fr {f f' : Nat → e_C} (h : iaT f) (hf : ∀ b, 90 ≤ b → b < 99 → f' b = f b) : iaT f' := by
  obtain ⟨⟨g, h1, h2⟩, h3⟩ := h
  exact ⟨⟨g, by rw [hf 90 (by omega) (by omega)]; exact h1, h2⟩, fun i hi => (h3 i hi).fr (hf _ (by omega) (by omega)) (hf _ (by omega) (by omega))⟩
section CTOR
variable {X : Nat × (Nat → Int32)} {d K : Nat} {f : Nat → e_C} {Q : t_Q}
theorem ci_A (hf : f 0 = .inr (11, [.null, .int 0, .int 0, .int 0, .null, .null, .null, .int 0, .int 0, .null, .null, .null, .null, .null, .null, .null, .null, .null, .null])) (h : ∀ g k, g 0 = .inr (11, [.ref 1, .int 0, .int 0, .int (-1), .ref 12, .ref 17, .null, .int 0, .int 0, .null, .null, .null, .null, .null, .null, .null, .null, .null, .null]) → ia1 g → k ≤ K + 1200 → TT X (d + 4) 112 51 [.ref 0, .ref 2, .float 0] [] g 22 k Q) : TT X (d + 4) 112 0 [.ref 0, .float 0, .float 0] [] f 1 K Q := by
  simp (disch := first | omega | decide | assumption | exact Nat.le_of_ble_eq_true rfl) only [s112_0, s112_1, s112_4, s112_5, s112_10, s112_13, s112_14, s112_15, s112_18, s112_21, s112_21i, ow_some, true_and, and_true, and_self, if_true, if_false, not_true, not_false_eq_true, Bool.false_eq_true, eq_self, Option.toList, List.cons_append, List.nil_append, ix_in, ix_cl, lt_in, lt_cl, lt_add, ix_one, vu_eq, vu_ne, arI_mk, arL_mk, arY_mZ, arY_mB, alen_mI, fld_sfl_ne, fld_sfl_same, Option.isSome_some, pok_i, b1z, b01, z10, b1o, Int32.zero_add, vu_vu, upd_eq, upd_ne, true_or, or_true, hf, ce11_0, cs11_0, ce11_1, cs11_1, ce11_2, cs11_2, ce11_3, cs11_3, ce11_4, cs11_4, ce11_5, cs11_5, ce11_6, cs11_6, ce11_7, cs11_7, ce11_8, cs11_8, ce11_9, cs11_9, ce11_10, cs11_10, ce11_11, cs11_11, ce11_12, cs11_12, ce11_13, cs11_13, ce11_14, cs11_14, ce11_15, cs11_15, ce11_16, cs11_16, ce11_17, cs11_17, ce11_18, cs11_18, s112_8, s112_132, li900, pok_o, pok_ab, Nat.add_assoc, Nat.reduceAdd]
  rw [s112_22]
  refine k112_23 (by rw [vu_eq]; rfl) (Nat.le_of_ble_eq_true rfl) (sp_planI (p := 2) (C := 0) (by omega) (by rw [vu_eq])) ?_
  rintro f1 n1 k1 v1 ⟨rfl, rfl, rfl, s1, v, r, P, pI⟩
  have g0 := s1 0 (by omega)
  simp (disch := omega) only [vu_ne, vu_eq] at g0
  have g1 := s1 1 (by omega)
  simp (disch := omega) only [vu_ne, vu_eq] at g1
  simp (disch := first | omega | decide | assumption | exact Nat.le_of_ble_eq_true rfl) only [s112_26, s112_27, s112_28, s112_31, s112_31i, s112_32, ow_some, true_and, and_true, and_self, if_true, if_false, not_true, not_false_eq_true, Bool.false_eq_true, eq_self, Option.toList, List.cons_append, List.nil_append, ix_in, ix_cl, lt_in, lt_cl, lt_add, ix_one, vu_eq, vu_ne, arI_mk, arL_mk, arY_mZ, arY_mB, alen_mI, fld_sfl_ne, fld_sfl_same, Option.isSome_some, pok_i, b1z, b01, z10, b1o, Int32.zero_add, vu_vu, upd_eq, upd_ne, true_or, or_true, g0, ce11_0, cs11_0, ce11_1, cs11_1, ce11_2, cs11_2, ce11_3, cs11_3, ce11_4, cs11_4, ce11_5, cs11_5, ce11_6, cs11_6, ce11_7, cs11_7, ce11_8, cs11_8, ce11_9, cs11_9, ce11_10, cs11_10, ce11_11, cs11_11, ce11_12, cs11_12, ce11_13, cs11_13, ce11_14, cs11_14, ce11_15, cs11_15, ce11_16, cs11_16, ce11_17, cs11_17, ce11_18, cs11_18, Nat.add_assoc, Nat.reduceAdd]
  refine k112_33 (by rw [vu_eq]; rfl) (Nat.le_of_ble_eq_true rfl) (sp_sceneI (p := 12) (q := 2) (by rw [vu_eq])) ?_
  rintro f2 n2 k2 v2 ⟨rfl, rfl, rfl, s2, w, x, V, w0, x0⟩
  have g2 := s2 0 (by omega)
  rw [vu_ne (by omega), g0] at g2
  simp (disch := first | omega | decide | assumption | exact Nat.le_of_ble_eq_true rfl) only [s112_36, s112_39, s112_40, s112_43, s112_43i, s112_44, ow_some, true_and, and_true, and_self, if_true, if_false, not_true, not_false_eq_true, Bool.false_eq_true, eq_self, Option.toList, List.cons_append, List.nil_append, ix_in, ix_cl, lt_in, lt_cl, lt_add, ix_one, vu_eq, vu_ne, arI_mk, arL_mk, arY_mZ, arY_mB, alen_mI, fld_sfl_ne, fld_sfl_same, Option.isSome_some, pok_i, b1z, b01, z10, b1o, Int32.zero_add, vu_vu, upd_eq, upd_ne, true_or, or_true, g2, ce11_0, cs11_0, ce11_1, cs11_1, ce11_2, cs11_2, ce11_3, cs11_3, ce11_4, cs11_4, ce11_5, cs11_5, ce11_6, cs11_6, ce11_7, cs11_7, ce11_8, cs11_8, ce11_9, cs11_9, ce11_10, cs11_10, ce11_11, cs11_11, ce11_12, cs11_12, ce11_13, cs11_13, ce11_14, cs11_14, ce11_15, cs11_15, ce11_16, cs11_16, ce11_17, cs11_17, ce11_18, cs11_18, pok_o, Nat.add_assoc, Nat.reduceAdd]
  refine k112_45 (by rw [vu_eq]; rfl) (Nat.le_of_ble_eq_true rfl) (sp_sceneI (p := 17) (q := 2) (by rw [vu_eq])) ?_
  rintro f3 n3 k3 v3 ⟨rfl, rfl, rfl, s3, w3, x3, V3, -⟩
  have g3 := s3 0 (by omega)
  simp (disch := omega) only [vu_ne, vu_eq] at g3
  simp (disch := first | omega | decide | assumption | exact Nat.le_of_ble_eq_true rfl) only [s112_48, ow_some, true_and, and_true, and_self, if_true, if_false, not_true, not_false_eq_true, Bool.false_eq_true, eq_self, Option.toList, List.cons_append, List.nil_append, ix_in, ix_cl, lt_in, lt_cl, lt_add, ix_one, vu_eq, vu_ne, arI_mk, arL_mk, arY_mZ, arY_mB, alen_mI, fld_sfl_ne, fld_sfl_same, Option.isSome_some, pok_i, b1z, b01, z10, b1o, Int32.zero_add, vu_vu, upd_eq, upd_ne, true_or, or_true, g3, ce11_0, cs11_0, ce11_1, cs11_1, ce11_2, cs11_2, ce11_3, cs11_3, ce11_4, cs11_4, ce11_5, cs11_5, ce11_6, cs11_6, ce11_7, cs11_7, ce11_8, cs11_8, ce11_9, cs11_9, ce11_10, cs11_10, ce11_11, cs11_11, ce11_12, cs11_12, ce11_13, cs11_13, ce11_14, cs11_14, ce11_15, cs11_15, ce11_16, cs11_16, ce11_17, cs11_17, ce11_18, cs11_18, pok_o, Nat.add_assoc, Nat.reduceAdd]
  have q1 : ∀ b, 1 ≤ b → b < 12 → f3 b = f1 b := fun b h1 h2 => by
    rw [s3 b (by omega)]
    simp (disch := omega) only [vu_ne]
    rw [s2 b (by omega)]
    simp (disch := omega) only [vu_ne]
  have q2 : ∀ b, 12 ≤ b → b < 17 → f3 b = f2 b := fun b h1 h2 => by
    rw [s3 b (by omega)]
    simp (disch := omega) only [vu_ne]
  refine h _ _ (by rw [vu_eq]) ⟨?_, ⟨v, r, P.fr (fun b h1 h2 => ?_), pI⟩, ⟨w, x, V.fr (fun b h1 h2 => ?_), w0, x0⟩, ⟨_, _, _, V3.fr (fun b h1 h2 => ?_)⟩⟩ (by omega)
  · rw [vu_ne (by omega), q1 1 (by omega) (by omega), g1]; rfl
  · rw [vu_ne (by omega), q1 b (by omega) (by omega)]
  · rw [vu_ne (by omega), q2 b (by omega) (by omega)]
  · rw [vu_ne (by omega)]
theorem ci_B {u2 : Value} (hf : f 0 = .inr (11, [.ref 1, .int 0, .int 0, .int (-1), .ref 12, .ref 17, .null, .int 0, .int 0, .null, .null, .null, .null, .null, .null, .null, .null, .null, .null])) (h : ∀ g k, g 0 = .inr (11, [.ref 1, .int 0, .int 0, .int (-1), .ref 12, .ref 17, .ref 22, .int 0, .int 0, .null, .null, .null, .null, .null, .null, .null, .null, .null, .null]) → (∀ b, 1 ≤ b → b < 22 → g b = f b) → iaS g 22 11 → k ≤ K + 600 → TT X (d + 4) 112 91 [.ref 0, .ref 2, .int (nI 11)] [] g 78 k Q) : TT X (d + 4) 112 51 [.ref 0, .ref 2, u2] [] f 22 K Q := by
  obtain ⟨q, hq, hok⟩ := eK6
  simp (disch := first | omega | decide | assumption | exact Nat.le_of_ble_eq_true rfl) only [s112_51, s112_52, ow_some, true_and, and_true, and_self, if_true, if_false, not_true, not_false_eq_true, Bool.false_eq_true, eq_self, Option.toList, List.cons_append, List.nil_append, ix_in, ix_cl, lt_in, lt_cl, lt_add, ix_one, vu_eq, vu_ne, arI_mk, arL_mk, arY_mZ, arY_mB, alen_mI, fld_sfl_ne, fld_sfl_same, Option.isSome_some, pok_i, b1z, b01, z10, b1o, Int32.zero_add, vu_vu, upd_eq, upd_ne, true_or, or_true, li11]
  rw [tt_anew (idx := 22) (ci := 6) (by decide +kernel) (by decide +kernel) hq hok (by omega)]
  simp (disch := first | omega | decide | assumption | exact Nat.le_of_ble_eq_true rfl) only [s112_57, s112_60, h112_61, ow_some, true_and, and_true, and_self, if_true, if_false, not_true, not_false_eq_true, Bool.false_eq_true, eq_self, Option.toList, List.cons_append, List.nil_append, ix_in, ix_cl, lt_in, lt_cl, lt_add, ix_one, vu_eq, vu_ne, arI_mk, arL_mk, arY_mZ, arY_mB, alen_mI, fld_sfl_ne, fld_sfl_same, Option.isSome_some, pok_i, b1z, b01, z10, b1o, Int32.zero_add, vu_vu, upd_eq, upd_ne, true_or, or_true, hf, ce11_0, cs11_0, ce11_1, cs11_1, ce11_2, cs11_2, ce11_3, cs11_3, ce11_4, cs11_4, ce11_5, cs11_5, ce11_6, cs11_6, ce11_7, cs11_7, ce11_8, cs11_8, ce11_9, cs11_9, ce11_10, cs11_10, ce11_11, cs11_11, ce11_12, cs11_12, ce11_13, cs11_13, ce11_14, cs11_14, ce11_15, cs11_15, ce11_16, cs11_16, ce11_17, cs11_17, ce11_18, cs11_18, pok_aO, Nat.add_assoc, Nat.reduceAdd]
  refine lpn (fun j g (y : Nat → Option Nat) => (∀ b, 1 ≤ b → b < 22 → g b = f b) ∧ g 0 = .inr (11, [.ref 1, .int 0, .int 0, .int (-1), .ref 12, .ref 17, .ref 22, .int 0, .int 0, .null, .null, .null, .null, .null, .null, .null, .null, .null, .null]) ∧ arR (g 22) q.1.1 = some (11, y) ∧ (∀ i, i < j → y i = some (23 + 5 * i)) ∧ ∀ i, i < j → anyS g (23 + 5 * i)) (fun j _ => [.ref 0, .ref 2, .int (nI j)]) (fun j => 23 + 5 * j) (fun j => K + 11 + 45 * j) 11 ?_ ?_ 0 _ (fun _ => none) (by omega) ⟨fun b h1 h2 => ?_, ?_, ?_, fun i hi => absurd hi (by omega), fun i hi => absurd hi (by omega)⟩
  · rintro j g y hj ⟨g1, g0, g2, g4, g3⟩ hI
    have hc : (11 ≤ j) = False := eq_false (by omega)
    have ga : alen (g 22) = some 11 := alen_S (arS_R g2 hok)
    simp (disch := first | omega | decide | assumption | exact Nat.le_of_ble_eq_true rfl) only [s112_62, s112_63, s112_64, y112_67, s112_68, s112_71, s112_72, s112_75, s112_76, s112_79, s112_79i, s112_80, ow_some, true_and, and_true, and_self, if_true, if_false, not_true, not_false_eq_true, Bool.false_eq_true, eq_self, Option.toList, List.cons_append, List.nil_append, ix_in, ix_cl, lt_in, lt_cl, lt_add, ix_one, vu_eq, vu_ne, arI_mk, arL_mk, arY_mZ, arY_mB, alen_mI, fld_sfl_ne, fld_sfl_same, Option.isSome_some, pok_i, b1z, b01, z10, b1o, Int32.zero_add, vu_vu, upd_eq, upd_ne, true_or, or_true, lt_le, hc, ga, g0, ce11_0, cs11_0, ce11_1, cs11_1, ce11_2, cs11_2, ce11_3, cs11_3, ce11_4, cs11_4, ce11_5, cs11_5, ce11_6, cs11_6, ce11_7, cs11_7, ce11_8, cs11_8, ce11_9, cs11_9, ce11_10, cs11_10, ce11_11, cs11_11, ce11_12, cs11_12, ce11_13, cs11_13, ce11_14, cs11_14, ce11_15, cs11_15, ce11_16, cs11_16, ce11_17, cs11_17, ce11_18, cs11_18, ix_le, Nat.add_assoc, Nat.reduceAdd]
    refine k112_81 (by rw [vu_eq]; rfl) (Nat.le_of_ble_eq_true rfl) (sp_sceneI (p := 23 + 5 * j) (q := 2) (by rw [vu_eq])) ?_
    rintro f1 n1 k1 v1 ⟨rfl, rfl, rfl, s1, w, x, V, -⟩
    have ha : arR (f1 22) q.1.1 = some (11, y) := by
      rw [s1 22 (by omega), vu_ne (by omega)]; exact g2
    have hv : cno (f1 (23 + 5 * j)) = some 6 := cno_fld (j := 0) (by rw [V.2.2.1]; rfl)
    simp only [Option.toList, List.nil_append]
    rw [s112_84 hok hq rfl ha hv]
    refine ⟨ix_in (by omega) (by omega), ?_⟩
    rw [ix_cl (by omega)]
    simp (disch := first | omega | decide | assumption | exact Nat.le_of_ble_eq_true rfl) only [s112_85, h112_88, ow_some, true_and, and_true, and_self, if_true, if_false, not_true, not_false_eq_true, Bool.false_eq_true, eq_self, Option.toList, List.cons_append, List.nil_append, ix_in, ix_cl, lt_in, lt_cl, lt_add, ix_one, vu_eq, vu_ne, arI_mk, arL_mk, arY_mZ, arY_mB, alen_mI, fld_sfl_ne, fld_sfl_same, Option.isSome_some, pok_i, b1z, b01, z10, b1o, Int32.zero_add, vu_vu, upd_eq, upd_ne, true_or, or_true]
    have e1 : 23 + 5 * (j + 1) = 23 + 5 * j + 5 := by omega
    have e2 : K + 11 + 45 * (j + 1) = K + (11 + (45 * j + 10)) + 35 := by omega
    have hJ := hI (va_up f1 22 (.inl (.object q.1.1, 11, .inr (.inr (.inr (.inr (va_up y j (some (23 + 5 * j))))))))) (va_up y j (some (23 + 5 * j))) ⟨fun b h1 h2 => ?_, ?_, ?_, fun i hi => ?_, fun i hi => ?_⟩
    · rw [e1, e2] at hJ
      exact hJ
    · rw [vu_ne (by omega), s1 b (by omega), vu_ne (by omega)]; exact g1 b h1 h2
    · rw [vu_ne (by omega), s1 0 (by omega), vu_ne (by omega)]; exact g0
    · rw [vu_eq]; simp only [arR, if_true]
    · by_cases hij : i = j
      · subst hij; exact vo_eq
      · rw [vo_ne hij]; exact g4 i (by omega)
    · by_cases hij : i = j
      · subst hij; exact ⟨_, _, _, V.fr (fun b h1 h2 => vu_ne (by omega))⟩
      · exact (g3 i (by omega)).fr (fun b h1 h2 => by rw [vu_ne (by omega), s1 b (by omega), vu_ne (by omega)])
  · rintro g y ⟨g1, g0, g2, g4, g3⟩
    have ga : alen (g 22) = some 11 := alen_S (arS_R g2 hok)
    simp (disch := first | omega | decide | assumption | exact Nat.le_of_ble_eq_true rfl) only [s112_62, s112_63, s112_64, y112_67, s112_68, ow_some, true_and, and_true, and_self, if_true, if_false, not_true, not_false_eq_true, Bool.false_eq_true, eq_self, Option.toList, List.cons_append, List.nil_append, ix_in, ix_cl, lt_in, lt_cl, lt_add, ix_one, vu_eq, vu_ne, arI_mk, arL_mk, arY_mZ, arY_mB, alen_mI, fld_sfl_ne, fld_sfl_same, Option.isSome_some, pok_i, b1z, b01, z10, b1o, Int32.zero_add, vu_vu, upd_eq, upd_ne, true_or, or_true, lt_le, ga, g0, ce11_0, cs11_0, ce11_1, cs11_1, ce11_2, cs11_2, ce11_3, cs11_3, ce11_4, cs11_4, ce11_5, cs11_5, ce11_6, cs11_6, ce11_7, cs11_7, ce11_8, cs11_8, ce11_9, cs11_9, ce11_10, cs11_10, ce11_11, cs11_11, ce11_12, cs11_12, ce11_13, cs11_13, ce11_14, cs11_14, ce11_15, cs11_15, ce11_16, cs11_16, ce11_17, cs11_17, ce11_18, cs11_18, ix_le, Nat.le_refl]
    exact h g _ g0 g1 ⟨⟨y, arS_R g2 hok, g4⟩, g3⟩ (by omega)
  · simp (disch := omega) only [vu_ne]
  · simp (disch := omega) only [vu_ne, vu_eq]
  · simp (disch := omega) only [vu_ne, vu_eq]; simp only [arR, if_true]
theorem ci_C {u2 : Value} (hf : f 0 = .inr (11, [.ref 1, .int 0, .int 0, .int (-1), .ref 12, .ref 17, .ref 22, .int 0, .int 0, .null, .null, .null, .null, .null, .null, .null, .null, .null, .null])) (h : ∀ g k, g 0 = .inr (11, [.ref 1, .int 0, .int 0, .int (-1), .ref 12, .ref 17, .ref 22, .int 0, .int 0, .ref 78, .null, .null, .null, .null, .null, .null, .null, .null, .null]) → (∀ b, 1 ≤ b → b < 78 → g b = f b) → iaS g 78 2 → k ≤ K + 600 → TT X (d + 4) 112 130 [.ref 0, .ref 2, .int (nI 2)] [] g 89 k Q) : TT X (d + 4) 112 91 [.ref 0, .ref 2, u2] [] f 78 K Q := by
  obtain ⟨q, hq, hok⟩ := eK6
  simp (disch := first | omega | decide | assumption | exact Nat.le_of_ble_eq_true rfl) only [s112_91, s112_92, ow_some, true_and, and_true, and_self, if_true, if_false, not_true, not_false_eq_true, Bool.false_eq_true, eq_self, Option.toList, List.cons_append, List.nil_append, ix_in, ix_cl, lt_in, lt_cl, lt_add, ix_one, vu_eq, vu_ne, arI_mk, arL_mk, arY_mZ, arY_mB, alen_mI, fld_sfl_ne, fld_sfl_same, Option.isSome_some, pok_i, b1z, b01, z10, b1o, Int32.zero_add, vu_vu, upd_eq, upd_ne, true_or, or_true, li2]
  rw [tt_anew (idx := 22) (ci := 6) (by decide +kernel) (by decide +kernel) hq hok (by omega)]
  simp (disch := first | omega | decide | assumption | exact Nat.le_of_ble_eq_true rfl) only [s112_96, s112_99, h112_100, ow_some, true_and, and_true, and_self, if_true, if_false, not_true, not_false_eq_true, Bool.false_eq_true, eq_self, Option.toList, List.cons_append, List.nil_append, ix_in, ix_cl, lt_in, lt_cl, lt_add, ix_one, vu_eq, vu_ne, arI_mk, arL_mk, arY_mZ, arY_mB, alen_mI, fld_sfl_ne, fld_sfl_same, Option.isSome_some, pok_i, b1z, b01, z10, b1o, Int32.zero_add, vu_vu, upd_eq, upd_ne, true_or, or_true, hf, ce11_0, cs11_0, ce11_1, cs11_1, ce11_2, cs11_2, ce11_3, cs11_3, ce11_4, cs11_4, ce11_5, cs11_5, ce11_6, cs11_6, ce11_7, cs11_7, ce11_8, cs11_8, ce11_9, cs11_9, ce11_10, cs11_10, ce11_11, cs11_11, ce11_12, cs11_12, ce11_13, cs11_13, ce11_14, cs11_14, ce11_15, cs11_15, ce11_16, cs11_16, ce11_17, cs11_17, ce11_18, cs11_18, pok_aO, Nat.add_assoc, Nat.reduceAdd]
  refine lpn (fun j g (y : Nat → Option Nat) => (∀ b, 1 ≤ b → b < 78 → g b = f b) ∧ g 0 = .inr (11, [.ref 1, .int 0, .int 0, .int (-1), .ref 12, .ref 17, .ref 22, .int 0, .int 0, .ref 78, .null, .null, .null, .null, .null, .null, .null, .null, .null]) ∧ arR (g 78) q.1.1 = some (2, y) ∧ (∀ i, i < j → y i = some (79 + 5 * i)) ∧ ∀ i, i < j → anyS g (79 + 5 * i)) (fun j _ => [.ref 0, .ref 2, .int (nI j)]) (fun j => 79 + 5 * j) (fun j => K + 2 + 45 * j) 2 ?_ ?_ 0 _ (fun _ => none) (by omega) ⟨fun b h1 h2 => ?_, ?_, ?_, fun i hi => absurd hi (by omega), fun i hi => absurd hi (by omega)⟩
  · rintro j g y hj ⟨g1, g0, g2, g4, g3⟩ hI
    have hc : (2 ≤ j) = False := eq_false (by omega)
    have ga : alen (g 78) = some 2 := alen_S (arS_R g2 hok)
    simp (disch := first | omega | decide | assumption | exact Nat.le_of_ble_eq_true rfl) only [s112_101, s112_102, s112_103, y112_106, s112_107, s112_110, s112_111, s112_114, s112_115, s112_118, s112_118i, s112_119, ow_some, true_and, and_true, and_self, if_true, if_false, not_true, not_false_eq_true, Bool.false_eq_true, eq_self, Option.toList, List.cons_append, List.nil_append, ix_in, ix_cl, lt_in, lt_cl, lt_add, ix_one, vu_eq, vu_ne, arI_mk, arL_mk, arY_mZ, arY_mB, alen_mI, fld_sfl_ne, fld_sfl_same, Option.isSome_some, pok_i, b1z, b01, z10, b1o, Int32.zero_add, vu_vu, upd_eq, upd_ne, true_or, or_true, lt_le, hc, ga, g0, ce11_0, cs11_0, ce11_1, cs11_1, ce11_2, cs11_2, ce11_3, cs11_3, ce11_4, cs11_4, ce11_5, cs11_5, ce11_6, cs11_6, ce11_7, cs11_7, ce11_8, cs11_8, ce11_9, cs11_9, ce11_10, cs11_10, ce11_11, cs11_11, ce11_12, cs11_12, ce11_13, cs11_13, ce11_14, cs11_14, ce11_15, cs11_15, ce11_16, cs11_16, ce11_17, cs11_17, ce11_18, cs11_18, ix_le, Nat.add_assoc, Nat.reduceAdd]
    refine k112_120 (by rw [vu_eq]; rfl) (Nat.le_of_ble_eq_true rfl) (sp_sceneI (p := 79 + 5 * j) (q := 2) (by rw [vu_eq])) ?_
    rintro f1 n1 k1 v1 ⟨rfl, rfl, rfl, s1, w, x, V, -⟩
    have ha : arR (f1 78) q.1.1 = some (2, y) := by
      rw [s1 78 (by omega), vu_ne (by omega)]; exact g2
    have hv : cno (f1 (79 + 5 * j)) = some 6 := cno_fld (j := 0) (by rw [V.2.2.1]; rfl)
    simp only [Option.toList, List.nil_append]
    rw [s112_123 hok hq rfl ha hv]
    refine ⟨ix_in (by omega) (by omega), ?_⟩
    rw [ix_cl (by omega)]
    simp (disch := first | omega | decide | assumption | exact Nat.le_of_ble_eq_true rfl) only [s112_124, h112_127, ow_some, true_and, and_true, and_self, if_true, if_false, not_true, not_false_eq_true, Bool.false_eq_true, eq_self, Option.toList, List.cons_append, List.nil_append, ix_in, ix_cl, lt_in, lt_cl, lt_add, ix_one, vu_eq, vu_ne, arI_mk, arL_mk, arY_mZ, arY_mB, alen_mI, fld_sfl_ne, fld_sfl_same, Option.isSome_some, pok_i, b1z, b01, z10, b1o, Int32.zero_add, vu_vu, upd_eq, upd_ne, true_or, or_true]
    have e1 : 79 + 5 * (j + 1) = 79 + 5 * j + 5 := by omega
    have e2 : K + 2 + 45 * (j + 1) = K + (2 + (45 * j + 10)) + 35 := by omega
    have hJ := hI (va_up f1 78 (.inl (.object q.1.1, 2, .inr (.inr (.inr (.inr (va_up y j (some (79 + 5 * j))))))))) (va_up y j (some (79 + 5 * j))) ⟨fun b h1 h2 => ?_, ?_, ?_, fun i hi => ?_, fun i hi => ?_⟩
    · rw [e1, e2] at hJ
      exact hJ
    · rw [vu_ne (by omega), s1 b (by omega), vu_ne (by omega)]; exact g1 b h1 h2
    · rw [vu_ne (by omega), s1 0 (by omega), vu_ne (by omega)]; exact g0
    · rw [vu_eq]; simp only [arR, if_true]
    · by_cases hij : i = j
      · subst hij; exact vo_eq
      · rw [vo_ne hij]; exact g4 i (by omega)
    · by_cases hij : i = j
      · subst hij; exact ⟨_, _, _, V.fr (fun b h1 h2 => vu_ne (by omega))⟩
      · exact (g3 i (by omega)).fr (fun b h1 h2 => by rw [vu_ne (by omega), s1 b (by omega), vu_ne (by omega)])
  · rintro g y ⟨g1, g0, g2, g4, g3⟩
    have ga : alen (g 78) = some 2 := alen_S (arS_R g2 hok)
    simp (disch := first | omega | decide | assumption | exact Nat.le_of_ble_eq_true rfl) only [s112_101, s112_102, s112_103, y112_106, s112_107, ow_some, true_and, and_true, and_self, if_true, if_false, not_true, not_false_eq_true, Bool.false_eq_true, eq_self, Option.toList, List.cons_append, List.nil_append, ix_in, ix_cl, lt_in, lt_cl, lt_add, ix_one, vu_eq, vu_ne, arI_mk, arL_mk, arY_mZ, arY_mB, alen_mI, fld_sfl_ne, fld_sfl_same, Option.isSome_some, pok_i, b1z, b01, z10, b1o, Int32.zero_add, vu_vu, upd_eq, upd_ne, true_or, or_true, lt_le, ga, g0, ce11_0, cs11_0, ce11_1, cs11_1, ce11_2, cs11_2, ce11_3, cs11_3, ce11_4, cs11_4, ce11_5, cs11_5, ce11_6, cs11_6, ce11_7, cs11_7, ce11_8, cs11_8, ce11_9, cs11_9, ce11_10, cs11_10, ce11_11, cs11_11, ce11_12, cs11_12, ce11_13, cs11_13, ce11_14, cs11_14, ce11_15, cs11_15, ce11_16, cs11_16, ce11_17, cs11_17, ce11_18, cs11_18, ix_le, Nat.le_refl]
    exact h g _ g0 g1 ⟨⟨y, arS_R g2 hok, g4⟩, g3⟩ (by omega)
  · simp (disch := omega) only [vu_ne]
  · simp (disch := omega) only [vu_ne, vu_eq]
  · simp (disch := omega) only [vu_ne, vu_eq]; simp only [arR, if_true]
theorem ci_D {u2 : Value} (hf : f 0 = .inr (11, [.ref 1, .int 0, .int 0, .int (-1), .ref 12, .ref 17, .ref 22, .int 0, .int 0, .ref 78, .null, .null, .null, .null, .null, .null, .null, .null, .null])) (h : ∀ g k, g 0 = .inr (11, [.ref 1, .int 0, .int 0, .int (-1), .ref 12, .ref 17, .ref 22, .int 0, .int 0, .ref 78, .ref 89, .null, .null, .null, .null, .null, .null, .null, .null]) → (∀ b, 1 ≤ b → b < 89 → g b = f b) → arZ (g 89) = some (2, fun _ => 0) → k ≤ K + 2 → TT X (d + 4) 112 137 [.ref 0, .ref 2, u2] [] g 90 k Q) : TT X (d + 4) 112 130 [.ref 0, .ref 2, u2] [] f 89 K Q := by
  simp (disch := first | omega | decide | assumption | exact Nat.le_of_ble_eq_true rfl) only [s112_130, s112_131, s112_134, ow_some, true_and, and_true, and_self, if_true, if_false, not_true, not_false_eq_true, Bool.false_eq_true, eq_self, Option.toList, List.cons_append, List.nil_append, ix_in, ix_cl, lt_in, lt_cl, lt_add, ix_one, vu_eq, vu_ne, arI_mk, arL_mk, arY_mZ, arY_mB, alen_mI, fld_sfl_ne, fld_sfl_same, Option.isSome_some, pok_i, b1z, b01, z10, b1o, Int32.zero_add, vu_vu, upd_eq, upd_ne, true_or, or_true, hf, ce11_0, cs11_0, ce11_1, cs11_1, ce11_2, cs11_2, ce11_3, cs11_3, ce11_4, cs11_4, ce11_5, cs11_5, ce11_6, cs11_6, ce11_7, cs11_7, ce11_8, cs11_8, ce11_9, cs11_9, ce11_10, cs11_10, ce11_11, cs11_11, ce11_12, cs11_12, ce11_13, cs11_13, ce11_14, cs11_14, ce11_15, cs11_15, ce11_16, cs11_16, ce11_17, cs11_17, ce11_18, cs11_18, s112_8, s112_132, li2, pok_az, Nat.add_assoc, Nat.reduceAdd]
  refine h _ _ (by rw [vu_eq]) (fun b h1 h2 => ?_) ?_ (by omega)
  · simp (disch := omega) only [vu_ne]
  · simp (disch := omega) only [vu_ne, vu_eq]; rfl
theorem ci_E {u2 : Value} (hf : f 0 = .inr (11, [.ref 1, .int 0, .int 0, .int (-1), .ref 12, .ref 17, .ref 22, .int 0, .int 0, .ref 78, .ref 89, .null, .null, .null, .null, .null, .null, .null, .null])) (h : ∀ g k, g 0 = .inr (11, [.ref 1, .int 0, .int 0, .int (-1), .ref 12, .ref 17, .ref 22, .int 0, .int 0, .ref 78, .ref 89, .ref 90, .null, .null, .null, .null, .null, .null, .null]) → (∀ b, 1 ≤ b → b < 90 → g b = f b) → iaT g → k ≤ K + 600 → TT X (d + 4) 112 175 [.ref 0, .ref 2, .int (nI 4)] [] g 99 k Q) : TT X (d + 4) 112 137 [.ref 0, .ref 2, u2] [] f 90 K Q := by
  obtain ⟨q, hq, hok⟩ := eK9
  simp (disch := first | omega | decide | assumption | exact Nat.le_of_ble_eq_true rfl) only [s112_137, s112_138, ow_some, true_and, and_true, and_self, if_true, if_false, not_true, not_false_eq_true, Bool.false_eq_true, eq_self, Option.toList, List.cons_append, List.nil_append, ix_in, ix_cl, lt_in, lt_cl, lt_add, ix_one, vu_eq, vu_ne, arI_mk, arL_mk, arY_mZ, arY_mB, alen_mI, fld_sfl_ne, fld_sfl_same, Option.isSome_some, pok_i, b1z, b01, z10, b1o, Int32.zero_add, vu_vu, upd_eq, upd_ne, true_or, or_true, li4]
  rw [tt_anew (idx := 45) (ci := 9) (by decide +kernel) (by decide +kernel) hq hok (by omega)]
  simp (disch := first | omega | decide | assumption | exact Nat.le_of_ble_eq_true rfl) only [s112_142, s112_145, h112_146, ow_some, true_and, and_true, and_self, if_true, if_false, not_true, not_false_eq_true, Bool.false_eq_true, eq_self, Option.toList, List.cons_append, List.nil_append, ix_in, ix_cl, lt_in, lt_cl, lt_add, ix_one, vu_eq, vu_ne, arI_mk, arL_mk, arY_mZ, arY_mB, alen_mI, fld_sfl_ne, fld_sfl_same, Option.isSome_some, pok_i, b1z, b01, z10, b1o, Int32.zero_add, vu_vu, upd_eq, upd_ne, true_or, or_true, hf, ce11_0, cs11_0, ce11_1, cs11_1, ce11_2, cs11_2, ce11_3, cs11_3, ce11_4, cs11_4, ce11_5, cs11_5, ce11_6, cs11_6, ce11_7, cs11_7, ce11_8, cs11_8, ce11_9, cs11_9, ce11_10, cs11_10, ce11_11, cs11_11, ce11_12, cs11_12, ce11_13, cs11_13, ce11_14, cs11_14, ce11_15, cs11_15, ce11_16, cs11_16, ce11_17, cs11_17, ce11_18, cs11_18, pok_aO, Nat.add_assoc, Nat.reduceAdd]
  refine lpn (fun j g (y : Nat → Option Nat) => (∀ b, 1 ≤ b → b < 90 → g b = f b) ∧ g 0 = .inr (11, [.ref 1, .int 0, .int 0, .int (-1), .ref 12, .ref 17, .ref 22, .int 0, .int 0, .ref 78, .ref 89, .ref 90, .null, .null, .null, .null, .null, .null, .null]) ∧ arR (g 90) q.1.1 = some (4, y) ∧ (∀ i, i < j → y i = some (91 + 2 * i)) ∧ ∀ i, i < j → TV g (91 + 2 * i) 0 (-1) (fun _ => 0)) (fun j _ => [.ref 0, .ref 2, .int (nI j)]) (fun j => 91 + 2 * j) (fun j => K + 4 + 43 * j) 4 ?_ ?_ 0 _ (fun _ => none) (by omega) ⟨fun b h1 h2 => ?_, ?_, ?_, fun i hi => absurd hi (by omega), fun i hi => absurd hi (by omega)⟩
  · rintro j g y hj ⟨g1, g0, g2, g4, g3⟩ hI
    have hc : (4 ≤ j) = False := eq_false (by omega)
    have ga : alen (g 90) = some 4 := alen_S (arS_R g2 hok)
    simp (disch := first | omega | decide | assumption | exact Nat.le_of_ble_eq_true rfl) only [s112_147, s112_148, s112_149, y112_152, s112_153, s112_156, s112_157, s112_160, s112_161, s112_164, s112_164i, ow_some, true_and, and_true, and_self, if_true, if_false, not_true, not_false_eq_true, Bool.false_eq_true, eq_self, Option.toList, List.cons_append, List.nil_append, ix_in, ix_cl, lt_in, lt_cl, lt_add, ix_one, vu_eq, vu_ne, arI_mk, arL_mk, arY_mZ, arY_mB, alen_mI, fld_sfl_ne, fld_sfl_same, Option.isSome_some, pok_i, b1z, b01, z10, b1o, Int32.zero_add, vu_vu, upd_eq, upd_ne, true_or, or_true, lt_le, hc, ga, g0, ce11_0, cs11_0, ce11_1, cs11_1, ce11_2, cs11_2, ce11_3, cs11_3, ce11_4, cs11_4, ce11_5, cs11_5, ce11_6, cs11_6, ce11_7, cs11_7, ce11_8, cs11_8, ce11_9, cs11_9, ce11_10, cs11_10, ce11_11, cs11_11, ce11_12, cs11_12, ce11_13, cs11_13, ce11_14, cs11_14, ce11_15, cs11_15, ce11_16, cs11_16, ce11_17, cs11_17, ce11_18, cs11_18, ix_le, Nat.add_assoc, Nat.reduceAdd]
    refine k112_165 (by rw [vu_eq]; rfl) (Nat.le_of_ble_eq_true rfl) (sp_trayI (p := 91 + 2 * j) (by rw [vu_eq])) ?_
    rintro f1 n1 k1 v1 ⟨rfl, rfl, rfl, s1, V⟩
    have ha : arR (f1 90) q.1.1 = some (4, y) := by
      rw [s1 90 (by omega), vu_ne (by omega)]; exact g2
    have hv : cno (f1 (91 + 2 * j)) = some 9 := cno_fld (j := 0) (by rw [V.1]; rfl)
    simp only [Option.toList, List.nil_append]
    rw [s112_168 hok hq rfl ha hv]
    refine ⟨ix_in (by omega) (by omega), ?_⟩
    rw [ix_cl (by omega)]
    simp (disch := first | omega | decide | assumption | exact Nat.le_of_ble_eq_true rfl) only [s112_169, h112_172, ow_some, true_and, and_true, and_self, if_true, if_false, not_true, not_false_eq_true, Bool.false_eq_true, eq_self, Option.toList, List.cons_append, List.nil_append, ix_in, ix_cl, lt_in, lt_cl, lt_add, ix_one, vu_eq, vu_ne, arI_mk, arL_mk, arY_mZ, arY_mB, alen_mI, fld_sfl_ne, fld_sfl_same, Option.isSome_some, pok_i, b1z, b01, z10, b1o, Int32.zero_add, vu_vu, upd_eq, upd_ne, true_or, or_true]
    have e1 : 91 + 2 * (j + 1) = 91 + 2 * j + 2 := by omega
    have e2 : K + 4 + 43 * (j + 1) = K + (4 + (43 * j + 3)) + 40 := by omega
    have hJ := hI (va_up f1 90 (.inl (.object q.1.1, 4, .inr (.inr (.inr (.inr (va_up y j (some (91 + 2 * j))))))))) (va_up y j (some (91 + 2 * j))) ⟨fun b h1 h2 => ?_, ?_, ?_, fun i hi => ?_, fun i hi => ?_⟩
    · rw [e1, e2] at hJ
      exact hJ
    · rw [vu_ne (by omega), s1 b (by omega), vu_ne (by omega)]; exact g1 b h1 h2
    · rw [vu_ne (by omega), s1 0 (by omega), vu_ne (by omega)]; exact g0
    · rw [vu_eq]; simp only [arR, if_true]
    · by_cases hij : i = j
      · subst hij; exact vo_eq
      · rw [vo_ne hij]; exact g4 i (by omega)
    · by_cases hij : i = j
      · subst hij; exact V.fr (vu_ne (by omega)) (vu_ne (by omega))
      · exact (g3 i (by omega)).fr (by rw [vu_ne (by omega), s1 _ (by omega), vu_ne (by omega)]) (by rw [vu_ne (by omega), s1 _ (by omega), vu_ne (by omega)])
  · rintro g y ⟨g1, g0, g2, g4, g3⟩
    have ga : alen (g 90) = some 4 := alen_S (arS_R g2 hok)
    simp (disch := first | omega | decide | assumption | exact Nat.le_of_ble_eq_true rfl) only [s112_147, s112_148, s112_149, y112_152, s112_153, ow_some, true_and, and_true, and_self, if_true, if_false, not_true, not_false_eq_true, Bool.false_eq_true, eq_self, Option.toList, List.cons_append, List.nil_append, ix_in, ix_cl, lt_in, lt_cl, lt_add, ix_one, vu_eq, vu_ne, arI_mk, arL_mk, arY_mZ, arY_mB, alen_mI, fld_sfl_ne, fld_sfl_same, Option.isSome_some, pok_i, b1z, b01, z10, b1o, Int32.zero_add, vu_vu, upd_eq, upd_ne, true_or, or_true, lt_le, ga, g0, ce11_0, cs11_0, ce11_1, cs11_1, ce11_2, cs11_2, ce11_3, cs11_3, ce11_4, cs11_4, ce11_5, cs11_5, ce11_6, cs11_6, ce11_7, cs11_7, ce11_8, cs11_8, ce11_9, cs11_9, ce11_10, cs11_10, ce11_11, cs11_11, ce11_12, cs11_12, ce11_13, cs11_13, ce11_14, cs11_14, ce11_15, cs11_15, ce11_16, cs11_16, ce11_17, cs11_17, ce11_18, cs11_18, ix_le, Nat.le_refl]
    exact h g _ g0 g1 ⟨⟨y, arS_R g2 hok, g4⟩, g3⟩ (by omega)
  · simp (disch := omega) only [vu_ne]
  · simp (disch := omega) only [vu_ne, vu_eq]
  · simp (disch := omega) only [vu_ne, vu_eq]; simp only [arR, if_true]
theorem ci_F {u2 : Value} (hf : f 0 = .inr (11, [.ref 1, .int 0, .int 0, .int (-1), .ref 12, .ref 17, .ref 22, .int 0, .int 0, .ref 78, .ref 89, .ref 90, .null, .null, .null, .null, .null, .null, .null])) : TT X (d + 4) 112 175 [.ref 0, .ref 2, u2] [] f 99 K (fun f' n' k' z => n' = 171 ∧ k' ≤ K + 4000 ∧ z = none ∧ f' 0 = .inr (11, [.ref 1, .int 0, .int 0, .int (-1), .ref 12, .ref 17, .ref 22, .int 0, .int 0, .ref 78, .ref 89, .ref 90, .ref 99, .ref 112, .ref 119, .ref 127, .ref 136, .ref 148, .ref 159]) ∧ (∀ b, 1 ≤ b → b < 99 → f' b = f b) ∧ RDV f' ∧ SCR f') := by
  simp (disch := first | omega | decide | assumption | exact Nat.le_of_ble_eq_true rfl) only [s112_175, s112_176, s112_179, s112_179i, ow_some, true_and, and_true, and_self, if_true, if_false, not_true, not_false_eq_true, Bool.false_eq_true, eq_self, Option.toList, List.cons_append, List.nil_append, ix_in, ix_cl, lt_in, lt_cl, lt_add, ix_one, vu_eq, vu_ne, arI_mk, arL_mk, arY_mZ, arY_mB, alen_mI, fld_sfl_ne, fld_sfl_same, Option.isSome_some, pok_i, b1z, b01, z10, b1o, Int32.zero_add, vu_vu, upd_eq, upd_ne, true_or, or_true, hf, ce11_0, cs11_0, ce11_1, cs11_1, ce11_2, cs11_2, ce11_3, cs11_3, ce11_4, cs11_4, ce11_5, cs11_5, ce11_6, cs11_6, ce11_7, cs11_7, ce11_8, cs11_8, ce11_9, cs11_9, ce11_10, cs11_10, ce11_11, cs11_11, ce11_12, cs11_12, ce11_13, cs11_13, ce11_14, cs11_14, ce11_15, cs11_15, ce11_16, cs11_16, ce11_17, cs11_17, ce11_18, cs11_18, Nat.add_assoc, Nat.reduceAdd]
  refine k112_180 (by rw [vu_eq]; rfl) (Nat.le_of_ble_eq_true rfl) (sp_readerI (p := 99) (by rw [vu_eq])) ?_
  rintro f0 n0 k0 v0 ⟨rfl, rfl, rfl, s0, r0⟩
  have g0 := s0 0 (by omega)
  simp (disch := omega) only [vu_ne, vu_eq, hf] at g0
  simp (disch := first | omega | decide | assumption | exact Nat.le_of_ble_eq_true rfl) only [s112_183, ow_some, true_and, and_true, and_self, if_true, if_false, not_true, not_false_eq_true, Bool.false_eq_true, eq_self, Option.toList, List.cons_append, List.nil_append, ix_in, ix_cl, lt_in, lt_cl, lt_add, ix_one, vu_eq, vu_ne, arI_mk, arL_mk, arY_mZ, arY_mB, alen_mI, fld_sfl_ne, fld_sfl_same, Option.isSome_some, pok_i, b1z, b01, z10, b1o, Int32.zero_add, vu_vu, upd_eq, upd_ne, true_or, or_true, g0, ce11_0, cs11_0, ce11_1, cs11_1, ce11_2, cs11_2, ce11_3, cs11_3, ce11_4, cs11_4, ce11_5, cs11_5, ce11_6, cs11_6, ce11_7, cs11_7, ce11_8, cs11_8, ce11_9, cs11_9, ce11_10, cs11_10, ce11_11, cs11_11, ce11_12, cs11_12, ce11_13, cs11_13, ce11_14, cs11_14, ce11_15, cs11_15, ce11_16, cs11_16, ce11_17, cs11_17, ce11_18, cs11_18, pok_o, Nat.add_assoc, Nat.reduceAdd]
  simp (disch := first | omega | decide | assumption | exact Nat.le_of_ble_eq_true rfl) only [s112_186, s112_187, s112_190, s112_190i, ow_some, true_and, and_true, and_self, if_true, if_false, not_true, not_false_eq_true, Bool.false_eq_true, eq_self, Option.toList, List.cons_append, List.nil_append, ix_in, ix_cl, lt_in, lt_cl, lt_add, ix_one, vu_eq, vu_ne, arI_mk, arL_mk, arY_mZ, arY_mB, alen_mI, fld_sfl_ne, fld_sfl_same, Option.isSome_some, pok_i, b1z, b01, z10, b1o, Int32.zero_add, vu_vu, upd_eq, upd_ne, true_or, or_true, g0, ce11_0, cs11_0, ce11_1, cs11_1, ce11_2, cs11_2, ce11_3, cs11_3, ce11_4, cs11_4, ce11_5, cs11_5, ce11_6, cs11_6, ce11_7, cs11_7, ce11_8, cs11_8, ce11_9, cs11_9, ce11_10, cs11_10, ce11_11, cs11_11, ce11_12, cs11_12, ce11_13, cs11_13, ce11_14, cs11_14, ce11_15, cs11_15, ce11_16, cs11_16, ce11_17, cs11_17, ce11_18, cs11_18, Nat.add_assoc, Nat.reduceAdd]
  refine k112_191 (by rw [vu_eq]; rfl) (Nat.le_of_ble_eq_true rfl) (sp_scalesI (p := 112) (by rw [vu_eq])) ?_
  rintro f1 n1 k1 v1 ⟨rfl, rfl, rfl, s1, r1⟩
  have g1 := s1 0 (by omega)
  simp (disch := omega) only [vu_ne, vu_eq] at g1
  simp (disch := first | omega | decide | assumption | exact Nat.le_of_ble_eq_true rfl) only [s112_194, ow_some, true_and, and_true, and_self, if_true, if_false, not_true, not_false_eq_true, Bool.false_eq_true, eq_self, Option.toList, List.cons_append, List.nil_append, ix_in, ix_cl, lt_in, lt_cl, lt_add, ix_one, vu_eq, vu_ne, arI_mk, arL_mk, arY_mZ, arY_mB, alen_mI, fld_sfl_ne, fld_sfl_same, Option.isSome_some, pok_i, b1z, b01, z10, b1o, Int32.zero_add, vu_vu, upd_eq, upd_ne, true_or, or_true, g1, ce11_0, cs11_0, ce11_1, cs11_1, ce11_2, cs11_2, ce11_3, cs11_3, ce11_4, cs11_4, ce11_5, cs11_5, ce11_6, cs11_6, ce11_7, cs11_7, ce11_8, cs11_8, ce11_9, cs11_9, ce11_10, cs11_10, ce11_11, cs11_11, ce11_12, cs11_12, ce11_13, cs11_13, ce11_14, cs11_14, ce11_15, cs11_15, ce11_16, cs11_16, ce11_17, cs11_17, ce11_18, cs11_18, pok_o, Nat.add_assoc, Nat.reduceAdd]
  simp (disch := first | omega | decide | assumption | exact Nat.le_of_ble_eq_true rfl) only [s112_197, s112_198, s112_201, s112_201i, ow_some, true_and, and_true, and_self, if_true, if_false, not_true, not_false_eq_true, Bool.false_eq_true, eq_self, Option.toList, List.cons_append, List.nil_append, ix_in, ix_cl, lt_in, lt_cl, lt_add, ix_one, vu_eq, vu_ne, arI_mk, arL_mk, arY_mZ, arY_mB, alen_mI, fld_sfl_ne, fld_sfl_same, Option.isSome_some, pok_i, b1z, b01, z10, b1o, Int32.zero_add, vu_vu, upd_eq, upd_ne, true_or, or_true, g1, ce11_0, cs11_0, ce11_1, cs11_1, ce11_2, cs11_2, ce11_3, cs11_3, ce11_4, cs11_4, ce11_5, cs11_5, ce11_6, cs11_6, ce11_7, cs11_7, ce11_8, cs11_8, ce11_9, cs11_9, ce11_10, cs11_10, ce11_11, cs11_11, ce11_12, cs11_12, ce11_13, cs11_13, ce11_14, cs11_14, ce11_15, cs11_15, ce11_16, cs11_16, ce11_17, cs11_17, ce11_18, cs11_18, Nat.add_assoc, Nat.reduceAdd]
  refine k112_202 (by rw [vu_eq]; rfl) (Nat.le_of_ble_eq_true rfl) (sp_deedsI (by rw [vu_eq])) ?_
  rintro f2 n2 k2 v2 ⟨rfl, rfl, rfl, s2, r2⟩
  have g2 := s2 0 (by omega)
  simp (disch := omega) only [vu_ne, vu_eq] at g2
  simp (disch := first | omega | decide | assumption | exact Nat.le_of_ble_eq_true rfl) only [s112_205, ow_some, true_and, and_true, and_self, if_true, if_false, not_true, not_false_eq_true, Bool.false_eq_true, eq_self, Option.toList, List.cons_append, List.nil_append, ix_in, ix_cl, lt_in, lt_cl, lt_add, ix_one, vu_eq, vu_ne, arI_mk, arL_mk, arY_mZ, arY_mB, alen_mI, fld_sfl_ne, fld_sfl_same, Option.isSome_some, pok_i, b1z, b01, z10, b1o, Int32.zero_add, vu_vu, upd_eq, upd_ne, true_or, or_true, g2, ce11_0, cs11_0, ce11_1, cs11_1, ce11_2, cs11_2, ce11_3, cs11_3, ce11_4, cs11_4, ce11_5, cs11_5, ce11_6, cs11_6, ce11_7, cs11_7, ce11_8, cs11_8, ce11_9, cs11_9, ce11_10, cs11_10, ce11_11, cs11_11, ce11_12, cs11_12, ce11_13, cs11_13, ce11_14, cs11_14, ce11_15, cs11_15, ce11_16, cs11_16, ce11_17, cs11_17, ce11_18, cs11_18, pok_o, Nat.add_assoc, Nat.reduceAdd]
  simp (disch := first | omega | decide | assumption | exact Nat.le_of_ble_eq_true rfl) only [s112_208, s112_209, s112_212, s112_212i, ow_some, true_and, and_true, and_self, if_true, if_false, not_true, not_false_eq_true, Bool.false_eq_true, eq_self, Option.toList, List.cons_append, List.nil_append, ix_in, ix_cl, lt_in, lt_cl, lt_add, ix_one, vu_eq, vu_ne, arI_mk, arL_mk, arY_mZ, arY_mB, alen_mI, fld_sfl_ne, fld_sfl_same, Option.isSome_some, pok_i, b1z, b01, z10, b1o, Int32.zero_add, vu_vu, upd_eq, upd_ne, true_or, or_true, g2, ce11_0, cs11_0, ce11_1, cs11_1, ce11_2, cs11_2, ce11_3, cs11_3, ce11_4, cs11_4, ce11_5, cs11_5, ce11_6, cs11_6, ce11_7, cs11_7, ce11_8, cs11_8, ce11_9, cs11_9, ce11_10, cs11_10, ce11_11, cs11_11, ce11_12, cs11_12, ce11_13, cs11_13, ce11_14, cs11_14, ce11_15, cs11_15, ce11_16, cs11_16, ce11_17, cs11_17, ce11_18, cs11_18, Nat.add_assoc, Nat.reduceAdd]
  refine k112_213 (by rw [vu_eq]; rfl) (Nat.le_of_ble_eq_true rfl) (sp_setsI (by rw [vu_eq])) ?_
  rintro f3 n3 k3 v3 ⟨rfl, rfl, rfl, s3, r3⟩
  have g3 := s3 0 (by omega)
  simp (disch := omega) only [vu_ne, vu_eq] at g3
  simp (disch := first | omega | decide | assumption | exact Nat.le_of_ble_eq_true rfl) only [s112_216, ow_some, true_and, and_true, and_self, if_true, if_false, not_true, not_false_eq_true, Bool.false_eq_true, eq_self, Option.toList, List.cons_append, List.nil_append, ix_in, ix_cl, lt_in, lt_cl, lt_add, ix_one, vu_eq, vu_ne, arI_mk, arL_mk, arY_mZ, arY_mB, alen_mI, fld_sfl_ne, fld_sfl_same, Option.isSome_some, pok_i, b1z, b01, z10, b1o, Int32.zero_add, vu_vu, upd_eq, upd_ne, true_or, or_true, g3, ce11_0, cs11_0, ce11_1, cs11_1, ce11_2, cs11_2, ce11_3, cs11_3, ce11_4, cs11_4, ce11_5, cs11_5, ce11_6, cs11_6, ce11_7, cs11_7, ce11_8, cs11_8, ce11_9, cs11_9, ce11_10, cs11_10, ce11_11, cs11_11, ce11_12, cs11_12, ce11_13, cs11_13, ce11_14, cs11_14, ce11_15, cs11_15, ce11_16, cs11_16, ce11_17, cs11_17, ce11_18, cs11_18, pok_o, Nat.add_assoc, Nat.reduceAdd]
  simp (disch := first | omega | decide | assumption | exact Nat.le_of_ble_eq_true rfl) only [s112_219, s112_220, s112_223, s112_223i, ow_some, true_and, and_true, and_self, if_true, if_false, not_true, not_false_eq_true, Bool.false_eq_true, eq_self, Option.toList, List.cons_append, List.nil_append, ix_in, ix_cl, lt_in, lt_cl, lt_add, ix_one, vu_eq, vu_ne, arI_mk, arL_mk, arY_mZ, arY_mB, alen_mI, fld_sfl_ne, fld_sfl_same, Option.isSome_some, pok_i, b1z, b01, z10, b1o, Int32.zero_add, vu_vu, upd_eq, upd_ne, true_or, or_true, g3, ce11_0, cs11_0, ce11_1, cs11_1, ce11_2, cs11_2, ce11_3, cs11_3, ce11_4, cs11_4, ce11_5, cs11_5, ce11_6, cs11_6, ce11_7, cs11_7, ce11_8, cs11_8, ce11_9, cs11_9, ce11_10, cs11_10, ce11_11, cs11_11, ce11_12, cs11_12, ce11_13, cs11_13, ce11_14, cs11_14, ce11_15, cs11_15, ce11_16, cs11_16, ce11_17, cs11_17, ce11_18, cs11_18, Nat.add_assoc, Nat.reduceAdd]
  refine k112_224 (by rw [vu_eq]; rfl) (Nat.le_of_ble_eq_true rfl) (sp_serviceI (by rw [vu_eq])) ?_
  rintro f4 n4 k4 v4 ⟨rfl, rfl, rfl, s4, r4⟩
  have g4 := s4 0 (by omega)
  simp (disch := omega) only [vu_ne, vu_eq] at g4
  simp (disch := first | omega | decide | assumption | exact Nat.le_of_ble_eq_true rfl) only [s112_227, ow_some, true_and, and_true, and_self, if_true, if_false, not_true, not_false_eq_true, Bool.false_eq_true, eq_self, Option.toList, List.cons_append, List.nil_append, ix_in, ix_cl, lt_in, lt_cl, lt_add, ix_one, vu_eq, vu_ne, arI_mk, arL_mk, arY_mZ, arY_mB, alen_mI, fld_sfl_ne, fld_sfl_same, Option.isSome_some, pok_i, b1z, b01, z10, b1o, Int32.zero_add, vu_vu, upd_eq, upd_ne, true_or, or_true, g4, ce11_0, cs11_0, ce11_1, cs11_1, ce11_2, cs11_2, ce11_3, cs11_3, ce11_4, cs11_4, ce11_5, cs11_5, ce11_6, cs11_6, ce11_7, cs11_7, ce11_8, cs11_8, ce11_9, cs11_9, ce11_10, cs11_10, ce11_11, cs11_11, ce11_12, cs11_12, ce11_13, cs11_13, ce11_14, cs11_14, ce11_15, cs11_15, ce11_16, cs11_16, ce11_17, cs11_17, ce11_18, cs11_18, pok_o, Nat.add_assoc, Nat.reduceAdd]
  simp (disch := first | omega | decide | assumption | exact Nat.le_of_ble_eq_true rfl) only [s112_230, s112_231, s112_234, s112_234i, ow_some, true_and, and_true, and_self, if_true, if_false, not_true, not_false_eq_true, Bool.false_eq_true, eq_self, Option.toList, List.cons_append, List.nil_append, ix_in, ix_cl, lt_in, lt_cl, lt_add, ix_one, vu_eq, vu_ne, arI_mk, arL_mk, arY_mZ, arY_mB, alen_mI, fld_sfl_ne, fld_sfl_same, Option.isSome_some, pok_i, b1z, b01, z10, b1o, Int32.zero_add, vu_vu, upd_eq, upd_ne, true_or, or_true, g4, ce11_0, cs11_0, ce11_1, cs11_1, ce11_2, cs11_2, ce11_3, cs11_3, ce11_4, cs11_4, ce11_5, cs11_5, ce11_6, cs11_6, ce11_7, cs11_7, ce11_8, cs11_8, ce11_9, cs11_9, ce11_10, cs11_10, ce11_11, cs11_11, ce11_12, cs11_12, ce11_13, cs11_13, ce11_14, cs11_14, ce11_15, cs11_15, ce11_16, cs11_16, ce11_17, cs11_17, ce11_18, cs11_18, Nat.add_assoc, Nat.reduceAdd]
  refine k112_235 (by rw [vu_eq]; rfl) (Nat.le_of_ble_eq_true rfl) (sp_roomsI (by rw [vu_eq])) ?_
  rintro f5 n5 k5 v5 ⟨rfl, rfl, rfl, s5, r5⟩
  have g5 := s5 0 (by omega)
  simp (disch := omega) only [vu_ne, vu_eq] at g5
  simp (disch := first | omega | decide | assumption | exact Nat.le_of_ble_eq_true rfl) only [s112_238, ow_some, true_and, and_true, and_self, if_true, if_false, not_true, not_false_eq_true, Bool.false_eq_true, eq_self, Option.toList, List.cons_append, List.nil_append, ix_in, ix_cl, lt_in, lt_cl, lt_add, ix_one, vu_eq, vu_ne, arI_mk, arL_mk, arY_mZ, arY_mB, alen_mI, fld_sfl_ne, fld_sfl_same, Option.isSome_some, pok_i, b1z, b01, z10, b1o, Int32.zero_add, vu_vu, upd_eq, upd_ne, true_or, or_true, g5, ce11_0, cs11_0, ce11_1, cs11_1, ce11_2, cs11_2, ce11_3, cs11_3, ce11_4, cs11_4, ce11_5, cs11_5, ce11_6, cs11_6, ce11_7, cs11_7, ce11_8, cs11_8, ce11_9, cs11_9, ce11_10, cs11_10, ce11_11, cs11_11, ce11_12, cs11_12, ce11_13, cs11_13, ce11_14, cs11_14, ce11_15, cs11_15, ce11_16, cs11_16, ce11_17, cs11_17, ce11_18, cs11_18, pok_o, Nat.add_assoc, Nat.reduceAdd]
  simp (disch := first | omega | decide | assumption | exact Nat.le_of_ble_eq_true rfl) only [s112_241, s112_242, s112_245, s112_245i, ow_some, true_and, and_true, and_self, if_true, if_false, not_true, not_false_eq_true, Bool.false_eq_true, eq_self, Option.toList, List.cons_append, List.nil_append, ix_in, ix_cl, lt_in, lt_cl, lt_add, ix_one, vu_eq, vu_ne, arI_mk, arL_mk, arY_mZ, arY_mB, alen_mI, fld_sfl_ne, fld_sfl_same, Option.isSome_some, pok_i, b1z, b01, z10, b1o, Int32.zero_add, vu_vu, upd_eq, upd_ne, true_or, or_true, g5, ce11_0, cs11_0, ce11_1, cs11_1, ce11_2, cs11_2, ce11_3, cs11_3, ce11_4, cs11_4, ce11_5, cs11_5, ce11_6, cs11_6, ce11_7, cs11_7, ce11_8, cs11_8, ce11_9, cs11_9, ce11_10, cs11_10, ce11_11, cs11_11, ce11_12, cs11_12, ce11_13, cs11_13, ce11_14, cs11_14, ce11_15, cs11_15, ce11_16, cs11_16, ce11_17, cs11_17, ce11_18, cs11_18, Nat.add_assoc, Nat.reduceAdd]
  refine k112_246 (by rw [vu_eq]; rfl) (Nat.le_of_ble_eq_true rfl) (sp_whatifI (by rw [vu_eq])) ?_
  rintro f6 n6 k6 v6 ⟨rfl, rfl, rfl, s6, r6⟩
  have g6 := s6 0 (by omega)
  simp (disch := omega) only [vu_ne, vu_eq] at g6
  simp (disch := first | omega | decide | assumption | exact Nat.le_of_ble_eq_true rfl) only [s112_249, ow_some, true_and, and_true, and_self, if_true, if_false, not_true, not_false_eq_true, Bool.false_eq_true, eq_self, Option.toList, List.cons_append, List.nil_append, ix_in, ix_cl, lt_in, lt_cl, lt_add, ix_one, vu_eq, vu_ne, arI_mk, arL_mk, arY_mZ, arY_mB, alen_mI, fld_sfl_ne, fld_sfl_same, Option.isSome_some, pok_i, b1z, b01, z10, b1o, Int32.zero_add, vu_vu, upd_eq, upd_ne, true_or, or_true, g6, ce11_0, cs11_0, ce11_1, cs11_1, ce11_2, cs11_2, ce11_3, cs11_3, ce11_4, cs11_4, ce11_5, cs11_5, ce11_6, cs11_6, ce11_7, cs11_7, ce11_8, cs11_8, ce11_9, cs11_9, ce11_10, cs11_10, ce11_11, cs11_11, ce11_12, cs11_12, ce11_13, cs11_13, ce11_14, cs11_14, ce11_15, cs11_15, ce11_16, cs11_16, ce11_17, cs11_17, ce11_18, cs11_18, pok_o, Nat.add_assoc, Nat.reduceAdd]
  simp (disch := first | omega | decide | assumption | exact Nat.le_of_ble_eq_true rfl) only [s112_252, ow_some, true_and, and_true, and_self, if_true, if_false, not_true, not_false_eq_true, Bool.false_eq_true, eq_self, Option.toList, List.cons_append, List.nil_append, ix_in, ix_cl, lt_in, lt_cl, lt_add, ix_one, vu_eq, vu_ne, arI_mk, arL_mk, arY_mZ, arY_mB, alen_mI, fld_sfl_ne, fld_sfl_same, Option.isSome_some, pok_i, b1z, b01, z10, b1o, Int32.zero_add, vu_vu, upd_eq, upd_ne, true_or, or_true]
  have w0 : ∀ b, 1 ≤ b → b < 112 → f6 b = f0 b := fun b h1 h2 => by
    rw [s6 b (by omega)]
    simp (disch := omega) only [vu_ne]
    rw [s5 b (by omega)]
    simp (disch := omega) only [vu_ne]
    rw [s4 b (by omega)]
    simp (disch := omega) only [vu_ne]
    rw [s3 b (by omega)]
    simp (disch := omega) only [vu_ne]
    rw [s2 b (by omega)]
    simp (disch := omega) only [vu_ne]
    rw [s1 b (by omega)]
    simp (disch := omega) only [vu_ne]
  have w1 : ∀ b, 1 ≤ b → b < 119 → f6 b = f1 b := fun b h1 h2 => by
    rw [s6 b (by omega)]
    simp (disch := omega) only [vu_ne]
    rw [s5 b (by omega)]
    simp (disch := omega) only [vu_ne]
    rw [s4 b (by omega)]
    simp (disch := omega) only [vu_ne]
    rw [s3 b (by omega)]
    simp (disch := omega) only [vu_ne]
    rw [s2 b (by omega)]
    simp (disch := omega) only [vu_ne]
  have w2 : ∀ b, 1 ≤ b → b < 127 → f6 b = f2 b := fun b h1 h2 => by
    rw [s6 b (by omega)]
    simp (disch := omega) only [vu_ne]
    rw [s5 b (by omega)]
    simp (disch := omega) only [vu_ne]
    rw [s4 b (by omega)]
    simp (disch := omega) only [vu_ne]
    rw [s3 b (by omega)]
    simp (disch := omega) only [vu_ne]
  have w3 : ∀ b, 1 ≤ b → b < 136 → f6 b = f3 b := fun b h1 h2 => by
    rw [s6 b (by omega)]
    simp (disch := omega) only [vu_ne]
    rw [s5 b (by omega)]
    simp (disch := omega) only [vu_ne]
    rw [s4 b (by omega)]
    simp (disch := omega) only [vu_ne]
  have w4 : ∀ b, 1 ≤ b → b < 148 → f6 b = f4 b := fun b h1 h2 => by
    rw [s6 b (by omega)]
    simp (disch := omega) only [vu_ne]
    rw [s5 b (by omega)]
    simp (disch := omega) only [vu_ne]
  have w5 : ∀ b, 1 ≤ b → b < 159 → f6 b = f5 b := fun b h1 h2 => by
    rw [s6 b (by omega)]
    simp (disch := omega) only [vu_ne]
  have wf : ∀ b, 1 ≤ b → b < 99 → f0 b = f b := fun b h1 h2 => by
    rw [s0 b (by omega)]
    simp (disch := omega) only [vu_ne]
  refine ⟨by omega, fun b h1 h2 => ?_, ?_, ?_, ?_, ?_, ?_, ?_, ?_⟩
  · rw [vu_ne (by omega), w0 b (by omega) (by omega), wf b h1 h2]
  · obtain ⟨q0, ⟨qa, qb⟩, ⟨kq, qc⟩, pq, qd⟩ := r0
    exact RDV.frm (f := f0) ⟨q0, ⟨qa, qb⟩, ⟨kq, qc⟩, pq, qd⟩ (by rw [vu_ne (by omega), w0 99 (by omega) (by omega)]) (by rw [vu_ne (by omega), w0 100 (by omega) (by omega)]) (by rw [vu_ne (by omega), w0 101 (by omega) (by omega)])
  · exact sc1.fr r1 (fun b h1 h2 => by rw [vu_ne (by omega), w1 b (by omega) (by omega)])
  · exact sc2.fr r2 (fun b h1 h2 => by rw [vu_ne (by omega), w2 b (by omega) (by omega)])
  · exact sc3.fr r3 (fun b h1 h2 => by rw [vu_ne (by omega), w3 b (by omega) (by omega)])
  · exact sc4.fr r4 (fun b h1 h2 => by rw [vu_ne (by omega), w4 b (by omega) (by omega)])
  · exact sc5.fr r5 (fun b h1 h2 => by rw [vu_ne (by omega), w5 b (by omega) (by omega)])
  · exact sc6.fr r6 (fun b h1 h2 => by rw [vu_ne (by omega)])
def I112 (f : Nat → e_C) : Prop := f 0 = .inr (11, [.ref 1, .int 0, .int 0, .int (-1), .ref 12, .ref 17, .ref 22, .int 0, .int 0, .ref 78, .ref 89, .ref 90, .ref 99, .ref 112, .ref 119, .ref 127, .ref 136, .ref 148, .ref 159]) ∧ ia1 f ∧ iaS f 22 11 ∧ iaS f 78 2 ∧ arZ (f 89) = some (2, fun _ => 0) ∧ iaT f ∧ RDV f ∧ SCR f
theorem sp_stairI (hf : f 0 = .inr (11, [.null, .int 0, .int 0, .int 0, .null, .null, .null, .int 0, .int 0, .null, .null, .null, .null, .null, .null, .null, .null, .null, .null])) : TT X (d + 4) 112 0 [.ref 0, .float 0, .float 0] [] f 1 K (fun f' n' k' z => n' = 171 ∧ k' ≤ K + 7002 ∧ z = none ∧ I112 f') := by
  refine ci_A hf (fun g1 k1 a1 b1 c1 => ?_)
  refine ci_B a1 (fun g2 k2 a2 e2 b2 c2 => ?_)
  refine ci_C a2 (fun g3 k3 a3 e3 b3 c3 => ?_)
  refine ci_D a3 (fun g4 k4 a4 e4 b4 c4 => ?_)
  refine ci_E a4 (fun g5 k5 a5 e5 b5 c5 => ?_)
  refine (ci_F a5).mono ?_
  rintro f' n' k' z ⟨h1, h2, h3, h4, h5, h6, h7⟩
  refine ⟨h1, by omega, h3, h4, b1.fr (fun b p1 p2 => ?_), b2.fr (fun b p1 p2 => ?_), b3.fr (fun b p1 p2 => ?_), ?_, b5.fr (fun b p1 p2 => h5 b (by omega) (by omega)), h6, h7⟩
  · rw [h5 b (by omega) (by omega), e5 b (by omega) (by omega), e4 b (by omega) (by omega), e3 b (by omega) (by omega), e2 b (by omega) (by omega)]
  · rw [h5 b (by omega) (by omega), e5 b (by omega) (by omega), e4 b (by omega) (by omega), e3 b (by omega) (by omega)]
  · rw [h5 b (by omega) (by omega), e5 b (by omega) (by omega), e4 b (by omega) (by omega)]
  · rw [h5 89 (by omega) (by omega), e5 89 (by omega) (by omega)]; exact b4
end CTOR
