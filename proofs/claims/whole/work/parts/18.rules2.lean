/-! equations of the triple: fields written, other arrays, lengths, cells made, calls -/
section TTR2
variable {X : Nat × (Nat → Int32)} {d mi pc n k : Nat} {lv st : List Value} {f : Nat → e_C} {Q : t_Q}
theorem tt_pf {a ci j idx : Nat} {v : Value} {q : vw_C × (Nat → FieldType) × List Value} {ty : FieldType} (hc : e_cd mi pc = some (.putfield idx, 3)) (hf : e_fd (e_ow mi) idx = some (ci, j)) (hq : e_K[ci]? = some q) (hty : q.2.1 j = ty) (hfin : (q.1.2.1 j).2.2.2 = false ∨ (e_ni mi = true ∧ e_ow mi = ci)) : TT X d mi pc lv (v :: .ref a :: st) f n k Q = ((fld (f a) ci j).isSome = true ∧ e_pok ty v = true ∧ TT X d mi (pc + 3) lv st (va_up f a (sfl (f a) j v)) n k Q) := by
  subst hty
  have hr : e_re mi (.putfield idx) (v :: .ref a :: st) = none := by
    cases v <;> rfl
  by_cases h1 : (fld (f a) ci j).isSome = true
  · rw [eq_true h1, true_and]
    have h1' := h1
    unfold fld at h1'
    split at h1'
    · next c2 fs hfa =>
      split at h1'
      · next hcc =>
        have hj : j < fs.length := by
          cases hfs : fs[j]? with
          | none => rw [hfs] at h1'; cases h1'
          | some w => exact (List.getElem?_eq_some_iff.mp hfs).1
        subst hcc
        by_cases h2 : e_pok (q.2.1 j) v = true
        · rw [eq_true h2, true_and]
          refine tt_st hc hr ?_
          simp only [e_st, e_pf, hf, hfa, hq, sfl]
          rw [if_pos ⟨trivial, hj, h2, hfin⟩]
        · rw [eq_false h2, false_and]
          refine tt_no hc hr ?_ rfl
          simp only [e_st, e_pf, hf, hfa, hq]
          rw [if_neg (fun z => h2 z.2.2.1)]
      · cases h1'
    · cases h1'
  · rw [eq_false h1, false_and]
    refine tt_no hc hr ?_ rfl
    simp only [e_st, e_pf, hf, hq]
    split
    · next c2 fs q2 hfa hq2 =>
      split
      · next hh =>
        exfalso
        apply h1
        simp only [fld, hfa, hh.1, if_true]
        rw [List.getElem?_eq_getElem hh.2.1]
        rfl
      · rfl
    · rfl
theorem arB_inv {c : e_C} {m : Nat} {g : Nat → Int32} (hv : arB c = some (m, g)) : c = .inl (.byte, m, .inl g) := by
  unfold arB at hv
  split at hv
  · cases hv; rfl
  · cases hv
theorem arZ_inv {c : e_C} {m : Nat} {g : Nat → Int32} (hv : arZ c = some (m, g)) : c = .inl (.boolean, m, .inl g) := by
  unfold arZ at hv
  split at hv
  · cases hv; rfl
  · cases hv
theorem arI_inv {c : e_C} {m : Nat} {g : Nat → Int32} (hv : arI c = some (m, g)) : c = .inl (.int, m, .inl g) := by
  unfold arI at hv
  split at hv
  · cases hv; rfl
  · cases hv
theorem arL_inv {c : e_C} {m : Nat} {g : Nat → Int64} (hv : arL c = some (m, g)) : c = .inl (.long, m, .inr (.inl g)) := by
  unfold arL at hv
  split at hv
  · cases hv; rfl
  · cases hv
theorem arR_inv {c : e_C} {C : String} {m : Nat} {g : Nat → Option Nat} (hv : arR c C = some (m, g)) : c = .inl (.object C, m, .inr (.inr (.inr (.inr g)))) := by
  unfold arR at hv
  split at hv
  · split at hv
    · next h => cases hv; rw [h]
    · cases hv
  · cases hv
/-- of the following arrays it is enough to know that they are there -/
theorem tt_bald {a m : Nat} {i : Int32} {g : Nat → Int32} (hc : e_cd mi pc = some (.baload, 1)) (ha : arB (f a) = some (m, g)) : TT X d mi pc lv (.int i :: .ref a :: st) f n k Q = (e_in i m = true ∧ TT X d mi (pc + 1) lv (.int (g i.toNatClampNeg) :: st) f n k Q) := by
  have hfa := arB_inv ha
  by_cases hin : e_in i m = true
  · rw [eq_true hin, true_and]
    exact tt_st hc rfl (by simp only [e_st, e_bald, hfa, hin, if_true])
  · rw [eq_false hin, false_and]
    exact tt_no hc rfl (by simp only [e_st, e_bald, hfa, hin]; rfl) rfl
theorem tt_zald {a m : Nat} {i : Int32} {g : Nat → Int32} (hc : e_cd mi pc = some (.baload, 1)) (ha : arZ (f a) = some (m, g)) : TT X d mi pc lv (.int i :: .ref a :: st) f n k Q = (e_in i m = true ∧ TT X d mi (pc + 1) lv (.int (g i.toNatClampNeg) :: st) f n k Q) := by
  have hfa := arZ_inv ha
  by_cases hin : e_in i m = true
  · rw [eq_true hin, true_and]
    exact tt_st hc rfl (by simp only [e_st, e_bald, hfa, hin, if_true])
  · rw [eq_false hin, false_and]
    exact tt_no hc rfl (by simp only [e_st, e_bald, hfa, hin]; rfl) rfl
theorem tt_bast {a m : Nat} {i x : Int32} {g : Nat → Int32} (hc : e_cd mi pc = some (.bastore, 1)) (ha : arB (f a) = some (m, g)) : TT X d mi pc lv (.int x :: .int i :: .ref a :: st) f n k Q = (e_in i m = true ∧ TT X d mi (pc + 1) lv st (va_up f a (.inl (.byte, m, .inl (upd g i.toNatClampNeg (vp_nar .byte x))))) n k Q) := by
  have hfa := arB_inv ha
  by_cases hin : e_in i m = true
  · rw [eq_true hin, true_and]
    exact tt_st hc rfl (by simp only [e_st, e_bast, hfa, hin, if_true])
  · rw [eq_false hin, false_and]
    exact tt_no hc rfl (by simp only [e_st, e_bast, hfa, hin]; rfl) rfl
theorem tt_zast {a m : Nat} {i x : Int32} {g : Nat → Int32} (hc : e_cd mi pc = some (.bastore, 1)) (ha : arZ (f a) = some (m, g)) : TT X d mi pc lv (.int x :: .int i :: .ref a :: st) f n k Q = (e_in i m = true ∧ TT X d mi (pc + 1) lv st (va_up f a (.inl (.boolean, m, .inl (upd g i.toNatClampNeg (vp_nar .boolean x))))) n k Q) := by
  have hfa := arZ_inv ha
  by_cases hin : e_in i m = true
  · rw [eq_true hin, true_and]
    exact tt_st hc rfl (by simp only [e_st, e_bast, hfa, hin, if_true])
  · rw [eq_false hin, false_and]
    exact tt_no hc rfl (by simp only [e_st, e_bast, hfa, hin]; rfl) rfl
theorem tt_lald {a : Nat} {i : Int32} (hc : e_cd mi pc = some (.laload, 1)) : TT X d mi pc lv (.int i :: .ref a :: st) f n k Q = ow (arL (f a)) (fun q => e_in i q.1 = true ∧ TT X d mi (pc + 1) lv (.long (q.2 i.toNatClampNeg) :: st) f n k Q) := by
  cases hv : arL (f a) with
  | some q =>
    obtain ⟨m, g⟩ := q
    have hfa := arL_inv hv
    simp only [ow]
    by_cases hin : e_in i m = true
    · rw [eq_true hin, true_and]
      exact tt_st hc rfl (by simp only [e_st, e_lald, hfa, hin, if_true])
    · rw [eq_false hin, false_and]
      exact tt_no hc rfl (by simp only [e_st, e_lald, hfa, hin]; rfl) rfl
  | none =>
    refine tt_no hc rfl ?_ rfl
    simp only [e_st, e_lald]
    split
    · next m g hfa => rw [hfa] at hv; cases hv
    · rfl
theorem tt_last {a : Nat} {i : Int32} {x : Int64} (hc : e_cd mi pc = some (.lastore, 1)) : TT X d mi pc lv (.long x :: .int i :: .ref a :: st) f n k Q = ow (arL (f a)) (fun q => e_in i q.1 = true ∧ TT X d mi (pc + 1) lv st (va_up f a (.inl (.long, q.1, .inr (.inl (vp_updL q.2 i.toNatClampNeg x))))) n k Q) := by
  cases hv : arL (f a) with
  | some q =>
    obtain ⟨m, g⟩ := q
    have hfa := arL_inv hv
    simp only [ow]
    by_cases hin : e_in i m = true
    · rw [eq_true hin, true_and]
      exact tt_st hc rfl (by simp only [e_st, e_last, hfa, hin, if_true])
    · rw [eq_false hin, false_and]
      exact tt_no hc rfl (by simp only [e_st, e_last, hfa, hin]; rfl) rfl
  | none =>
    refine tt_no hc rfl ?_ rfl
    simp only [e_st, e_last]
    split
    · next m g hfa => rw [hfa] at hv; cases hv
    · rfl
theorem tt_aald {a m : Nat} {i : Int32} {C : String} {g : Nat → Option Nat} (hc : e_cd mi pc = some (.aaload, 1)) (hok : e_okT (.object C) = true) (ha : arR (f a) C = some (m, g)) : TT X d mi pc lv (.int i :: .ref a :: st) f n k Q = (e_in i m = true ∧ TT X d mi (pc + 1) lv (va_rf (g i.toNatClampNeg) :: st) f n k Q) := by
  have hfa := arR_inv ha
  by_cases hin : e_in i m = true
  · rw [eq_true hin, true_and]
    exact tt_st hc rfl (by simp only [e_st, e_aald, hfa, hin, hok]; rfl)
  · rw [eq_false hin, false_and]
    exact tt_no hc rfl (by simp only [e_st, e_aald, hfa]; rw [if_neg (fun z => hin z.1)]) rfl
theorem tt_aast {a v m ci : Nat} {i : Int32} {C : String} {g : Nat → Option Nat} {q : vw_C × (Nat → FieldType) × List Value} (hc : e_cd mi pc = some (.aastore, 1)) (hok : e_okT (.object C) = true) (hq : e_K[ci]? = some q) (hC : C = q.1.1) (ha : arR (f a) C = some (m, g)) (hv : cno (f v) = some ci) : TT X d mi pc lv (.ref v :: .int i :: .ref a :: st) f n k Q = (e_in i m = true ∧ TT X d mi (pc + 1) lv st (va_up f a (.inl (.object C, m, .inr (.inr (.inr (.inr (va_up g i.toNatClampNeg (some v)))))))) n k Q) := by
  have hfa := arR_inv ha
  have hfv : ∃ fs, f v = .inr (ci, fs) := by
    unfold cno at hv
    split at hv
    · next c2 fs h => cases hv; exact ⟨fs, h⟩
    · cases hv
  obtain ⟨fs, hfv⟩ := hfv
  by_cases hin : e_in i m = true
  · rw [eq_true hin, true_and]
    exact tt_st hc rfl (by simp only [e_st, e_aast, hfa, hfv, hq]; rw [if_pos ⟨hin, hok, hC⟩])
  · rw [eq_false hin, false_and]
    exact tt_no hc rfl (by simp only [e_st, e_aast, hfa, hfv, hq]; rw [if_neg (fun z => hin z.1)]) rfl
theorem tt_alen {a : Nat} {ty : FieldType} {x : vp_A} (hc : e_cd mi pc = some (.arraylength, 1)) (ha : f a = .inl (ty, x)) (hok : e_okT ty = true) : TT X d mi pc lv (.ref a :: st) f n k Q = TT X d mi (pc + 1) lv (.int (nI x.1) :: st) f n k Q :=
  tt_st hc rfl (by simp only [e_st, e_alen, ha, hok, if_true]; rfl)
theorem tt_newa {m : Nat} {at0 : ArrayType} {ty : FieldType} {z : Nat → vp_A} (hc : e_cd mi pc = some (.newarray at0, 2)) (hs : ∀ (x : Int32) (r : List Value), e_st X (e_ow mi) (e_ni mi) pc (.newarray at0) lv (.int x :: r) (f, n, k) = e_newa (pc + 2) lv (.int x :: r) (f, n, k) ty z) (hm : m ≤ 65536) : TT X d mi pc lv (.int (nI m) :: st) f n k Q = TT X d mi (pc + 2) lv (.ref n :: st) (va_up f n (.inl (ty, z m))) (n + 1) (k + m) Q := by
  refine tt_st hc rfl ?_
  rw [hs]
  have h1 : (nI m).toNatClampNeg = m := nI_clamp (by omega)
  simp only [e_newa, h1]
  rw [if_pos ⟨nI_pos (by omega), hm⟩]
/-- a call of a method with a receiver -/
theorem e_cp_v {own kind idx cm ci a : Nat} {as rest : List Value} {r : e_R} (hrs : e_rs own idx = some (cm, kind)) (hm : e_rc cm = some r) (hk : kind = 1 ∨ kind = 2) (hna : r.2.2.2.2.2.1 = as.length) (hci : r.2.2.2.2.1 = ci) (hc13 : ci < 13) (hcl : cno (f a) = some ci) (hcat : e_cat rest ≤ 8) (hal : e_al (.ref a :: as) ≤ r.2.2.1) : e_cp own kind idx (as.reverse ++ .ref a :: rest) (f, n, k) = some (cm, .ref a :: as, rest) := by
  have hfa : ∃ fs, f a = .inr (ci, fs) := by
    unfold cno at hcl
    split at hcl
    · next c2 fs h => cases hcl; exact ⟨fs, h⟩
    · cases hcl
  obtain ⟨fs, hfa⟩ := hfa
  have h1 : (as.reverse ++ Value.ref a :: rest).take as.length = as.reverse := by
    rw [← List.length_reverse]; exact List.take_left
  have h2 : (as.reverse ++ Value.ref a :: rest).drop as.length = Value.ref a :: rest := by
    rw [← List.length_reverse]; exact List.drop_left
  have h0 : e_cp0 own kind idx (as.reverse ++ .ref a :: rest) (f, n, k) = some (cm, .ref a :: as, rest) := by
    unfold e_cp0
    simp only [hrs, hm]
    rw [if_pos ⟨trivial, by omega, by rw [hna, List.length_append, List.length_reverse]; omega⟩, if_neg (by omega), hna, h2]
    simp only [hfa]
    rw [if_pos ⟨hcat, hci.symm, hc13⟩, h1, List.reverse_reverse]
  unfold e_cp
  rw [h0]
  simp only [hm]
  rw [if_pos hal]
theorem e_cp_s {own idx cm : Nat} {as rest : List Value} {r : e_R} (hrs : e_rs own idx = some (cm, 0)) (hm : e_rc cm = some r) (hna : r.2.2.2.2.2.1 = as.length) (hcat : e_cat rest ≤ 8) (hal : e_al as ≤ r.2.2.1) : e_cp own 0 idx (as.reverse ++ rest) (f, n, k) = some (cm, as, rest) := by
  have h1 : (as.reverse ++ rest).take as.length = as.reverse := by
    rw [← List.length_reverse]; exact List.take_left
  have h2 : (as.reverse ++ rest).drop as.length = rest := by
    rw [← List.length_reverse]; exact List.drop_left
  have h0 : e_cp0 own 0 idx (as.reverse ++ rest) (f, n, k) = some (cm, as, rest) := by
    unfold e_cp0
    simp only [hrs, hm]
    rw [if_pos ⟨trivial, by omega, by rw [hna, List.length_append, List.length_reverse]; omega⟩, if_pos trivial, hna, h1, h2, if_pos hcat, List.reverse_reverse]
  unfold e_cp
  rw [h0]
  simp only [hm]
  rw [if_pos hal]
end TTR2
