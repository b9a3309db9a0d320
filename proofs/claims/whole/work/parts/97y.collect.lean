/-! the class: who is served, collected -/
def EV (f : Nat → e_C) (mm kk : Int32) (A O : Nat) (sb cb ra oa : Nat → Int32) : Prop := (fld (f 136) 7 0 = some (.ref 137) ∧ fld (f 136) 7 1 = some (.ref 144) ∧ fld (f 136) 7 2 = some (.int mm) ∧ fld (f 136) 7 3 = some (.ref 145) ∧ fld (f 136) 7 4 = some (.int kk) ∧ fld (f 136) 7 5 = some (.ref A) ∧ fld (f 136) 7 6 = some (.ref O)) ∧ arI (f 144) = some (9, sb) ∧ arI (f 145) = some (4, cb) ∧ arI (f A) = some (5, ra) ∧ arI (f O) = some (5, oa) ∧ ((A = 146 ∧ O = 147) ∨ (A = 147 ∧ O = 146))
/-- all but the service's own cells stay -/
def SE (f f' : Nat → e_C) : Prop := ∀ b, (b < 136 ∨ (136 < b ∧ b < 144) ∨ 148 ≤ b) → f' b = f b
theorem SE.rf {f : Nat → e_C} : SE f f := fun _ _ => rfl
theorem SE.tr {f g h : Nat → e_C} (h1 : SE f g) (h2 : SE g h) : SE f h := fun b hb => (h2 b hb).trans (h1 b hb)
theorem SE.si {f g : Nat → e_C} {lo hi : Nat} (h : SI lo hi f g) (h1 : 144 ≤ lo) (h2 : hi ≤ 148) : SE f g := fun b hb => h b (by omega)
theorem SE.up {f : Nat → e_C} {b : Nat} {c : e_C} (h : b = 136 ∨ (144 ≤ b ∧ b < 148)) : SE f (va_up f b c) := fun b' hb => vu_ne (by omega)
section EVS
variable {f f' : Nat → e_C} {mm kk z : Int32} {A O : Nat} {sb cb ra oa g : Nat → Int32}
theorem EV.cn (E : EV f mm kk A O sb cb ra oa) : cno (f 136) = some 7 := cno_fld (j := 0) (by rw [E.1.1]; rfl)
theorem EV.set2 (E : EV f mm kk A O sb cb ra oa) : EV (va_up f 136 (sfl (f 136) 2 (.int z))) z kk A O sb cb ra oa := by
  obtain ⟨⟨e0, e1, e2, e3, e4, e5, e6⟩, a1, a2, a3, a4, h⟩ := E
  refine ⟨⟨?_, ?_, ?_, ?_, ?_, ?_, ?_⟩, by rw [vu_ne (by decide)]; exact a1, by rw [vu_ne (by decide)]; exact a2, by rw [vu_ne (by omega)]; exact a3, by rw [vu_ne (by omega)]; exact a4, h⟩
  · rw [vu_eq, fld_sfl_ne (by decide)]; exact e0
  · rw [vu_eq, fld_sfl_ne (by decide)]; exact e1
  · rw [vu_eq]; exact fld_sfl_same (by rw [e2]; rfl)
  · rw [vu_eq, fld_sfl_ne (by decide)]; exact e3
  · rw [vu_eq, fld_sfl_ne (by decide)]; exact e4
  · rw [vu_eq, fld_sfl_ne (by decide)]; exact e5
  · rw [vu_eq, fld_sfl_ne (by decide)]; exact e6
theorem EV.set4 (E : EV f mm kk A O sb cb ra oa) : EV (va_up f 136 (sfl (f 136) 4 (.int z))) mm z A O sb cb ra oa := by
  obtain ⟨⟨e0, e1, e2, e3, e4, e5, e6⟩, a1, a2, a3, a4, h⟩ := E
  refine ⟨⟨?_, ?_, ?_, ?_, ?_, ?_, ?_⟩, by rw [vu_ne (by decide)]; exact a1, by rw [vu_ne (by decide)]; exact a2, by rw [vu_ne (by omega)]; exact a3, by rw [vu_ne (by omega)]; exact a4, h⟩
  · rw [vu_eq, fld_sfl_ne (by decide)]; exact e0
  · rw [vu_eq, fld_sfl_ne (by decide)]; exact e1
  · rw [vu_eq, fld_sfl_ne (by decide)]; exact e2
  · rw [vu_eq, fld_sfl_ne (by decide)]; exact e3
  · rw [vu_eq]; exact fld_sfl_same (by rw [e4]; rfl)
  · rw [vu_eq, fld_sfl_ne (by decide)]; exact e5
  · rw [vu_eq, fld_sfl_ne (by decide)]; exact e6
theorem EV.in1 (E : EV f mm kk A O sb cb ra oa) (s : SI 144 145 f f') (ha : arI (f' 144) = some (9, g)) : EV f' mm kk A O g cb ra oa := by
  obtain ⟨e, a1, a2, a3, a4, h⟩ := E
  refine ⟨by rw [s 136 (by decide)]; exact e, ha, by rw [s 145 (by decide)]; exact a2, by rw [s A (by omega)]; exact a3, by rw [s O (by omega)]; exact a4, h⟩
theorem EV.in2 (E : EV f mm kk A O sb cb ra oa) (s : SI 145 146 f f') (ha : arI (f' 145) = some (4, g)) : EV f' mm kk A O sb g ra oa := by
  obtain ⟨e, a1, a2, a3, a4, h⟩ := E
  refine ⟨by rw [s 136 (by decide)]; exact e, by rw [s 144 (by decide)]; exact a1, ha, by rw [s A (by omega)]; exact a3, by rw [s O (by omega)]; exact a4, h⟩
end EVS
/-- the mate's number, nine for none -/
def mte (all : Nat → Int32) (p : Nat) : Nat := if all (43 + p) = -1 then 9 else (all (43 + p)).toNatClampNeg
theorem mte_sy {all : Nat → Int32} {S R P : Nat} (I : IS all S R P) : ∀ p, p < 9 → mte all p < 9 → mte all (mte all p) = p ∧ mte all p ≠ p ∧ all (43 + p) = nI (mte all p) := by
  intro p hp hm
  rcases I.mt p hp with h | ⟨j, b1, b2, b3, b4, b5⟩
  · unfold mte at hm; rw [if_pos h] at hm; omega
  · have hR := I.1.1.2.2
    have n1 := ne_m1 (m := j) (by omega)
    have n2 := ne_m1 (m := p) (by omega)
    have e1 : mte all p = j := by unfold mte; rw [b4, if_neg (by rw [n1]; exact id), ix_cl (by omega)]
    have e2 : mte all j = p := by unfold mte; rw [b5, if_neg (by rw [n2]; exact id), ix_cl (by omega)]
    rw [e1, e2]
    exact ⟨rfl, b3, b4⟩
theorem m_wed_t {all : Nat → Int32} {p T : Nat} (hT : T < 512) : m_wed all p T = if T.testBit (mte all p) = true then 1 else 0 := by
  unfold m_wed mte
  by_cases h : all (43 + p) = -1
  · rw [if_pos h, if_pos h, if_neg]
    intro hb
    have := tb_9 hT hb
    omega
  · rw [if_neg h, if_neg h]
def CO (all : Nat → Int32) (set q m k : Nat) (gs gc : Nat → Nat) (sb cb : Nat → Int32) : Prop := GH (mte all) set q m k gs gc ∧ m ≤ q ∧ k ≤ 4 ∧ (∀ i, i < m → sb i = all (34 + gs i)) ∧ (∀ j, j < k → cb j = mnI (all (34 + gc j)) (all (34 + mte all (gc j)))) ∧ (∀ i j, i ≤ j → j < m → sb i ≤ sb j) ∧ ∀ i j, i ≤ j → j < k → cb i ≤ cb j
theorem sp_collect {X : Nat × (Nat → Int32)} {d N K a pl C S R P set A O : Nat} {f : Nat → e_C} {x r : Nat → Nat → Int32} {w v all sb cb ra oa : Nat → Int32} {mm kk : Int32} (V : SV f a pl w x) (W : PV f pl v r C) (G : CR all S P w x v r C) (I : IS all S R P) (hd : AD a pl 137) (E : EV f mm kk A O sb cb ra oa) (hs : set < 2 ^ P) {u3 u4 : Value} : TT X (d + 3) 80 0 [.ref 136, .ref a, .int (nI set), u3, u4] [] f N K (fun f' n' k' z => n' = N ∧ k' = K ∧ z = none ∧ SE f f' ∧ ∃ m k gs gc sb' cb', EV f' (nI m) (nI k) A O sb' cb' ra oa ∧ CO all set P m k gs gc sb' cb') := by
  have h9 := I.p9
  have hs5 : set < 512 := Nat.lt_of_lt_of_le hs (pw9 h9)
  have hP : w 1 = nI P := by rw [G.w1]; exact I.eP
  have i2 : (fld (f 136) 7 2).isSome = true := by rw [E.1.2.2.1]; rfl
  simp (disch := first | omega | decide | assumption | exact Nat.le_of_ble_eq_true rfl) only [s80_0, s80_1, s80_2, ow_some, true_and, and_true, and_self, if_true, if_false, not_true, not_false_eq_true, Bool.false_eq_true, eq_self, Option.toList, List.cons_append, List.nil_append, ix_in, ix_cl, lt_in, lt_cl, lt_add, ix_one, vu_eq, vu_ne, arI_mk, arL_mk, arY_mZ, arY_mB, alen_mI, fld_sfl_ne, fld_sfl_same, Option.isSome_some, pok_i, b1z, b01, z10, b1o, Int32.zero_add, vu_vu, upd_eq, upd_ne, true_or, or_true, i2]
  have E1 := E.set2 (z := 0)
  have s1 : SE f (va_up f 136 (sfl (f 136) 2 (.int 0))) := SE.up (Or.inl rfl)
  generalize va_up f 136 (sfl (f 136) 2 (.int 0)) = f1 at E1 s1 ⊢
  have i4 : (fld (f1 136) 7 4).isSome = true := by rw [E1.1.2.2.2.2.1]; rfl
  simp (disch := first | omega | decide | assumption | exact Nat.le_of_ble_eq_true rfl) only [s80_5, s80_6, s80_7, s80_10, h80_11, ow_some, true_and, and_true, and_self, if_true, if_false, not_true, not_false_eq_true, Bool.false_eq_true, eq_self, Option.toList, List.cons_append, List.nil_append, ix_in, ix_cl, lt_in, lt_cl, lt_add, ix_one, vu_eq, vu_ne, arI_mk, arL_mk, arY_mZ, arY_mB, alen_mI, fld_sfl_ne, fld_sfl_same, Option.isSome_some, pok_i, b1z, b01, z10, b1o, Int32.zero_add, vu_vu, upd_eq, upd_ne, true_or, or_true, i4]
  have E2 := E1.set4 (z := 0)
  have s2 : SE f (va_up f1 136 (sfl (f1 136) 4 (.int 0))) := s1.tr (SE.up (Or.inl rfl))
  generalize va_up f1 136 (sfl (f1 136) 4 (.int 0)) = f2 at E2 s2 ⊢
  have co0 : CO all set 0 0 0 (fun _ => 0) (fun _ => 0) sb cb := ⟨⟨fun i hi => by omega, fun i hi => by omega, fun p hp => by omega, fun p hp => by omega, fun i j hi => by omega, fun i j hi => by omega⟩, by omega, by omega, fun i hi => by omega, fun i hi => by omega, fun i j _ hi => by omega, fun i j _ hi => by omega⟩
  refine lp (fun p e (z : Nat × Nat × (Nat → Nat) × (Nat → Nat) × (Nat → Int32) × (Nat → Int32) × Value) => SE f e ∧ EV e (nI z.1) (nI z.2.1) A O z.2.2.2.2.1 z.2.2.2.2.2.1 ra oa ∧ CO all set p z.1 z.2.1 z.2.2.1 z.2.2.2.1 z.2.2.2.2.1 z.2.2.2.2.2.1) (fun p z => [.ref 136, .ref a, .int (nI set), .int (nI p), z.2.2.2.2.2.2]) P ?_ ?_ 0 f2 (0, 0, fun _ => 0, fun _ => 0, sb, cb, u4) (by omega) ⟨s2, E2, co0⟩
  · rintro p e ⟨m, k, gs, gc, tb, db, u⟩ hp ⟨t1, F1, Gh, hmq, hk4, hsb, hcb, so, co⟩ hI
    dsimp only at F1 Gh hmq hk4 hsb hcb so co hI ⊢
    have V1 := V.fr (f' := e) (fun b h1 h2 => t1 b (by omega))
    have W1 := W.fr (f' := e) (fun b h1 h2 => t1 b (by omega))
    have hc : (P ≤ p) = False := eq_false (by omega)
    have hbit := bit_has set hs5 p (by omega)
    have hr8 := G.r8 (p := p) (by omega)
    have hr9 := G.r9 (p := p) (by omega)
    obtain ⟨⟨e0, e1, e2, e3, e4, e5, e6⟩, a1, a2, a3, a4, hAO⟩ := id F1
    by_cases hb : set.testBit p = true
    · have hb' : (¬ set.testBit p = true) = False := eq_false (fun z => z hb)
      simp (disch := first | omega | decide | assumption | exact Nat.le_of_ble_eq_true rfl) only [s80_12, s80_13, s80_14, s80_17, s80_20, s80_21, s80_22, s80_23, s80_24, s80_25, s80_28, s80_29, s80_32, s80_35, s80_36, s80_37, s80_39, s80_40, s80_41, ow_some, true_and, and_true, and_self, if_true, if_false, not_true, not_false_eq_true, Bool.false_eq_true, eq_self, Option.toList, List.cons_append, List.nil_append, ix_in, ix_cl, lt_in, lt_cl, lt_add, ix_one, vu_eq, vu_ne, arI_mk, arL_mk, arY_mZ, arY_mB, alen_mI, fld_sfl_ne, fld_sfl_same, Option.isSome_some, pok_i, b1z, b01, z10, b1o, Int32.zero_add, vu_vu, upd_eq, upd_ne, true_or, or_true, V1.v1, V1.v6, V1.v7, V1.v8, V1.v9, V1.i1, V1.i6, V1.i7, V1.i8, V1.i9, V1.r2, V1.r3, V1.r4, V1.r5, V1.pl, V1.a2, V1.a3, V1.a4, V1.a5, W1.v0, W1.v3, W1.v10, W1.v11, W1.v12, W1.v14, W1.v15, W1.v16, W1.v17, W1.v18, W1.r1, W1.r2, W1.r4, W1.r5, W1.r6, W1.r7, W1.r8, W1.r9, W1.r13, W1.a1, W1.a2, W1.a4, W1.a5, W1.a6, W1.a7, W1.a8, W1.a9, W1.a13, hP, ix_le, hc, hbit, hb', hr9]
      rw [p80_42 V1.cn (Nat.le_of_ble_eq_true rfl) (sp_wed V1 W1 (fun p hp => G.r9 hp) (by omega) (I.m9 (by omega)) hs5), m_wed_t hs5]
      by_cases hw : set.testBit (mte all p) = true
      · have hm9 := tb_9 hs5 hw
        obtain ⟨y1, y2, y3⟩ := mte_sy I p (by omega) hm9
        rw [if_pos hw]
        by_cases hl : p < mte all p
        · have hl' : (nI (mte all p) ≤ nI p) = False := by rw [ix_le (by omega) (by omega)]; exact eq_false (by omega)
          have hk : k < 4 := Gh.cpl (fun p a b => (mte_sy I p a b).1) hs5 (by omega) hb hw hl
          have hk' : (4 ≤ nI k) = False := by rw [Int32.le_iff_toInt_le, nI_toInt (by omega)]; exact eq_false (by show ¬ (4 : Int) ≤ k; omega)
          have hr8m := G.r8 (p := mte all p) hm9
          simp (disch := first | omega | decide | assumption | exact Nat.le_of_ble_eq_true rfl) only [s80_45, s80_81, s80_82, s80_84, s80_87, s80_88, s80_91, s80_92, s80_95, s80_96, s80_99, s80_100, s80_103, s80_104, s80_107, s80_110, s80_111, s80_112, s80_113, s80_116, s80_119, s80_121, ow_some, true_and, and_true, and_self, if_true, if_false, not_true, not_false_eq_true, Bool.false_eq_true, eq_self, Option.toList, List.cons_append, List.nil_append, ix_in, ix_cl, lt_in, lt_cl, lt_add, ix_one, vu_eq, vu_ne, arI_mk, arL_mk, arY_mZ, arY_mB, alen_mI, fld_sfl_ne, fld_sfl_same, Option.isSome_some, pok_i, b1z, b01, z10, b1o, Int32.zero_add, vu_vu, upd_eq, upd_ne, true_or, or_true, V1.v1, V1.v6, V1.v7, V1.v8, V1.v9, V1.i1, V1.i6, V1.i7, V1.i8, V1.i9, V1.r2, V1.r3, V1.r4, V1.r5, V1.pl, V1.a2, V1.a3, V1.a4, V1.a5, W1.v0, W1.v3, W1.v10, W1.v11, W1.v12, W1.v14, W1.v15, W1.v16, W1.v17, W1.v18, W1.r1, W1.r2, W1.r4, W1.r5, W1.r6, W1.r7, W1.r8, W1.r9, W1.r13, W1.a1, W1.a2, W1.a4, W1.a5, W1.a6, W1.a7, W1.a8, W1.a9, W1.a13, y3, hl', e3, e4, hk', hr8, hr8m]
          rw [p80_122 (Nat.le_of_ble_eq_true rfl) sp_min]
          refine k80_125 (Nat.le_of_ble_eq_true rfl) (sp_insert (by decide) a2 hk) ?_
          rintro g n1 k1 v1 ⟨rfl, rfl, rfl, t2, db', ha, hin⟩
          have F2 := F1.in2 t2 ha
          have i4 : (fld (g 136) 7 4).isSome = true := by rw [F2.1.2.2.2.2.1]; rfl
          have f4 := F2.1.2.2.2.2.1
          obtain ⟨gc', q1, q2, q3, q4, q5, q6⟩ := ins_gh (F := fun j => mnI (all (34 + j)) (all (34 + mte all j))) hin hcb rfl co
          simp (disch := first | omega | decide | assumption | exact Nat.le_of_ble_eq_true rfl) only [s80_128, s80_129, s80_129i, s80_130, s80_133, s80_134, s80_135, s80_138, h80_141, ow_some, true_and, and_true, and_self, if_true, if_false, not_true, not_false_eq_true, Bool.false_eq_true, eq_self, Option.toList, List.cons_append, List.nil_append, ix_in, ix_cl, lt_in, lt_cl, lt_add, ix_one, vu_eq, vu_ne, arI_mk, arL_mk, arY_mZ, arY_mB, alen_mI, fld_sfl_ne, fld_sfl_same, Option.isSome_some, pok_i, b1z, b01, z10, b1o, Int32.zero_add, vu_vu, upd_eq, upd_ne, true_or, or_true, f4, i4]
          exact hI _ (m, k + 1, gs, gc', tb, db', _) ⟨(t1.tr (SE.si t2 (by decide) (by decide))).tr (SE.up (Or.inl rfl)), F2.set4, Gh.two hb hw hl q3 q4 q5 q6, by omega, hk, hsb, q1, so, q2⟩
        · have hl' : (nI (mte all p) ≤ nI p) = True := by rw [ix_le (by omega) (by omega)]; exact eq_true (by omega)
          simp (disch := first | omega | decide | assumption | exact Nat.le_of_ble_eq_true rfl) only [s80_45, s80_81, s80_82, s80_84, s80_138, h80_141, ow_some, true_and, and_true, and_self, if_true, if_false, not_true, not_false_eq_true, Bool.false_eq_true, eq_self, Option.toList, List.cons_append, List.nil_append, ix_in, ix_cl, lt_in, lt_cl, lt_add, ix_one, vu_eq, vu_ne, arI_mk, arL_mk, arY_mZ, arY_mB, alen_mI, fld_sfl_ne, fld_sfl_same, Option.isSome_some, pok_i, b1z, b01, z10, b1o, Int32.zero_add, vu_vu, upd_eq, upd_ne, true_or, or_true, V1.v1, V1.v6, V1.v7, V1.v8, V1.v9, V1.i1, V1.i6, V1.i7, V1.i8, V1.i9, V1.r2, V1.r3, V1.r4, V1.r5, V1.pl, V1.a2, V1.a3, V1.a4, V1.a5, W1.v0, W1.v3, W1.v10, W1.v11, W1.v12, W1.v14, W1.v15, W1.v16, W1.v17, W1.v18, W1.r1, W1.r2, W1.r4, W1.r5, W1.r6, W1.r7, W1.r8, W1.r9, W1.r13, W1.a1, W1.a2, W1.a4, W1.a5, W1.a6, W1.a7, W1.a8, W1.a9, W1.a13, y3, hl']
          exact hI _ (m, k, gs, gc, tb, db, _) ⟨t1, F1, Gh.skip (fun h => by rw [hw] at h; exact absurd h.2 (by decide)) (fun h => hl h.2.2), by omega, hk4, hsb, hcb, so, co⟩
      · rw [if_neg hw]
        simp (disch := first | omega | decide | assumption | exact Nat.le_of_ble_eq_true rfl) only [s80_45, s80_48, s80_49, s80_52, s80_53, s80_56, s80_57, s80_60, s80_63, s80_64, ow_some, true_and, and_true, and_self, if_true, if_false, not_true, not_false_eq_true, Bool.false_eq_true, eq_self, Option.toList, List.cons_append, List.nil_append, ix_in, ix_cl, lt_in, lt_cl, lt_add, ix_one, vu_eq, vu_ne, arI_mk, arL_mk, arY_mZ, arY_mB, alen_mI, fld_sfl_ne, fld_sfl_same, Option.isSome_some, pok_i, b1z, b01, z10, b1o, Int32.zero_add, vu_vu, upd_eq, upd_ne, true_or, or_true, V1.v1, V1.v6, V1.v7, V1.v8, V1.v9, V1.i1, V1.i6, V1.i7, V1.i8, V1.i9, V1.r2, V1.r3, V1.r4, V1.r5, V1.pl, V1.a2, V1.a3, V1.a4, V1.a5, W1.v0, W1.v3, W1.v10, W1.v11, W1.v12, W1.v14, W1.v15, W1.v16, W1.v17, W1.v18, W1.r1, W1.r2, W1.r4, W1.r5, W1.r6, W1.r7, W1.r8, W1.r9, W1.r13, W1.a1, W1.a2, W1.a4, W1.a5, W1.a6, W1.a7, W1.a8, W1.a9, W1.a13, e1, e2, hr8]
        refine k80_65 (Nat.le_of_ble_eq_true rfl) (sp_insert (by decide) a1 (by omega)) ?_
        rintro g n1 k1 v1 ⟨rfl, rfl, rfl, t2, tb', ha, hin⟩
        have F2 := F1.in1 t2 ha
        have i2 : (fld (g 136) 7 2).isSome = true := by rw [F2.1.2.2.1]; rfl
        have f4 := F2.1.2.2.1
        obtain ⟨gs', q1, q2, q3, q4, q5, q6⟩ := ins_gh (F := fun j => all (34 + j)) hin hsb rfl so
        simp (disch := first | omega | decide | assumption | exact Nat.le_of_ble_eq_true rfl) only [s80_68, s80_69, s80_69i, s80_70, s80_73, s80_74, s80_75, s80_78, s80_138, h80_141, ow_some, true_and, and_true, and_self, if_true, if_false, not_true, not_false_eq_true, Bool.false_eq_true, eq_self, Option.toList, List.cons_append, List.nil_append, ix_in, ix_cl, lt_in, lt_cl, lt_add, ix_one, vu_eq, vu_ne, arI_mk, arL_mk, arY_mZ, arY_mB, alen_mI, fld_sfl_ne, fld_sfl_same, Option.isSome_some, pok_i, b1z, b01, z10, b1o, Int32.zero_add, vu_vu, upd_eq, upd_ne, true_or, or_true, f4, i2]
        exact hI _ (m + 1, k, gs', gc, tb', db, _) ⟨(t1.tr (SE.si t2 (by decide) (by decide))).tr (SE.up (Or.inl rfl)), F2.set2, Gh.one hb (Bool.eq_false_iff.mpr hw) q3 q4 q5 q6, by omega, hk4, q1, hcb, q2, co⟩
    · have hb' : (¬ set.testBit p = true) = True := eq_true hb
      simp (disch := first | omega | decide | assumption | exact Nat.le_of_ble_eq_true rfl) only [s80_12, s80_13, s80_14, s80_17, s80_20, s80_21, s80_22, s80_23, s80_24, s80_25, s80_138, h80_141, ow_some, true_and, and_true, and_self, if_true, if_false, not_true, not_false_eq_true, Bool.false_eq_true, eq_self, Option.toList, List.cons_append, List.nil_append, ix_in, ix_cl, lt_in, lt_cl, lt_add, ix_one, vu_eq, vu_ne, arI_mk, arL_mk, arY_mZ, arY_mB, alen_mI, fld_sfl_ne, fld_sfl_same, Option.isSome_some, pok_i, b1z, b01, z10, b1o, Int32.zero_add, vu_vu, upd_eq, upd_ne, true_or, or_true, V1.v1, V1.v6, V1.v7, V1.v8, V1.v9, V1.i1, V1.i6, V1.i7, V1.i8, V1.i9, V1.r2, V1.r3, V1.r4, V1.r5, V1.pl, V1.a2, V1.a3, V1.a4, V1.a5, W1.v0, W1.v3, W1.v10, W1.v11, W1.v12, W1.v14, W1.v15, W1.v16, W1.v17, W1.v18, W1.r1, W1.r2, W1.r4, W1.r5, W1.r6, W1.r7, W1.r8, W1.r9, W1.r13, W1.a1, W1.a2, W1.a4, W1.a5, W1.a6, W1.a7, W1.a8, W1.a9, W1.a13, hP, ix_le, hc, hbit, hb']
      exact hI _ (m, k, gs, gc, tb, db, u) ⟨t1, F1, Gh.skip (fun h => hb h.1) (fun h => hb h.1), by omega, hk4, hsb, hcb, so, co⟩
  · rintro e ⟨m, k, gs, gc, tb, db, u⟩ ⟨t1, F1, Co⟩
    have V1 := V.fr (f' := e) (fun b h1 h2 => t1 b (by omega))
    simp (disch := first | omega | decide | assumption | exact Nat.le_of_ble_eq_true rfl) only [s80_12, s80_13, s80_14, s80_17, s80_144, ow_some, true_and, and_true, and_self, if_true, if_false, not_true, not_false_eq_true, Bool.false_eq_true, eq_self, Option.toList, List.cons_append, List.nil_append, ix_in, ix_cl, lt_in, lt_cl, lt_add, ix_one, vu_eq, vu_ne, arI_mk, arL_mk, arY_mZ, arY_mB, alen_mI, fld_sfl_ne, fld_sfl_same, Option.isSome_some, pok_i, b1z, b01, z10, b1o, Int32.zero_add, vu_vu, upd_eq, upd_ne, true_or, or_true, V1.v1, V1.v6, V1.v7, V1.v8, V1.v9, V1.i1, V1.i6, V1.i7, V1.i8, V1.i9, V1.r2, V1.r3, V1.r4, V1.r5, V1.pl, V1.a2, V1.a3, V1.a4, V1.a5, hP, ix_le, Nat.le_refl]
    exact ⟨t1, m, k, gs, gc, tb, db, F1, Co⟩
