/-! the class's reader at a token of the text -/
def GA (f : Nat → e_C) (b L : Nat) (kk pp : Nat → Int32) (T : Nat) (tx : Nat → Int32) (c0 : Cu) (t : Nat) (c : Cu) (wt : Int32) (v : Nat → Int32) (r : Nat → Nat → Int32) : Prop := GS f b L kk pp T t wt v r ∧ t < T ∧ tk tx L c0 t = c
def facC (wt z : Int32) : Int32 := if z.toInt = 117 then 0 else if z.toInt = 105 then 1 else if z.toInt = 106 then 2 else if z.toInt = 118 then 3 else if z.toInt = 113 then 4 else if z.toInt = 119 then 5 else if z.toInt = 120 then (if wt = 0 then -1 else 6) else -1
theorem fac_kv : ∀ k ∈ kvl, facC 0 (ckt (nI k)) = wrd 0 (nI k) ∧ facC 1 (ckt (nI k)) = wrd 1 (nI k) := by decide +kernel
theorem fac_wrd {c : Cu} {rd : Int32} (h : kvd c) (hr : rd = 0 ∨ rd = 1) : facC rd (ck c) = wrd rd c.2.2.1 := by
  by_cases h23 : c.2.2.1 = 23
  · obtain ⟨q, q1, q2, q3⟩ := ck_num h h23
    rw [q3, h23]
    have : (nI (1000 + q)).toInt = 1000 + q := by rw [nI_toInt (by omega)]; omega
    unfold facC
    rw [this, if_neg (by omega), if_neg (by omega), if_neg (by omega), if_neg (by omega), if_neg (by omega), if_neg (by omega), if_neg (by omega)]
    rfl
  · obtain ⟨j, j1, j2, j3⟩ := ck_oth h h23
    rw [j3, j2]
    rcases hr with rfl | rfl
    · exact (fac_kv j j1).1
    · exact (fac_kv j j1).2
section RD
variable {X : Nat × (Nat → Int32)} {d N K : Nat} {f : Nat → e_C} {b L T t : Nat} {kk pp v tx : Nat → Int32} {wt : Int32} {r : Nat → Nat → Int32} {c0 c : Cu}
theorem GA.kv (A : GA f b L kk pp T tx c0 t c wt v r) (Z : TKS tx L c0 T kk pp) : kvd c ∧ cv L c ∧ kk t = ck c ∧ pp t = nI c.1 := by
  obtain ⟨G, ht, rfl⟩ := A
  obtain ⟨h1, h2, h3, h4⟩ := Z.2.1 t ht
  exact ⟨h3, h4, h1, h2⟩
theorem GA.k4 (A : GA f b L kk pp T tx c0 t c wt v r) (Z : TKS tx L c0 T kk pp) : fld (f 99) 3 4 = some (.int (ck c)) := by rw [A.1.v4, (A.kv Z).2.2.1]
theorem GA.next (A : GA f b L kk pp T tx c0 t c wt v r) (Z : TKS tx L c0 T kk pp) (h1 : c.2.2.1 ≠ 24) (h2 : c.2.2.1 ≠ 25) : TT X d 28 0 [.ref 99] [] f N K (fun f' n' k' z => n' = N ∧ k' = K ∧ z = none ∧ SJ b f f' ∧ GA f' b L kk pp T tx c0 (t + 1) (nx tx L c) wt v r) := by
  obtain ⟨G, ht, rfl⟩ := A
  have hlt := Z.2.2 t ht h1 h2
  refine (G.next hlt Z.1.2.1).mono ?_
  rintro f' n' k' z ⟨a1, a2, a3, a4, a5⟩
  exact ⟨a1, a2, a3, a4, a5, hlt, rfl⟩
theorem GA.fail (A : GA f b L kk pp T tx c0 t c wt v r) (Z : TKS tx L c0 T kk pp) {w : Int32} (hw : w ≠ 0) : TT X d 29 0 [.ref 99, .int w] [] f N K (fun f' n' k' z => n' = N ∧ k' = K ∧ z = none ∧ SJ b f f' ∧ GE f' b L kk pp T (ft w c.2.2.1) c.1) := by
  obtain ⟨h1, h2, h3, h4⟩ := A.kv Z
  have e : (kk t = 2) = (c.2.2.1 = 25) := by rw [h3]; exact ck_is h1 25 (by decide)
  have := A.1.fail (X := X) (d := d) (N := N) (K := K) hw (by have := A.2.1; have := Z.1.2.1; omega) h4
  have e2 : (if kk t = 2 then (1 : Int32) else w) = ft w c.2.2.1 := by
    unfold ft
    by_cases h : c.2.2.1 = 25
    · rw [if_pos h, if_pos (by rw [e]; exact h)]
    · rw [if_neg h, if_neg (by rw [e]; exact h)]
  rw [e2] at this
  exact this
theorem GA.exp (A : GA f b L kk pp T tx c0 t c wt v r) (Z : TKS tx L c0 T kk pp) {x : Int32} (k : Nat) (hk : k ∈ kvl) (h24 : k ≠ 24 ∧ k ≠ 25) (hx : x = ckt (nI k)) (hc : c.2.2.1 = nI k) : TT X (d + 1) 27 0 [.ref 99, .int x] [] f N K (fun f' n' k' z => n' = N ∧ k' = K ∧ z = none ∧ SJ b f f' ∧ GA f' b L kk pp T tx c0 (t + 1) (nx tx L c) wt v r) := by
  have hkv := A.kv Z
  have k4 := A.k4 Z
  have e : (ck c = x) = True := eq_true (by rw [hx, ck_is hkv.1 k hk]; exact hc)
  have hl := kv_lo k hk
  simp (disch := first | omega | decide | assumption | exact Nat.le_of_ble_eq_true rfl) only [s27_0, s27_1, s27_4, s27_5, s27_8, ow_some, true_and, and_true, and_self, if_true, if_false, not_true, not_false_eq_true, Bool.false_eq_true, eq_self, Option.toList, List.cons_append, List.nil_append, ix_in, ix_cl, lt_in, lt_cl, lt_add, ix_one, vu_eq, vu_ne, arI_mk, arL_mk, arY_mZ, arY_mB, alen_mI, fld_sfl_ne, fld_sfl_same, Option.isSome_some, pok_i, b1z, b01, z10, b1o, Int32.zero_add, vu_vu, upd_eq, upd_ne, true_or, or_true, k4, e, ne_eq]
  refine k27_9 A.1.cn (Nat.le_of_ble_eq_true rfl) (A.next Z (fun z => ?_) (fun z => ?_)) ?_
  · rw [hc] at z; have := congrArg Int32.toInt z; rw [nI_toInt (by omega)] at this; exact h24.1 (by have e24 : (24 : Int32).toInt = 24 := by decide
                                                                                                    omega)
  · rw [hc] at z; have := congrArg Int32.toInt z; rw [nI_toInt (by omega)] at this; exact h24.2 (by have e25 : (25 : Int32).toInt = 25 := by decide
                                                                                                    omega)
  rintro f1 n1 k1 v1 ⟨rfl, rfl, rfl, s1, A1⟩
  simp (disch := first | omega | decide | assumption | exact Nat.le_of_ble_eq_true rfl) only [s27_12, s27_20, ow_some, true_and, and_true, and_self, if_true, if_false, not_true, not_false_eq_true, Bool.false_eq_true, eq_self, Option.toList, List.cons_append, List.nil_append, ix_in, ix_cl, lt_in, lt_cl, lt_add, ix_one, vu_eq, vu_ne, arI_mk, arL_mk, arY_mZ, arY_mB, alen_mI, fld_sfl_ne, fld_sfl_same, Option.isSome_some, pok_i, b1z, b01, z10, b1o, Int32.zero_add, vu_vu, upd_eq, upd_ne, true_or, or_true]
  exact ⟨s1, A1⟩
theorem GA.expN (A : GA f b L kk pp T tx c0 t c wt v r) (Z : TKS tx L c0 T kk pp) {x : Int32} (k : Nat) (hk : k ∈ kvl) (hx : x = ckt (nI k)) (hc : c.2.2.1 ≠ nI k) : TT X (d + 1) 27 0 [.ref 99, .int x] [] f N K (fun f' n' k' z => n' = N ∧ k' = K ∧ z = none ∧ SJ b f f' ∧ GE f' b L kk pp T (ft 2 c.2.2.1) c.1) := by
  have hkv := A.kv Z
  have k4 := A.k4 Z
  have e : (ck c = x) = False := eq_false (by rw [hx, ck_is hkv.1 k hk]; exact hc)
  simp (disch := first | omega | decide | assumption | exact Nat.le_of_ble_eq_true rfl) only [s27_0, s27_1, s27_4, s27_5, s27_15, s27_16, ow_some, true_and, and_true, and_self, if_true, if_false, not_true, not_false_eq_true, Bool.false_eq_true, eq_self, Option.toList, List.cons_append, List.nil_append, ix_in, ix_cl, lt_in, lt_cl, lt_add, ix_one, vu_eq, vu_ne, arI_mk, arL_mk, arY_mZ, arY_mB, alen_mI, fld_sfl_ne, fld_sfl_same, Option.isSome_some, pok_i, b1z, b01, z10, b1o, Int32.zero_add, vu_vu, upd_eq, upd_ne, true_or, or_true, k4, e, ne_eq]
  refine k27_17 A.1.cn (Nat.le_of_ble_eq_true rfl) (A.fail Z (w := 2) (by decide)) ?_
  rintro f1 n1 k1 v1 ⟨rfl, rfl, rfl, s1, A1⟩
  simp (disch := first | omega | decide | assumption | exact Nat.le_of_ble_eq_true rfl) only [s27_20, ow_some, true_and, and_true, and_self, if_true, if_false, not_true, not_false_eq_true, Bool.false_eq_true, eq_self, Option.toList, List.cons_append, List.nil_append, ix_in, ix_cl, lt_in, lt_cl, lt_add, ix_one, vu_eq, vu_ne, arI_mk, arL_mk, arY_mZ, arY_mB, alen_mI, fld_sfl_ne, fld_sfl_same, Option.isSome_some, pok_i, b1z, b01, z10, b1o, Int32.zero_add, vu_vu, upd_eq, upd_ne, true_or, or_true]
  exact ⟨s1, A1⟩
theorem GE.exp {w : Int32} {p : Nat} (G : GE f b L kk pp T w p) {x : Int32} (hx : x ≠ 3) : PU X (d + 1) 27 [.ref 99, .int x] f N K none := by
  unfold PU
  have v4 := G.v4
  have e : ((3 : Int32) = x) = False := eq_false (fun z => hx z.symm)
  simp (disch := first | omega | decide | assumption | exact Nat.le_of_ble_eq_true rfl) only [s27_0, s27_1, s27_4, s27_5, s27_15, s27_16, ow_some, true_and, and_true, and_self, if_true, if_false, not_true, not_false_eq_true, Bool.false_eq_true, eq_self, Option.toList, List.cons_append, List.nil_append, ix_in, ix_cl, lt_in, lt_cl, lt_add, ix_one, vu_eq, vu_ne, arI_mk, arL_mk, arY_mZ, arY_mB, alen_mI, fld_sfl_ne, fld_sfl_same, Option.isSome_some, pok_i, b1z, b01, z10, b1o, Int32.zero_add, vu_vu, upd_eq, upd_ne, true_or, or_true, v4, e, ne_eq]
  rw [p27_17 G.cn (Nat.le_of_ble_eq_true rfl) (G.fail (w' := 2))]
  simp (disch := first | omega | decide | assumption | exact Nat.le_of_ble_eq_true rfl) only [s27_20, ow_some, true_and, and_true, and_self, if_true, if_false, not_true, not_false_eq_true, Bool.false_eq_true, eq_self, Option.toList, List.cons_append, List.nil_append, ix_in, ix_cl, lt_in, lt_cl, lt_add, ix_one, vu_eq, vu_ne, arI_mk, arL_mk, arY_mZ, arY_mB, alen_mI, fld_sfl_ne, fld_sfl_same, Option.isSome_some, pok_i, b1z, b01, z10, b1o, Int32.zero_add, vu_vu, upd_eq, upd_ne, true_or, or_true]
theorem GA.num (A : GA f b L kk pp T tx c0 t c wt v r) (Z : TKS tx L c0 T kk pp) {lo hi : Int32} (hc : tko c lo.toInt hi.toInt = true) {a3 : Value} : TT X (d + 1) 30 0 [.ref 99, .int lo, .int hi, a3] [] f N K (fun f' n' k' z => n' = N ∧ k' = K ∧ z = some (.int c.2.2.2) ∧ SJ b f f' ∧ GA f' b L kk pp T tx c0 (t + 1) (nx tx L c) wt v r) := by
  have hkv := A.kv Z
  have k4 := A.k4 Z
  obtain ⟨h23, hlo, hhi⟩ := tko_iff.mp hc
  have et := ck_told hkv.1 h23
  obtain ⟨q, q1, q2⟩ := hkv.1.1 h23
  have e0 : ((0 : Int32) ≤ c.2.2.2) = True := eq_true (by rw [q2, Int32.le_iff_toInt_le, nI_toInt (by omega)]; show (0 : Int) ≤ _; omega)
  have e1 : (c.2.2.2 < lo) = False := eq_false (by rw [Int32.lt_iff_toInt_lt]; omega)
  have e2 : (c.2.2.2 ≤ hi) = True := eq_true (by rw [Int32.le_iff_toInt_le]; omega)
  simp (disch := first | omega | decide | assumption | exact Nat.le_of_ble_eq_true rfl) only [s30_0, s30_1, s30_4, s30_7, s30_8, s30_9, s30_10, s30_20, s30_21, s30_22, s30_25, s30_26, s30_27, s30_37, ow_some, true_and, and_true, and_self, if_true, if_false, not_true, not_false_eq_true, Bool.false_eq_true, eq_self, Option.toList, List.cons_append, List.nil_append, ix_in, ix_cl, lt_in, lt_cl, lt_add, ix_one, vu_eq, vu_ne, arI_mk, arL_mk, arY_mZ, arY_mB, alen_mI, fld_sfl_ne, fld_sfl_same, Option.isSome_some, pok_i, b1z, b01, z10, b1o, Int32.zero_add, vu_vu, upd_eq, upd_ne, true_or, or_true, k4, et, e0, e1, e2, ne_eq]
  refine k30_38 A.1.cn (Nat.le_of_ble_eq_true rfl) (A.next Z (by rw [h23]; decide) (by rw [h23]; decide)) ?_
  rintro f1 n1 k1 v1 ⟨rfl, rfl, rfl, s1, A1⟩
  simp (disch := first | omega | decide | assumption | exact Nat.le_of_ble_eq_true rfl) only [s30_41, s30_42, ow_some, true_and, and_true, and_self, if_true, if_false, not_true, not_false_eq_true, Bool.false_eq_true, eq_self, Option.toList, List.cons_append, List.nil_append, ix_in, ix_cl, lt_in, lt_cl, lt_add, ix_one, vu_eq, vu_ne, arI_mk, arL_mk, arY_mZ, arY_mB, alen_mI, fld_sfl_ne, fld_sfl_same, Option.isSome_some, pok_i, b1z, b01, z10, b1o, Int32.zero_add, vu_vu, upd_eq, upd_ne, true_or, or_true]
  exact ⟨s1, A1⟩
theorem GA.numN (A : GA f b L kk pp T tx c0 t c wt v r) (Z : TKS tx L c0 T kk pp) {lo hi : Int32} (hc : ¬ tko c lo.toInt hi.toInt = true) {a3 : Value} : TT X (d + 1) 30 0 [.ref 99, .int lo, .int hi, a3] [] f N K (fun f' n' k' z => n' = N ∧ k' = K ∧ z = some (.int lo) ∧ SJ b f f' ∧ GE f' b L kk pp T (tkw c) c.1) := by
  have hkv := A.kv Z
  have k4 := A.k4 Z
  unfold tkw
  by_cases h23 : c.2.2.1 = 23
  · rw [if_pos h23]
    have et := ck_told hkv.1 h23
    obtain ⟨q, q1, q2⟩ := hkv.1.1 h23
    have e0 : ((0 : Int32) ≤ c.2.2.2) = True := eq_true (by rw [q2, Int32.le_iff_toInt_le, nI_toInt (by omega)]; show (0 : Int) ≤ _; omega)
    have ff : ft 3 c.2.2.1 = 3 := by rw [h23]; rfl
    by_cases e1 : c.2.2.2 < lo
    · have e1' : (c.2.2.2 < lo) = True := eq_true e1
      simp (disch := first | omega | decide | assumption | exact Nat.le_of_ble_eq_true rfl) only [s30_0, s30_1, s30_4, s30_7, s30_8, s30_9, s30_10, s30_20, s30_21, s30_22, s30_30, s30_31, ow_some, true_and, and_true, and_self, if_true, if_false, not_true, not_false_eq_true, Bool.false_eq_true, eq_self, Option.toList, List.cons_append, List.nil_append, ix_in, ix_cl, lt_in, lt_cl, lt_add, ix_one, vu_eq, vu_ne, arI_mk, arL_mk, arY_mZ, arY_mB, alen_mI, fld_sfl_ne, fld_sfl_same, Option.isSome_some, pok_i, b1z, b01, z10, b1o, Int32.zero_add, vu_vu, upd_eq, upd_ne, true_or, or_true, k4, et, e0, e1', ne_eq]
      refine k30_32 A.1.cn (Nat.le_of_ble_eq_true rfl) (A.fail Z (w := 3) (by decide)) ?_
      rintro f1 n1 k1 v1 ⟨rfl, rfl, rfl, s1, A1⟩
      simp (disch := first | omega | decide | assumption | exact Nat.le_of_ble_eq_true rfl) only [s30_35, s30_36, ow_some, true_and, and_true, and_self, if_true, if_false, not_true, not_false_eq_true, Bool.false_eq_true, eq_self, Option.toList, List.cons_append, List.nil_append, ix_in, ix_cl, lt_in, lt_cl, lt_add, ix_one, vu_eq, vu_ne, arI_mk, arL_mk, arY_mZ, arY_mB, alen_mI, fld_sfl_ne, fld_sfl_same, Option.isSome_some, pok_i, b1z, b01, z10, b1o, Int32.zero_add, vu_vu, upd_eq, upd_ne, true_or, or_true]
      rw [ff] at A1
      exact ⟨s1, A1⟩
    · have e1' : (c.2.2.2 < lo) = False := eq_false e1
      have e2 : (c.2.2.2 ≤ hi) = False := eq_false (fun z => hc (tko_iff.mpr ⟨h23, by rw [Int32.lt_iff_toInt_lt] at e1; omega, by rw [Int32.le_iff_toInt_le] at z; omega⟩))
      simp (disch := first | omega | decide | assumption | exact Nat.le_of_ble_eq_true rfl) only [s30_0, s30_1, s30_4, s30_7, s30_8, s30_9, s30_10, s30_20, s30_21, s30_22, s30_25, s30_26, s30_27, s30_30, s30_31, ow_some, true_and, and_true, and_self, if_true, if_false, not_true, not_false_eq_true, Bool.false_eq_true, eq_self, Option.toList, List.cons_append, List.nil_append, ix_in, ix_cl, lt_in, lt_cl, lt_add, ix_one, vu_eq, vu_ne, arI_mk, arL_mk, arY_mZ, arY_mB, alen_mI, fld_sfl_ne, fld_sfl_same, Option.isSome_some, pok_i, b1z, b01, z10, b1o, Int32.zero_add, vu_vu, upd_eq, upd_ne, true_or, or_true, k4, et, e0, e1', e2, ne_eq]
      refine k30_32 A.1.cn (Nat.le_of_ble_eq_true rfl) (A.fail Z (w := 3) (by decide)) ?_
      rintro f1 n1 k1 v1 ⟨rfl, rfl, rfl, s1, A1⟩
      simp (disch := first | omega | decide | assumption | exact Nat.le_of_ble_eq_true rfl) only [s30_35, s30_36, ow_some, true_and, and_true, and_self, if_true, if_false, not_true, not_false_eq_true, Bool.false_eq_true, eq_self, Option.toList, List.cons_append, List.nil_append, ix_in, ix_cl, lt_in, lt_cl, lt_add, ix_one, vu_eq, vu_ne, arI_mk, arL_mk, arY_mZ, arY_mB, alen_mI, fld_sfl_ne, fld_sfl_same, Option.isSome_some, pok_i, b1z, b01, z10, b1o, Int32.zero_add, vu_vu, upd_eq, upd_ne, true_or, or_true]
      rw [ff] at A1
      exact ⟨s1, A1⟩
  · rw [if_neg h23]
    have e0 : ((0 : Int32) ≤ ck c - 1000) = False := eq_false (fun z => by have h := ck_neg hkv.1 h23; rw [i_nlt] at h; exact (of_eq_true h) z)
    simp (disch := first | omega | decide | assumption | exact Nat.le_of_ble_eq_true rfl) only [s30_0, s30_1, s30_4, s30_7, s30_8, s30_9, s30_10, s30_13, s30_14, ow_some, true_and, and_true, and_self, if_true, if_false, not_true, not_false_eq_true, Bool.false_eq_true, eq_self, Option.toList, List.cons_append, List.nil_append, ix_in, ix_cl, lt_in, lt_cl, lt_add, ix_one, vu_eq, vu_ne, arI_mk, arL_mk, arY_mZ, arY_mB, alen_mI, fld_sfl_ne, fld_sfl_same, Option.isSome_some, pok_i, b1z, b01, z10, b1o, Int32.zero_add, vu_vu, upd_eq, upd_ne, true_or, or_true, k4, e0, ne_eq]
    refine k30_15 A.1.cn (Nat.le_of_ble_eq_true rfl) (A.fail Z (w := 2) (by decide)) ?_
    rintro f1 n1 k1 v1 ⟨rfl, rfl, rfl, s1, A1⟩
    simp (disch := first | omega | decide | assumption | exact Nat.le_of_ble_eq_true rfl) only [s30_18, s30_19, ow_some, true_and, and_true, and_self, if_true, if_false, not_true, not_false_eq_true, Bool.false_eq_true, eq_self, Option.toList, List.cons_append, List.nil_append, ix_in, ix_cl, lt_in, lt_cl, lt_add, ix_one, vu_eq, vu_ne, arI_mk, arL_mk, arY_mZ, arY_mB, alen_mI, fld_sfl_ne, fld_sfl_same, Option.isSome_some, pok_i, b1z, b01, z10, b1o, Int32.zero_add, vu_vu, upd_eq, upd_ne, true_or, or_true]
    exact ⟨s1, A1⟩
theorem t3m : ((0 : Int32) ≤ 3 - 1000) = False := eq_false (by decide)
theorem GE.num {w : Int32} {p : Nat} (G : GE f b L kk pp T w p) {lo hi : Int32} {a3 : Value} : PU X (d + 1) 30 [.ref 99, .int lo, .int hi, a3] f N K (some (.int lo)) := by
  unfold PU
  have v4 := G.v4
  simp (disch := first | omega | decide | assumption | exact Nat.le_of_ble_eq_true rfl) only [s30_0, s30_1, s30_4, s30_7, s30_8, s30_9, s30_10, s30_13, s30_14, ow_some, true_and, and_true, and_self, if_true, if_false, not_true, not_false_eq_true, Bool.false_eq_true, eq_self, Option.toList, List.cons_append, List.nil_append, ix_in, ix_cl, lt_in, lt_cl, lt_add, ix_one, vu_eq, vu_ne, arI_mk, arL_mk, arY_mZ, arY_mB, alen_mI, fld_sfl_ne, fld_sfl_same, Option.isSome_some, pok_i, b1z, b01, z10, b1o, Int32.zero_add, vu_vu, upd_eq, upd_ne, true_or, or_true, v4, t3m, ne_eq]
  rw [p30_15 G.cn (Nat.le_of_ble_eq_true rfl) (G.fail (w' := 2))]
  simp (disch := first | omega | decide | assumption | exact Nat.le_of_ble_eq_true rfl) only [s30_18, s30_19, ow_some, true_and, and_true, and_self, if_true, if_false, not_true, not_false_eq_true, Bool.false_eq_true, eq_self, Option.toList, List.cons_append, List.nil_append, ix_in, ix_cl, lt_in, lt_cl, lt_add, ix_one, vu_eq, vu_ne, arI_mk, arL_mk, arY_mZ, arY_mB, alen_mI, fld_sfl_ne, fld_sfl_same, Option.isSome_some, pok_i, b1z, b01, z10, b1o, Int32.zero_add, vu_vu, upd_eq, upd_ne, true_or, or_true]
theorem sp_factOf {z : Int32} (h5 : fld (f 99) 3 5 = some (.int wt)) : PU X d 41 [.ref 99, .int z] f N K (some (.int (facC wt z))) := by
  unfold PU
  simp (disch := first | omega | decide | assumption | exact Nat.le_of_ble_eq_true rfl) only [s41_0, s41_1, ow_some, true_and, and_true, and_self, if_true, if_false, not_true, not_false_eq_true, Bool.false_eq_true, eq_self, Option.toList, List.cons_append, List.nil_append, ix_in, ix_cl, lt_in, lt_cl, lt_add, ix_one, vu_eq, vu_ne, arI_mk, arL_mk, arY_mZ, arY_mB, alen_mI, fld_sfl_ne, fld_sfl_same, Option.isSome_some, pok_i, b1z, b01, z10, b1o, Int32.zero_add, vu_vu, upd_eq, upd_ne, true_or, or_true]
  by_cases hout : z.toInt < 105 ∨ 121 ≤ z.toInt
  · rw [tsw_out _ _ (by simpa using hout), show facC wt z = -1 by unfold facC; rw [if_neg (by omega), if_neg (by omega), if_neg (by omega), if_neg (by omega), if_neg (by omega), if_neg (by omega), if_neg (by omega)]]
    simp (disch := first | omega | decide | assumption | exact Nat.le_of_ble_eq_true rfl) only [s41_106, s41_107, ow_some, true_and, and_true, and_self, if_true, if_false, not_true, not_false_eq_true, Bool.false_eq_true, eq_self, Option.toList, List.cons_append, List.nil_append, ix_in, ix_cl, lt_in, lt_cl, lt_add, ix_one, vu_eq, vu_ne, arI_mk, arL_mk, arY_mZ, arY_mB, alen_mI, fld_sfl_ne, fld_sfl_same, Option.isSome_some, pok_i, b1z, b01, z10, b1o, Int32.zero_add, vu_vu, upd_eq, upd_ne, true_or, or_true]
  · rcases (show z.toInt = 105 ∨ z.toInt = 106 ∨ z.toInt = 107 ∨ z.toInt = 108 ∨ z.toInt = 109 ∨ z.toInt = 110 ∨ z.toInt = 111 ∨ z.toInt = 112 ∨ z.toInt = 113 ∨ z.toInt = 114 ∨ z.toInt = 115 ∨ z.toInt = 116 ∨ z.toInt = 117 ∨ z.toInt = 118 ∨ z.toInt = 119 ∨ z.toInt = 120 by omega) with h | h | h | h | h | h | h | h | h | h | h | h | h | h | h | h
    · rw [tsw_at _ _ 0 82 rfl (by omega), show facC wt z = 1 by simp [facC, h]]
      simp (disch := first | omega | decide | assumption | exact Nat.le_of_ble_eq_true rfl) only [s41_82, s41_83, ow_some, true_and, and_true, and_self, if_true, if_false, not_true, not_false_eq_true, Bool.false_eq_true, eq_self, Option.toList, List.cons_append, List.nil_append, ix_in, ix_cl, lt_in, lt_cl, lt_add, ix_one, vu_eq, vu_ne, arI_mk, arL_mk, arY_mZ, arY_mB, alen_mI, fld_sfl_ne, fld_sfl_same, Option.isSome_some, pok_i, b1z, b01, z10, b1o, Int32.zero_add, vu_vu, upd_eq, upd_ne, true_or, or_true]
    · rw [tsw_at _ _ 1 84 rfl (by omega), show facC wt z = 2 by simp [facC, h]]
      simp (disch := first | omega | decide | assumption | exact Nat.le_of_ble_eq_true rfl) only [s41_84, s41_85, ow_some, true_and, and_true, and_self, if_true, if_false, not_true, not_false_eq_true, Bool.false_eq_true, eq_self, Option.toList, List.cons_append, List.nil_append, ix_in, ix_cl, lt_in, lt_cl, lt_add, ix_one, vu_eq, vu_ne, arI_mk, arL_mk, arY_mZ, arY_mB, alen_mI, fld_sfl_ne, fld_sfl_same, Option.isSome_some, pok_i, b1z, b01, z10, b1o, Int32.zero_add, vu_vu, upd_eq, upd_ne, true_or, or_true]
    · rw [tsw_at _ _ 2 106 rfl (by omega), show facC wt z = -1 by simp [facC, h]]
      simp (disch := first | omega | decide | assumption | exact Nat.le_of_ble_eq_true rfl) only [s41_106, s41_107, ow_some, true_and, and_true, and_self, if_true, if_false, not_true, not_false_eq_true, Bool.false_eq_true, eq_self, Option.toList, List.cons_append, List.nil_append, ix_in, ix_cl, lt_in, lt_cl, lt_add, ix_one, vu_eq, vu_ne, arI_mk, arL_mk, arY_mZ, arY_mB, alen_mI, fld_sfl_ne, fld_sfl_same, Option.isSome_some, pok_i, b1z, b01, z10, b1o, Int32.zero_add, vu_vu, upd_eq, upd_ne, true_or, or_true]
    · rw [tsw_at _ _ 3 106 rfl (by omega), show facC wt z = -1 by simp [facC, h]]
      simp (disch := first | omega | decide | assumption | exact Nat.le_of_ble_eq_true rfl) only [s41_106, s41_107, ow_some, true_and, and_true, and_self, if_true, if_false, not_true, not_false_eq_true, Bool.false_eq_true, eq_self, Option.toList, List.cons_append, List.nil_append, ix_in, ix_cl, lt_in, lt_cl, lt_add, ix_one, vu_eq, vu_ne, arI_mk, arL_mk, arY_mZ, arY_mB, alen_mI, fld_sfl_ne, fld_sfl_same, Option.isSome_some, pok_i, b1z, b01, z10, b1o, Int32.zero_add, vu_vu, upd_eq, upd_ne, true_or, or_true]
    · rw [tsw_at _ _ 4 106 rfl (by omega), show facC wt z = -1 by simp [facC, h]]
      simp (disch := first | omega | decide | assumption | exact Nat.le_of_ble_eq_true rfl) only [s41_106, s41_107, ow_some, true_and, and_true, and_self, if_true, if_false, not_true, not_false_eq_true, Bool.false_eq_true, eq_self, Option.toList, List.cons_append, List.nil_append, ix_in, ix_cl, lt_in, lt_cl, lt_add, ix_one, vu_eq, vu_ne, arI_mk, arL_mk, arY_mZ, arY_mB, alen_mI, fld_sfl_ne, fld_sfl_same, Option.isSome_some, pok_i, b1z, b01, z10, b1o, Int32.zero_add, vu_vu, upd_eq, upd_ne, true_or, or_true]
    · rw [tsw_at _ _ 5 106 rfl (by omega), show facC wt z = -1 by simp [facC, h]]
      simp (disch := first | omega | decide | assumption | exact Nat.le_of_ble_eq_true rfl) only [s41_106, s41_107, ow_some, true_and, and_true, and_self, if_true, if_false, not_true, not_false_eq_true, Bool.false_eq_true, eq_self, Option.toList, List.cons_append, List.nil_append, ix_in, ix_cl, lt_in, lt_cl, lt_add, ix_one, vu_eq, vu_ne, arI_mk, arL_mk, arY_mZ, arY_mB, alen_mI, fld_sfl_ne, fld_sfl_same, Option.isSome_some, pok_i, b1z, b01, z10, b1o, Int32.zero_add, vu_vu, upd_eq, upd_ne, true_or, or_true]
    · rw [tsw_at _ _ 6 106 rfl (by omega), show facC wt z = -1 by simp [facC, h]]
      simp (disch := first | omega | decide | assumption | exact Nat.le_of_ble_eq_true rfl) only [s41_106, s41_107, ow_some, true_and, and_true, and_self, if_true, if_false, not_true, not_false_eq_true, Bool.false_eq_true, eq_self, Option.toList, List.cons_append, List.nil_append, ix_in, ix_cl, lt_in, lt_cl, lt_add, ix_one, vu_eq, vu_ne, arI_mk, arL_mk, arY_mZ, arY_mB, alen_mI, fld_sfl_ne, fld_sfl_same, Option.isSome_some, pok_i, b1z, b01, z10, b1o, Int32.zero_add, vu_vu, upd_eq, upd_ne, true_or, or_true]
    · rw [tsw_at _ _ 7 106 rfl (by omega), show facC wt z = -1 by simp [facC, h]]
      simp (disch := first | omega | decide | assumption | exact Nat.le_of_ble_eq_true rfl) only [s41_106, s41_107, ow_some, true_and, and_true, and_self, if_true, if_false, not_true, not_false_eq_true, Bool.false_eq_true, eq_self, Option.toList, List.cons_append, List.nil_append, ix_in, ix_cl, lt_in, lt_cl, lt_add, ix_one, vu_eq, vu_ne, arI_mk, arL_mk, arY_mZ, arY_mB, alen_mI, fld_sfl_ne, fld_sfl_same, Option.isSome_some, pok_i, b1z, b01, z10, b1o, Int32.zero_add, vu_vu, upd_eq, upd_ne, true_or, or_true]
    · rw [tsw_at _ _ 8 88 rfl (by omega), show facC wt z = 4 by simp [facC, h]]
      simp (disch := first | omega | decide | assumption | exact Nat.le_of_ble_eq_true rfl) only [s41_88, s41_89, ow_some, true_and, and_true, and_self, if_true, if_false, not_true, not_false_eq_true, Bool.false_eq_true, eq_self, Option.toList, List.cons_append, List.nil_append, ix_in, ix_cl, lt_in, lt_cl, lt_add, ix_one, vu_eq, vu_ne, arI_mk, arL_mk, arY_mZ, arY_mB, alen_mI, fld_sfl_ne, fld_sfl_same, Option.isSome_some, pok_i, b1z, b01, z10, b1o, Int32.zero_add, vu_vu, upd_eq, upd_ne, true_or, or_true]
    · rw [tsw_at _ _ 9 106 rfl (by omega), show facC wt z = -1 by simp [facC, h]]
      simp (disch := first | omega | decide | assumption | exact Nat.le_of_ble_eq_true rfl) only [s41_106, s41_107, ow_some, true_and, and_true, and_self, if_true, if_false, not_true, not_false_eq_true, Bool.false_eq_true, eq_self, Option.toList, List.cons_append, List.nil_append, ix_in, ix_cl, lt_in, lt_cl, lt_add, ix_one, vu_eq, vu_ne, arI_mk, arL_mk, arY_mZ, arY_mB, alen_mI, fld_sfl_ne, fld_sfl_same, Option.isSome_some, pok_i, b1z, b01, z10, b1o, Int32.zero_add, vu_vu, upd_eq, upd_ne, true_or, or_true]
    · rw [tsw_at _ _ 10 106 rfl (by omega), show facC wt z = -1 by simp [facC, h]]
      simp (disch := first | omega | decide | assumption | exact Nat.le_of_ble_eq_true rfl) only [s41_106, s41_107, ow_some, true_and, and_true, and_self, if_true, if_false, not_true, not_false_eq_true, Bool.false_eq_true, eq_self, Option.toList, List.cons_append, List.nil_append, ix_in, ix_cl, lt_in, lt_cl, lt_add, ix_one, vu_eq, vu_ne, arI_mk, arL_mk, arY_mZ, arY_mB, alen_mI, fld_sfl_ne, fld_sfl_same, Option.isSome_some, pok_i, b1z, b01, z10, b1o, Int32.zero_add, vu_vu, upd_eq, upd_ne, true_or, or_true]
    · rw [tsw_at _ _ 11 106 rfl (by omega), show facC wt z = -1 by simp [facC, h]]
      simp (disch := first | omega | decide | assumption | exact Nat.le_of_ble_eq_true rfl) only [s41_106, s41_107, ow_some, true_and, and_true, and_self, if_true, if_false, not_true, not_false_eq_true, Bool.false_eq_true, eq_self, Option.toList, List.cons_append, List.nil_append, ix_in, ix_cl, lt_in, lt_cl, lt_add, ix_one, vu_eq, vu_ne, arI_mk, arL_mk, arY_mZ, arY_mB, alen_mI, fld_sfl_ne, fld_sfl_same, Option.isSome_some, pok_i, b1z, b01, z10, b1o, Int32.zero_add, vu_vu, upd_eq, upd_ne, true_or, or_true]
    · rw [tsw_at _ _ 12 80 rfl (by omega), show facC wt z = 0 by simp [facC, h]]
      simp (disch := first | omega | decide | assumption | exact Nat.le_of_ble_eq_true rfl) only [s41_80, s41_81, ow_some, true_and, and_true, and_self, if_true, if_false, not_true, not_false_eq_true, Bool.false_eq_true, eq_self, Option.toList, List.cons_append, List.nil_append, ix_in, ix_cl, lt_in, lt_cl, lt_add, ix_one, vu_eq, vu_ne, arI_mk, arL_mk, arY_mZ, arY_mB, alen_mI, fld_sfl_ne, fld_sfl_same, Option.isSome_some, pok_i, b1z, b01, z10, b1o, Int32.zero_add, vu_vu, upd_eq, upd_ne, true_or, or_true]
    · rw [tsw_at _ _ 13 86 rfl (by omega), show facC wt z = 3 by simp [facC, h]]
      simp (disch := first | omega | decide | assumption | exact Nat.le_of_ble_eq_true rfl) only [s41_86, s41_87, ow_some, true_and, and_true, and_self, if_true, if_false, not_true, not_false_eq_true, Bool.false_eq_true, eq_self, Option.toList, List.cons_append, List.nil_append, ix_in, ix_cl, lt_in, lt_cl, lt_add, ix_one, vu_eq, vu_ne, arI_mk, arL_mk, arY_mZ, arY_mB, alen_mI, fld_sfl_ne, fld_sfl_same, Option.isSome_some, pok_i, b1z, b01, z10, b1o, Int32.zero_add, vu_vu, upd_eq, upd_ne, true_or, or_true]
    · rw [tsw_at _ _ 14 90 rfl (by omega), show facC wt z = 5 by simp [facC, h]]
      simp (disch := first | omega | decide | assumption | exact Nat.le_of_ble_eq_true rfl) only [s41_90, s41_91, ow_some, true_and, and_true, and_self, if_true, if_false, not_true, not_false_eq_true, Bool.false_eq_true, eq_self, Option.toList, List.cons_append, List.nil_append, ix_in, ix_cl, lt_in, lt_cl, lt_add, ix_one, vu_eq, vu_ne, arI_mk, arL_mk, arY_mZ, arY_mB, alen_mI, fld_sfl_ne, fld_sfl_same, Option.isSome_some, pok_i, b1z, b01, z10, b1o, Int32.zero_add, vu_vu, upd_eq, upd_ne, true_or, or_true]
    · rw [tsw_at _ _ 15 92 rfl (by omega), show facC wt z = if wt = 0 then -1 else 6 by simp [facC, h]]
      by_cases h1 : wt = 0
      · have h1' : (wt = 0) = True := eq_true h1
        simp (disch := first | omega | decide | assumption | exact Nat.le_of_ble_eq_true rfl) only [s41_92, s41_93, s41_96, s41_104, s41_105, ow_some, true_and, and_true, and_self, if_true, if_false, not_true, not_false_eq_true, Bool.false_eq_true, eq_self, Option.toList, List.cons_append, List.nil_append, ix_in, ix_cl, lt_in, lt_cl, lt_add, ix_one, vu_eq, vu_ne, arI_mk, arL_mk, arY_mZ, arY_mB, alen_mI, fld_sfl_ne, fld_sfl_same, Option.isSome_some, pok_i, b1z, b01, z10, b1o, Int32.zero_add, vu_vu, upd_eq, upd_ne, true_or, or_true, h5, h1', ne_eq]
      · have h1' : (wt = 0) = False := eq_false h1
        simp (disch := first | omega | decide | assumption | exact Nat.le_of_ble_eq_true rfl) only [s41_92, s41_93, s41_96, s41_99, s41_101, s41_105, ow_some, true_and, and_true, and_self, if_true, if_false, not_true, not_false_eq_true, Bool.false_eq_true, eq_self, Option.toList, List.cons_append, List.nil_append, ix_in, ix_cl, lt_in, lt_cl, lt_add, ix_one, vu_eq, vu_ne, arI_mk, arL_mk, arY_mZ, arY_mB, alen_mI, fld_sfl_ne, fld_sfl_same, Option.isSome_some, pok_i, b1z, b01, z10, b1o, Int32.zero_add, vu_vu, upd_eq, upd_ne, true_or, or_true, h5, h1', ne_eq]
theorem GE.fact {w z : Int32} {p : Nat} (G : GE f b L kk pp T w p) (hz : z = 3) : PU X d 41 [.ref 99, .int z] f N K (some (.int (-1))) := by
  unfold PU
  have h3 : z.toInt = 3 := by rw [hz]; rfl
  simp (disch := first | omega | decide | assumption | exact Nat.le_of_ble_eq_true rfl) only [s41_0, s41_1, ow_some, true_and, and_true, and_self, if_true, if_false, not_true, not_false_eq_true, Bool.false_eq_true, eq_self, Option.toList, List.cons_append, List.nil_append, ix_in, ix_cl, lt_in, lt_cl, lt_add, ix_one, vu_eq, vu_ne, arI_mk, arL_mk, arY_mZ, arY_mB, alen_mI, fld_sfl_ne, fld_sfl_same, Option.isSome_some, pok_i, b1z, b01, z10, b1o, Int32.zero_add, vu_vu, upd_eq, upd_ne, true_or, or_true]
  rw [tsw_out _ _ (by left; omega)]
  simp (disch := first | omega | decide | assumption | exact Nat.le_of_ble_eq_true rfl) only [s41_106, s41_107, ow_some, true_and, and_true, and_self, if_true, if_false, not_true, not_false_eq_true, Bool.false_eq_true, eq_self, Option.toList, List.cons_append, List.nil_append, ix_in, ix_cl, lt_in, lt_cl, lt_add, ix_one, vu_eq, vu_ne, arI_mk, arL_mk, arY_mZ, arY_mB, alen_mI, fld_sfl_ne, fld_sfl_same, Option.isSome_some, pok_i, b1z, b01, z10, b1o, Int32.zero_add, vu_vu, upd_eq, upd_ne, true_or, or_true]
end RD
