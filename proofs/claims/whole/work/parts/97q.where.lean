/-! the class: where one more makes it likeliest -/
theorem fo_app {α : Type} {g : Nat → α → α} {a : α} {n : Nat} : ∀ m, fo g a (n + m) = fo (fun j => g (n + j)) (fo g a n) m := by
  intro m
  induction m with
  | zero => rfl
  | succ m ih => rw [show n + (m + 1) = (n + m) + 1 by omega, fo_s, fo_s, ih]
theorem fo_id {α : Type} {g : Nat → α → α} {a : α} : ∀ n, (∀ j, j < n → ∀ x, g j x = x) → fo g a n = a := by
  intro n
  induction n with
  | zero => intro _; rfl
  | succ n ih => intro h; rw [fo_s, h n (by omega), ih (fun j hj => h j (by omega))]
section NEW
variable {all : Nat → Int32} {S R P k c : Nat}
theorem come_fr {p T : Nat} (hP : P < 9) (hp : p < 9) : fr (m_come all P T (nI k) (nI c)) p = fr all p := by
  unfold fr; rw [come_ne (by omega) (by omega) (by omega) (by omega) (by omega)]
theorem cw_new (I : IS all S R P) (hP : P < 9) {s : Nat} (hs : s < 2 ^ P) : c_w (m_come all P (nT all) (nI k) (nI c)) (P + 1) (s ||| 2 ^ P) = c_w all P s * 10 ∧ c_w (m_come all P (nT all) (nI k) (nI c)) (P + 1) s = 0 := by
  have hT := (come_nT (k := nI k) (b := nI c) I.tP hP).1
  have hr := I.rp
  have f0 : fr all P = 0 := by
    unfold fr
    rw [(I.fr hP).2 hr]; rfl
  have low : ∀ p, p ≤ P → fo (c_st (m_come all P (nT all) (nI k) (nI c)) (s ||| 2 ^ P)) 1 p = fo (c_st all s) 1 p := fun p hp => fo_cong (fun j x hj => by
    simp only [c_st, hT, or_bit_ne (show j ≠ P by omega), come_fr hP (show j < 9 by omega)])
  have hcf : fr (m_come all P (nT all) (nI k) (nI c)) P = 0 := by rw [come_fr hP hP]; exact f0
  have hTb : (nT (m_come all P (nT all) (nI k) (nI c))).testBit P = true := by rw [hT]; exact or_bit_eq
  constructor
  · unfold c_w
    rw [fo_s, low P (Nat.le_refl _)]
    generalize fo (c_st all s) 1 P = z
    have h1 : (s ||| 2 ^ P).testBit P = true := or_bit_eq
    simp only [c_st, hTb, h1, if_true, hcf, Nat.sub_zero]
  · unfold c_w
    rw [fo_s]
    have hb : s.testBit P = false := Nat.testBit_lt_two_pow hs
    generalize fo (c_st (m_come all P (nT all) (nI k) (nI c)) s) 1 P = z
    simp only [c_st, hTb, hb, if_true, Bool.false_eq_true, if_false, hcf, Nat.mul_zero]
theorem sub_or (I : IS all S R P) {s : Nat} (hs : s < 2 ^ P) : sub (s ||| 2 ^ P) (nT all ||| 2 ^ P) = sub s (nT all) := by
  apply Bool.eq_iff_iff.mpr
  rw [sub_iff, sub_iff]
  constructor
  · intro h i hi
    have hiP : i ≠ P := by
      rintro rfl
      rw [Nat.testBit_lt_two_pow hs] at hi
      cases hi
    have := h i (by rw [or_bit_ne hiP]; exact hi)
    rw [or_bit_ne hiP] at this
    exact this
  · intro h i hi
    by_cases hiP : i = P
    · subst hiP; exact or_bit_eq
    · rw [or_bit_ne hiP] at hi ⊢
      exact h i hi
/-- what is sure anyhow; what one brought to step k adds -/
def l_B (all : Nat → Int32) (S P : Nat) (n : Nat) : Nat := fo (fun j a => if (sub j (nT all) && decide (0 < c_w all P j) && m_hold all S P j) = true then a + c_w all P j else a) 0 n
def l_K (all : Nat → Int32) (S P c k : Nat) (n : Nat) : Nat := fo (fun j a => if (sub j (nT all) && decide (0 < c_w all P j) && (!m_hold all S P j && hkd all S P (nT all) j c 0 k)) = true then a + c_w all P j else a) 0 n
theorem wv_eq (I : IS all S R P) (hP : P < 9) (hk : k < S) (hc : c < 100) : w_v all S P (nI c) k = 10 * (l_B all S P (2 ^ P) + l_K all S P c k (2 ^ P)) := by
  have hT := (come_nT (k := nI k) (b := nI c) I.tP hP).1
  unfold w_v c_now
  rw [show 2 ^ (P + 1) = 2 ^ P + 2 ^ P by rw [Nat.pow_succ]; omega, fo_app]
  have e0 : fo (c_ns (m_come all P (nT all) (nI k) (nI c)) S (P + 1)) 0 (2 ^ P) = 0 := by
    refine fo_id _ (fun j hj x => ?_)
    unfold c_ns
    rw [(cw_new I hP hj).2]
    simp
  rw [e0]
  have key : ∀ n, n ≤ 2 ^ P → fo (fun j => c_ns (m_come all P (nT all) (nI k) (nI c)) S (P + 1) (2 ^ P + j)) 0 n = 10 * (l_B all S P n + l_K all S P c k n) := by
    intro n
    induction n with
    | zero => intro _; rfl
    | succ n ih =>
      intro hn
      have hB : l_B all S P (n + 1) = if (sub n (nT all) && decide (0 < c_w all P n) && m_hold all S P n) = true then l_B all S P n + c_w all P n else l_B all S P n := rfl
      have hK : l_K all S P c k (n + 1) = if (sub n (nT all) && decide (0 < c_w all P n) && (!m_hold all S P n && hkd all S P (nT all) n c 0 k)) = true then l_K all S P c k n + c_w all P n else l_K all S P c k n := rfl
      have hn2 : n < 2 ^ P := by omega
      have eor : 2 ^ P + n = n ||| 2 ^ P := by
        have h := Nat.two_pow_add_eq_or_of_lt hn2 1
        rw [Nat.mul_one] at h
        rw [h, Nat.or_comm]
      rw [fo_s, ih (by omega), eor, hB, hK]
      unfold c_ns
      rw [hT, sub_or I hn2, (cw_new I hP hn2).1]
      have ehk : m_hold (m_come all P (nT all) (nI k) (nI c)) S (P + 1) (n ||| 2 ^ P) = hkd all S P (nT all) n c 0 k := by
        unfold hkd nal; rw [lat_0]
      rw [ehk]
      have hmono : m_hold all S P n = true → hkd all S P (nT all) n c 0 k = true := by
        intro h
        refine hold_nal I hP hk hc ?_
        rw [lat_0]; exact h
      have hd10 : decide (0 < c_w all P n * 10) = decide (0 < c_w all P n) := by
        apply decide_eq_decide.mpr; omega
      rw [hd10]
      cases h1 : sub n (nT all) && decide (0 < c_w all P n)
      · simp
      · cases h2 : m_hold all S P n
        · cases h3 : hkd all S P (nT all) n c 0 k
          · simp
          · simp; omega
        · rw [hmono h2]
          simp; omega
  exact key (2 ^ P) (Nat.le_refl _)
theorem lK_leB {B : Nat} (hB : ∀ n, c_w all P n ≤ B) : ∀ n, l_K all S P c k n ≤ n * B := by
  intro n
  induction n with
  | zero => exact Nat.zero_le _
  | succ n ih =>
    have hK : l_K all S P c k (n + 1) = if (sub n (nT all) && decide (0 < c_w all P n) && (!m_hold all S P n && hkd all S P (nT all) n c 0 k)) = true then l_K all S P c k n + c_w all P n else l_K all S P c k n := rfl
    have hcw := hB n
    rw [hK, Nat.succ_mul]
    generalize n * B = z at ih ⊢
    by_cases h : (sub n (nT all) && decide (0 < c_w all P n) && (!m_hold all S P n && hkd all S P (nT all) n c 0 k)) = true
    · rw [if_pos h]; omega
    · rw [if_neg h]; omega
theorem lK_le (I : IS all S R P) (n : Nat) : l_K all S P c k n ≤ n * 1000000000 := lK_leB (fun _ => c_le9 I.FR I.p9) n
theorem lK_512 (I : IS all S R P) : l_K all S P c k 512 = l_K all S P c k (2 ^ P) := ind_le (F := fun n => l_K all S P c k n) 512 (pw9 I.p9) (fun j h1 h2 => by
  show fo _ 0 (j + 1) = _
  rw [fo_s, sub_hi I.tP h1]; rfl)
end NEW
theorem sp_addWhere {X : Nat × (Nat → Int32)} {d N K q st : Nat} {f : Nat → e_C} {br mo up : Nat → Int32} {li : Nat → Int64} {wg : Int64} {u0 : UInt64} (O : XV f q br mo up li) (hst : st < 512) {u4 : Value} : TT X d 111 0 [.ref 159, .int (nI st), .long wg, .double u0, u4] [] f N K (fun f' n' k' z => n' = N ∧ k' = K ∧ z = none ∧ SI 170 171 f f' ∧ ∃ li', XV f' q br mo up li' ∧ ∀ k, k < 8 → li' k = if st.testBit k = true then li k + wg else li k) := by
  simp (disch := first | omega | decide | assumption | exact Nat.le_of_ble_eq_true rfl) only [s111_0, h111_1, ow_some, true_and, and_true, and_self, if_true, if_false, not_true, not_false_eq_true, Bool.false_eq_true, eq_self, Option.toList, List.cons_append, List.nil_append, ix_in, ix_cl, lt_in, lt_cl, lt_add, ix_one, vu_eq, vu_ne, arI_mk, arL_mk, arY_mZ, arY_mB, alen_mI, fld_sfl_ne, fld_sfl_same, Option.isSome_some, pok_i, b1z, b01, z10, b1o, Int32.zero_add, vu_vu, upd_eq, upd_ne, true_or, or_true]
  refine lp (fun j e (g : Nat → Int64) => SI 170 171 f e ∧ XV e q br mo up g ∧ (∀ k, k < j → g k = if st.testBit k = true then li k + wg else li k) ∧ ∀ k, j ≤ k → g k = li k) (fun j _ => [.ref 159, .int (nI st), .long wg, .double u0, .int (nI j)]) 8 ?_ ?_ 0 f li (by omega) ⟨SI.rf, O, fun k hk => by omega, fun _ _ => rfl⟩
  · rintro j e g hj ⟨s1, O1, h1, h2⟩ hI
    have hc : (8 ≤ j) = False := eq_false (by omega)
    have hbit := bit_has st hst j (by omega)
    obtain ⟨c1, c2, c3, c4, c5, c6, c7, c8, c9⟩ := id O1
    by_cases hb : st.testBit j = true
    · have hb' : (¬ st.testBit j = true) = False := eq_false (fun z => z hb)
      simp (disch := first | omega | decide | assumption | exact Nat.le_of_ble_eq_true rfl) only [s111_3, s111_5, s111_7, s111_10, s111_11, s111_12, s111_14, s111_15, s111_16, s111_19, s111_20, s111_23, s111_25, s111_26, s111_27, s111_28, s111_29, s111_30, h111_33, ow_some, true_and, and_true, and_self, if_true, if_false, not_true, not_false_eq_true, Bool.false_eq_true, eq_self, Option.toList, List.cons_append, List.nil_append, ix_in, ix_cl, lt_in, lt_cl, lt_add, ix_one, vu_eq, vu_ne, arI_mk, arL_mk, arY_mZ, arY_mB, alen_mI, fld_sfl_ne, fld_sfl_same, Option.isSome_some, pok_i, b1z, b01, z10, b1o, Int32.zero_add, vu_vu, upd_eq, upd_ne, true_or, or_true, lt_le, hc, hbit, hb', c5, c9]
      refine hI _ (vp_updL g j (g j + wg)) ⟨s1.tr (SI.up (by omega) (by omega)), O1.u0, fun k hk => ?_, fun k hk => ?_⟩
      · by_cases h : k = j
        · subst h; rw [ul_eq, if_pos hb, h2 k (Nat.le_refl _)]
        · rw [ul_ne h]; exact h1 k (by omega)
      · rw [ul_ne (by omega)]; exact h2 k (by omega)
    · have hb' : (¬ st.testBit j = true) = True := eq_true hb
      simp (disch := first | omega | decide | assumption | exact Nat.le_of_ble_eq_true rfl) only [s111_3, s111_5, s111_7, s111_10, s111_11, s111_12, s111_14, s111_15, s111_16, s111_30, h111_33, ow_some, true_and, and_true, and_self, if_true, if_false, not_true, not_false_eq_true, Bool.false_eq_true, eq_self, Option.toList, List.cons_append, List.nil_append, ix_in, ix_cl, lt_in, lt_cl, lt_add, ix_one, vu_eq, vu_ne, arI_mk, arL_mk, arY_mZ, arY_mB, alen_mI, fld_sfl_ne, fld_sfl_same, Option.isSome_some, pok_i, b1z, b01, z10, b1o, Int32.zero_add, vu_vu, upd_eq, upd_ne, true_or, or_true, lt_le, hc, hbit, hb']
      refine hI _ g ⟨s1, O1, fun k hk => ?_, fun k hk => h2 k (by omega)⟩
      by_cases h : k = j
      · subst h; rw [if_neg hb]; exact h2 k (Nat.le_refl _)
      · exact h1 k (by omega)
  · rintro e g ⟨s1, O1, h1, h2⟩
    simp (disch := first | omega | decide | assumption | exact Nat.le_of_ble_eq_true rfl) only [s111_3, s111_5, s111_7, s111_36, ow_some, true_and, and_true, and_self, if_true, if_false, not_true, not_false_eq_true, Bool.false_eq_true, eq_self, Option.toList, List.cons_append, List.nil_append, ix_in, ix_cl, lt_in, lt_cl, lt_add, ix_one, vu_eq, vu_ne, arI_mk, arL_mk, arY_mZ, arY_mB, alen_mI, fld_sfl_ne, fld_sfl_same, Option.isSome_some, pok_i, b1z, b01, z10, b1o, Int32.zero_add, vu_vu, upd_eq, upd_ne, true_or, or_true, lt_le, Nat.le_refl]
    exact ⟨s1, g, O1, h1⟩
/-- the first of the greatest -/
def fst_g (u : Nat → Nat) : Nat → Nat
  | 0 => 0
  | n + 1 => if u (fst_g u n) < u (n + 1) then n + 1 else fst_g u n
theorem fst_le {u : Nat → Nat} : ∀ n, fst_g u n ≤ n := by
  intro n
  induction n with
  | zero => exact Nat.le_refl _
  | succ n ih => rw [fst_g]; split <;> omega
theorem bn_fst {u w : Nat → Nat} {B : Nat} : ∀ n, (∀ k, k ≤ n → w k = 10 * (B + u k)) → m_bn w (n + 1) = some (fst_g u n, w (fst_g u n)) := by
  intro n
  induction n with
  | zero => intro _; rfl
  | succ n ih =>
    intro h
    rw [bn_s, ih (fun k hk => h k (by omega))]
    have hle := fst_le (u := u) n
    have e1 := h (fst_g u n) (by omega)
    have e2 := h (n + 1) (by omega)
    rw [fst_g]
    dsimp only
    by_cases hlt : u (fst_g u n) < u (n + 1)
    · rw [if_pos hlt, if_pos (by omega)]
    · rw [if_neg hlt, if_neg (by omega)]
theorem sp_likeliest {X : Nat × (Nat → Int32)} {d N K a pl C S R P q : Nat} {f : Nat → e_C} {y x r : Nat → Nat → Int32} {w v all br mo up : Nat → Int32} {li : Nat → Int64} (L : LV f q y) (V : SV f a pl w x) (W : PV f pl v r C) (G : CR all S P w x v r C) (I : IS all S R P) (hd : AD a pl q) (O : XV f q br mo up li) (hq : q = 160) {c : Nat} (hc : c < 100) (hP9 : P < 9) {u3 u4 u5 u6 : Value} : TT X (d + 4) 110 0 [.ref 159, .ref a, .int (nI c), u3, u4, u5, u6] [] f N K (QX f N K q (bnK (m_bn (w_v all S P (nI c)) S))) := by
  have h8 := I.s8
  have h1S := I.s1
  have h9 := I.p9
  have hS : v 0 = nI S := by rw [G.v0]; exact I.eS
  have hp2 : (1 : Int32) <<< (nI S &&& 31) - 1 = nI (2 ^ S - 1) := p2m S (by omega)
  have hres : bnK (m_bn (w_v all S P (nI c)) S) = nI (fst_g (fun k => l_K all S P c k 512) (S - 1)) := by
    have e : S = (S - 1) + 1 := by omega
    have hb : m_bn (w_v all S P (nI c)) ((S - 1) + 1) = some (fst_g (fun k => l_K all S P c k 512) (S - 1), w_v all S P (nI c) (fst_g (fun k => l_K all S P c k 512) (S - 1))) := by
      refine bn_fst (B := l_B all S P (2 ^ P)) (S - 1) (fun k hk => ?_)
      rw [wv_eq I hP9 (by omega) hc, lK_512 I]
    rw [show m_bn (w_v all S P (nI c)) S = m_bn (w_v all S P (nI c)) ((S - 1) + 1) from congrArg _ e, hb]
    rfl
  rw [hres]
  have o1 := O.1
  simp (disch := first | omega | decide | assumption | exact Nat.le_of_ble_eq_true rfl) only [s110_0, s110_1, s110_4, ow_some, true_and, and_true, and_self, if_true, if_false, not_true, not_false_eq_true, Bool.false_eq_true, eq_self, Option.toList, List.cons_append, List.nil_append, ix_in, ix_cl, lt_in, lt_cl, lt_add, ix_one, vu_eq, vu_ne, arI_mk, arL_mk, arY_mZ, arY_mB, alen_mI, fld_sfl_ne, fld_sfl_same, Option.isSome_some, pok_i, b1z, b01, z10, b1o, Int32.zero_add, vu_vu, upd_eq, upd_ne, true_or, or_true, o1]
  refine k110_5 L.cn (Nat.le_of_ble_eq_true rfl) (sp_weigh L V W G I hd) ?_
  rintro f1 n1 k1 v1 ⟨rfl, rfl, rfl, s1, y1, L1, -, hw1⟩
  have s1' : SI 162 171 f f1 := s1.wd (by omega) (by omega)
  have V1 := V.fr (f' := f1) (fun b h1 h2 => s1 b (by omega))
  have W1 := W.fr (f' := f1) (fun b h1 h2 => s1 b (by omega))
  have O1 : XV f1 q br mo up li := O.fr (s1 159 (by omega)) (fun b h1 h2 => s1 b (by omega))
  simp (disch := first | omega | decide | assumption | exact Nat.le_of_ble_eq_true rfl) only [s110_8, s110_9, s110_10, s110_11, ow_some, true_and, and_true, and_self, if_true, if_false, not_true, not_false_eq_true, Bool.false_eq_true, eq_self, Option.toList, List.cons_append, List.nil_append, ix_in, ix_cl, lt_in, lt_cl, lt_add, ix_one, vu_eq, vu_ne, arI_mk, arL_mk, arY_mZ, arY_mB, alen_mI, fld_sfl_ne, fld_sfl_same, Option.isSome_some, pok_i, b1z, b01, z10, b1o, Int32.zero_add, vu_vu, upd_eq, upd_ne, true_or, or_true]
  refine k110_12 O1.cn (Nat.le_of_ble_eq_true rfl) (sp_bringAll (n := 0) L1 V1 W1 G I hd O1 hq) ?_
  rintro f2 n2 k2 v2 ⟨rfl, rfl, rfl, s2, y2, b2, L2, O2, hy2, hb2⟩
  have s2' : SI 162 171 f f2 := s1'.tr s2
  have hw2 : wgd all P y2 := by
    intro i hi hbi
    rw [hy2 2 (by omega), hy2 3 (by omega)]
    exact hw1 i hi hbi
  simp (disch := first | omega | decide | assumption | exact Nat.le_of_ble_eq_true rfl) only [s110_15, h110_16, ow_some, true_and, and_true, and_self, if_true, if_false, not_true, not_false_eq_true, Bool.false_eq_true, eq_self, Option.toList, List.cons_append, List.nil_append, ix_in, ix_cl, lt_in, lt_cl, lt_add, ix_one, vu_eq, vu_ne, arI_mk, arL_mk, arY_mZ, arY_mB, alen_mI, fld_sfl_ne, fld_sfl_same, Option.isSome_some, pok_i, b1z, b01, z10, b1o, Int32.zero_add, vu_vu, upd_eq, upd_ne, true_or, or_true]
  refine lp (fun j e (g : Nat → Int64) => SI 162 171 f e ∧ LV e q y2 ∧ XV e q b2 mo up g ∧ ∀ k, k < j → g k = 0) (fun j _ => [.ref 159, .ref a, .int (nI c), .int (nI j), u4, u5, u6]) 8 ?_ ?_ 0 f2 li (by omega) ⟨s2', L2, O2, fun k hk => by omega⟩
  · rintro j e g hj ⟨s3, L3, O3, hg⟩ hI
    have hcj : (8 ≤ j) = False := eq_false (by omega)
    obtain ⟨c1, c2, c3, c4, c5, c6, c7, c8, c9⟩ := id O3
    simp (disch := first | omega | decide | assumption | exact Nat.le_of_ble_eq_true rfl) only [s110_17, s110_18, s110_20, s110_23, s110_24, s110_27, s110_28, s110_29, s110_30, h110_33, ow_some, true_and, and_true, and_self, if_true, if_false, not_true, not_false_eq_true, Bool.false_eq_true, eq_self, Option.toList, List.cons_append, List.nil_append, ix_in, ix_cl, lt_in, lt_cl, lt_add, ix_one, vu_eq, vu_ne, arI_mk, arL_mk, arY_mZ, arY_mB, alen_mI, fld_sfl_ne, fld_sfl_same, Option.isSome_some, pok_i, b1z, b01, z10, b1o, Int32.zero_add, vu_vu, upd_eq, upd_ne, true_or, or_true, lt_le, hcj, c5, c9]
    refine hI _ (vp_updL g j 0) ⟨s3.tr (SI.up (by omega) (by omega)), L3.fr (fun b h1 h2 => vu_ne (by omega)), O3.u0, fun k hk => ?_⟩
    by_cases h : k = j
    · subst h; rw [ul_eq]
    · rw [ul_ne h]; exact hg k (by omega)
  · rintro e g ⟨s3, L3, O3, hg⟩
    have V3 := V.fr (f' := e) (fun b h1 h2 => s3 b (by omega))
    have W3 := W.fr (f' := e) (fun b h1 h2 => s3 b (by omega))
    simp (disch := first | omega | decide | assumption | exact Nat.le_of_ble_eq_true rfl) only [s110_17, s110_18, s110_20, s110_36, s110_37, s110_38, s110_41, s110_44, s110_45, s110_46, s110_47, s110_48, h110_49, ow_some, true_and, and_true, and_self, if_true, if_false, not_true, not_false_eq_true, Bool.false_eq_true, eq_self, Option.toList, List.cons_append, List.nil_append, ix_in, ix_cl, lt_in, lt_cl, lt_add, ix_one, vu_eq, vu_ne, arI_mk, arL_mk, arY_mZ, arY_mB, alen_mI, fld_sfl_ne, fld_sfl_same, Option.isSome_some, pok_i, b1z, b01, z10, b1o, Int32.zero_add, vu_vu, upd_eq, upd_ne, true_or, or_true, V3.v1, V3.v6, V3.v7, V3.v8, V3.v9, V3.i1, V3.i6, V3.i7, V3.i8, V3.i9, V3.r2, V3.r3, V3.r4, V3.r5, V3.pl, V3.a2, V3.a3, V3.a4, V3.a5, W3.v0, W3.v3, W3.v10, W3.v11, W3.v12, W3.v14, W3.v15, W3.v16, W3.v17, W3.v18, W3.r1, W3.r2, W3.r4, W3.r5, W3.r6, W3.r7, W3.r8, W3.r9, W3.r13, W3.a1, W3.a2, W3.a4, W3.a5, W3.a6, W3.a7, W3.a8, W3.a9, W3.a13, lt_le, Nat.le_refl, hS, hp2]
    have h256 : 2 ^ S ≤ 512 := pw9 (by omega)
    refine lp (fun j e (z : (Nat → Nat → Int32) × (Nat → Int64) × Value × Value) => SI 162 171 f e ∧ LV e q z.1 ∧ XV e q b2 mo up z.2.1 ∧ wgd all P z.1 ∧ ∀ k, k < S → z.2.1 k = lI (l_K all S P c k j)) (fun j z => [.ref 159, .ref a, .int (nI c), .int (nI (2 ^ S - 1)), .int (nI j), z.2.2.1, z.2.2.2]) 512 ?_ ?_ 0 e (y2, g, u5, u6) (by omega) ⟨s3, L3, O3, hw2, fun k hk => hg k (by omega)⟩
    · rintro j e ⟨y4, g4, ua, ub⟩ hj ⟨s4, L4, O4, hw4, hk4⟩ hI
      dsimp only at hk4
      have V4 := V.fr (f' := e) (fun b h1 h2 => s4 b (by omega))
      have W4 := W.fr (f' := e) (fun b h1 h2 => s4 b (by omega))
      have hcj : (512 ≤ j) = False := eq_false (by omega)
      have hKs : ∀ k, l_K all S P c k (j + 1) = if (sub j (nT all) && decide (0 < c_w all P j) && (!m_hold all S P j && hkd all S P (nT all) j c 0 k)) = true then l_K all S P c k j + c_w all P j else l_K all S P c k j := fun _ => rfl
      have hcw : c_w all P j ≤ 1000000000 := c_le9 I.FR h9
      have q4 := O4.1
      simp (disch := first | omega | decide | assumption | exact Nat.le_of_ble_eq_true rfl) only [s110_51, s110_53, s110_56, s110_59, s110_60, ow_some, true_and, and_true, and_self, if_true, if_false, not_true, not_false_eq_true, Bool.false_eq_true, eq_self, Option.toList, List.cons_append, List.nil_append, ix_in, ix_cl, lt_in, lt_cl, lt_add, ix_one, vu_eq, vu_ne, arI_mk, arL_mk, arY_mZ, arY_mB, alen_mI, fld_sfl_ne, fld_sfl_same, Option.isSome_some, pok_i, b1z, b01, z10, b1o, Int32.zero_add, vu_vu, upd_eq, upd_ne, true_or, or_true, lt_le, hcj]
      rw [p110_62 (Nat.le_of_ble_eq_true rfl) (sp_likely V4 W4 G I hj)]
      by_cases hs : sub j (nT all) = true
      · rw [if_pos hs]
        simp (disch := first | omega | decide | assumption | exact Nat.le_of_ble_eq_true rfl) only [s110_65, s110_67, s110_69, s110_70, ow_some, true_and, and_true, and_self, if_true, if_false, not_true, not_false_eq_true, Bool.false_eq_true, eq_self, Option.toList, List.cons_append, List.nil_append, ix_in, ix_cl, lt_in, lt_cl, lt_add, ix_one, vu_eq, vu_ne, arI_mk, arL_mk, arY_mZ, arY_mB, alen_mI, fld_sfl_ne, fld_sfl_same, Option.isSome_some, pok_i, b1z, b01, z10, b1o, Int32.zero_add, vu_vu, upd_eq, upd_ne, true_or, or_true]
        simp only [s110_71, lg_le, l0I, lI_toInt (show c_w all P j < 9223372036854775808 by omega)]
        by_cases hw0 : c_w all P j = 0
        · have c1 : ((c_w all P j : Int) ≤ 0) = True := eq_true (by omega)
          simp only [c1, if_true]
          simp (disch := first | omega | decide | assumption | exact Nat.le_of_ble_eq_true rfl) only [s110_99, h110_102, ow_some, true_and, and_true, and_self, if_true, if_false, not_true, not_false_eq_true, Bool.false_eq_true, eq_self, Option.toList, List.cons_append, List.nil_append, ix_in, ix_cl, lt_in, lt_cl, lt_add, ix_one, vu_eq, vu_ne, arI_mk, arL_mk, arY_mZ, arY_mB, alen_mI, fld_sfl_ne, fld_sfl_same, Option.isSome_some, pok_i, b1z, b01, z10, b1o, Int32.zero_add, vu_vu, upd_eq, upd_ne, true_or, or_true]
          refine hI _ (y4, g4, _, _) ⟨s4, L4, O4, hw4, fun k hk => ?_⟩
          dsimp only
          rw [hKs, hw0, hs]
          simpa using hk4 k hk
        · have c1 : ((c_w all P j : Int) ≤ 0) = False := eq_false (by omega)
          have c2 : decide (0 < c_w all P j) = true := decide_eq_true (by omega)
          simp only [c1, if_false]
          simp (disch := first | omega | decide | assumption | exact Nat.le_of_ble_eq_true rfl) only [s110_74, s110_75, s110_78, s110_79, ow_some, true_and, and_true, and_self, if_true, if_false, not_true, not_false_eq_true, Bool.false_eq_true, eq_self, Option.toList, List.cons_append, List.nil_append, ix_in, ix_cl, lt_in, lt_cl, lt_add, ix_one, vu_eq, vu_ne, arI_mk, arL_mk, arY_mZ, arY_mB, alen_mI, fld_sfl_ne, fld_sfl_same, Option.isSome_some, pok_i, b1z, b01, z10, b1o, Int32.zero_add, vu_vu, upd_eq, upd_ne, true_or, or_true, q4]
          refine k110_81 L4.cn (Nat.le_of_ble_eq_true rfl) (sp_slackOf L4 V4 W4 G I hd hs hw4) ?_
          rintro f5 n5 k5 v5 ⟨rfl, rfl, s5, ⟨g5, L5, hg5⟩, rfl⟩
          have s5' : SI 162 171 f f5 := s4.tr (s5.wd (by omega) (by omega))
          have O5 : XV f5 q b2 mo up g4 := O4.fr (s5 159 (by omega)) (fun b h1 h2 => s5 b (by omega))
          have V5 := V.fr (f' := f5) (fun b h1 h2 => s5' b (by omega))
          have W5 := W.fr (f' := f5) (fun b h1 h2 => s5' b (by omega))
          have hh := sp_ge0 (all := all) (S := S) (P := P) (T := j)
          by_cases hb : m_hold all S P j = true
          · have hb' : (m_hold all S P j = true) = True := eq_true hb
            simp (disch := first | omega | decide | assumption | exact Nat.le_of_ble_eq_true rfl) only [s110_84, s110_99, h110_102, ow_some, true_and, and_true, and_self, if_true, if_false, not_true, not_false_eq_true, Bool.false_eq_true, eq_self, Option.toList, List.cons_append, List.nil_append, ix_in, ix_cl, lt_in, lt_cl, lt_add, ix_one, vu_eq, vu_ne, arI_mk, arL_mk, arY_mZ, arY_mB, alen_mI, fld_sfl_ne, fld_sfl_same, Option.isSome_some, pok_i, b1z, b01, z10, b1o, Int32.zero_add, vu_vu, upd_eq, upd_ne, true_or, or_true, hh, hb']
            refine hI _ (_, g4, _, _) ⟨s5', L5, O5, wgd_up hw4, fun k hk => ?_⟩
            dsimp only
            rw [hKs, hb, hs, c2]
            simpa using hk4 k hk
          · have hb' : (m_hold all S P j = true) = False := eq_false hb
            simp (disch := first | omega | decide | assumption | exact Nat.le_of_ble_eq_true rfl) only [s110_84, s110_87, s110_88, s110_89, s110_90, ow_some, true_and, and_true, and_self, if_true, if_false, not_true, not_false_eq_true, Bool.false_eq_true, eq_self, Option.toList, List.cons_append, List.nil_append, ix_in, ix_cl, lt_in, lt_cl, lt_add, ix_one, vu_eq, vu_ne, arI_mk, arL_mk, arY_mZ, arY_mB, alen_mI, fld_sfl_ne, fld_sfl_same, Option.isSome_some, pok_i, b1z, b01, z10, b1o, Int32.zero_add, vu_vu, upd_eq, upd_ne, true_or, or_true, hh, hb']
            refine k110_91 O5.cn (Nat.le_of_ble_eq_true rfl) (sp_thatStand (c := c) (n := 0) (T := j) (Tx := nT all) L5 V5 W5 G I hd O5 hq hP9 hc (show 2 ^ S - 1 < 512 by omega) (fun k hk => by rw [up2_eq, lat_0]; exact hg5 k hk) hb2) ?_
            rintro f6 n6 k6 v6 ⟨rfl, rfl, s6, ⟨y6, L6, O6, hy6, -⟩, rfl⟩
            have hl5 : sel (fun k => (2 ^ S - 1).testBit k && hkd all S P (nT all) j c 0 k) S < 512 := sel_lt' (by omega)
            simp (disch := first | omega | decide | assumption | exact Nat.le_of_ble_eq_true rfl) only [s110_94, ow_some, true_and, and_true, and_self, if_true, if_false, not_true, not_false_eq_true, Bool.false_eq_true, eq_self, Option.toList, List.cons_append, List.nil_append, ix_in, ix_cl, lt_in, lt_cl, lt_add, ix_one, vu_eq, vu_ne, arI_mk, arL_mk, arY_mZ, arY_mB, alen_mI, fld_sfl_ne, fld_sfl_same, Option.isSome_some, pok_i, b1z, b01, z10, b1o, Int32.zero_add, vu_vu, upd_eq, upd_ne, true_or, or_true]
            refine k110_96 O6.cn (Nat.le_of_ble_eq_true rfl) (sp_addWhere O6 hl5) ?_
            rintro f7 n7 k7 v7 ⟨rfl, rfl, rfl, s7, g7, O7, hg7⟩
            simp (disch := first | omega | decide | assumption | exact Nat.le_of_ble_eq_true rfl) only [s110_99, h110_102, ow_some, true_and, and_true, and_self, if_true, if_false, not_true, not_false_eq_true, Bool.false_eq_true, eq_self, Option.toList, List.cons_append, List.nil_append, ix_in, ix_cl, lt_in, lt_cl, lt_add, ix_one, vu_eq, vu_ne, arI_mk, arL_mk, arY_mZ, arY_mB, alen_mI, fld_sfl_ne, fld_sfl_same, Option.isSome_some, pok_i, b1z, b01, z10, b1o, Int32.zero_add, vu_vu, upd_eq, upd_ne, true_or, or_true]
            refine hI _ (y6, g7, _, _) ⟨(s5'.tr s6).tr (s7.wd (by omega) (by omega)), L6.fr (fun b h1 h2 => s7 b (by omega)), O7, ?_, fun k hk => ?_⟩
            · intro i hi hbi
              dsimp only
              rw [hy6 2 (by decide), hy6 3 (by decide)]
              exact wgd_up hw4 i hi hbi
            · dsimp only
              rw [hg7 k (by omega), hKs, sel_bit, Nat.testBit_two_pow_sub_one, decide_eq_true hk, hs, c2, Bool.eq_false_iff.mpr hb, hk4 k hk]
              cases hkd all S P (nT all) j c 0 k
              · simp
              · simp [lI_add]
      · rw [if_neg hs]
        simp (disch := first | omega | decide | assumption | exact Nat.le_of_ble_eq_true rfl) only [s110_65, s110_67, s110_69, s110_70, ow_some, true_and, and_true, and_self, if_true, if_false, not_true, not_false_eq_true, Bool.false_eq_true, eq_self, Option.toList, List.cons_append, List.nil_append, ix_in, ix_cl, lt_in, lt_cl, lt_add, ix_one, vu_eq, vu_ne, arI_mk, arL_mk, arY_mZ, arY_mB, alen_mI, fld_sfl_ne, fld_sfl_same, Option.isSome_some, pok_i, b1z, b01, z10, b1o, Int32.zero_add, vu_vu, upd_eq, upd_ne, true_or, or_true]
        have c0 : (lg_cmp 0 0 ≤ 0) = True := by rw [lg_le]; exact eq_true (Int.le_refl _)
        simp (disch := first | omega | decide | assumption | exact Nat.le_of_ble_eq_true rfl) only [s110_71, s110_99, h110_102, ow_some, true_and, and_true, and_self, if_true, if_false, not_true, not_false_eq_true, Bool.false_eq_true, eq_self, Option.toList, List.cons_append, List.nil_append, ix_in, ix_cl, lt_in, lt_cl, lt_add, ix_one, vu_eq, vu_ne, arI_mk, arL_mk, arY_mZ, arY_mB, alen_mI, fld_sfl_ne, fld_sfl_same, Option.isSome_some, pok_i, b1z, b01, z10, b1o, Int32.zero_add, vu_vu, upd_eq, upd_ne, true_or, or_true, c0]
        refine hI _ (y4, g4, _, _) ⟨s4, L4, O4, hw4, fun k hk => ?_⟩
        dsimp only
        rw [hKs, Bool.eq_false_iff.mpr hs]
        simpa using hk4 k hk
    · rintro e ⟨y4, g4, ua, ub⟩ ⟨s4, L4, O4, hw4, hk4⟩
      dsimp only at hk4
      have V4 := V.fr (f' := e) (fun b h1 h2 => s4 b (by omega))
      have W4 := W.fr (f' := e) (fun b h1 h2 => s4 b (by omega))
      obtain ⟨c1, c2, c3, c4, c5, c6, c7, c8, c9⟩ := id O4
      simp (disch := first | omega | decide | assumption | exact Nat.le_of_ble_eq_true rfl) only [s110_51, s110_53, s110_56, s110_105, s110_106, s110_108, h110_109, ow_some, true_and, and_true, and_self, if_true, if_false, not_true, not_false_eq_true, Bool.false_eq_true, eq_self, Option.toList, List.cons_append, List.nil_append, ix_in, ix_cl, lt_in, lt_cl, lt_add, ix_one, vu_eq, vu_ne, arI_mk, arL_mk, arY_mZ, arY_mB, alen_mI, fld_sfl_ne, fld_sfl_same, Option.isSome_some, pok_i, b1z, b01, z10, b1o, Int32.zero_add, vu_vu, upd_eq, upd_ne, true_or, or_true, lt_le, Nat.le_refl]
      suffices key : ∀ (m n : Nat), n + m = S - 1 → ∀ (ub : Value), TH X (d + 4) 110 111 [.ref 159, .ref a, .int (nI c), .int (nI (2 ^ S - 1)), .int (nI (fst_g (fun k => l_K all S P c k 512) n)), .int (nI (n + 1)), ub] [] e n2 k2 (QX f n2 k2 q (nI (fst_g (fun k => l_K all S P c k 512) (S - 1)))) from key (S - 1) 0 (by omega) ub
      intro m
      induction m with
      | zero =>
        intro n hn ub
        unfold TH
        have hcn : (S ≤ n + 1) = True := eq_true (by omega)
        have en : n = S - 1 := by omega
        simp (disch := first | omega | decide | assumption | exact Nat.le_of_ble_eq_true rfl) only [s110_111, s110_113, s110_114, s110_117, s110_120, s110_151, s110_153, ow_some, true_and, and_true, and_self, if_true, if_false, not_true, not_false_eq_true, Bool.false_eq_true, eq_self, Option.toList, List.cons_append, List.nil_append, ix_in, ix_cl, lt_in, lt_cl, lt_add, ix_one, vu_eq, vu_ne, arI_mk, arL_mk, arY_mZ, arY_mB, alen_mI, fld_sfl_ne, fld_sfl_same, Option.isSome_some, pok_i, b1z, b01, z10, b1o, Int32.zero_add, vu_vu, upd_eq, upd_ne, true_or, or_true, V4.v1, V4.v6, V4.v7, V4.v8, V4.v9, V4.i1, V4.i6, V4.i7, V4.i8, V4.i9, V4.r2, V4.r3, V4.r4, V4.r5, V4.pl, V4.a2, V4.a3, V4.a4, V4.a5, W4.v0, W4.v3, W4.v10, W4.v11, W4.v12, W4.v14, W4.v15, W4.v16, W4.v17, W4.v18, W4.r1, W4.r2, W4.r4, W4.r5, W4.r6, W4.r7, W4.r8, W4.r9, W4.r13, W4.a1, W4.a2, W4.a4, W4.a5, W4.a6, W4.a7, W4.a8, W4.a9, W4.a13, hS, ix_le, hcn]
        rw [en]
        exact ⟨rfl, rfl, s4, ⟨y4, b2, mo, up, g4, L4, O4⟩, rfl⟩
      | succ m ih =>
        intro n hn ub
        unfold TH
        have hcn : (S ≤ n + 1) = False := eq_false (by omega)
        have hfl := fst_le (u := fun k => l_K all S P c k 512) n
        have g1 := hk4 (n + 1) (by omega)
        have g2 := hk4 (fst_g (fun k => l_K all S P c k 512) n) (by omega)
        have l1 := lK_le (c := c) (k := n + 1) I 512
        have l2 := lK_le (c := c) (k := fst_g (fun k => l_K all S P c k 512) n) I 512
        have hfs : fst_g (fun k => l_K all S P c k 512) (n + 1) = if l_K all S P c (fst_g (fun k => l_K all S P c k 512) n) 512 < l_K all S P c (n + 1) 512 then n + 1 else fst_g (fun k => l_K all S P c k 512) n := rfl
        simp (disch := first | omega | decide | assumption | exact Nat.le_of_ble_eq_true rfl) only [s110_111, s110_113, s110_114, s110_117, s110_120, s110_123, s110_124, s110_127, s110_129, s110_130, s110_131, s110_134, s110_136, s110_137, ow_some, true_and, and_true, and_self, if_true, if_false, not_true, not_false_eq_true, Bool.false_eq_true, eq_self, Option.toList, List.cons_append, List.nil_append, ix_in, ix_cl, lt_in, lt_cl, lt_add, ix_one, vu_eq, vu_ne, arI_mk, arL_mk, arY_mZ, arY_mB, alen_mI, fld_sfl_ne, fld_sfl_same, Option.isSome_some, pok_i, b1z, b01, z10, b1o, Int32.zero_add, vu_vu, upd_eq, upd_ne, true_or, or_true, V4.v1, V4.v6, V4.v7, V4.v8, V4.v9, V4.i1, V4.i6, V4.i7, V4.i8, V4.i9, V4.r2, V4.r3, V4.r4, V4.r5, V4.pl, V4.a2, V4.a3, V4.a4, V4.a5, W4.v0, W4.v3, W4.v10, W4.v11, W4.v12, W4.v14, W4.v15, W4.v16, W4.v17, W4.v18, W4.r1, W4.r2, W4.r4, W4.r5, W4.r6, W4.r7, W4.r8, W4.r9, W4.r13, W4.a1, W4.a2, W4.a4, W4.a5, W4.a6, W4.a7, W4.a8, W4.a9, W4.a13, hS, ix_le, hcn, c5, c9, g1, g2]
        simp only [s110_138, lg_le, lI_toInt (show l_K all S P c (n + 1) 512 < 9223372036854775808 by omega), lI_toInt (show l_K all S P c (fst_g (fun k => l_K all S P c k 512) n) 512 < 9223372036854775808 by omega)]
        by_cases hlt : l_K all S P c (fst_g (fun k => l_K all S P c k 512) n) 512 < l_K all S P c (n + 1) 512
        · have hlt' : ((l_K all S P c (n + 1) 512 : Int) ≤ (l_K all S P c (fst_g (fun k => l_K all S P c k 512) n) 512 : Int)) = False := eq_false (by omega)
          rw [if_pos hlt] at hfs
          simp only [hlt', if_false]
          simp (disch := first | omega | decide | assumption | exact Nat.le_of_ble_eq_true rfl) only [s110_141, s110_143, s110_145, h110_148, ow_some, true_and, and_true, and_self, if_true, if_false, not_true, not_false_eq_true, Bool.false_eq_true, eq_self, Option.toList, List.cons_append, List.nil_append, ix_in, ix_cl, lt_in, lt_cl, lt_add, ix_one, vu_eq, vu_ne, arI_mk, arL_mk, arY_mZ, arY_mB, alen_mI, fld_sfl_ne, fld_sfl_same, Option.isSome_some, pok_i, b1z, b01, z10, b1o, Int32.zero_add, vu_vu, upd_eq, upd_ne, true_or, or_true]
          have := ih (n + 1) (by omega) ub
          rw [hfs] at this
          exact this
        · have hlt' : ((l_K all S P c (n + 1) 512 : Int) ≤ (l_K all S P c (fst_g (fun k => l_K all S P c k 512) n) 512 : Int)) = True := eq_true (by omega)
          rw [if_neg hlt] at hfs
          simp only [hlt', if_true]
          simp (disch := first | omega | decide | assumption | exact Nat.le_of_ble_eq_true rfl) only [s110_145, h110_148, ow_some, true_and, and_true, and_self, if_true, if_false, not_true, not_false_eq_true, Bool.false_eq_true, eq_self, Option.toList, List.cons_append, List.nil_append, ix_in, ix_cl, lt_in, lt_cl, lt_add, ix_one, vu_eq, vu_ne, arI_mk, arL_mk, arY_mZ, arY_mB, alen_mI, fld_sfl_ne, fld_sfl_same, Option.isSome_some, pok_i, b1z, b01, z10, b1o, Int32.zero_add, vu_vu, upd_eq, upd_ne, true_or, or_true]
          have := ih (n + 1) (by omega) ub
          rw [hfs] at this
          exact this
