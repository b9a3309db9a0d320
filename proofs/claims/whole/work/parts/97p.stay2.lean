/-! the class: the longest stay -/
theorem sd_ch {all : Nat → Int32} {S P : Nat} : ∀ (m n : Nat), n ≤ m_sd all S P m n ∧ m_sd all S P m n ≤ n + m ∧ (∀ l, n ≤ l → l < m_sd all S P m n → m_hold (m_lat all l) S P (nT all) = true) ∧ (m_sd all S P m n < n + m → m_hold (m_lat all (m_sd all S P m n)) S P (nT all) = false) := by
  intro m
  induction m with
  | zero => intro n; exact ⟨Nat.le_refl _, Nat.le_refl _, fun l h1 h2 => by have : l < n := h2; omega, fun h => by have : n < n := h; omega⟩
  | succ m ih =>
    intro n
    rw [m_sd_s m]
    by_cases h : m_hold (m_lat all n) S P (nT all) = true
    · rw [if_pos h]
      obtain ⟨a1, a2, a3, a4⟩ := ih (n + 1)
      refine ⟨by omega, by omega, fun l h1 h2 => ?_, fun hlt => a4 (by omega)⟩
      by_cases hl : l = n
      · subst hl; exact h
      · exact a3 l (by omega) h2
    · rw [if_neg h]
      exact ⟨Nat.le_refl _, by omega, fun l h1 h2 => by omega, fun _ => Bool.eq_false_iff.mpr h⟩
theorem best_first {u : Nat → Nat} {n k : Nat} (hu : ∀ j, u j ≤ 1000) (hk : k < n) (h1 : ∀ j, j < n → u j ≤ u k) (h2 : ∀ j, j < k → u j < u k) : (m_best (fun j => nI (u j)) n).1 = some k := by
  have m1 : (-1 : Int32).toInt = -1 := by decide
  have low : ∀ m, m ≤ k → (m_best (fun j => nI (u j)) m).2.toInt < u k := by
    intro m
    induction m with
    | zero => intro _; show (-1 : Int32).toInt < _; rw [m1]; omega
    | succ m ih =>
      intro hm
      rw [m_best_s]
      split
      · have := h2 m (by omega)
        have := hu m
        dsimp only
        rw [nI_toInt (by omega)]
        omega
      · exact ih (by omega)
  have up : ∀ m, k < m → m ≤ n → m_best (fun j => nI (u j)) m = (some k, nI (u k)) := by
    intro m
    induction m with
    | zero => intro h; omega
    | succ m ih =>
      intro h hn
      rw [m_best_s]
      have huk := hu k
      have hum := hu m
      by_cases hkm : m = k
      · subst hkm
        have := low m (Nat.le_refl _)
        rw [if_pos]
        rw [Int32.lt_iff_toInt_lt, nI_toInt (by omega)]
        exact this
      · rw [ih (by omega) (by omega), if_neg]
        dsimp only
        rw [ix_lt (by omega) (by omega)]
        have := h1 m (by omega)
        omega
  rw [up n hk (Nat.le_refl _)]
theorem low_ex {s : Nat} : ∀ n, (∃ k, k < n ∧ s.testBit k = true) → ∃ k, k < n ∧ s.testBit k = true ∧ ∀ j, j < k → s.testBit j = false := by
  intro n
  induction n with
  | zero => rintro ⟨k, hk, -⟩; omega
  | succ n ih =>
    rintro ⟨k, hk, hb⟩
    by_cases h : ∃ k, k < n ∧ s.testBit k = true
    · obtain ⟨k', a1, a2, a3⟩ := ih h
      exact ⟨k', by omega, a2, a3⟩
    · refine ⟨k, hk, hb, fun j hj => ?_⟩
      cases hbj : s.testBit j with
      | false => rfl
      | true => exact absurd ⟨j, by omega, hbj⟩ h
theorem sel_lt' {c : Nat → Bool} {S : Nat} (hS : S ≤ 9) : sel c S < 512 := Nat.lt_of_lt_of_le sel_lt (pw9 hS)
theorem sp_longestStay {X : Nat × (Nat → Int32)} {d N K a pl C S R P q : Nat} {f : Nat → e_C} {y x r : Nat → Nat → Int32} {w v all br mo up : Nat → Int32} {li : Nat → Int64} (L : LV f q y) (V : SV f a pl w x) (W : PV f pl v r C) (G : CR all S P w x v r C) (I : IS all S R P) (hd : AD a pl q) (O : XV f q br mo up li) (hq : q = 160) {c : Nat} (hc : c < 100) (hP9 : P < 9) {u3 u4 u5 : Value} : TT X (d + 4) 107 0 [.ref 159, .ref a, .int (nI c), u3, u4, u5] [] f N K (QX f N K q (oI (m_best (fun k => nI (m_sd (m_come all P (nT all) (nI k) (nI c)) S (P + 1) 100 0)) S).1)) := by
  have h8 := I.s8
  have h1S := I.s1
  have hS : v 0 = nI S := by rw [G.v0]; exact I.eS
  have hp2 : (1 : Int32) <<< (nI S &&& 31) - 1 = nI (2 ^ S - 1) := p2m S (by omega)
  have hsd : ∀ k, m_sd (m_come all P (nT all) (nI k) (nI c)) S (P + 1) 100 0 ≤ 100 := fun k => by have := (sd_ch (all := m_come all P (nT all) (nI k) (nI c)) (S := S) (P := P + 1) 100 0).2.1; omega
  have hhk : ∀ k l, m_hold (m_lat (m_come all P (nT all) (nI k) (nI c)) l) S (P + 1) (nT (m_come all P (nT all) (nI k) (nI c))) = hkd all S P (nT all) (nT all) c l k := by
    intro k l
    rw [(come_nT (k := nI k) (b := nI c) I.tP hP9).1]
    rfl
  -- the last step of it
  have last : ∀ (st M : Nat) (e : Nat → e_C) (y1 : Nat → Nat → Int32) (b1 : Nat → Int32) (u4 u5 : Value), SI 162 171 f e → LV e q y1 → XV e q b1 mo up li → st < 512 → (∀ k, st.testBit k = true ↔ k < S ∧ M ≤ m_sd (m_come all P (nT all) (nI k) (nI c)) S (P + 1) 100 0) → (∀ k, k < S → m_sd (m_come all P (nT all) (nI k) (nI c)) S (P + 1) 100 0 ≤ M) → (∃ k, st.testBit k = true) → TT X (d + 4) 107 68 [.ref 159, .ref a, .int (nI c), .int (nI st), u4, u5] [] e N K (QX f N K q (oI (m_best (fun k => nI (m_sd (m_come all P (nT all) (nI k) (nI c)) S (P + 1) 100 0)) S).1)) := by
    intro st M e y1 b1 u4 u5 s1 L1 O1 hst hbit hM hex
    obtain ⟨k0, hk0⟩ := hex
    obtain ⟨k, a1, a2, a3⟩ := low_ex (s := st) 9 ⟨k0, bit_lo hst hk0, hk0⟩
    have hkS := (hbit k).mp a2
    have hbest := best_first (u := fun k => m_sd (m_come all P (nT all) (nI k) (nI c)) S (P + 1) 100 0) (n := S) (k := k) (fun j => by have := hsd j; omega) hkS.1 (fun j hj => by have := hM j hj; have := hkS.2; omega) (fun j hj => by
      have h1 := a3 j hj
      have h3 : ¬ M ≤ m_sd (m_come all P (nT all) (nI j) (nI c)) S (P + 1) 100 0 := fun z => by
        have := (hbit j).mpr ⟨by omega, z⟩
        rw [h1] at this
        cases this
      have := hkS.2
      omega)
    simp (disch := first | omega | decide | assumption | exact Nat.le_of_ble_eq_true rfl) only [s107_68, ow_some, true_and, and_true, and_self, if_true, if_false, not_true, not_false_eq_true, Bool.false_eq_true, eq_self, Option.toList, List.cons_append, List.nil_append, ix_in, ix_cl, lt_in, lt_cl, lt_add, ix_one, vu_eq, vu_ne, arI_mk, arL_mk, arY_mZ, arY_mB, alen_mI, fld_sfl_ne, fld_sfl_same, Option.isSome_some, pok_i, b1z, b01, z10, b1o, Int32.zero_add, vu_vu, upd_eq, upd_ne, true_or, or_true]
    rw [p107_69 (Nat.le_of_ble_eq_true rfl) (sp_ntz hst a1 a2 a3)]
    simp (disch := first | omega | decide | assumption | exact Nat.le_of_ble_eq_true rfl) only [s107_72, ow_some, true_and, and_true, and_self, if_true, if_false, not_true, not_false_eq_true, Bool.false_eq_true, eq_self, Option.toList, List.cons_append, List.nil_append, ix_in, ix_cl, lt_in, lt_cl, lt_add, ix_one, vu_eq, vu_ne, arI_mk, arL_mk, arY_mZ, arY_mB, alen_mI, fld_sfl_ne, fld_sfl_same, Option.isSome_some, pok_i, b1z, b01, z10, b1o, Int32.zero_add, vu_vu, upd_eq, upd_ne, true_or, or_true]
    rw [hbest]
    exact ⟨rfl, rfl, s1, ⟨y1, b1, mo, up, li, L1, O1⟩, rfl⟩
  simp (disch := first | omega | decide | assumption | exact Nat.le_of_ble_eq_true rfl) only [s107_0, s107_1, s107_2, s107_5, s107_8, s107_9, s107_10, s107_11, s107_12, h107_13, ow_some, true_and, and_true, and_self, if_true, if_false, not_true, not_false_eq_true, Bool.false_eq_true, eq_self, Option.toList, List.cons_append, List.nil_append, ix_in, ix_cl, lt_in, lt_cl, lt_add, ix_one, vu_eq, vu_ne, arI_mk, arL_mk, arY_mZ, arY_mB, alen_mI, fld_sfl_ne, fld_sfl_same, Option.isSome_some, pok_i, b1z, b01, z10, b1o, Int32.zero_add, vu_vu, upd_eq, upd_ne, true_or, or_true, V.v1, V.v6, V.v7, V.v8, V.v9, V.i1, V.i6, V.i7, V.i8, V.i9, V.r2, V.r3, V.r4, V.r5, V.pl, V.a2, V.a3, V.a4, V.a5, W.v0, W.v3, W.v10, W.v11, W.v12, W.v14, W.v15, W.v16, W.v17, W.v18, W.r1, W.r2, W.r4, W.r5, W.r6, W.r7, W.r8, W.r9, W.r13, W.a1, W.a2, W.a4, W.a5, W.a6, W.a7, W.a8, W.a9, W.a13, hS, hp2]
  have h256 : 2 ^ S ≤ 512 := pw9 (by omega)
  have hall : ∀ k, (2 ^ S - 1).testBit k = true ↔ k < S ∧ 0 ≤ m_sd (m_come all P (nT all) (nI k) (nI c)) S (P + 1) 100 0 := by
    intro k
    rw [Nat.testBit_two_pow_sub_one, decide_eq_true_iff]
    exact ⟨fun h => ⟨h, Nat.zero_le _⟩, fun h => h.1⟩
  suffices key : ∀ (m n st : Nat) (e : Nat → e_C) (y1 : Nat → Nat → Int32) (b1 : Nat → Int32) (u5 : Value), n + m = 100 → SI 162 171 f e → LV e q y1 → XV e q b1 mo up li → st < 512 → (∀ k, st.testBit k = true ↔ k < S ∧ n ≤ m_sd (m_come all P (nT all) (nI k) (nI c)) S (P + 1) 100 0) → (∃ k, st.testBit k = true) → TH X (d + 4) 107 15 [.ref 159, .ref a, .int (nI c), .int (nI st), .int (nI n), u5] [] e N K (QX f N K q (oI (m_best (fun k => nI (m_sd (m_come all P (nT all) (nI k) (nI c)) S (P + 1) 100 0)) S).1)) from key 100 0 (2 ^ S - 1) f y br u5 rfl SI.rf L O (by omega) hall ⟨0, (hall 0).mpr ⟨by omega, Nat.zero_le _⟩⟩
  intro m
  induction m with
  | zero =>
    intro n st e y1 b1 u5 hn s1 L1 O1 hst hbit hex
    unfold TH
    have hcn : (100 ≤ n) = True := eq_true (by omega)
    simp (disch := first | omega | decide | assumption | exact Nat.le_of_ble_eq_true rfl) only [s107_15, s107_17, s107_19, ow_some, true_and, and_true, and_self, if_true, if_false, not_true, not_false_eq_true, Bool.false_eq_true, eq_self, Option.toList, List.cons_append, List.nil_append, ix_in, ix_cl, lt_in, lt_cl, lt_add, ix_one, vu_eq, vu_ne, arI_mk, arL_mk, arY_mZ, arY_mB, alen_mI, fld_sfl_ne, fld_sfl_same, Option.isSome_some, pok_i, b1z, b01, z10, b1o, Int32.zero_add, vu_vu, upd_eq, upd_ne, true_or, or_true, lt_le, hcn]
    exact last st n e y1 b1 _ _ s1 L1 O1 hst hbit (fun k _ => by have := hsd k; omega) hex
  | succ m ih =>
    intro n st e y1 b1 u5 hn s1 L1 O1 hst hbit hex
    unfold TH
    have V1 := V.fr (f' := e) (fun b h1 h2 => s1 b (by omega))
    have W1 := W.fr (f' := e) (fun b h1 h2 => s1 b (by omega))
    have hcn : (100 ≤ n) = False := eq_false (by omega)
    have q1 := O1.1
    have sdc : ∀ k, (n + 1 ≤ m_sd (m_come all P (nT all) (nI k) (nI c)) S (P + 1) 100 0) ↔ (n ≤ m_sd (m_come all P (nT all) (nI k) (nI c)) S (P + 1) 100 0 ∧ hkd all S P (nT all) (nT all) c n k = true) := by
      intro k
      obtain ⟨a1, a2, a3, a4⟩ := sd_ch (all := m_come all P (nT all) (nI k) (nI c)) (S := S) (P := P + 1) 100 0
      constructor
      · intro h
        refine ⟨by omega, ?_⟩
        rw [← hhk]
        exact a3 n (by omega) (by omega)
      · rintro ⟨h1, h2⟩
        by_cases he : m_sd (m_come all P (nT all) (nI k) (nI c)) S (P + 1) 100 0 = n
        · have h3 := a4 (by omega)
          rw [he, hhk, h2] at h3
          cases h3
        · omega
    simp (disch := first | omega | decide | assumption | exact Nat.le_of_ble_eq_true rfl) only [s107_15, s107_17, s107_19, s107_22, s107_23, s107_26, s107_27, ow_some, true_and, and_true, and_self, if_true, if_false, not_true, not_false_eq_true, Bool.false_eq_true, eq_self, Option.toList, List.cons_append, List.nil_append, ix_in, ix_cl, lt_in, lt_cl, lt_add, ix_one, vu_eq, vu_ne, arI_mk, arL_mk, arY_mZ, arY_mB, alen_mI, fld_sfl_ne, fld_sfl_same, Option.isSome_some, pok_i, b1z, b01, z10, b1o, Int32.zero_add, vu_vu, upd_eq, upd_ne, true_or, or_true, lt_le, hcn, q1]
    refine k107_29 L1.cn (Nat.le_of_ble_eq_true rfl) (sp_later L1 V1 W1 G I hd (n := n) (by omega)) ?_
    rintro f2 n2 k2 v2 ⟨rfl, rfl, s2, ⟨y2, L2, hy2, hr2⟩, rfl⟩
    have s2' : SI 162 171 f f2 := s1.tr (s2.wd (by omega) (by omega))
    have O2 : XV f2 q b1 mo up li := O1.fr (s2 159 (by omega)) (fun b h1 h2 => s2 b (by omega))
    have hh := sp_ge0 (all := m_lat all n) (S := S) (P := P) (T := nT all)
    by_cases hb : m_hold (m_lat all n) S P (nT all) = true
    · have hb' : (m_hold (m_lat all n) S P (nT all) = true) = True := eq_true hb
      simp (disch := first | omega | decide | assumption | exact Nat.le_of_ble_eq_true rfl) only [s107_32, s107_62, h107_65, ow_some, true_and, and_true, and_self, if_true, if_false, not_true, not_false_eq_true, Bool.false_eq_true, eq_self, Option.toList, List.cons_append, List.nil_append, ix_in, ix_cl, lt_in, lt_cl, lt_add, ix_one, vu_eq, vu_ne, arI_mk, arL_mk, arY_mZ, arY_mB, alen_mI, fld_sfl_ne, fld_sfl_same, Option.isSome_some, pok_i, b1z, b01, z10, b1o, Int32.zero_add, vu_vu, upd_eq, upd_ne, true_or, or_true, hh, hb']
      refine ih (n + 1) st f2 y2 b1 _ (by omega) s2' L2 O2 hst (fun k => ?_) hex
      rw [hbit k, sdc k]
      exact ⟨fun h => ⟨h.1, h.2, hold_nal I hP9 h.1 hc hb⟩, fun h => ⟨h.1, h.2.1⟩⟩
    · have hb' : (m_hold (m_lat all n) S P (nT all) = true) = False := eq_false hb
      have V2 := V.fr (f' := f2) (fun b h1 h2 => s2' b (by omega))
      have W2 := W.fr (f' := f2) (fun b h1 h2 => s2' b (by omega))
      simp (disch := first | omega | decide | assumption | exact Nat.le_of_ble_eq_true rfl) only [s107_32, s107_35, s107_36, s107_37, s107_38, ow_some, true_and, and_true, and_self, if_true, if_false, not_true, not_false_eq_true, Bool.false_eq_true, eq_self, Option.toList, List.cons_append, List.nil_append, ix_in, ix_cl, lt_in, lt_cl, lt_add, ix_one, vu_eq, vu_ne, arI_mk, arL_mk, arY_mZ, arY_mB, alen_mI, fld_sfl_ne, fld_sfl_same, Option.isSome_some, pok_i, b1z, b01, z10, b1o, Int32.zero_add, vu_vu, upd_eq, upd_ne, true_or, or_true, hh, hb']
      refine k107_40 O2.cn (Nat.le_of_ble_eq_true rfl) (sp_bringAll L2 V2 W2 G I hd O2 hq) ?_
      rintro f3 n3 k3 v3 ⟨rfl, rfl, rfl, s3, y3, b3, L3, O3, hy3, hb3⟩
      have s3' : SI 162 171 f f3 := s2'.tr s3
      have V3 := V.fr (f' := f3) (fun b h1 h2 => s3' b (by omega))
      have W3 := W.fr (f' := f3) (fun b h1 h2 => s3' b (by omega))
      simp (disch := first | omega | decide | assumption | exact Nat.le_of_ble_eq_true rfl) only [s107_43, s107_44, s107_45, ow_some, true_and, and_true, and_self, if_true, if_false, not_true, not_false_eq_true, Bool.false_eq_true, eq_self, Option.toList, List.cons_append, List.nil_append, ix_in, ix_cl, lt_in, lt_cl, lt_add, ix_one, vu_eq, vu_ne, arI_mk, arL_mk, arY_mZ, arY_mB, alen_mI, fld_sfl_ne, fld_sfl_same, Option.isSome_some, pok_i, b1z, b01, z10, b1o, Int32.zero_add, vu_vu, upd_eq, upd_ne, true_or, or_true]
      refine k107_46 O3.cn (Nat.le_of_ble_eq_true rfl) (sp_thatStand (c := c) (n := n) (T := nT all) (Tx := nT all) L3 V3 W3 G I hd O3 hq hP9 hc hst (fun k hk => by rw [hy3 4 (by omega)]; exact hr2 k hk) hb3) ?_
      rintro f4 n4 k4 v4 ⟨rfl, rfl, s4, ⟨y4, L4, O4, -, -⟩, rfl⟩
      have s4' : SI 162 171 f f4 := s3'.tr s4
      have hl5 : sel (fun k => st.testBit k && hkd all S P (nT all) (nT all) c n k) S < 512 := sel_lt' (by omega)
      have hlb : ∀ k, (sel (fun k => st.testBit k && hkd all S P (nT all) (nT all) c n k) S).testBit k = true ↔ k < S ∧ n + 1 ≤ m_sd (m_come all P (nT all) (nI k) (nI c)) S (P + 1) 100 0 := by
        intro k
        rw [sel_bit, sdc k, Bool.and_eq_true, Bool.and_eq_true, decide_eq_true_iff, hbit k]
        exact ⟨fun h => ⟨h.1, h.2.1.2, h.2.2⟩, fun h => ⟨h.1, ⟨h.1, h.2.1⟩, h.2.2⟩⟩
      generalize sel (fun k => st.testBit k && hkd all S P (nT all) (nT all) c n k) S = lf at hl5 hlb ⊢
      by_cases h0 : lf = 0
      · have z0 : (nI lf = 0) = True := eq_true (by rw [h0]; rfl)
        simp (disch := first | omega | decide | assumption | exact Nat.le_of_ble_eq_true rfl) only [s107_49, s107_51, s107_53, s107_56, ow_some, true_and, and_true, and_self, if_true, if_false, not_true, not_false_eq_true, Bool.false_eq_true, eq_self, Option.toList, List.cons_append, List.nil_append, ix_in, ix_cl, lt_in, lt_cl, lt_add, ix_one, vu_eq, vu_ne, arI_mk, arL_mk, arY_mZ, arY_mB, alen_mI, fld_sfl_ne, fld_sfl_same, Option.isSome_some, pok_i, b1z, b01, z10, b1o, Int32.zero_add, vu_vu, upd_eq, upd_ne, true_or, or_true, z0]
        refine last st n f4 y4 b3 _ _ s4' L4 O4 hst hbit (fun k hk => ?_) hex
        by_cases hle : n + 1 ≤ m_sd (m_come all P (nT all) (nI k) (nI c)) S (P + 1) 100 0
        · have := (hlb k).mpr ⟨hk, hle⟩
          rw [h0, Nat.zero_testBit] at this
          cases this
        · omega
      · have z0 : (nI lf = 0) = False := by
          apply eq_false
          intro z
          have z : nI lf = nI 0 := z
          rw [ix_eq (by omega) (by omega)] at z
          exact h0 z
        simp (disch := first | omega | decide | assumption | exact Nat.le_of_ble_eq_true rfl) only [s107_49, s107_51, s107_53, s107_56, s107_59, s107_61, s107_62, h107_65, ow_some, true_and, and_true, and_self, if_true, if_false, not_true, not_false_eq_true, Bool.false_eq_true, eq_self, Option.toList, List.cons_append, List.nil_append, ix_in, ix_cl, lt_in, lt_cl, lt_add, ix_one, vu_eq, vu_ne, arI_mk, arL_mk, arY_mZ, arY_mB, alen_mI, fld_sfl_ne, fld_sfl_same, Option.isSome_some, pok_i, b1z, b01, z10, b1o, Int32.zero_add, vu_vu, upd_eq, upd_ne, true_or, or_true, z0]
        exact ih (n + 1) lf f4 y4 b3 _ (by omega) s4' L4 O4 hl5 hlb (Nat.exists_testBit_of_ne_zero h0)
