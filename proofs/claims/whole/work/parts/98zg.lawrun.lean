/-! the law, run by run -/
section LAW
variable {X : Nat × (Nat → Int32)} {N K n k c mi pc i : Nat} {f : Nat → e_C} {Q : t_Q} {lv st : List Value} {a1 a2 : Value}
def stairP (X : Nat × (Nat → Int32)) : Prop := ∀ f N K c x0, c < 512 → REL f N K c → PRI X 999 115 173 [.ref 0, .int x0, .float 0] [.ref 171, .int x0, .float 0] f N K c
theorem rel_0 (A : REL f N K c) : REL f N K (c + 1) := by
  obtain ⟨h1, h2, h3, Y, s, S, R, P, D, t, V, Z⟩ := A
  exact ⟨h1, by omega, by omega, Y, s, S, R, P, D, t, V, Z.up (by omega)⟩
theorem sub6 {L : Nat} (h : L ≤ 3072) : (nI L - 6).toInt = (L : Int) - 6 := by
  rw [Int32.toInt_sub, nI_toInt (by omega), show (6 : Int32).toInt = 6 by decide]
  exact Int.bmod_eq_of_le (by omega) (by omega)
/-- one round of the law -/
theorem law_step (hL : X.1 ≤ 3072) (hst : stairP X) (hc : 6 * c + 6 ≤ X.1) (A : REL f N K c) (hn : ∀ f2 n2 k2, REL f2 n2 k2 (c + 1) → TT X 1000 999 1395 [.retAddr 20, .ref 0, .ref 171, .int (nI (6 * c))] [] f2 n2 k2 Q) : TT X 1000 999 27 [.retAddr 20, .ref 0, .ref 171, .int (nI (6 * c))] [] f N K Q := by
  have h5 : c < 512 := by omega
  rw [tt_sl0 (by decide +kernel), s999_28, tt_sld (by decide +kernel) (by omega) hL, s999_30, s999_32]
  obtain ⟨q, hq, e⟩ := and63 (X.2 (6 * c))
  rw [e, s999_33]
  have ti : (nI q).toInt = q := nI_toInt (by omega)
  by_cases q0 : q = 0
  · rw [tsw_at _ _ 0 228 rfl (by rw [ti, q0]; rfl)]
    exact c_feed (d := 999) hL hc (pr_feed A h5) hn
  by_cases q1 : q = 1
  · rw [tsw_at _ _ 1 291 rfl (by rw [ti, q1]; rfl)]
    exact c_stair (d := 999) hL hc (hst _ _ _ _ _ h5 A) hn
  by_cases q2 : q = 2
  · rw [tsw_at _ _ 2 314 rfl (by rw [ti, q2]; rfl)]
    exact c_fault (d := 999) hL hc (pr_fault A h5) hn
  by_cases q3 : q = 3
  · rw [tsw_at _ _ 3 337 rfl (by rw [ti, q3]; rfl)]
    exact c_person (d := 999) hL hc (pr_person A h5) hn
  by_cases q4 : q = 4
  · rw [tsw_at _ _ 4 370 rfl (by rw [ti, q4]; rfl)]
    exact c_step (d := 999) hL hc (pr_step A h5) hn
  by_cases q5 : q = 5
  · rw [tsw_at _ _ 5 403 rfl (by rw [ti, q5]; rfl)]
    exact c_stands (d := 999) hL hc (pr_stands A h5) hn
  by_cases q6 : q = 6
  · rw [tsw_at _ _ 6 416 rfl (by rw [ti, q6]; rfl)]
    exact c_crack (d := 999) hL hc (pr_crack A h5) hn
  by_cases q7 : q = 7
  · rw [tsw_at _ _ 7 439 rfl (by rw [ti, q7]; rfl)]
    exact c_spare (d := 999) hL hc (pr_spare A h5) hn
  by_cases q8 : q = 8
  · rw [tsw_at _ _ 8 452 rfl (by rw [ti, q8]; rfl)]
    exact c_see (d := 999) hL hc (pr_see A h5) hn
  by_cases q9 : q = 9
  · rw [tsw_at _ _ 9 475 rfl (by rw [ti, q9]; rfl)]
    exact c_bring (d := 999) hL hc (pr_bring A h5) hn
  by_cases q10 : q = 10
  · rw [tsw_at _ _ 10 508 rfl (by rw [ti, q10]; rfl)]
    exact c_move (d := 999) hL hc (pr_move A h5) hn
  by_cases q11 : q = 11
  · rw [tsw_at _ _ 11 541 rfl (by rw [ti, q11]; rfl)]
    exact c_prop (d := 999) hL hc (pr_prop A h5) hn
  by_cases q12 : q = 12
  · rw [tsw_at _ _ 12 564 rfl (by rw [ti, q12]; rfl)]
    exact c_days (d := 999) hL hc (pr_days A h5) hn
  by_cases q13 : q = 13
  · rw [tsw_at _ _ 13 587 rfl (by rw [ti, q13]; rfl)]
    exact c_undo (d := 999) hL hc (pr_undo A h5) hn
  by_cases q14 : q = 14
  · rw [tsw_at _ _ 14 610 rfl (by rw [ti, q14]; rfl)]
    exact c_judge (d := 999) hL hc (pr_judge A h5) hn
  by_cases q15 : q = 15
  · rw [tsw_at _ _ 15 643 rfl (by rw [ti, q15]; rfl)]
    exact c_perform (d := 999) hL hc (pr_perform A h5) hn
  by_cases q16 : q = 16
  · rw [tsw_at _ _ 16 666 rfl (by rw [ti, q16]; rfl)]
    exact c_year (d := 999) hL hc (pr_year A h5) hn
  by_cases q17 : q = 17
  · rw [tsw_at _ _ 17 699 rfl (by rw [ti, q17]; rfl)]
    exact c_holds (d := 999) hL hc (pr_holds A h5) hn
  by_cases q18 : q = 18
  · rw [tsw_at _ _ 18 722 rfl (by rw [ti, q18]; rfl)]
    exact c_fewest (d := 999) hL hc (pr_fewest A h5) hn
  by_cases q19 : q = 19
  · rw [tsw_at _ _ 19 745 rfl (by rw [ti, q19]; rfl)]
    exact c_holdings (d := 999) hL hc (pr_holdings A h5) hn
  by_cases q20 : q = 20
  · rw [tsw_at _ _ 20 758 rfl (by rw [ti, q20]; rfl)]
    exact c_needed (d := 999) hL hc (pr_needed A h5) hn
  by_cases q21 : q = 21
  · rw [tsw_at _ _ 21 771 rfl (by rw [ti, q21]; rfl)]
    exact c_most (d := 999) hL hc (pr_most A h5) hn
  by_cases q22 : q = 22
  · rw [tsw_at _ _ 22 794 rfl (by rw [ti, q22]; rfl)]
    exact c_served (d := 999) hL hc (pr_served A h5) hn
  by_cases q23 : q = 23
  · rw [tsw_at _ _ 23 817 rfl (by rw [ti, q23]; rfl)]
    exact c_instead (d := 999) hL hc (pr_instead A h5) hn
  by_cases q24 : q = 24
  · rw [tsw_at _ _ 24 840 rfl (by rw [ti, q24]; rfl)]
    exact c_swap (d := 999) hL hc (pr_swap A h5) hn
  by_cases q25 : q = 25
  · rw [tsw_at _ _ 25 863 rfl (by rw [ti, q25]; rfl)]
    exact c_props (d := 999) hL hc (pr_props A h5) hn
  by_cases q26 : q = 26
  · rw [tsw_at _ _ 26 886 rfl (by rw [ti, q26]; rfl)]
    exact c_mends (d := 999) hL hc (pr_mends A h5) hn
  by_cases q27 : q = 27
  · rw [tsw_at _ _ 27 909 rfl (by rw [ti, q27]; rfl)]
    exact c_sinks (d := 999) hL hc (pr_sinks A h5) hn
  by_cases q28 : q = 28
  · rw [tsw_at _ _ 28 922 rfl (by rw [ti, q28]; rfl)]
    exact c_stay (d := 999) hL hc (pr_stay A h5) hn
  by_cases q29 : q = 29
  · rw [tsw_at _ _ 29 945 rfl (by rw [ti, q29]; rfl)]
    exact c_builds (d := 999) hL hc (pr_builds A h5) hn
  by_cases q30 : q = 30
  · rw [tsw_at _ _ 30 978 rfl (by rw [ti, q30]; rfl)]
    exact c_bound (d := 999) hL hc (pr_bound A h5) hn
  by_cases q31 : q = 31
  · rw [tsw_at _ _ 31 1021 rfl (by rw [ti, q31]; rfl)]
    exact c_trial (d := 999) hL hc (pr_trial A h5) hn
  by_cases q32 : q = 32
  · rw [tsw_at _ _ 32 1054 rfl (by rw [ti, q32]; rfl)]
    exact c_wins (d := 999) hL hc (pr_wins A h5) hn
  by_cases q33 : q = 33
  · rw [tsw_at _ _ 33 1067 rfl (by rw [ti, q33]; rfl)]
    exact c_best (d := 999) hL hc (pr_best A h5) hn
  by_cases q34 : q = 34
  · rw [tsw_at _ _ 34 1080 rfl (by rw [ti, q34]; rfl)]
    exact c_lasts (d := 999) hL hc (pr_lasts A h5) hn
  by_cases q35 : q = 35
  · rw [tsw_at _ _ 35 1093 rfl (by rw [ti, q35]; rfl)]
    exact c_share (d := 999) hL hc (pr_share A h5) hn
  by_cases q36 : q = 36
  · rw [tsw_at _ _ 36 1126 rfl (by rw [ti, q36]; rfl)]
    exact c_pillar (d := 999) hL hc (pr_pillar A h5) hn
  by_cases q37 : q = 37
  · rw [tsw_at _ _ 37 1139 rfl (by rw [ti, q37]; rfl)]
    exact c_chance (d := 999) hL hc (pr_chance A h5) hn
  by_cases q38 : q = 38
  · rw [tsw_at _ _ 38 1163 rfl (by rw [ti, q38]; rfl)]
    exact c_where (d := 999) hL hc (pr_where A h5) hn
  by_cases q39 : q = 39
  · rw [tsw_at _ _ 39 1186 rfl (by rw [ti, q39]; rfl)]
    exact c_numbers (d := 999) hL hc (pr_numbers A h5) hn
  by_cases q40 : q = 40
  · rw [tsw_at _ _ 40 1229 rfl (by rw [ti, q40]; rfl)]
    exact c_write (d := 999) hL hc (pr_write A h5) hn
  by_cases q41 : q = 41
  · rw [tsw_at _ _ 41 1303 rfl (by rw [ti, q41]; rfl)]
    exact c_lists (d := 999) hL hc (pr_lists A h5) hn
  by_cases q42 : q = 42
  · rw [tsw_at _ _ 42 1326 rfl (by rw [ti, q42]; rfl)]
    exact c_image (d := 999) hL hc (pr_image A h5) hn
  by_cases q43 : q = 43
  · rw [tsw_at _ _ 43 1349 rfl (by rw [ti, q43]; rfl)]
    exact c_restore (d := 999) hL hc (pr_restore A h5) hn
  by_cases q44 : q = 44
  · rw [tsw_at _ _ 44 1372 rfl (by rw [ti, q44]; rfl)]
    exact c_count (d := 999) hL hc (pr_count A h5) hn
  rw [tsw_out _ _ (by rw [ti]; right; show _ ≤ _; simp; omega)]
  exact hn _ _ _ (rel_0 A)
theorem law_run (hL : X.1 ≤ 3072) (hst : stairP X) : ∀ m c f N K, c + m = X.1 / 6 → REL f N K c → TT X 1000 999 18 [.retAddr 20, .ref 0, .ref 171, .int (nI (6 * c))] [] f N K (fun f' n' k' v => n' ≤ 600000 ∧ k' ≤ 7302250 ∧ v = some (.int 1)) := by
  intro m
  induction m with
  | zero =>
    intro c f N K hm A
    have hlt : nI X.1 - 6 < nI (6 * c) := by
      rw [Int32.lt_iff_toInt_lt, sub6 hL, nI_toInt (by omega)]
      omega
    rw [s999_18, tt_sl0 (by decide +kernel), tt_sal (by decide +kernel), s999_21, s999_23, s999_24, if_pos hlt, s999_1401, s999_1402]
    obtain ⟨h1, h2, h3, -⟩ := A
    exact ⟨Or.inr rfl, by omega, by omega, rfl⟩
  | succ m ih =>
    intro c f N K hm A
    have hlt : ¬ nI X.1 - 6 < nI (6 * c) := by
      rw [Int32.lt_iff_toInt_lt, sub6 hL, nI_toInt (by omega)]
      omega
    rw [s999_18, tt_sl0 (by decide +kernel), tt_sal (by decide +kernel), s999_21, s999_23, s999_24, if_neg hlt]
    refine law_step hL hst (by omega) A ?_
    intro f2 n2 k2 A2
    rw [s999_1395, s999_1398, show (6 : Int32) = nI 6 from rfl, nI_add, show 6 * c + 6 = 6 * (c + 1) by omega]
    exact ih (c + 1) f2 n2 k2 (by omega) A2
end LAW
