/-! equations of the triple, an instruction each -/
section TTR
variable {X : Nat × (Nat → Int32)} {d mi pc n k : Nat} {lv st : List Value} {f : Nat → e_C} {Q : t_Q}
theorem tt_if0 {c : ClassFile.Cond} {off : Int} {t : Nat} {x : Int32} {P : Prop} [Decidable P] (hc : e_cd mi pc = some (.ifCond c off, 3)) (hj : e_jmp pc off = some t) (hp : e_c0 c x = decide P) : TT X d mi pc lv (.int x :: st) f n k Q = if P then TT X d mi t lv st f n k Q else TT X d mi (pc + 3) lv st f n k Q := by
  have hs : e_st X (e_ow mi) (e_ni mi) pc (.ifCond c off) lv (.int x :: st) (f, n, k) = some (if e_c0 c x then t else pc + 3, lv, st, (f, n, k)) := by simp only [e_st, hj, Option.map_some]
  rw [tt_st hc rfl hs, hp]
  by_cases h : P <;> simp [h]
theorem tt_if2 {c : ClassFile.Cond} {off : Int} {t : Nat} {x y : Int32} {P : Prop} [Decidable P] (hc : e_cd mi pc = some (.if_icmp c off, 3)) (hj : e_jmp pc off = some t) (hp : e_c2 c x y = decide P) : TT X d mi pc lv (.int y :: .int x :: st) f n k Q = if P then TT X d mi t lv st f n k Q else TT X d mi (pc + 3) lv st f n k Q := by
  have hs : e_st X (e_ow mi) (e_ni mi) pc (.if_icmp c off) lv (.int y :: .int x :: st) (f, n, k) = some (if e_c2 c x y then t else pc + 3, lv, st, (f, n, k)) := by simp only [e_st, hj, Option.map_some]
  rw [tt_st hc rfl hs, hp]
  by_cases h : P <;> simp [h]
theorem tt_reI {v : Int32} (hc : e_cd mi pc = some (.ireturn, 1)) (ht : e_rt mi = some .int) : TT X d mi pc lv [.int v] f n k Q = Q f n k (some (.int v)) := tt_re hc (by simp only [e_re, ht]; exact if_pos rfl)
theorem tt_reB {v : Int32} (hc : e_cd mi pc = some (.ireturn, 1)) (ht : e_rt mi = some .boolean) : TT X d mi pc lv [.int v] f n k Q = ((v = 0 ∨ v = 1) ∧ Q f n k (some (.int v))) := by
  by_cases h : v = 0 ∨ v = 1
  · rw [eq_true h, true_and]
    refine tt_re hc ?_
    simp only [e_re, ht]
    rcases h with rfl | rfl <;> exact if_pos rfl
  · rw [eq_false h, false_and]
    have hn : ¬ narrow .boolean (.int v) = .int v := by
      intro z
      have z2 : v &&& 1 = v := by
        have : narrow .boolean (.int v) = .int (v &&& 1) := rfl
        rw [this] at z
        exact Value.int.inj z
      apply h
      have h1 : v.toBitVec &&& 1#32 = v.toBitVec := congrArg Int32.toBitVec z2
      have h2 : v.toBitVec.toNat = v.toBitVec.toNat % 2 := by
        conv => lhs; rw [← h1]
        rw [BitVec.toNat_and]
        exact Nat.and_one_is_mod _
      have h3 : v.toBitVec.toNat = 0 ∨ v.toBitVec.toNat = 1 := by omega
      rcases h3 with h3 | h3
      · exact Or.inl (Int32.toBitVec_inj.mp (BitVec.eq_of_toNat_eq h3))
      · exact Or.inr (Int32.toBitVec_inj.mp (BitVec.eq_of_toNat_eq h3))
    exact tt_no hc (by simp only [e_re, ht]; exact if_neg hn) rfl rfl
theorem tt_reL {v : Int64} (hc : e_cd mi pc = some (.lreturn, 1)) (ht : e_rt mi = some .long) : TT X d mi pc lv [.long v] f n k Q = Q f n k (some (.long v)) := tt_re hc (by simp [e_re, ht])
theorem tt_reA {v : Nat} {C : String} (hc : e_cd mi pc = some (.areturn, 1)) (ht : e_rt mi = some (.object C)) : TT X d mi pc lv [.ref v] f n k Q = Q f n k (some (.ref v)) := tt_re hc (by simp only [e_re, ht])
theorem tt_reV (hc : e_cd mi pc = some (.return_, 1)) (ht : e_rt mi = none) : TT X d mi pc lv [] f n k Q = Q f n k none := tt_re hc (by simp [e_re, ht])
theorem tt_iz {op : Instr} {g : Int32 → Int32 → Int32} {x y : Int32} (hc : e_cd mi pc = some (op, 1)) (hr : e_re mi op (.int y :: .int x :: st) = none) (hk : e_kn op = none) (hs : e_st X (e_ow mi) (e_ni mi) pc op lv (.int y :: .int x :: st) (f, n, k) = if y = 0 then none else some (pc + 1, lv, .int (g x y) :: st, (f, n, k))) : TT X d mi pc lv (.int y :: .int x :: st) f n k Q = (y ≠ 0 ∧ TT X d mi (pc + 1) lv (.int (g x y) :: st) f n k Q) := by
  by_cases h : y = 0
  · rw [if_pos h] at hs
    rw [tt_no hc hr hs hk]
    simp [h]
  · rw [if_neg h] at hs
    rw [tt_st hc hr hs]
    simp [h]
theorem tt_lz {op : Instr} {g : Int64 → Int64 → Int64} {x y : Int64} (hc : e_cd mi pc = some (op, 1)) (hr : e_re mi op (.long y :: .long x :: st) = none) (hk : e_kn op = none) (hs : e_st X (e_ow mi) (e_ni mi) pc op lv (.long y :: .long x :: st) (f, n, k) = if y = 0 then none else some (pc + 1, lv, .long (g x y) :: st, (f, n, k))) : TT X d mi pc lv (.long y :: .long x :: st) f n k Q = (y ≠ 0 ∧ TT X d mi (pc + 1) lv (.long (g x y) :: st) f n k Q) := by
  by_cases h : y = 0
  · rw [if_pos h] at hs
    rw [tt_no hc hr hs hk]
    simp [h]
  · rw [if_neg h] at hs
    rw [tt_st hc hr hs]
    simp [h]
end TTR
