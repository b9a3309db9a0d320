/-! every instruction of the small machine is the real machine's -/
def e_Kx (aC : FieldType → ClassId) (D : va_G) (U : State) : Prop := va_K D e_cls [] U ∧ ∀ ty, e_okT ty = true → ArrOfT U (aC ty) ty ∧ va_RA U (aC ty) ty ∧ ∀ C, ty = .object C → va_AO C U
def e_Cs (b0 : Nat) (K : Nat → Value) (X : Nat × (Nat → Int32)) (U : State) (H : Heap) : Prop :=
  (∀ k, (K k).category = 1) ∧ (∀ x, e_isS x = true → ∃ a, K x = .ref a) ∧
  (∀ q, q < 4 → ∃ a v, K q = .ref a ∧ K (10 + q) = .ref v ∧ va_O "java/lang/String" a (e_A b0) U H ∧ va_OF "java/lang/String" "coder" "B" (.int 0) a (e_A b0) U H ∧ va_OF "java/lang/String" "value" "[B" (.ref v) a (e_A b0) U H ∧ va_T .byte v (e_by.getD q []).length (fun j => .int ((e_by.getD q []).getD j 0)) (e_A b0) U H) ∧
  va_Z "java/lang/String" "COMPACT_STRINGS" "Z" (.int 1) (e_A b0) U H ∧ va_Z "jdk/internal/util/Preconditions" "SIOOBE_FORMATTER" "Ljava/util/function/BiFunction;" (K 30) (e_A b0) U H ∧
  (∀ e ∈ e_SL, ∀ C0, e_N[e.1.1]? = some C0 → ∃ tx a, K e.2 = .ref a ∧ vk_R C0 e.1.2 tx a U) ∧
  ∃ b, K 20 = .ref b ∧ va_X b X.1 X.2 U H ∧ b < H.size ∧ ¬ e_A b0 b
def e_X (p : Program) (s : State) (m : MethodId) (args : Array Value) (c : Code) (cc : ByteArray) (nL own b0 : Nat) (K : Nat → Value) (aC : FieldType → ClassId) (D : va_G) (X : Nat × (Nat → Int32)) (n0 : Nat) : Prop :=
  (p.tables.exec = Jvm.exec ∧ c.code = cc ∧ c.maxLocals = nL) ∧ (∃ C0, e_N[own]? = some C0 ∧ s.vm.findClass C0 = some m.cls) ∧ (∀ w ∈ lw_tbl, goodWord w = true → w.before args s = true) ∧ e_Kx aC D s ∧ e_Cs b0 K X s s.heap ∧ s.heap.size = b0 + n0
theorem e_ldi_inv {pc i : Nat} {lv st : List Value} {h : e_H} {o : Nat × List Value × List Value × e_H} (hs : e_ldi pc lv st h i = some o) : ∃ x, lv[i]? = some (.int x) ∧ o = (pc, lv, .int x :: st, h) := by
  unfold e_ldi at hs
  split at hs
  · next x hx => exact ⟨x, hx, (Option.some.inj hs).symm⟩
  · cases hs
theorem e_lda_inv {pc i : Nat} {lv st : List Value} {h : e_H} {o : Nat × List Value × List Value × e_H} (hs : e_lda pc lv st h i = some o) : (∃ x, lv[i]? = some (.ref x) ∧ o = (pc, lv, .ref x :: st, h)) ∨ ∃ x, lv[i]? = some (.retAddr x) ∧ e_isS x = true ∧ o = (pc, lv, .retAddr x :: st, h) := by
  unfold e_lda at hs
  split at hs
  · next x hx => exact Or.inl ⟨x, hx, (Option.some.inj hs).symm⟩
  · next x hx =>
    split at hs
    · next hq => exact Or.inr ⟨x, hx, hq, (Option.some.inj hs).symm⟩
    · cases hs
  · cases hs
theorem e_ldl_inv {pc i : Nat} {lv st : List Value} {h : e_H} {o : Nat × List Value × List Value × e_H} (hs : e_ldl pc lv st h i = some o) : ∃ x y, lv[i]? = some (.long x) ∧ lv[i + 1]? = some (.double y) ∧ o = (pc, lv, .long x :: st, h) := by
  unfold e_ldl at hs
  split at hs
  · next x y hx hy => exact ⟨x, y, hx, hy, (Option.some.inj hs).symm⟩
  · cases hs
theorem e_sti_inv {pc i : Nat} {lv st : List Value} {h : e_H} {o : Nat × List Value × List Value × e_H} (hs : e_sti pc lv st h i = some o) : ∃ x r, st = .int x :: r ∧ i < lv.length ∧ o = (pc, lv.set i (.int x), r, h) := by
  unfold e_sti at hs
  split at hs
  · next x r =>
    unfold e_sto at hs
    split at hs
    · next hi => exact ⟨x, r, rfl, hi, (Option.some.inj hs).symm⟩
    · cases hs
  · cases hs
theorem e_sta_inv {pc i : Nat} {lv st : List Value} {h : e_H} {o : Nat × List Value × List Value × e_H} (hs : e_sta pc lv st h i = some o) : ∃ x r, st = .ref x :: r ∧ i < lv.length ∧ o = (pc, lv.set i (.ref x), r, h) := by
  unfold e_sta at hs
  split at hs
  · next x r =>
    unfold e_sto at hs
    split at hs
    · next hi => exact ⟨x, r, rfl, hi, (Option.some.inj hs).symm⟩
    · cases hs
  · cases hs
theorem e_stll_inv {pc i : Nat} {lv st : List Value} {h : e_H} {o : Nat × List Value × List Value × e_H} (hs : e_stll pc lv st h i = some o) : ∃ x r, st = .long x :: r ∧ i + 1 < lv.length ∧ o = (pc, (lv.set i (.long x)).set (i + 1) (.double 0), r, h) := by
  unfold e_stll at hs
  split at hs
  · next x r =>
    unfold e_stl at hs
    split at hs
    · next hi => exact ⟨x, r, rfl, hi, (Option.some.inj hs).symm⟩
    · cases hs
  · cases hs
theorem e_ii_inv {pc : Nat} {lv st : List Value} {h : e_H} {f : Int32 → Int32 → Int32} {o : Nat × List Value × List Value × e_H} (hs : e_ii pc lv st h f = some o) : ∃ x y r, st = .int y :: .int x :: r ∧ o = (pc, lv, .int (f x y) :: r, h) := by
  unfold e_ii at hs
  split at hs
  · next y x r => exact ⟨x, y, r, rfl, (Option.some.inj hs).symm⟩
  · cases hs
theorem e_iz_inv {pc : Nat} {lv st : List Value} {h : e_H} {f : Int32 → Int32 → Int32} {o : Nat × List Value × List Value × e_H} (hs : e_iz pc lv st h f = some o) : ∃ x y r, st = .int y :: .int x :: r ∧ ¬ y = 0 ∧ o = (pc, lv, .int (f x y) :: r, h) := by
  unfold e_iz at hs
  split at hs
  · next y x r =>
    split at hs
    · cases hs
    · next hy => exact ⟨x, y, r, rfl, hy, (Option.some.inj hs).symm⟩
  · cases hs
theorem e_i1_inv {pc : Nat} {lv st : List Value} {h : e_H} {f : Int32 → Value} {o : Nat × List Value × List Value × e_H} (hs : e_i1 pc lv st h f = some o) : ∃ x r, st = .int x :: r ∧ o = (pc, lv, f x :: r, h) := by
  unfold e_i1 at hs
  split at hs
  · next x r => exact ⟨x, r, rfl, (Option.some.inj hs).symm⟩
  · cases hs
theorem e_ll_inv {pc : Nat} {lv st : List Value} {h : e_H} {f : Int64 → Int64 → Value} {o : Nat × List Value × List Value × e_H} (hs : e_ll pc lv st h f = some o) : ∃ x y r, st = .long y :: .long x :: r ∧ o = (pc, lv, f x y :: r, h) := by
  unfold e_ll at hs
  split at hs
  · next y x r => exact ⟨x, y, r, rfl, (Option.some.inj hs).symm⟩
  · cases hs
theorem e_lz_inv {pc : Nat} {lv st : List Value} {h : e_H} {f : Int64 → Int64 → Int64} {o : Nat × List Value × List Value × e_H} (hs : e_lz pc lv st h f = some o) : ∃ x y r, st = .long y :: .long x :: r ∧ ¬ y = 0 ∧ o = (pc, lv, .long (f x y) :: r, h) := by
  unfold e_lz at hs
  split at hs
  · next y x r =>
    split at hs
    · cases hs
    · next hy => exact ⟨x, y, r, rfl, hy, (Option.some.inj hs).symm⟩
  · cases hs
theorem e_ls_inv {pc : Nat} {lv st : List Value} {h : e_H} {f : Int64 → Int32 → Int64} {o : Nat × List Value × List Value × e_H} (hs : e_ls pc lv st h f = some o) : ∃ x y r, st = .int y :: .long x :: r ∧ o = (pc, lv, .long (f x y) :: r, h) := by
  unfold e_ls at hs
  split at hs
  · next y x r => exact ⟨x, y, r, rfl, (Option.some.inj hs).symm⟩
  · cases hs
theorem e_jmp_inv {pc t : Nat} {off : Int} (hs : e_jmp pc off = some t) : (pc : Int) + off = (t : Int) := by
  unfold e_jmp at hs
  split at hs
  · next hq => rw [← Option.some.inj hs]; omega
  · cases hs
theorem e_in_iff {i : Int32} {n : Nat} : e_in i n = true ↔ vp_in i n := by simp [e_in, vp_in]
theorem e_cn_int {b0 i : Nat} {K : Nat → Value} {lv : List Value} {x : Int32} (h : lv[i]? = some (.int x)) : e_cn b0 K lv i = some (.int x) := by simp [e_cn, h]
theorem e_cn_ref {b0 i x : Nat} {K : Nat → Value} {lv : List Value} (h : lv[i]? = some (.ref x)) : e_cn b0 K lv i = some (.ref (b0 + x)) := by simp [e_cn, h]
theorem e_cn_ra {b0 i x : Nat} {K : Nat → Value} {lv : List Value} (h : lv[i]? = some (.retAddr x)) : e_cn b0 K lv i = some (K x) := by simp [e_cn, h]
theorem e_cn_long {b0 i : Nat} {K : Nat → Value} {lv : List Value} {x : Int64} {y : UInt64} (h : lv[i]? = some (.long x)) (h1 : lv[i + 1]? = some (.double y)) : e_cn b0 K lv i = some (.long x) := by simp [e_cn, h, h1]
theorem e_ce_ne {h : e_H} {k : Nat} {x : FieldType × vp_A} (e : h.1 k = .inl x) : h.1 k ≠ e_dm := by rw [e]; intro q; cases q
theorem e_ce_ne2 {h : e_H} {k ci : Nat} {fs : List Value} {q : vw_C × (Nat → FieldType) × List Value} (e : h.1 k = .inr (ci, fs)) (hq : e_K[ci]? = some q) : h.1 k ≠ e_dm := by
  rw [e]
  intro z
  cases z
  rw [List.getElem?_eq_none (by decide)] at hq
  cases hq
