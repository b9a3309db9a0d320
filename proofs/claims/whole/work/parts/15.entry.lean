/-! THE CLAIM OUT OF ONE WALK OF THE LAW'S BODY. Your part is whole_start (and what it stands on); all else here is the same for every law, but numbers. -/
def R_law : String := "LeanStairLaw"
def lw_P (b : Addr) (xs : List Int32) (args : Array Value) (s : State) : Prop := args = #[.ref b] ∧ s.IntsAt b xs ∧ xs.length ≤ 3072 ∧ (Jvm.Cond.and given_1 narrow_1).before args s = true
def lw_Q (_ : Array Value) (s : State) (o : Outcome) (t : State) : Prop := o = .returned (some (.int 1)) ∧ Framed s o t [] 600000 7302250
def lw_Z (below : List Frame) (a : Array Value) (s : State) : State → Prop := fun t => ∃ o, t.status = .running ∧ Ended t below o ∧ lw_Q a s o t
/-- the law's own end, with 1 on the stack, nothing written that was there before, its room as the claim has it -/
theorem lw_ret {p : Program} {l : Launch} {e : Env} {s : State} {m : MethodId} {below : List Frame} {meth : Method} {c : Code} {b : Nat} (hx : p.tables.exec = Jvm.exec) (hb : c.code = code) (hr : meth.sig.returnType = ret) (hlocks : meth.locks = false) {pc : Nat} {H : Heap} {ls : Array Slot} (hdg : decode code pc = .ok (.ireturn, 1)) : W p l e room_1 s m #[Value.ref b] below meth c H [] 600000 7302250 (lw_Z below #[Value.ref b] s) (F0 m pc ls [.int 1]) := by
  intro T hT X
  obtain ⟨fs, hret, hrun, hended, hW, hframe⟩ := X.leave (v := some (.int 1)) (hlocks := hlocks) (fun h => by rw [hr] at h; cases h)
  have hmeth' : T.vm.method? m = some meth := X.method'
  refine ⟨T.setFrames fs, ?_, .returned (some (.int 1)), hrun, hended, rfl, ⟨_, rfl⟩, hW, hframe⟩
  jvm_step X.here [X.here.top, hx, hb, hdg, hmeth', hr, ret, narrow_b1]
  (try refine ⟨rfl, ?_⟩); (try refine ⟨rfl, ?_⟩)
  first | (intro acts; rw [hret _ acts rfl rfl rfl]) | rw [hret _ _ rfl rfl rfl]
  exact Steps.refl _
/-- what holds at the law's entry: the machine, the code, the tables' words (any of lw_tbl by 'hts w (by decide +kernel)'), the script of L ints xs at the cell b, what the Statement gives of the start (any of its parts by flat_of_before) -/
def lw_At (p : Program) (s : State) (m : MethodId) (meth : Method) (c : Code) (b L : Nat) (xs : Nat → Int32) : Prop :=
  p.tables.exec = Jvm.exec ∧ c.code = code ∧ meth.sig.returnType = ret ∧ c.maxLocals = 4 ∧ s.vm.findClass R_law = some m.cls ∧ (∀ w ∈ lw_tbl, w.before #[Value.ref b] s = true) ∧ va_X b L xs s s.heap ∧ b < s.heap.size ∧ meth.locks = false ∧ (Jvm.Cond.and given_1 narrow_1).before #[Value.ref b] s = true
theorem e_strOf {args : Array Value} {s : State} {own : String} {k : Nat} {bs : List Int32} (hN : bs.length < 2 ^ 31) (h1 : (Cond.exactly (.string own k) "java/lang/String").before args s = true) (h2 : (Cond.eq (.field (.string own k) "java/lang/String" "coder" "B") (.int 0)).before args s = true) (h3 : (Cond.arrayOf (.field (.string own k) "java/lang/String" "value" "[B") .byte).before args s = true)
    (h4 : (Cond.eq (.length (.field (.string own k) "java/lang/String" "value" "[B")) (.int (Int32.ofNat bs.length))).before args s = true) (h5 : ∀ j, j < bs.length → (Cond.eq (.elem (.field (.string own k) "java/lang/String" "value" "[B") (.int (Int32.ofNat j))) (.int (bs.getD j 0))).before args s = true) :
    ∃ a v, (Term.string own k).eval args s none [] s = some (.ref a) ∧ va_O "java/lang/String" a (e_A s.heap.size) s s.heap ∧ va_OF "java/lang/String" "coder" "B" (.int 0) a (e_A s.heap.size) s s.heap ∧ va_OF "java/lang/String" "value" "[B" (.ref v) a (e_A s.heap.size) s s.heap ∧ va_T .byte v bs.length (fun j => .int (bs.getD j 0)) (e_A s.heap.size) s s.heap := by
  have z : ∀ i : Nat, i < 1 → i = 0 := fun i hi => by omega
  obtain ⟨adK, adV, hS, hE⟩ := vk_Sof (args := args) (s := s) (N := 1) (tm := fun _ => .string own k) (len := [bs.length]) (byt := [bs]) (A := e_A s.heap.size) (fun i hi => by rw [z i hi]; exact hN) (fun i hi => h1) (fun i hi => h2) (fun i hi => h3) (fun i hi => by rw [z i hi]; exact h4) (fun i hi j hj => by rw [z i hi] at hj ⊢; exact h5 j hj) (fun i j hi hj hne => absurd ((z i hi).trans (z j hj).symm) hne) (fun a h => Nat.not_le.mpr h)
  obtain ⟨g1, g2, g3, g4⟩ := hS.1 0 (by omega)
  exact ⟨adK 0, adV 0, hE 0 (by omega), g1, g2, g3, g4⟩
set_option maxRecDepth 100000 in
theorem e_se0 : ∀ j, j < 103 → (match (flatC (Jvm.Cond.and given_1 narrow_1))[13 + j]? with | some (Cond.eq (.elem (.field (.string a k) b n d) (.int i)) (.int v)) => decide (a = "LeanStair$Reader" ∧ k = 97 ∧ b = "java/lang/String" ∧ n = "value" ∧ d = "[B" ∧ i = Int32.ofNat j ∧ v = (e_by.getD 0 []).getD j 0) | _ => false) = true := by decide +kernel
theorem e_ss0 {args : Array Value} {s : State} (hgv : (Jvm.Cond.and given_1 narrow_1).before args s = true) : ∃ a v, (Term.string "LeanStair$Reader" 97).eval args s none [] s = some (.ref a) ∧ va_O "java/lang/String" a (e_A s.heap.size) s s.heap ∧ va_OF "java/lang/String" "coder" "B" (.int 0) a (e_A s.heap.size) s s.heap ∧ va_OF "java/lang/String" "value" "[B" (.ref v) a (e_A s.heap.size) s s.heap ∧ va_T .byte v (e_by.getD 0 []).length (fun j => .int ((e_by.getD 0 []).getD j 0)) (e_A s.heap.size) s s.heap := by
  have hs := flat_of_before _ hgv
  refine e_strOf (by decide +kernel) (hs _ (List.mem_of_getElem? (i := 9) (by decide +kernel))) (hs _ (List.mem_of_getElem? (i := 10) (by decide +kernel))) (hs _ (List.mem_of_getElem? (i := 11) (by decide +kernel))) (hs _ (List.mem_of_getElem? (i := 12) (by decide +kernel))) (fun j hj => ?_)
  have hle : (e_by.getD 0 []).length = 103 := by decide +kernel
  have h1 := e_se0 j (by omega)
  split at h1
  · next hw =>
    simp only [decide_eq_true_eq] at h1
    obtain ⟨rfl, rfl, rfl, rfl, rfl, rfl, rfl⟩ := h1
    exact hs _ (List.mem_of_getElem? hw)
  · cases h1
set_option maxRecDepth 100000 in
theorem e_se1 : ∀ j, j < 12 → (match (flatC (Jvm.Cond.and given_1 narrow_1))[120 + j]? with | some (Cond.eq (.elem (.field (.string a k) b n d) (.int i)) (.int v)) => decide (a = "LeanStair$Reader" ∧ k = 89 ∧ b = "java/lang/String" ∧ n = "value" ∧ d = "[B" ∧ i = Int32.ofNat j ∧ v = (e_by.getD 1 []).getD j 0) | _ => false) = true := by decide +kernel
theorem e_ss1 {args : Array Value} {s : State} (hgv : (Jvm.Cond.and given_1 narrow_1).before args s = true) : ∃ a v, (Term.string "LeanStair$Reader" 89).eval args s none [] s = some (.ref a) ∧ va_O "java/lang/String" a (e_A s.heap.size) s s.heap ∧ va_OF "java/lang/String" "coder" "B" (.int 0) a (e_A s.heap.size) s s.heap ∧ va_OF "java/lang/String" "value" "[B" (.ref v) a (e_A s.heap.size) s s.heap ∧ va_T .byte v (e_by.getD 1 []).length (fun j => .int ((e_by.getD 1 []).getD j 0)) (e_A s.heap.size) s s.heap := by
  have hs := flat_of_before _ hgv
  refine e_strOf (by decide +kernel) (hs _ (List.mem_of_getElem? (i := 116) (by decide +kernel))) (hs _ (List.mem_of_getElem? (i := 117) (by decide +kernel))) (hs _ (List.mem_of_getElem? (i := 118) (by decide +kernel))) (hs _ (List.mem_of_getElem? (i := 119) (by decide +kernel))) (fun j hj => ?_)
  have hle : (e_by.getD 1 []).length = 12 := by decide +kernel
  have h1 := e_se1 j (by omega)
  split at h1
  · next hw =>
    simp only [decide_eq_true_eq] at h1
    obtain ⟨rfl, rfl, rfl, rfl, rfl, rfl, rfl⟩ := h1
    exact hs _ (List.mem_of_getElem? hw)
  · cases h1
set_option maxRecDepth 100000 in
theorem e_se2 : ∀ j, j < 104 → (match (flatC (Jvm.Cond.and given_1 narrow_1))[137 + j]? with | some (Cond.eq (.elem (.field (.string a k) b n d) (.int i)) (.int v)) => decide (a = "LeanStairModel" ∧ k = 80 ∧ b = "java/lang/String" ∧ n = "value" ∧ d = "[B" ∧ i = Int32.ofNat j ∧ v = (e_by.getD 2 []).getD j 0) | _ => false) = true := by decide +kernel
theorem e_ss2 {args : Array Value} {s : State} (hgv : (Jvm.Cond.and given_1 narrow_1).before args s = true) : ∃ a v, (Term.string "LeanStairModel" 80).eval args s none [] s = some (.ref a) ∧ va_O "java/lang/String" a (e_A s.heap.size) s s.heap ∧ va_OF "java/lang/String" "coder" "B" (.int 0) a (e_A s.heap.size) s s.heap ∧ va_OF "java/lang/String" "value" "[B" (.ref v) a (e_A s.heap.size) s s.heap ∧ va_T .byte v (e_by.getD 2 []).length (fun j => .int ((e_by.getD 2 []).getD j 0)) (e_A s.heap.size) s s.heap := by
  have hs := flat_of_before _ hgv
  refine e_strOf (by decide +kernel) (hs _ (List.mem_of_getElem? (i := 133) (by decide +kernel))) (hs _ (List.mem_of_getElem? (i := 134) (by decide +kernel))) (hs _ (List.mem_of_getElem? (i := 135) (by decide +kernel))) (hs _ (List.mem_of_getElem? (i := 136) (by decide +kernel))) (fun j hj => ?_)
  have hle : (e_by.getD 2 []).length = 104 := by decide +kernel
  have h1 := e_se2 j (by omega)
  split at h1
  · next hw =>
    simp only [decide_eq_true_eq] at h1
    obtain ⟨rfl, rfl, rfl, rfl, rfl, rfl, rfl⟩ := h1
    exact hs _ (List.mem_of_getElem? hw)
  · cases h1
set_option maxRecDepth 100000 in
theorem e_se3 : ∀ j, j < 12 → (match (flatC (Jvm.Cond.and given_1 narrow_1))[247 + j]? with | some (Cond.eq (.elem (.field (.string a k) b n d) (.int i)) (.int v)) => decide (a = "LeanStairModel" ∧ k = 118 ∧ b = "java/lang/String" ∧ n = "value" ∧ d = "[B" ∧ i = Int32.ofNat j ∧ v = (e_by.getD 3 []).getD j 0) | _ => false) = true := by decide +kernel
theorem e_ss3 {args : Array Value} {s : State} (hgv : (Jvm.Cond.and given_1 narrow_1).before args s = true) : ∃ a v, (Term.string "LeanStairModel" 118).eval args s none [] s = some (.ref a) ∧ va_O "java/lang/String" a (e_A s.heap.size) s s.heap ∧ va_OF "java/lang/String" "coder" "B" (.int 0) a (e_A s.heap.size) s s.heap ∧ va_OF "java/lang/String" "value" "[B" (.ref v) a (e_A s.heap.size) s s.heap ∧ va_T .byte v (e_by.getD 3 []).length (fun j => .int ((e_by.getD 3 []).getD j 0)) (e_A s.heap.size) s s.heap := by
  have hs := flat_of_before _ hgv
  refine e_strOf (by decide +kernel) (hs _ (List.mem_of_getElem? (i := 243) (by decide +kernel))) (hs _ (List.mem_of_getElem? (i := 244) (by decide +kernel))) (hs _ (List.mem_of_getElem? (i := 245) (by decide +kernel))) (hs _ (List.mem_of_getElem? (i := 246) (by decide +kernel))) (fun j hj => ?_)
  have hle : (e_by.getD 3 []).length = 12 := by decide +kernel
  have h1 := e_se3 j (by omega)
  split at h1
  · next hw =>
    simp only [decide_eq_true_eq] at h1
    obtain ⟨rfl, rfl, rfl, rfl, rfl, rfl, rfl⟩ := h1
    exact hs _ (List.mem_of_getElem? hw)
  · cases h1
theorem e_D0 {s : State} {args : Array Value} (hts : ∀ w ∈ lw_tbl, w.before args s = true) : ∃ (D : va_G) (aC : FieldType → ClassId), e_Kx aC D s := by
  have h1 : ∀ ci : Nat, ∃ x : ClassId × (Nat → Nat), ∀ q, e_cls[ci]? = some q → u_Kn s q.1 q.2.1 q.2.2 x.1 x.2 := by
    intro ci
    cases hq : e_K[ci]? with
    | none =>
      refine ⟨(0, fun _ => 0), fun q hq2 => ?_⟩
      simp [e_cls, List.getElem?_map, hq] at hq2
    | some q =>
      obtain ⟨g1, g2, g3, g4, g5, g6, g7⟩ := e_kOf hq
      obtain ⟨c0, iS0, hKn0⟩ := u_known (C := q.1.1) (T := q.1.2.1) (N := q.1.2.2) (n := q.1.2.2) hts g1 (hts _ g4)
      refine ⟨(c0, iS0), fun q2 hq2 => ?_⟩
      cases (e_clsAt hq).symm.trans hq2
      exact hKn0
  obtain ⟨f, hf⟩ := Classical.axiomOfChoice h1
  have prim : ∀ ty : FieldType, (Cond.arrayClass ty).before args s = true → ∃ cA kA comp, s.vm.findClass ("[" ++ ty.toString) = some cA ∧ s.vm.classes[cA]? = some kA ∧ kA.kind = .array comp ty := fun ty h => Cond.arrayClass_spec h
  have h2 : ∀ ty : FieldType, ∃ cA : ClassId, e_okT ty = true → ArrOfT s cA ty ∧ va_RA s cA ty ∧ ∀ C, ty = .object C → va_AO C s := by
    intro ty
    cases ty with
    | int =>
      obtain ⟨cA, kA, comp, g1, g2, g3⟩ := prim .int (hts _ e_ac1.1)
      exact ⟨cA, fun _ => ⟨fun n z => ⟨(fun k h => by cases h), kA, g2, comp, g3⟩, g1, fun C h => by cases h⟩⟩
    | byte =>
      obtain ⟨cA, kA, comp, g1, g2, g3⟩ := prim .byte (hts _ e_ac1.2.1)
      exact ⟨cA, fun _ => ⟨fun n z => ⟨(fun k h => by cases h), kA, g2, comp, g3⟩, g1, fun C h => by cases h⟩⟩
    | boolean =>
      obtain ⟨cA, kA, comp, g1, g2, g3⟩ := prim .boolean (hts _ e_ac1.2.2.1)
      exact ⟨cA, fun _ => ⟨fun n z => ⟨(fun k h => by cases h), kA, g2, comp, g3⟩, g1, fun C h => by cases h⟩⟩
    | long =>
      obtain ⟨cA, kA, comp, g1, g2, g3⟩ := prim .long (hts _ e_ac1.2.2.2.1)
      exact ⟨cA, fun _ => ⟨fun n z => ⟨(fun k h => by cases h), kA, g2, comp, g3⟩, g1, fun C h => by cases h⟩⟩
    | object C =>
      by_cases hok : e_okT (.object C) = true
      · have hov : (Cond.arrayOver (.object C)).before args s = true := by
          have hok2 := hok
          simp only [e_okT, decide_eq_true_eq] at hok2
          rcases hok2 with z | z <;> rw [z]
          · exact hts _ e_ac1.2.2.2.2.1
          · exact hts _ e_ac1.2.2.2.2.2
        obtain ⟨comp, cA, kA, g1, -, g2, g3, g4⟩ := Cond.arrayOver_spec hov
        exact ⟨cA, fun _ => ⟨fun n z => ⟨(fun k h => by cases h), kA, g2, comp, g3⟩, ⟨kA, comp, g2, g3, g1, g4⟩, fun C2 h => by cases h; exact va_AO.of hov⟩⟩
      · exact ⟨0, fun h => absurd h hok⟩
    | _ => exact ⟨0, fun h => by cases h⟩
  obtain ⟨aC, haC⟩ := Classical.axiomOfChoice h2
  exact ⟨(fun ci => (f ci).1, fun ci => (f ci).2), aC, ⟨fun ci q hq => hf ci q hq, fun k q h => by simp at h⟩, haC⟩
theorem e_K0 {s : State} {b L : Nat} {xs : Nat → Int32} (hts : ∀ w ∈ lw_tbl, w.before #[Value.ref b] s = true) (hgv : (Jvm.Cond.and given_1 narrow_1).before #[Value.ref b] s = true) (hX : va_X b L xs s s.heap) (hbl : b < s.heap.size) : ∃ K : Nat → Value, K 20 = .ref b ∧ e_Cs s.heap.size K (L, xs) s s.heap := by
  have hs := flat_of_before _ hgv
  have hA : ∀ a : Nat, a < s.heap.size → ¬ e_A s.heap.size a := fun a h => Nat.not_le.mpr h
  obtain ⟨a0, v0, t0, s0⟩ := e_ss0 hgv
  obtain ⟨a1, v1, t1, s1⟩ := e_ss1 hgv
  obtain ⟨a2, v2, t2, s2⟩ := e_ss2 hgv
  obtain ⟨a3, v3, t3, s3⟩ := e_ss3 hgv
  have hCS : va_Z "java/lang/String" "COMPACT_STRINGS" "Z" (.int 1) (e_A s.heap.size) s s.heap := va_Zof (hts _ (List.mem_of_getElem? (i := 656) (by decide +kernel))) (hts _ (List.mem_of_getElem? (i := 133) (by decide +kernel))) (va_eqi (hs _ (List.mem_of_getElem? (i := 4) (by decide +kernel)))) hA
  have hSF := va_Zqof (s := s) (A := e_A s.heap.size) (hts _ (List.mem_of_getElem? (a := Cond.laysStatic "jdk/internal/util/Preconditions" "SIOOBE_FORMATTER" "Ljava/util/function/BiFunction;") (i := 672) (by decide +kernel))) (hts _ (List.mem_of_getElem? (i := 135) (by decide +kernel))) (hs _ (List.mem_of_getElem? (i := 5) (by decide +kernel))) hA
  obtain ⟨fv, hfc, hfz⟩ : ∃ fv : Value, fv.category = 1 ∧ va_Z "jdk/internal/util/Preconditions" "SIOOBE_FORMATTER" "Ljava/util/function/BiFunction;" fv (e_A s.heap.size) s s.heap := by
    rcases hSF with z | ⟨t, z⟩
    · exact ⟨.null, rfl, z⟩
    · exact ⟨.ref t, rfl, z⟩
  obtain ⟨K, k0, k1, k2, k3, k10, k11, k12, k13, k20, k30, kc⟩ : ∃ K : Nat → Value, K 0 = .ref a0 ∧ K 1 = .ref a1 ∧ K 2 = .ref a2 ∧ K 3 = .ref a3 ∧ K 10 = .ref v0 ∧ K 11 = .ref v1 ∧ K 12 = .ref v2 ∧ K 13 = .ref v3 ∧ K 20 = .ref b ∧ K 30 = fv ∧ ∀ k, (K k).category = 1 := by
    refine ⟨fun k => if k = 0 then .ref a0 else if k = 1 then .ref a1 else if k = 2 then .ref a2 else if k = 3 then .ref a3 else if k = 10 then .ref v0 else if k = 11 then .ref v1 else if k = 12 then .ref v2 else if k = 13 then .ref v3 else if k = 20 then .ref b else if k = 30 then fv else .null, rfl, rfl, rfl, rfl, rfl, rfl, rfl, rfl, rfl, rfl, fun k => ?_⟩
    dsimp only
    repeat' split
    all_goals first | rfl | exact hfc
  refine ⟨K, k20, kc, fun x hx => ?_, fun q hq => ?_, hCS, by rw [k30]; exact hfz, fun e he C0 hC => ?_, b, k20, hX, hbl, hA b hbl⟩
  · simp only [e_isS, decide_eq_true_eq] at hx
    rcases (show x = 0 ∨ x = 1 ∨ x = 2 ∨ x = 3 ∨ x = 10 ∨ x = 11 ∨ x = 12 ∨ x = 13 ∨ x = 20 by omega) with rfl | rfl | rfl | rfl | rfl | rfl | rfl | rfl | rfl
    · exact ⟨_, k0⟩
    · exact ⟨_, k1⟩
    · exact ⟨_, k2⟩
    · exact ⟨_, k3⟩
    · exact ⟨_, k10⟩
    · exact ⟨_, k11⟩
    · exact ⟨_, k12⟩
    · exact ⟨_, k13⟩
    · exact ⟨_, k20⟩
  · rcases (show q = 0 ∨ q = 1 ∨ q = 2 ∨ q = 3 by omega) with rfl | rfl | rfl | rfl
    · exact ⟨a0, v0, k0, k10, s0⟩
    · exact ⟨a1, v1, k1, k11, s1⟩
    · exact ⟨a2, v2, k2, k12, s2⟩
    · exact ⟨a3, v3, k3, k13, s3⟩
  · have hm : e = ((3, 97), 0) ∨ e = ((3, 89), 1) ∨ e = ((12, 80), 2) ∨ e = ((12, 118), 3) := by simpa [e_SL] using he
    rcases hm with rfl | rfl | rfl | rfl
    · cases hC.symm.trans (show e_N[3]? = some "LeanStair$Reader" by decide +kernel)
      exact ⟨"stair joint takes person on build age frail by couple quota bears may day or and not who step wed wait ", a0, k0, vk_R.of (hts _ (List.mem_of_getElem? (i := 646) (by decide +kernel))) t0⟩
    · cases hC.symm.trans (show e_N[3]? = some "LeanStair$Reader" by decide +kernel)
      exact ⟨";:+-*()[]=<>", a1, k1, vk_R.of (hts _ (List.mem_of_getElem? (i := 698) (by decide +kernel))) t1⟩
    · cases hC.symm.trans (show e_N[12]? = some "LeanStairModel" by decide +kernel)
      exact ⟨" stair joint takes person on build age frail by couple quota bears may day who step wed wait and or not ", a2, k2, vk_R.of (hts _ (List.mem_of_getElem? (i := 1548) (by decide +kernel))) t2⟩
    · cases hC.symm.trans (show e_N[12]? = some "LeanStairModel" by decide +kernel)
      exact ⟨";:+-*()[]=<>", a3, k3, vk_R.of (hts _ (List.mem_of_getElem? (i := 1554) (by decide +kernel))) t3⟩
set_option maxHeartbeats 4000000 in
/-- the claim's walk, out of a run of the small machine over the law -/
theorem e_start {p : Program} {e : Env} {s : State} {m : MethodId} {below : List Frame} {meth : Method} {c : Code} (l : Launch) {b L : Nat} {xs : Nat → Int32} (C0 : lw_At p s m meth c b L xs) (hlaw : ∃ n hE, ev (L, xs) n 1000 999 0 (e_lc 4 [.retAddr 20]) [] (fun _ => e_dm, 0, 0) = some (hE, some (.int 1)) ∧ hE.2.1 ≤ 600000 ∧ hE.2.2 ≤ 7302250) :
    W p l e room_1 s m #[Value.ref b] below meth c s.heap [] 0 0 (lw_Z below #[Value.ref b] s) (entryFrame m ([Value.ref b] : List Value).toArray 4) := by
  obtain ⟨hx, hb, hr, hml, hown, hts, hX, hbl, hlocks, hgv⟩ := id C0
  obtain ⟨D, aC, hKx⟩ := e_D0 hts
  obtain ⟨K, k20, hC⟩ := e_K0 hts hgv hX hbl
  obtain ⟨n, hE, hev, hE1, hE2⟩ := hlaw
  have how : e_ow 999 = 13 := by decide +kernel
  have Z : e_X p s m #[Value.ref b] c code 4 (e_ow 999) s.heap.size K aC D (L, xs) 0 := ⟨⟨hx, hb, hml⟩, ⟨R_law, by rw [how]; decide +kernel, hown⟩, fun w hw _ => hts w hw, hKx, hC, rfl⟩
  have hmi : (if (999 : Nat) = 999 then some e_ML else e_rc 999) = some e_ML := if_pos rfl
  have hl := e_lr.entry (b0 := s.heap.size) (K := K) (as := [.retAddr 20]) (nL := 4) hC.1 (by rw [show ([Value.retAddr 20].map (e_rl s.heap.size K)) = [Value.ref b] from by show [K 20] = _; rw [k20]]; exact Nat.le_of_ble_eq_true rfl)
  rw [show ([Value.retAddr 20].map (e_rl s.heap.size K)) = [Value.ref b] from by show [K 20] = _; rw [k20]] at hl
  rw [lg_entry_eq]
  have key := e_run (p := p) (l := l) (e := e) (R := room_1) (s := s) (m := m) (args := #[Value.ref b]) (below := below) (meth := meth) (c := c) (Q := lw_Z below #[Value.ref b] s) (k0 := 0) (N := n) (mi := 999) (d := 1000) (hE := hE) (vE := some (.int 1)) (fun k _ => e_met l s.heap.size K aC D (L, xs) k) Z
    (fun z => absurd z (by decide +kernel))
    (fun pc i len z => by
      have z2 := e_cdOf hmi z
      exact ⟨e_ML_dec (pc, i, len) z2, List.all_eq_true.mp e_ML_ok (pc, i, len) z2⟩)
    ⟨by decide, by decide⟩ ⟨by show hE.2.1 ≤ 0 + 600000; omega, by show hE.2.2 ≤ 0 + 7302250; omega⟩
    (by
      intro pc ls st H locs i len hd hlen hre hD
      unfold e_re at hre
      split at hre
      · next x =>
        split at hre
        · split at hre
          · cases hre
            obtain rfl : len = 1 := of_decide_eq_true hlen
            refine va_forget (fun q hq => hD.2.2.2.2.2 q hq) ?_
            exact W.widen (k := 600000) (n := 7302250) (by show hE.2.1 - 0 ≤ 600000; omega) (by show hE.2.2 - 0 ≤ 7302250; omega) (lw_ret hx hb hr hlocks hd)
          · cases hre
        · cases hre
      · split at hre <;> cases hre
      · split at hre <;> cases hre
      · split at hre <;> cases hre
      · cases hre)
    n (Nat.le_refl _) 0 (e_lc 4 [.retAddr 20]) [] (fun _ => e_dm, 0, 0) _ s.heap [] hev hl ⟨rfl, fun k q h => by simp [e_ws] at h, fun _ _ => rfl, va_S.rf⟩ ⟨Nat.le_refl _, Nat.le_refl _⟩
  exact key
