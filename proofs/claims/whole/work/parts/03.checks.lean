/-! the program is the statement's: decided, method by method -/
def e_nb (b : ByteArray) : List Nat := b.data.toList.map UInt8.toNat
theorem e_nb_inj {a b : ByteArray} (h : e_nb a = e_nb b) : a = b := by
  obtain ⟨⟨a⟩⟩ := a
  obtain ⟨⟨b⟩⟩ := b
  have hi : Function.Injective UInt8.toNat := fun x y e => UInt8.toNat_inj.mp e
  have : a = b := (List.map_inj_right (fun x y e => hi e)).mp h
  rw [this]
def e_cM (e : e_R × Nat × Nat) : Bool := (match lw_tbl[e.2.1]? with
  | some (Cond.code y b mm tt) => decide (y = e.1.1) && (e_nb b == e_nb e.1.2.1) && decide (mm = e.1.2.2.1) && decide (tt = e.1.2.2.2.1)
  | _ => false) && (match lw_tbl[e.2.2]? with
  | some (Cond.initialized C) => decide (C = e.1.1.cls)
  | _ => false) && plainFor e.1.1 && decide (e_N[e.1.2.2.2.2.1]? = some e.1.1.cls) && decide (e.1.1.cls ≠ "java/lang/invoke/MethodHandle") && decide (e.1.1.cls ≠ "java/lang/invoke/VarHandle") && decide ((parseMethodDescriptor e.1.1.desc).map (fun d => d.parameters.length) = some e.1.2.2.2.2.2.1) && decide (e.1.2.2.1 ≤ 40)
set_option maxRecDepth 100000 in
theorem e_cM0 : e_Mh0.all e_cM = true := by decide +kernel
set_option maxRecDepth 100000 in
theorem e_cM1 : e_Mh1.all e_cM = true := by decide +kernel
set_option maxRecDepth 100000 in
theorem e_cM2 : e_Mh2.all e_cM = true := by decide +kernel
set_option maxRecDepth 100000 in
theorem e_cM3 : e_Mh3.all e_cM = true := by decide +kernel
set_option maxRecDepth 100000 in
theorem e_cM4 : e_Mh4.all e_cM = true := by decide +kernel
set_option maxRecDepth 100000 in
theorem e_cM5 : e_Mh5.all e_cM = true := by decide +kernel
set_option maxRecDepth 100000 in
theorem e_cM6 : e_Mh6.all e_cM = true := by decide +kernel
set_option maxRecDepth 100000 in
theorem e_cM7 : e_Mh7.all e_cM = true := by decide +kernel
set_option maxRecDepth 100000 in
theorem e_cM8 : e_Mh8.all e_cM = true := by decide +kernel
theorem e_cMok : e_Mh.all e_cM = true := by
  simp only [e_Mh, List.all_append, e_cM0, e_cM1, e_cM2, e_cM3, e_cM4, e_cM5, e_cM6, e_cM7, e_cM8, Bool.and_self]
def e_cF (e : ((Nat × Nat) × (Nat × Nat)) × Nat) : Bool := match e_N[e.1.1.1]?, e_K[e.1.2.1]? with
  | some C0, some q => decide (e.1.2.2 < q.1.2.2) && (match lw_tbl[e.2]? with | some (Cond.fieldLink c i r n d) => decide (c = C0 ∧ i = e.1.1.2 ∧ r = q.1.1 ∧ n = (q.1.2.1 e.1.2.2).2.1 ∧ d = (q.1.2.1 e.1.2.2).2.2.1) | _ => false) && decide ((q.1.2.1 e.1.2.2).1 = q.1.1)
  | _, _ => false
set_option maxRecDepth 100000 in
theorem e_cFok : e_FLh.all e_cF = true := by decide +kernel
def e_wML (i : Nat) (C : String) (k : Nat) (y : MethodName) : Bool := match lw_tbl[i]? with | some (Cond.methodLink c j z) => decide (c = C ∧ j = k ∧ z = y) | _ => false
def e_wST (i : Nat) (y : MethodName) : Bool := match lw_tbl[i]? with | some (Cond.static z) => decide (z = y) | _ => false
def e_wIM (i : Nat) (y : MethodName) : Bool := match lw_tbl[i]? with | some (Cond.instanceMethod z) => decide (z = y) | _ => false
def e_wSE (i : Nat) (y : MethodName) : Bool := match lw_tbl[i]? with | some (Cond.selects c z w) => decide (c = y.cls ∧ z = y ∧ w = y) | _ => false
def e_cR (e : ((Nat × Nat) × (Nat × Nat)) × Nat × Nat × Nat) : Bool := match e_N[e.1.1.1]?, e_M[e.1.2.1]? with
  | some C0, some r => match e.1.2.2 with
    | 0 => e_wML e.2.1 C0 e.1.1.2 r.1 && e_wST e.2.2.1 r.1
    | 1 => e_wML e.2.1 C0 e.1.1.2 r.1 && e_wIM e.2.2.1 r.1 && e_wSE e.2.2.2 r.1
    | 2 => e_wML e.2.1 C0 e.1.1.2 r.1 && e_wIM e.2.2.1 r.1 && decide (r.1.name = "<init>") && decide (r.2.2.2.1 = none)
    | _ => e_wML e.2.1 C0 e.1.1.2 Lib.objectInit
  | _, _ => false
set_option maxRecDepth 100000 in
theorem e_cRk0 : e_RLh0.all e_cR = true := by decide +kernel
set_option maxRecDepth 100000 in
theorem e_cRk1 : e_RLh1.all e_cR = true := by decide +kernel
set_option maxRecDepth 100000 in
theorem e_cRk2 : e_RLh2.all e_cR = true := by decide +kernel
set_option maxRecDepth 100000 in
theorem e_cRk3 : e_RLh3.all e_cR = true := by decide +kernel
set_option maxRecDepth 100000 in
theorem e_cRk4 : e_RLh4.all e_cR = true := by decide +kernel
set_option maxRecDepth 100000 in
theorem e_cRk5 : e_RLh5.all e_cR = true := by decide +kernel
set_option maxRecDepth 100000 in
theorem e_cRk6 : e_RLh6.all e_cR = true := by decide +kernel
set_option maxRecDepth 100000 in
theorem e_cRk7 : e_RLh7.all e_cR = true := by decide +kernel
set_option maxRecDepth 100000 in
theorem e_cRk8 : e_RLh8.all e_cR = true := by decide +kernel
set_option maxRecDepth 100000 in
theorem e_cRk9 : e_RLh9.all e_cR = true := by decide +kernel
set_option maxRecDepth 100000 in
theorem e_cRk10 : e_RLh10.all e_cR = true := by decide +kernel
set_option maxRecDepth 100000 in
theorem e_cRk11 : e_RLh11.all e_cR = true := by decide +kernel
set_option maxRecDepth 100000 in
theorem e_cRk12 : e_RLh12.all e_cR = true := by decide +kernel
set_option maxRecDepth 100000 in
theorem e_cRk13 : e_RLh13.all e_cR = true := by decide +kernel
theorem e_cRok : e_RLh.all e_cR = true := by
  simp only [e_RLh, List.all_append, e_cRk0, e_cRk1, e_cRk2, e_cRk3, e_cRk4, e_cRk5, e_cRk6, e_cRk7, e_cRk8, e_cRk9, e_cRk10, e_cRk11, e_cRk12, e_cRk13, Bool.and_self]
theorem e_oi1 : Cond.instanceMethod Lib.objectInit ∈ lw_tbl := List.mem_of_getElem? (i := 145) (by decide +kernel)
theorem e_oi2 : Cond.code Lib.objectInit ⟨#[0xb1]⟩ 1 none ∈ lw_tbl := List.mem_of_getElem? (i := 146) rfl
def e_cL (e : ((Nat × Nat) × Value) × Nat) : Bool := match e_N[e.1.1.1]?, e.1.2 with
  | some C0, .int v => decide (lw_tbl[e.2]? = some (Cond.constant C0 e.1.1.2 v))
  | some C0, .long v => decide (lw_tbl[e.2]? = some (Cond.constantLong C0 e.1.1.2 v))
  | _, _ => false
set_option maxRecDepth 100000 in
theorem e_cLok : e_LLh.all e_cL = true := by decide +kernel
def e_cW (e : ((Nat × Nat) × Nat) × Nat) : Bool := match e_N[e.1.1.1]?, e_K[e.1.2]? with
  | some C0, some q => decide (lw_tbl[e.2]? = some (Cond.classLink C0 e.1.1.2 q.1.1))
  | _, _ => false
set_option maxRecDepth 100000 in
theorem e_cWok : e_WLh.all e_cW = true := by decide +kernel
def e_okK (q : vw_C × (Nat → FieldType) × List Value) : Prop := (∀ w ∈ u_ws q.1.1 q.1.2.1 q.1.2.2, w ∈ lw_tbl) ∧ (∀ k, k < q.1.2.2 → parseFieldDescriptor (q.1.2.1 k).2.2.1 = some (q.2.1 k)) ∧ (∀ a, a < q.1.2.2 → ∀ b, b < q.1.2.2 → a ≠ b → (q.1.2.1 a).2.1 ≠ (q.1.2.1 b).2.1) ∧ Cond.instantiable q.1.1 q.1.2.2 ∈ lw_tbl ∧ Cond.initialized q.1.1 ∈ lw_tbl ∧ (∀ j, j < q.1.2.2 → defaultValue (q.2.1 j) = vp_V q.2.2 j) ∧ q.2.2.length = q.1.2.2
set_option maxRecDepth 100000 in
theorem e_k0 : e_okK (("LeanStair$Deeds", e_T0, 3), e_Y0, [.null, .int 0, .int 0]) := ⟨by decide +kernel, by decide +kernel, by decide +kernel, List.mem_of_getElem? (i := 440) (by decide +kernel), List.mem_of_getElem? (i := 127) (by decide +kernel), by decide +kernel, rfl⟩
set_option maxRecDepth 100000 in
theorem e_k1 : e_okK (("LeanStair$Law", e_T1, 2), e_Y1, [.null, .null]) := ⟨by decide +kernel, by decide +kernel, by decide +kernel, List.mem_of_getElem? (i := 410) (by decide +kernel), List.mem_of_getElem? (i := 126) (by decide +kernel), by decide +kernel, rfl⟩
set_option maxRecDepth 100000 in
theorem e_k2 : e_okK (("LeanStair$Plan", e_T2, 19), e_Y2, [.int 0, .null, .null, .int 0, .null, .null, .null, .null, .null, .null, .int 0, .int 0, .int 0, .null, .int 0, .int 0, .int 0, .int 0, .int 0]) := ⟨by decide +kernel, by decide +kernel, by decide +kernel, List.mem_of_getElem? (i := 148) (by decide +kernel), List.mem_of_getElem? (i := 120) (by decide +kernel), by decide +kernel, rfl⟩
set_option maxRecDepth 100000 in
theorem e_k3 : e_okK (("LeanStair$Reader", e_T3, 9), e_Y3, [.null, .null, .int 0, .int 0, .int 0, .int 0, .null, .int 0, .int 0]) := ⟨by decide +kernel, by decide +kernel, by decide +kernel, List.mem_of_getElem? (i := 366) (by decide +kernel), List.mem_of_getElem? (i := 124) (by decide +kernel), by decide +kernel, rfl⟩
set_option maxRecDepth 100000 in
theorem e_k4 : e_okK (("LeanStair$Rooms", e_T4, 4), e_Y4, [.null, .null, .null, .null]) := ⟨by decide +kernel, by decide +kernel, by decide +kernel, List.mem_of_getElem? (i := 504) (by decide +kernel), List.mem_of_getElem? (i := 130) (by decide +kernel), by decide +kernel, rfl⟩
set_option maxRecDepth 100000 in
theorem e_k5 : e_okK (("LeanStair$Scales", e_T5, 4), e_Y5, [.null, .null, .null, .null]) := ⟨by decide +kernel, by decide +kernel, by decide +kernel, List.mem_of_getElem? (i := 404) (by decide +kernel), List.mem_of_getElem? (i := 125) (by decide +kernel), by decide +kernel, rfl⟩
set_option maxRecDepth 100000 in
theorem e_k6 : e_okK (("LeanStair$Scene", e_T6, 10), e_Y6, [.null, .int 0, .null, .null, .null, .null, .int 0, .int 0, .int 0, .int 0]) := ⟨by decide +kernel, by decide +kernel, by decide +kernel, List.mem_of_getElem? (i := 263) (by decide +kernel), List.mem_of_getElem? (i := 122) (by decide +kernel), by decide +kernel, rfl⟩
set_option maxRecDepth 100000 in
theorem e_k7 : e_okK (("LeanStair$Service", e_T7, 7), e_Y7, [.null, .null, .int 0, .null, .int 0, .null, .null]) := ⟨by decide +kernel, by decide +kernel, by decide +kernel, List.mem_of_getElem? (i := 474) (by decide +kernel), List.mem_of_getElem? (i := 129) (by decide +kernel), by decide +kernel, rfl⟩
set_option maxRecDepth 100000 in
theorem e_k8 : e_okK (("LeanStair$Sets", e_T8, 2), e_Y8, [.null, .null]) := ⟨by decide +kernel, by decide +kernel, by decide +kernel, List.mem_of_getElem? (i := 459) (by decide +kernel), List.mem_of_getElem? (i := 128) (by decide +kernel), by decide +kernel, rfl⟩
set_option maxRecDepth 100000 in
theorem e_k9 : e_okK (("LeanStair$Tray", e_T9, 3), e_Y9, [.int 0, .int 0, .null]) := ⟨by decide +kernel, by decide +kernel, by decide +kernel, List.mem_of_getElem? (i := 343) (by decide +kernel), List.mem_of_getElem? (i := 123) (by decide +kernel), by decide +kernel, rfl⟩
set_option maxRecDepth 100000 in
theorem e_k10 : e_okK (("LeanStair$WhatIf", e_T10, 5), e_Y10, [.null, .null, .null, .null, .null]) := ⟨by decide +kernel, by decide +kernel, by decide +kernel, List.mem_of_getElem? (i := 525) (by decide +kernel), List.mem_of_getElem? (i := 131) (by decide +kernel), by decide +kernel, rfl⟩
set_option maxRecDepth 100000 in
theorem e_k11 : e_okK (("LeanStair", e_T11, 19), e_Y11, [.null, .int 0, .int 0, .int 0, .null, .null, .null, .int 0, .int 0, .null, .null, .null, .null, .null, .null, .null, .null, .null, .null]) := ⟨by decide +kernel, by decide +kernel, by decide +kernel, List.mem_of_getElem? (i := 140) (by decide +kernel), List.mem_of_getElem? (i := 119) (by decide +kernel), by decide +kernel, rfl⟩
set_option maxRecDepth 100000 in
theorem e_k12 : e_okK (("LeanStairModel", e_T12, 31), e_Y12, [.int 0, .null, .null, .null, .null, .int 0, .int 0, .int 0, .int 0, .int 0, .int 0, .int 0, .int 0, .int 0, .int 0, .int 0, .null, .null, .null, .null, .null, .int 0, .int 0, .null, .null, .null, .null, .null, .null, .null, .null]) := ⟨by decide +kernel, by decide +kernel, by decide +kernel, List.mem_of_getElem? (i := 1420) (by decide +kernel), List.mem_of_getElem? (i := 132) (by decide +kernel), by decide +kernel, rfl⟩
theorem e_kAll : ∀ q ∈ e_K, e_okK q := List.forall_mem_cons.mpr ⟨e_k0, List.forall_mem_cons.mpr ⟨e_k1, List.forall_mem_cons.mpr ⟨e_k2, List.forall_mem_cons.mpr ⟨e_k3, List.forall_mem_cons.mpr ⟨e_k4, List.forall_mem_cons.mpr ⟨e_k5, List.forall_mem_cons.mpr ⟨e_k6, List.forall_mem_cons.mpr ⟨e_k7, List.forall_mem_cons.mpr ⟨e_k8, List.forall_mem_cons.mpr ⟨e_k9, List.forall_mem_cons.mpr ⟨e_k10, List.forall_mem_cons.mpr ⟨e_k11, List.forall_mem_cons.mpr ⟨e_k12, fun _ h => absurd h List.not_mem_nil⟩⟩⟩⟩⟩⟩⟩⟩⟩⟩⟩⟩⟩
def e_ln : Instr → Nat
  | .iload _ | .lload _ | .aload _ | .istore _ | .lstore _ | .astore _ | .bipush _ | .ldc _ | .newarray _ => 2
  | .sipush _ | .iinc _ _ | .goto _ | .ifCond _ _ | .if_icmp _ _ | .ldc_w _ | .ldc2_w _ | .getstatic _ | .getfield _ | .putfield _ | .anewarray _ | .new _ | .invokespecial _ | .invokestatic _ | .invokevirtual _ => 3
  | _ => 1
def e_lok (q : Instr × Nat) : Bool := match q.1 with
  | .tableswitch _ _ _ _ => true
  | .lookupswitch _ _ => true
  | .checkcast _ | .instanceof _ | .ifnull _ | .ifnonnull _ | .if_acmp _ _ | .athrow => true
  | i => decide (q.2 = e_ln i)
theorem e_lAll : (e_M.all fun r => r.2.2.2.2.2.2.all fun q => e_lok q.2) = true := by decide +kernel
theorem e_ML_ok : e_ML.2.2.2.2.2.2.all (fun q => e_lok q.2) = true := by decide +kernel
theorem e_ac1 : Cond.arrayClass .int ∈ lw_tbl ∧ Cond.arrayClass .byte ∈ lw_tbl ∧ Cond.arrayClass .boolean ∈ lw_tbl ∧ Cond.arrayClass .long ∈ lw_tbl ∧ Cond.arrayOver (.object "LeanStair$Scene") ∈ lw_tbl ∧ Cond.arrayOver (.object "LeanStair$Tray") ∈ lw_tbl := by decide +kernel
