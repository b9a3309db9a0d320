/-! equations of the triple: switches, calls, by their sites -/
def tsw (x : Int32) : Int → List Nat → Nat → (Nat → Prop) → Prop
  | _, [], t0, P => P t0
  | lo, t :: ts, t0, P => if x.toInt = lo then P t else tsw x (lo + 1) ts t0 P
theorem tsw_at {x : Int32} {t0 : Nat} {P : Nat → Prop} : ∀ (ts : List Nat) (lo : Int) (j t : Nat), ts[j]? = some t → x.toInt = lo + j → tsw x lo ts t0 P = P t := by
  intro ts
  induction ts with
  | nil => intro lo j t h; simp at h
  | cons u ts ih =>
    intro lo j t h hx
    cases j with
    | zero =>
      simp at h
      subst h
      rw [tsw, if_pos (by simpa using hx)]
    | succ j =>
      rw [tsw, if_neg (by rw [hx]; omega)]
      exact ih (lo + 1) j t (by simpa using h) (by rw [hx]; omega)
theorem tsw_out {x : Int32} {t0 : Nat} {P : Nat → Prop} : ∀ (ts : List Nat) (lo : Int), (x.toInt < lo ∨ lo + ts.length ≤ x.toInt) → tsw x lo ts t0 P = P t0 := by
  intro ts
  induction ts with
  | nil => intro lo h; rfl
  | cons u ts ih =>
    intro lo h
    simp only [List.length_cons] at h
    rw [tsw, if_neg (by omega)]
    exact ih (lo + 1) (by omega)
section TTR3
variable {X : Nat × (Nat → Int32)} {d mi pc n k : Nat} {lv st : List Value} {f : Nat → e_C} {Q : t_Q}
theorem tt_tsw {x : Int32} {dd lo hi : Int} {offs : Array Int} {ts : List Nat} {t0 len : Nat} (hc : e_cd mi pc = some (.tableswitch dd lo hi offs, len)) (h0 : e_jmp pc dd = some t0) (hts : offs.toList.map (e_jmp pc) = ts.map some) (hh : lo + ts.length = hi + 1) : TT X d mi pc lv (.int x :: st) f n k Q = tsw x lo ts t0 (fun t => TT X d mi t lv st f n k Q) := by
  have hlen : offs.size = ts.length := by
    have := congrArg List.length hts
    simpa using this
  by_cases h : x.toInt < lo ∨ hi < x.toInt
  · rw [tsw_out ts lo (by omega)]
    exact tt_st hc rfl (by simp only [e_st, h, if_true, h0, Option.map_some])
  · have hj : (x.toInt - lo).toNat < ts.length := by omega
    have ht : ts[(x.toInt - lo).toNat]? = some (ts[(x.toInt - lo).toNat]'hj) := List.getElem?_eq_getElem hj
    have ho : offs[(x.toInt - lo).toNat]? = some (offs[(x.toInt - lo).toNat]'(by omega)) := Array.getElem?_eq_getElem _
    have hk : e_jmp pc (offs[(x.toInt - lo).toNat]'(by omega)) = some (ts[(x.toInt - lo).toNat]'hj) := by
      have h1 := congrArg (fun l => l[(x.toInt - lo).toNat]?) hts
      simp only [List.getElem?_map, ht, Option.map_some] at h1
      rw [Array.getElem?_toList, ho] at h1
      simpa using h1
    rw [tsw_at ts lo _ _ ht (by omega)]
    exact tt_st hc rfl (by simp only [e_st, h, if_false, ho, hk, Option.map_some])
/-- a call with a receiver, by what the callee does -/
theorem tt_cV {i : Instr} {kind idx cm ci a : Nat} {as rest lvc : List Value} {r : e_R} {Q1 : t_Q} (hc : e_cd mi pc = some (i, 3)) (hr : e_re mi i (as.reverse ++ .ref a :: rest) = none) (hs : e_st X (e_ow mi) (e_ni mi) pc i lv (as.reverse ++ .ref a :: rest) (f, n, k) = none) (hk : e_kn i = some (kind, idx)) (hrs : e_rs (e_ow mi) idx = some (cm, kind)) (hm : e_rc cm = some r) (hk12 : kind = 1 ∨ kind = 2) (hna : r.2.2.2.2.2.1 = as.length) (hci : r.2.2.2.2.1 = ci) (hc13 : ci < 13) (hal : e_al (.ref a :: as) ≤ r.2.2.1) (hlc : e_lc r.2.2.1 (.ref a :: as) = lvc)
    (hcl : cno (f a) = some ci) (hcat : e_cat rest ≤ 8) (h1 : TT X d cm 0 lvc [] f n k Q1) (h2 : ∀ f' n' k' v, Q1 f' n' k' v → TT X (d + 1) mi (pc + 3) lv (v.toList ++ rest) f' n' k' Q) : TT X (d + 1) mi pc lv (as.reverse ++ .ref a :: rest) f n k Q :=
  tt_call hc hr hs hk (e_cp_v hrs hm hk12 hna hci hc13 hcl hcat hal) hm (by rw [hlc]; exact h1) h2
theorem tt_pV {i : Instr} {kind idx cm ci a : Nat} {as rest lvc : List Value} {r : e_R} {v : Option Value} (hc : e_cd mi pc = some (i, 3)) (hr : e_re mi i (as.reverse ++ .ref a :: rest) = none) (hs : e_st X (e_ow mi) (e_ni mi) pc i lv (as.reverse ++ .ref a :: rest) (f, n, k) = none) (hk : e_kn i = some (kind, idx)) (hrs : e_rs (e_ow mi) idx = some (cm, kind)) (hm : e_rc cm = some r) (hk12 : kind = 1 ∨ kind = 2) (hna : r.2.2.2.2.2.1 = as.length) (hci : r.2.2.2.2.1 = ci) (hc13 : ci < 13) (hal : e_al (.ref a :: as) ≤ r.2.2.1) (hlc : e_lc r.2.2.1 (.ref a :: as) = lvc)
    (hcl : cno (f a) = some ci) (hcat : e_cat rest ≤ 8) (h1 : PU X d cm lvc f n k v) : TT X (d + 1) mi pc lv (as.reverse ++ .ref a :: rest) f n k Q = TT X (d + 1) mi (pc + 3) lv (v.toList ++ rest) f n k Q :=
  tt_pure hc hr hs hk (e_cp_v hrs hm hk12 hna hci hc13 hcl hcat hal) hm (by rw [hlc]; exact h1)
theorem tt_cS {i : Instr} {idx cm : Nat} {as rest lvc : List Value} {r : e_R} {Q1 : t_Q} (hc : e_cd mi pc = some (i, 3)) (hr : e_re mi i (as.reverse ++ rest) = none) (hs : e_st X (e_ow mi) (e_ni mi) pc i lv (as.reverse ++ rest) (f, n, k) = none) (hk : e_kn i = some (0, idx)) (hrs : e_rs (e_ow mi) idx = some (cm, 0)) (hm : e_rc cm = some r) (hna : r.2.2.2.2.2.1 = as.length) (hal : e_al as ≤ r.2.2.1) (hlc : e_lc r.2.2.1 as = lvc)
    (hcat : e_cat rest ≤ 8) (h1 : TT X d cm 0 lvc [] f n k Q1) (h2 : ∀ f' n' k' v, Q1 f' n' k' v → TT X (d + 1) mi (pc + 3) lv (v.toList ++ rest) f' n' k' Q) : TT X (d + 1) mi pc lv (as.reverse ++ rest) f n k Q :=
  tt_call hc hr hs hk (e_cp_s hrs hm hna hcat hal) hm (by rw [hlc]; exact h1) h2
theorem tt_pS {i : Instr} {idx cm : Nat} {as rest lvc : List Value} {r : e_R} {v : Option Value} (hc : e_cd mi pc = some (i, 3)) (hr : e_re mi i (as.reverse ++ rest) = none) (hs : e_st X (e_ow mi) (e_ni mi) pc i lv (as.reverse ++ rest) (f, n, k) = none) (hk : e_kn i = some (0, idx)) (hrs : e_rs (e_ow mi) idx = some (cm, 0)) (hm : e_rc cm = some r) (hna : r.2.2.2.2.2.1 = as.length) (hal : e_al as ≤ r.2.2.1) (hlc : e_lc r.2.2.1 as = lvc)
    (hcat : e_cat rest ≤ 8) (h1 : PU X d cm lvc f n k v) : TT X (d + 1) mi pc lv (as.reverse ++ rest) f n k Q = TT X (d + 1) mi (pc + 3) lv (v.toList ++ rest) f n k Q :=
  tt_pure hc hr hs hk (e_cp_s hrs hm hna hcat hal) hm (by rw [hlc]; exact h1)
end TTR3
