/-! loops; rows of bytes and truths, lengths, rows of objects without hypotheses -/
def TH (X : Nat × (Nat → Int32)) (d mi pc : Nat) (lv st : List Value) (f : Nat → e_C) (n k : Nat) (Q : t_Q) : Prop := TT X d mi pc lv st f n k Q
/-- a loop that counts up -/
theorem lp {X : Nat × (Nat → Int32)} {d mi pc n k : Nat} {Q : t_Q} {α : Type} (I : Nat → (Nat → e_C) → α → Prop) (L : Nat → α → List Value) (b : Nat) (hs : ∀ j f x, j < b → I j f x → (∀ f' x', I (j + 1) f' x' → TH X d mi pc (L (j + 1) x') [] f' n k Q) → TT X d mi pc (L j x) [] f n k Q) (he : ∀ f x, I b f x → TT X d mi pc (L b x) [] f n k Q) : ∀ j f x, j ≤ b → I j f x → TH X d mi pc (L j x) [] f n k Q := by
  suffices h : ∀ m j f x, j + m = b → I j f x → TH X d mi pc (L j x) [] f n k Q from fun j f x hj hI => h (b - j) j f x (by omega) hI
  intro m
  induction m with
  | zero =>
    intro j f x hj hI
    obtain rfl : j = b := by omega
    exact he f x hI
  | succ m ih =>
    intro j f x hj hI
    exact hs j f x (by omega) hI (fun f' x' h => ih (j + 1) f' x' (by omega) h)
/-- a loop by a measure -/
theorem lw {X : Nat × (Nat → Int32)} {d mi pc n k : Nat} {Q : t_Q} {α : Type} (I : Nat → (Nat → e_C) → α → Prop) (L : α → List Value) (hs : ∀ m f x, I m f x → (∀ m' f' x', m' < m → I m' f' x' → TH X d mi pc (L x') [] f' n k Q) → TT X d mi pc (L x) [] f n k Q) : ∀ m f x, I m f x → TH X d mi pc (L x) [] f n k Q := by
  intro m
  induction m using Nat.strongRecOn with
  | ind m ih =>
    intro f x hI
    exact hs m f x hI (fun m' f' x' hm hI' => ih m' hm f' x' hI')
/-- a walk: g at 0, 1, .. -/
def fo {α : Type} (g : Nat → α → α) (a : α) : Nat → α
  | 0 => a
  | j + 1 => g j (fo g a j)
theorem fo_0 {α : Type} {g : Nat → α → α} {a : α} : fo g a 0 = a := rfl
theorem fo_s {α : Type} {g : Nat → α → α} {a : α} {j : Nat} : fo g a (j + 1) = g j (fo g a j) := rfl
theorem fo_cong {α : Type} {g g' : Nat → α → α} {a : α} {n : Nat} (h : ∀ j x, j < n → g j x = g' j x) : fo g a n = fo g' a n := by
  induction n with
  | zero => rfl
  | succ n ih => rw [fo_s, fo_s, ih (fun j x hj => h j x (by omega)), h n _ (by omega)]
def arY (c : e_C) : Option (FieldType × Nat × (Nat → Int32)) := match c with
  | .inl (.byte, n, .inl g) => some (.byte, n, g)
  | .inl (.boolean, n, .inl g) => some (.boolean, n, g)
  | _ => none
def alen (c : e_C) : Option Nat := match c with
  | .inl (ty, x) => if e_okT ty = true then some x.1 else none
  | _ => none
def arS (c : e_C) : Option (Nat × (Nat → Option Nat)) := match c with
  | .inl (.object C, n, .inr (.inr (.inr (.inr g)))) => if e_okT (.object C) = true then some (n, g) else none
  | _ => none
theorem arY_Z {c : e_C} {n : Nat} {g : Nat → Int32} (h : arZ c = some (n, g)) : arY c = some (.boolean, n, g) := by rw [arZ_inv h]; rfl
theorem arY_B {c : e_C} {n : Nat} {g : Nat → Int32} (h : arB c = some (n, g)) : arY c = some (.byte, n, g) := by rw [arB_inv h]; rfl
theorem arY_mZ {n : Nat} {g : Nat → Int32} : arY (.inl (.boolean, n, .inl g)) = some (.boolean, n, g) := rfl
theorem arY_mB {n : Nat} {g : Nat → Int32} : arY (.inl (.byte, n, .inl g)) = some (.byte, n, g) := rfl
theorem alen_I {c : e_C} {n : Nat} {g : Nat → Int32} (h : arI c = some (n, g)) : alen c = some n := by rw [arI_inv h]; rfl
theorem alen_Z {c : e_C} {n : Nat} {g : Nat → Int32} (h : arZ c = some (n, g)) : alen c = some n := by rw [arZ_inv h]; rfl
theorem alen_B {c : e_C} {n : Nat} {g : Nat → Int32} (h : arB c = some (n, g)) : alen c = some n := by rw [arB_inv h]; rfl
theorem alen_L {c : e_C} {n : Nat} {g : Nat → Int64} (h : arL c = some (n, g)) : alen c = some n := by rw [arL_inv h]; rfl
theorem alen_mI {n : Nat} {g : Nat → Int32} : alen (.inl (.int, n, .inl g)) = some n := rfl
theorem arS_R {c : e_C} {C : String} {n : Nat} {g : Nat → Option Nat} (h : arR c C = some (n, g)) (hok : e_okT (.object C) = true) : arS c = some (n, g) := by rw [arR_inv h]; simp only [arS, hok, if_true]
theorem alen_S {c : e_C} {n : Nat} {g : Nat → Option Nat} (h : arS c = some (n, g)) : alen c = some n := by
  unfold arS at h
  split at h
  · split at h
    · next hok => cases h; simp only [alen, hok, if_true]
    · cases h
  · cases h
theorem nar_Z {c : Prop} [Decidable c] : vp_nar .boolean (if c then (1 : Int32) else 0) = if c then 1 else 0 := by
  by_cases h : c <;> simp only [h, if_true, if_false] <;> rfl
theorem nar_0 : vp_nar .boolean (0 : Int32) = 0 := rfl
theorem nar_1 : vp_nar .boolean (1 : Int32) = 1 := rfl
section TTY
variable {X : Nat × (Nat → Int32)} {d mi pc n k : Nat} {lv st : List Value} {f : Nat → e_C} {Q : t_Q}
theorem tt_yald {a : Nat} {i : Int32} (hc : e_cd mi pc = some (.baload, 1)) : TT X d mi pc lv (.int i :: .ref a :: st) f n k Q = ow (arY (f a)) (fun q => e_in i q.2.1 = true ∧ TT X d mi (pc + 1) lv (.int (q.2.2 i.toNatClampNeg) :: st) f n k Q) := by
  cases hv : arY (f a) with
  | some q =>
    unfold arY at hv
    split at hv
    · next m g hfa => cases hv; exact tt_bald hc (by rw [hfa]; rfl)
    · next m g hfa => cases hv; exact tt_zald hc (by rw [hfa]; rfl)
    · cases hv
  | none =>
    refine tt_no hc rfl ?_ rfl
    simp only [e_st, e_bald]
    split
    · next m g hfa => rw [hfa] at hv; cases hv
    · next m g hfa => rw [hfa] at hv; cases hv
    · rfl
theorem tt_yast {a : Nat} {i x : Int32} (hc : e_cd mi pc = some (.bastore, 1)) : TT X d mi pc lv (.int x :: .int i :: .ref a :: st) f n k Q = ow (arY (f a)) (fun q => e_in i q.2.1 = true ∧ TT X d mi (pc + 1) lv st (va_up f a (.inl (q.1, q.2.1, .inl (upd q.2.2 i.toNatClampNeg (vp_nar q.1 x))))) n k Q) := by
  cases hv : arY (f a) with
  | some q =>
    unfold arY at hv
    split at hv
    · next m g hfa => cases hv; exact tt_bast hc (by rw [hfa]; rfl)
    · next m g hfa => cases hv; exact tt_zast hc (by rw [hfa]; rfl)
    · cases hv
  | none =>
    refine tt_no hc rfl ?_ rfl
    simp only [e_st, e_bast]
    split
    · next m g hfa => rw [hfa] at hv; cases hv
    · next m g hfa => rw [hfa] at hv; cases hv
    · rfl
theorem tt_ylen {a : Nat} (hc : e_cd mi pc = some (.arraylength, 1)) : TT X d mi pc lv (.ref a :: st) f n k Q = ow (alen (f a)) (fun q => TT X d mi (pc + 1) lv (.int (nI q) :: st) f n k Q) := by
  cases hv : alen (f a) with
  | some q =>
    unfold alen at hv
    split at hv
    · next ty x hfa =>
      split at hv
      · next hok => cases hv; exact tt_alen hc hfa hok
      · cases hv
    · cases hv
  | none =>
    refine tt_no hc rfl ?_ rfl
    simp only [e_st, e_alen]
    split
    · next ty x hfa =>
      split
      · next hok => rw [hfa] at hv; simp only [alen, hok, if_true] at hv; cases hv
      · rfl
    · rfl
theorem tt_yaald {a : Nat} {i : Int32} (hc : e_cd mi pc = some (.aaload, 1)) : TT X d mi pc lv (.int i :: .ref a :: st) f n k Q = ow (arS (f a)) (fun q => e_in i q.1 = true ∧ TT X d mi (pc + 1) lv (va_rf (q.2 i.toNatClampNeg) :: st) f n k Q) := by
  cases hv : arS (f a) with
  | some q =>
    unfold arS at hv
    split at hv
    · next C m g hfa =>
      split at hv
      · next hok => cases hv; exact tt_aald hc hok (by rw [hfa]; simp [arR])
      · cases hv
    · cases hv
  | none =>
    refine tt_no hc rfl ?_ rfl
    simp only [e_st, e_aald]
    split
    · next C m g hfa =>
      rw [if_neg]
      intro z
      rw [hfa] at hv
      simp only [arS, z.2, if_true] at hv
      cases hv
    · rfl
end TTY
