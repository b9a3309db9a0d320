/-! places of rows, in numbers -/
theorem lit_nI (c : Nat) : (OfNat.ofNat c : Int32) = nI c := rfl
theorem ix_in {m N : Nat} (h : m < N) (hN : N ≤ 65536) : e_in (nI m) N = true := e_in_iff.mpr (vp_in_nI h (by omega))
theorem ix_cl {m : Nat} (h : m < 2147483648) : (nI m).toNatClampNeg = m := nI_clamp (by omega)
theorem lt_in {c N : Nat} (h : c < N) (hN : N ≤ 65536) : e_in (no_index (OfNat.ofNat c : Int32)) N = true := ix_in h hN
theorem lt_cl {c : Nat} (h : c < 2147483648) : (no_index (OfNat.ofNat c : Int32)).toNatClampNeg = c := ix_cl h
theorem lt_add (c m : Nat) : (no_index (OfNat.ofNat c : Int32)) + nI m = nI (c + m) := by rw [lit_nI, nI_add]
theorem ix_one (m : Nat) : nI m + 1 = nI (m + 1) := nI_1 m
theorem ix_sub1 (m : Nat) : nI (m + 1) - 1 = nI m := nI_pred m
theorem ix_lt {a b : Nat} (ha : a < 2147483648) (hb : b < 2147483648) : (nI a < nI b) = (a < b) := propext (nI_ltI (by omega) (by omega))
theorem ix_le {a b : Nat} (ha : a < 2147483648) (hb : b < 2147483648) : (nI a ≤ nI b) = (a ≤ b) := propext (nI_leI (by omega) (by omega))
theorem ix_eq {a b : Nat} (ha : a < 2147483648) (hb : b < 2147483648) : (nI a = nI b) = (a = b) := propext (nI_eq (by omega) (by omega))
theorem lt_le {c m : Nat} (hc : c < 2147483648) (hm : m < 2147483648) : ((no_index (OfNat.ofNat c : Int32)) ≤ nI m) = (c ≤ m) := ix_le hc hm
theorem ne_m1 {m : Nat} (h : m < 2147483648) : (nI m = -1) = False := by
  apply propext
  refine ⟨fun z => ?_, fun z => z.elim⟩
  have h1 := congrArg Int32.toInt z
  rw [nI_toInt (by omega)] at h1
  have h2 : (-1 : Int32).toInt = -1 := by decide
  rw [h2] at h1
  omega
theorem le_lt {c m : Nat} (hc : c < 2147483648) (hm : m < 2147483648) : (nI m ≤ (no_index (OfNat.ofNat c : Int32))) = (m ≤ c) := ix_le hm hc
theorem lt_lt {c m : Nat} (hc : c < 2147483648) (hm : m < 2147483648) : ((no_index (OfNat.ofNat c : Int32)) < nI m) = (c < m) := ix_lt hc hm
theorem tl_lt {c m : Nat} (hc : c < 2147483648) (hm : m < 2147483648) : (nI m < (no_index (OfNat.ofNat c : Int32))) = (m < c) := ix_lt hm hc
theorem tl_eq {c m : Nat} (hc : c < 2147483648) (hm : m < 2147483648) : (nI m = (no_index (OfNat.ofNat c : Int32))) = (m = c) := ix_eq hm hc
theorem test_ix (all : Nat → Int32) (p : Nat) (hp : p < 9) : (e_in (43 + nI p) 4182 = true ∧ all (43 + nI p).toNatClampNeg = all (43 + p)) ∧ e_in 53 4182 = true ∧ all (53 : Int32).toNatClampNeg = all 53 ∧ (8 ≤ nI p) = (8 ≤ p) := by
  simp (disch := first | omega | decide) only [ix_in, ix_cl, lt_in, lt_cl, lt_add, lt_le, and_self]
