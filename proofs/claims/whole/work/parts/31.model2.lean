theorem ti_lit {x : Int32} {c : Nat} (h : c < 2147483648) : (x.toInt = (no_index (OfNat.ofNat c : Int))) = (x = OfNat.ofNat c) := by
  apply propext
  have h1 : (OfNat.ofNat c : Int32).toInt = (c : Int) := nI_toInt (by omega)
  constructor
  · intro z
    exact Int32.toInt_inj.mp (by rw [h1]; exact z)
  · intro z
    rw [z, h1]; rfl
theorem sp_between {X : Nat × (Nat → Int32)} {d n k : Nat} {f : Nat → e_C} {c a b : Int32} {u w : Value} : PU X d 210 [.int c, .int a, .int b, u, w] f n k (some (.int (m_btw c a b))) := by
  unfold PU m_btw
  simp only [s210_0, s210_1, tsw, Int.reduceAdd]
  have q3 : (c.toInt = 3003) = (c = 3003) := ti_lit (by decide)
  have q4 : (c.toInt = 3004) = (c = 3004) := ti_lit (by decide)
  have q5 : (c.toInt = 3005) = (c = 3005) := ti_lit (by decide)
  have q6 : (c.toInt = 3006) = (c = 3006) := ti_lit (by decide)
  have q7 : (c.toInt = 3007) = (c = 3007) := ti_lit (by decide)
  have q8 : (c.toInt = 3008) = (c = 3008) := ti_lit (by decide)
  simp only [q3, q4, q5, q6, q7, q8]
  by_cases h3 : c = 3003
  · subst h3
    by_cases h : a = b <;> simp [s210_40, s210_41, s210_42, s210_45, s210_46, s210_49, s210_50, h]
  · by_cases h4 : c = 3004
    · subst h4
      by_cases h : b ≤ a
      · have h' : ¬ a < b := Int32.not_lt.mpr h
        simp [s210_51, s210_52, s210_53, s210_56, s210_57, s210_60, s210_61, h, h']
      · have h' : a < b := Int32.not_le.mp h
        simp [s210_51, s210_52, s210_53, s210_56, s210_57, s210_60, s210_61, h, h']
    · by_cases h5 : c = 3005
      · subst h5
        by_cases h : a ≤ b
        · have h' : ¬ b < a := Int32.not_lt.mpr h
          simp [s210_62, s210_63, s210_64, s210_67, s210_68, s210_71, s210_72, h, h']
        · have h' : b < a := Int32.not_le.mp h
          simp [s210_62, s210_63, s210_64, s210_67, s210_68, s210_71, s210_72, h, h']
      · by_cases h7 : c = 3007
        · subst h7
          simp [s210_73, s210_74, s210_75, s210_76]
        · by_cases h8 : c = 3008
          · subst h8
            simp [s210_77, s210_78, s210_79, s210_80]
          · simp only [h3, h4, h5, h7, h8, if_false, ite_self]
            have tail : ∀ (v : Int64) (lv : List Value), lv = [.int c, .int a, .int b, u, w] → TT X d 210 116 lv [.long v] f n k (fun f' n' k' v_1 => f' = f ∧ n' = n ∧ k' = k ∧ v_1 = some (.int (if 1000000 < v then 1000000 else if v < -1000000 then -1000000 else v.toInt32))) := by
              rintro v lv rfl
              simp only [s210_116, s210_117, s210_118, s210_121, s210_122, s210_125, s210_128, s210_131, s210_132, s210_135, s210_136, s210_139, s210_142, s210_145, s210_146, s210_147, lg_cmp_le, lg_cmp_ge]
              by_cases g1 : v ≤ 1000000
              · have g1' : ¬ 1000000 < v := Int64.not_lt.mpr g1
                by_cases g2 : -1000000 ≤ v
                · have g2' : ¬ v < -1000000 := Int64.not_lt.mpr g2
                  simp [g1, g1', g2, g2']
                · have g2' : v < -1000000 := Int64.not_le.mp g2
                  simp [g1, g1', g2, g2']
                  try decide
              · have g1' : 1000000 < v := Int64.not_le.mp g1
                simp [g1, g1']
                try decide
            by_cases h0 : c = 3000
            · subst h0
              simp only [s210_81, s210_82, s210_85, s210_88, s210_89, s210_90, s210_91, s210_92, s210_93, if_true]
              simpa using tail (a.toInt64 + b.toInt64) _ rfl
            · by_cases h1 : c = 3001
              · subst h1
                simp [s210_81, s210_82, s210_85, s210_88, s210_89, s210_90, s210_91, s210_92, s210_93, s210_96, s210_97, s210_100, s210_103, s210_104, s210_105, s210_106, s210_107, s210_108, -s210_116, h0]
                simpa using tail (a.toInt64 - b.toInt64) _ rfl
              · simp [s210_81, s210_82, s210_85, s210_88, s210_89, s210_90, s210_91, s210_92, s210_93, s210_96, s210_97, s210_100, s210_103, s210_104, s210_105, s210_106, s210_107, s210_108, s210_111, s210_112, s210_113, s210_114, s210_115, -s210_116, h0, h1]
                simpa using tail (a.toInt64 * b.toInt64) _ rfl
/-- days left till p's own by -/
def m_wait (all : Nat → Int32) (p : Nat) : Int32 := if all (34 + p) = -1 then 99 else if all (34 + p) < all 56 then 0 else all (34 + p) - all 56
theorem sp_waitOf {X : Nat × (Nat → Int32)} {d n k : Nat} {f : Nat → e_C} {all : Nat → Int32} {p : Nat} {u : Value} (M : MS f all) (hp : p < 9) : PU X d 209 [.ref 171, .int (nI p), u] f n k (some (.int (m_wait all p))) := by
  obtain ⟨mr, ma, -⟩ := M
  have m1 := mr.1
  unfold PU m_wait
  simp (disch := first | omega | decide) only [s209_0, s209_1, s209_4, s209_6, s209_7, s209_8, s209_9, s209_10, s209_11, s209_12, s209_15, s209_17, s209_20, s209_21, s209_22, s209_25, s209_27, s209_28, s209_31, s209_32, s209_35, s209_36, s209_37, s209_40, s209_42, s209_43, s209_44, m1, ow_some, ma, lt_add, ix_in, ix_cl, lt_in, lt_cl, true_and]
  by_cases h1 : all (34 + p) = -1
  · simp [h1]
  · by_cases h2 : all 56 ≤ all (34 + p)
    · have h2' : ¬ all (34 + p) < all 56 := Int32.not_lt.mpr h2
      simp [h1, h2, h2']
    · have h2' : all (34 + p) < all 56 := Int32.not_le.mp h2
      simp [h1, h2, h2']
