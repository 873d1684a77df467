/-! PURE: what the reference's leaves answer -/
theorem s_out (v lo hi : Int32) (I : mm_I) (L : mm_L) (Q : Int32 → mm_I → mm_L → Prop) : vc_X7_out v lo hi I L Q ↔ Q (bI (v < lo ∨ ¬ v ≤ hi)) I L := by
  simp only [vc_X7_out, vc_X7_out_0]
  by_cases h1 : v < lo <;> by_cases h2 : v ≤ hi <;> simp only [bI, h1, h2, not_true_eq_false, not_false_eq_true, forall_const, false_implies, and_true, true_and, or_true, or_false, false_or, true_or, if_true, if_false, or_self]
theorem s_isNode (x : Int32) (I : mm_I) (L : mm_L) (Q : Int32 → mm_I → mm_L → Prop) : vc_X7_isNode x I L Q ↔ Q (bI (¬ x < 0 ∧ ¬ I 36 0 ≤ x)) I L := by
  simp only [vc_X7_isNode, vc_X7_isNode_0]
  by_cases h1 : x < 0 <;> by_cases h2 : I 36 0 ≤ x <;> simp [bI, h1, h2]
theorem s_whole (x : Int64) (I : mm_I) (L : mm_L) (Q : Int32 → mm_I → mm_L → Prop) : vc_X7_whole x I L Q ↔ Q (bI (kI x = true)) I L := by
  simp only [vc_X7_whole, vc_X7_whole_0]
  by_cases h1 : x < (-2147483648) <;> by_cases h2 : 2147483647 < x <;> simp [bI, kI, h1, h2]
theorem s_ranged (x : Int64) (I : mm_I) (L : mm_L) (Q : Int64 → mm_I → mm_L → Prop) : vc_X7_ranged x I L Q ↔ Q (vR x) I L := by
  simp only [vc_X7_ranged, vc_X7_ranged_0, s_whole, bI_0]
  cases h1 : kI x <;> simp [vR, h1]
def mN (k : Int32) : Int32 := if k = 12 then 1 else if k = 11 ∨ k = 15 ∨ k = 17 then 7 else if k = 19 then 2 else if (¬ k ≤ 3 ∧ k < 15) ∨ k = 18 then 3 else 0
theorem s_named (k : Int32) (I : mm_I) (L : mm_L) (Q : Int32 → mm_I → mm_L → Prop) : vc_X7_named k I L Q ↔ Q (mN k) I L := by
  simp only [vc_X7_named, vc_X7_named_0, vc_X7_named_48, mN]
  by_cases h1 : k = 12
  · simp [h1]
  · by_cases h2 : k = 11
    · simp [h2]
    · by_cases h3 : k = 15
      · simp [h3]
      · by_cases h4 : k = 17
        · simp [h4]
        · by_cases h5 : k = 19
          · simp [h5]
          · by_cases h8 : k = 18
            · subst h8
              simp
            · by_cases h6 : k ≤ 3 <;> by_cases h7 : k < 15 <;> simp only [h1, h2, h3, h4, h5, h6, h7, h8, not_true_eq_false, not_false_eq_true, forall_const, false_implies, and_true, true_and, or_true, or_false, false_or, true_or, if_true, if_false, or_self, and_false, false_and, and_self]
theorem mN_tb : ∀ j, j < 20 → mN (nI j) = tb_no j := by decide
def mS (x : Int64) : Int64 := if x = 1000000000001 then 1000000000102 else if x ≤ 1000000000100 then 0 else x
theorem s_stops (x : Int64) (I : mm_I) (L : mm_L) (Q : Int64 → mm_I → mm_L → Prop) : vc_X7_stops x I L Q ↔ Q (mS x) I L := by
  simp only [vc_X7_stops, vc_X7_stops_0, mS]
  by_cases h1 : x = 1000000000001
  · simp [h1]
  · by_cases h2 : x ≤ 1000000000100 <;> simp only [h1, h2, not_true_eq_false, not_false_eq_true, forall_const, false_implies, and_true, true_and, if_true, if_false]
theorem s_high (m i v : Int32) (I : mm_I) (L : mm_L) (Q : Int32 → mm_I → mm_L → Prop) : vc_X7_high m i v I L Q ↔ Q (if ¬ i = 0 ∧ ¬ v ≤ m then v else m) I L := by
  simp only [vc_X7_high, vc_X7_high_0]
  by_cases h1 : i = 0
  · simp [h1]
  · by_cases h2 : v ≤ m <;> simp only [h1, h2, not_true_eq_false, not_false_eq_true, forall_const, false_implies, and_true, true_and, if_true, if_false, and_false, and_self]
def mQ (s p : Int64) : Int64 := if (s - s / p * p) < (p - (s - s / p * p)) then s / p else s / p + 1
def mRnd (n d : Int64) : Int64 := vSg n d (mQ (vAbs n) (vAbs d))
theorem s_mrounded (n d : Int64) (I : mm_I) (L : mm_L) (Q : Int64 → mm_I → mm_L → Prop) (hd : ¬ d = 0) (h : Q (mRnd n d) I L) : vc_X7_rounded n d I L Q := by
  have hn := n64_0 hd
  simp only [mRnd] at h
  simp only [vc_X7_rounded, vc_X7_rounded_0, vc_X7_rounded_12, vc_X7_rounded_26, vc_X7_rounded_59, vc_X7_rounded_70, vc_X7_rounded_81]
  by_cases h1 : 0 ≤ n <;> by_cases h2 : 0 ≤ d <;> simp only [vAbs, vSg, h1, h2, if_true, if_false, mQ, iff_true, true_iff, iff_false, false_iff, not_true_eq_false, not_false_eq_true, iff_self] at h <;> simp [h1, h2, hd, hn] <;> refine ⟨fun h3 => ?_, fun h3 => ?_⟩ <;> first | (simpa [h3] using h) | (rw [if_neg (Int64.not_lt.mpr h3)] at h; exact h)
def mP (k : Int32) (x y : Int64) : Int64 := if k = 4 then vR (x + y) else if k = 5 then vR (x - y) else if k = 6 then vR (x * y) else if k = 7 then (if y ≤ x then 0 else 1) else if k = 8 then (if x = y then 1 else 0) else if k = 9 then (if y ≤ x then y else x) else (if y ≤ x then x else y)
theorem s_plain (k : Int32) (x y : Int64) (I : mm_I) (L : mm_L) (Q : Int64 → mm_I → mm_L → Prop) : vc_X7_plain k x y I L Q ↔ Q (mP k x y) I L := by
  simp only [vc_X7_plain, vc_X7_plain_0, vc_X7_plain_93, vc_X7_plain_104, s_ranged, mP]
  by_cases h4 : k = 4
  · simp [h4]
  · by_cases h5 : k = 5
    · simp [h5]
    · by_cases h6 : k = 6
      · simp [h6]
      · by_cases h7 : k = 7
        · by_cases q : y ≤ x <;> simp only [h7, q, not_true_eq_false, not_false_eq_true, forall_const, false_implies, and_true, true_and, if_true, if_false] <;> simp
        · by_cases h8 : k = 8
          · by_cases q : x = y <;> simp [h8, q]
          · by_cases h9 : k = 9 <;> by_cases q : y ≤ x <;> simp only [h4, h5, h6, h7, h8, h9, q, not_true_eq_false, not_false_eq_true, forall_const, false_implies, and_true, true_and, if_true, if_false] <;> simp
