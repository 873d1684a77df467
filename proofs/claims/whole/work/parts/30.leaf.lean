/-! PURE: what the leaves answer -/
def bI (P : Prop) [Decidable P] : Int32 := if P then 1 else 0
theorem bI_0 {P : Prop} [Decidable P] : bI P = 0 ↔ ¬ P := by
  unfold bI
  split
  · rename_i h
    exact ⟨fun q => absurd q (by decide), fun q => absurd h q⟩
  · rename_i h
    exact ⟨fun _ => h, fun _ => rfl⟩
theorem zb_bI {P : Prop} [Decidable P] : zb (bI P) := by
  unfold bI zb
  split
  · exact Or.inr rfl
  · exact Or.inl rfl
theorem zb_t {P : Prop} [Decidable P] : zb (bI P) ↔ True := ⟨fun _ => trivial, fun _ => zb_bI⟩
def kI (x : Int64) : Bool := decide (¬ x < (-2147483648)) && decide (¬ 2147483647 < x)
theorem s_within (a b : Int32) (I : mm_I) (L : mm_L) (Q : Int32 → mm_I → mm_L → Prop) : vc_X6_within a b I L Q ↔ Q (bI (¬ a < 0 ∧ ¬ b ≤ a)) I L := by
  simp only [vc_X6_within, vc_X6_within_0]
  by_cases h1 : a < 0 <;> by_cases h2 : b ≤ a <;> simp [bI, h1, h2]
theorem s_has (x : Int32) (I : mm_I) (L : mm_L) (Q : Int32 → mm_I → mm_L → Prop) : vc_X0_has x I L Q ↔ Q (bI (¬ x < 0 ∧ ¬ I 2 7 ≤ x)) I L := by
  simp only [vc_X0_has, vc_X0_has_0, s_within, zb_t, true_and]
theorem s_isInt (x : Int64) (I : mm_I) (L : mm_L) (Q : Int32 → mm_I → mm_L → Prop) : vc_X5_isInt x I L Q ↔ Q (bI (kI x = true)) I L := by
  simp only [vc_X5_isInt, vc_X5_isInt_0]
  by_cases h1 : x < (-2147483648) <;> by_cases h2 : 2147483647 < x <;> simp [bI, kI, h1, h2]
def vF (x : Int64) : Int64 := if x = 1000000000001 then 1000000000102 else x
theorem s_faultOf (x : Int64) (I : mm_I) (L : mm_L) (Q : Int64 → mm_I → mm_L → Prop) : vc_X5_faultOf x I L Q ↔ Q (vF x) I L := by
  simp only [vc_X5_faultOf, vc_X5_faultOf_0]
  by_cases h1 : x = 1000000000001 <;> simp [vF, h1]
def vTruth (x : Int64) : Int64 := if kI x = true then (if x = 0 then 0 else 1) else vF x
theorem s_truthOf (x : Int64) (I : mm_I) (L : mm_L) (Q : Int64 → mm_I → mm_L → Prop) : vc_X5_truthOf x I L Q ↔ Q (vTruth x) I L := by
  simp only [vc_X5_truthOf, vc_X5_truthOf_0, s_isInt, s_faultOf, bI_0]
  cases h1 : kI x <;> simp [vTruth, h1] <;> by_cases h2 : x = 0 <;> simp [h2]
def vNot (x : Int64) : Int64 := if kI x = true then (if x = 0 then 1 else 0) else vF x
theorem s_not (x : Int64) (I : mm_I) (L : mm_L) (Q : Int64 → mm_I → mm_L → Prop) : vc_X5_not x I L Q ↔ Q (vNot x) I L := by
  simp only [vc_X5_not, vc_X5_not_0, s_isInt, s_faultOf, bI_0]
  cases h1 : kI x <;> simp [vNot, h1] <;> by_cases h2 : x = 0 <;> simp [h2]
def vBoth (x y : Int64) : Int64 := if kI x = true then (if x = 0 then 0 else vTruth y) else vF x
theorem s_both (x y : Int64) (I : mm_I) (L : mm_L) (Q : Int64 → mm_I → mm_L → Prop) : vc_X5_both x y I L Q ↔ Q (vBoth x y) I L := by
  simp only [vc_X5_both, vc_X5_both_0, s_isInt, s_faultOf, s_truthOf, bI_0]
  cases h1 : kI x <;> simp [vBoth, h1] <;> by_cases h2 : x = 0 <;> simp [h2]
def vAny (x y : Int64) : Int64 := if kI x = true then (if x = 0 then vTruth y else 1) else vF x
theorem s_any (x y : Int64) (I : mm_I) (L : mm_L) (Q : Int64 → mm_I → mm_L → Prop) : vc_X5_any x y I L Q ↔ Q (vAny x y) I L := by
  simp only [vc_X5_any, vc_X5_any_0, s_isInt, s_faultOf, s_truthOf, bI_0]
  cases h1 : kI x <;> simp [vAny, h1] <;> by_cases h2 : x = 0 <;> simp [h2]
def vIf (x y z : Int64) : Int64 := if kI x = true then (if x = 0 then z else y) else vF x
theorem s_choice (x y z : Int64) (I : mm_I) (L : mm_L) (Q : Int64 → mm_I → mm_L → Prop) : vc_X5_choice x y z I L Q ↔ Q (vIf x y z) I L := by
  simp only [vc_X5_choice, vc_X5_choice_0, s_isInt, s_faultOf, bI_0]
  cases h1 : kI x <;> simp [vIf, h1] <;> by_cases h2 : x = 0 <;> simp [h2]
def vDef (x y z : Int64) : Int64 := if x = 1000000000001 then (if kI y = true then (if y = 0 then 1000000000001 else z) else vF y) else x
theorem s_byDefault (x y z : Int64) (I : mm_I) (L : mm_L) (Q : Int64 → mm_I → mm_L → Prop) : vc_X5_byDefault x y z I L Q ↔ Q (vDef x y z) I L := by
  simp only [vc_X5_byDefault, vc_X5_byDefault_0, s_isInt, s_faultOf, bI_0]
  cases h1 : kI y <;> simp [vDef, h1] <;> by_cases h0 : x = 1000000000001 <;> simp [h0] <;> by_cases h2 : y = 0 <;> simp [h2]
def vAlso (x y : Int64) : Int64 := if ¬ x = 1000000000001 ∧ ¬ kI x = true then x else if ¬ y = 1000000000001 ∧ ¬ kI y = true then y else if x = 1000000000001 then y else if y = 1000000000001 then x else 1000000000101
theorem s_also (x y : Int64) (I : mm_I) (L : mm_L) (Q : Int64 → mm_I → mm_L → Prop) : vc_X5_also x y I L Q ↔ Q (vAlso x y) I L := by
  simp only [vc_X5_also, vc_X5_also_0, vc_X5_also_17, vc_X5_also_34, vc_X5_also_54, s_isInt, bI_0]
  cases h1 : kI x <;> cases h3 : kI y <;> simp [vAlso, h1, h3] <;> by_cases h0 : x = 1000000000001 <;> simp [h0] <;> by_cases h2 : y = 1000000000001 <;> simp [h2]
def vOp (k : Int32) (x y : Int64) : Int64 := if k = 4 then x + y else if k = 5 then x - y else if k = 6 then x * y else if k = 7 then (if y ≤ x then 0 else 1) else if k = 8 then (if x = y then 1 else 0) else if k = 9 then (if y ≤ x then y else x) else (if x ≤ y then y else x)
theorem s_ofInts (k : Int32) (x y : Int64) (I : mm_I) (L : mm_L) (Q : Int64 → mm_I → mm_L → Prop) (h : Q (vOp k x y) I L) : vc_X5_ofInts k x y I L Q := by
  simp only [vc_X5_ofInts, vc_X5_ofInts_0]
  refine ⟨fun hk => ?_, fun hk => ?_, fun hk => ?_, fun hk => ?_, fun hk => ?_, fun hk => ?_, fun hk => ?_⟩
  · have n4 : ¬ k = 4 := fun q => by subst q; revert hk; decide
    have n5 : ¬ k = 5 := fun q => by subst q; revert hk; decide
    have n6 : ¬ k = 6 := fun q => by subst q; revert hk; decide
    have n7 : ¬ k = 7 := fun q => by subst q; revert hk; decide
    have n8 : ¬ k = 8 := fun q => by subst q; revert hk; decide
    have n9 : ¬ k = 9 := fun q => by subst q; revert hk; decide
    simp only [vOp, n4, n5, n6, n7, n8, n9, if_false] at h
    exact ⟨fun q => by rw [if_pos q] at h; exact h, fun q => by rw [if_neg q] at h; exact h⟩
  · subst hk; exact h
  · subst hk; exact h
  · subst hk; exact h
  · subst hk
    exact ⟨fun q => by simpa [vOp, q] using h, fun q => by simpa [vOp, q] using h⟩
  · subst hk
    exact ⟨fun q => by simpa [vOp, q] using h, fun q => by simpa [vOp, q] using h⟩
  · subst hk
    exact ⟨fun q => by simpa [vOp, q] using h, fun q => by simpa [vOp, q] using h⟩
def vR (x : Int64) : Int64 := if kI x = true then x else 1000000000104
def vTwo (k : Int32) (x y : Int64) : Int64 := if kI x = true then (if kI y = true then vR (vOp k x y) else vF y) else vF x
theorem s_ofTwo (k : Int32) (x y : Int64) (I : mm_I) (L : mm_L) (Q : Int64 → mm_I → mm_L → Prop) (h : Q (vTwo k x y) I L) : vc_X5_ofTwo k x y I L Q := by
  simp only [vc_X5_ofTwo, vc_X5_ofTwo_0, s_isInt, s_faultOf, bI_0]
  cases h1 : kI x
  · simpa [vTwo, h1] using h
  · cases h2 : kI y
    · simpa [vTwo, h1, h2] using h
    · simp only [vTwo, h1, h2, if_true] at h
      simp only [not_true_eq_false, not_false_eq_true, forall_const, false_implies, and_true]
      refine s_ofInts k x y I L _ ?_
      cases h3 : kI (vOp k x y) <;> simpa [vR, h3] using h
def vAbs (x : Int64) : Int64 := if 0 ≤ x then x else -x
def vQ (s p : Int64) : Int64 := if (2 * (s - s / p * p)) < p then s / p else s / p + 1
def vSg (n d q : Int64) : Int64 := if (0 ≤ n ↔ 0 ≤ d) then q else -q
def vRnd (n d : Int64) : Int64 := if d = 0 then 0 else vSg n d (vQ (vAbs n) (vAbs d))
theorem n64_0 {d : Int64} (h : ¬ d = 0) : ¬ -d = 0 := fun q => h (by
  have h1 : -(-d) = -(0 : Int64) := by rw [q]
  simpa using h1)
theorem vAbs_0 {d : Int64} (h : ¬ d = 0) : ¬ vAbs d = 0 := by
  unfold vAbs
  split
  · exact h
  · exact n64_0 h
theorem s_rounded (n d : Int64) (I : mm_I) (L : mm_L) (Q : Int64 → mm_I → mm_L → Prop) (h : Q (vRnd n d) I L) : vc_X5_rounded n d I L Q := by
  by_cases hd : d = 0
  · subst hd
    simp only [vc_X5_rounded, vc_X5_rounded_0]
    exact ⟨fun q => absurd trivial q, fun _ => by simpa [vRnd] using h⟩
  · have hn := n64_0 hd
    simp only [vRnd, hd, if_false] at h
    simp only [vc_X5_rounded, vc_X5_rounded_0, vc_X5_rounded_20, vc_X5_rounded_34, vc_X5_rounded_64, vc_X5_rounded_75, vc_X5_rounded_86]
    by_cases h1 : 0 ≤ n <;> by_cases h2 : 0 ≤ d <;> simp only [vAbs, vSg, h1, h2, if_true, if_false, vQ, iff_true, true_iff, iff_false, false_iff, not_true_eq_false, not_false_eq_true, iff_self] at h <;> simp [h1, h2, hd, hn] <;> refine ⟨fun h3 => ?_, fun h3 => ?_⟩ <;> first | (simpa [h3] using h) | (rw [if_neg (Int64.not_lt.mpr h3)] at h; exact h)
def vShare (x y z : Int64) : Int64 := if kI x = true then (if kI y = true then (if kI z = true then (if z = 0 then 1000000000103 else vR (vRnd (x * y) z)) else vF z) else vF y) else vF x
theorem s_share (x y z : Int64) (I : mm_I) (L : mm_L) (Q : Int64 → mm_I → mm_L → Prop) (h : Q (vShare x y z) I L) : vc_X5_share x y z I L Q := by
  simp only [vc_X5_share, vc_X5_share_0, s_isInt, s_faultOf, bI_0]
  cases h1 : kI x
  · simpa [vShare, h1] using h
  · cases h2 : kI y
    · simpa [vShare, h1, h2] using h
    · cases h3 : kI z
      · simpa [vShare, h1, h2, h3] using h
      · simp only [vShare, h1, h2, h3, if_true] at h
        simp only [not_true_eq_false, not_false_eq_true, forall_const, false_implies, and_true]
        refine ⟨fun h4 => ?_, fun h4 => by simpa [h4] using h⟩
        simp only [h4, if_false] at h
        refine s_rounded _ _ I L _ ?_
        cases h5 : kI (vRnd (x * y) z) <;> simpa [vR, h5] using h
/-! the table: the component's loop and the reference's, as one sum -/
