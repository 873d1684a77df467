/-! PURE: why a person is held, the component's side -/
def rs (x : Int64) : Int32 := (vF x - 1000000000100).toInt32
theorem s_reasonOf (x : Int64) (I : mm_I) (L : mm_L) (Q : Int32 → mm_I → mm_L → Prop) : vc_X1_reasonOf x I L Q ↔ Q (rs x) I L := by
  simp only [vc_X1_reasonOf, vc_X1_reasonOf_0, s_faultOf, rs]
def why (L : mm_L) (p : Nat) (g t n : Int64) : Int32 := if kI g = true then (if kI t = true then (if kI n = true then (if g - t = n then (if kI (L (24 + p) 1 + g) = true then (if kI (L (24 + p) 2 + t) = true then 0 else 6) else 6) else 5) else rs n) else rs t) else rs g
theorem s_reasonToHold (p : Nat) (g t n : Int64) (I : mm_I) (L : mm_L) (Q : Int32 → mm_I → mm_L → Prop) : vc_X1_reasonToHold p g t n I L Q ↔ Q (why L p g t n) I L := by
  simp only [vc_X1_reasonToHold, vc_X1_reasonToHold_0, s_isInt, s_reasonOf, bI_0]
  cases h1 : kI g
  · simp [why, h1]
  · cases h2 : kI t
    · simp [why, h1, h2]
    · cases h3 : kI n
      · simp [why, h1, h2, h3]
      · by_cases h4 : g - t = n
        · cases h5 : kI (L (24 + p) 1 + g)
          · simp [why, h1, h2, h3, h4, h5]
          · cases h6 : kI (L (24 + p) 2 + t) <;> simp [why, h1, h2, h3, h4, h5, h6]
        · simp [why, h1, h2, h3, h4]
