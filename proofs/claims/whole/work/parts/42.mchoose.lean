/-! PURE: the reference chooses -/
def mTail (y : Int64) : Int64 := if mS y = 0 then (if y = 0 then 0 else 1) else mS y
theorem s_241 (y : Int64) (I : mm_I) (L : mm_L) (Q : Int64 → mm_I → mm_L → Prop) (h : Q (mTail y) I L) : vc_X7_choose_241 y I L Q := by
  simp only [vc_X7_choose_241, s_stops]
  refine ⟨fun h1 => ⟨fun h2 => ?_, fun h2 => ?_⟩, fun h1 => ?_⟩
  · rw [mTail, if_pos h1, if_pos h2] at h; exact h
  · rw [mTail, if_pos h1, if_neg h2] at h; exact h
  · rw [mTail, if_neg h1] at h; exact h
def m17 (x y z : Int64) : Int64 := if x = 1000000000001 then (if y ≤ 1000000000100 then (if y = 1000000000001 then 1000000000102 else if y = 0 then 1000000000001 else z) else y) else x
def m18 (x y : Int64) : Int64 := if x ≤ 1000000000100 then (if y ≤ 1000000000100 then (if x = 1000000000001 then y else if y = 1000000000001 then x else 1000000000101) else y) else x
def m15 (x y z : Int64) : Int64 := if mS x = 0 then (if x = 0 then z else y) else mS x
def m13 (x y : Int64) : Int64 := if mS x = 0 then (if x = 0 then 0 else mTail y) else mS x
def m14 (x y : Int64) : Int64 := if mS x = 0 then (if x = 0 then mTail y else 1) else mS x
section CH
variable {I : mm_I} {L : mm_L} {n : Nat} {x : Int64} {Q : Int64 → mm_I → mm_L → Prop}
theorem s_ch17 (hn : n < 70) (hb : vp_in (I 39 n) 70) (hc : vp_in (I 40 n) 70) (h : Q (m17 x (L 54 (I 39 n).toNatClampNeg) (L 54 (I 40 n).toNatClampNeg)) I L) : vc_X7_choose_26 (nI n) 17 x I L Q := by
  have hin : vp_in (nI n) 70 := in_nI hn (by decide)
  simp only [vc_X7_choose_26, cl_nI (show n < 2 ^ 31 by omega)]
  refine ⟨hin, hb, fun q => absurd trivial q, fun _ => ⟨fun h1 => ⟨fun h2 => ⟨fun h3 => ⟨fun h4 => ⟨hin, hc, ?_⟩, fun h4 => ?_⟩, fun h3 => ?_⟩, fun h2 => ?_⟩, fun h1 => ?_⟩⟩
  · rw [m17, if_pos h1, if_pos h2, if_neg h3, if_neg h4] at h; exact h
  · rw [m17, if_pos h1, if_pos h2, if_neg h3, if_pos h4] at h; exact h
  · rw [m17, if_pos h1, if_pos h2, if_pos h3] at h; exact h
  · rw [m17, if_pos h1, if_neg h2] at h; exact h
  · rw [m17, if_neg h1] at h; exact h
theorem s_ch18 (hn : n < 70) (hb : vp_in (I 39 n) 70) (h : Q (m18 x (L 54 (I 39 n).toNatClampNeg)) I L) : vc_X7_choose_26 (nI n) 18 x I L Q := by
  have hin : vp_in (nI n) 70 := in_nI hn (by decide)
  simp only [vc_X7_choose_26, cl_nI (show n < 2 ^ 31 by omega)]
  refine ⟨hin, hb, fun _ => ⟨fun q => absurd trivial q, fun _ => ⟨fun h1 => ⟨fun h2 => ⟨fun h3 => ⟨fun h4 => ?_, fun h4 => ?_⟩, fun h3 => ?_⟩, fun h2 => ?_⟩, fun h1 => ?_⟩⟩, fun q => absurd q (by decide)⟩
  · rw [m18, if_pos h1, if_pos h2, if_neg h3, if_neg h4] at h; exact h
  · rw [m18, if_pos h1, if_pos h2, if_neg h3, if_pos h4] at h; exact h
  · rw [m18, if_pos h1, if_pos h2, if_pos h3] at h; exact h
  · rw [m18, if_pos h1, if_neg h2] at h; exact h
  · rw [m18, if_neg h1] at h; exact h
theorem s_ch15 (hn : n < 70) (hb : vp_in (I 39 n) 70) (hc : vp_in (I 40 n) 70) (h : Q (m15 x (L 54 (I 39 n).toNatClampNeg) (L 54 (I 40 n).toNatClampNeg)) I L) : vc_X7_choose_26 (nI n) 15 x I L Q := by
  have hin : vp_in (nI n) 70 := in_nI hn (by decide)
  simp only [vc_X7_choose_26, s_stops, cl_nI (show n < 2 ^ 31 by omega)]
  refine ⟨hin, hb, fun _ => ⟨fun _ => ⟨fun h1 => ⟨fun q => absurd trivial q, fun _ => ⟨fun h2 => ⟨hin, hc, ?_⟩, fun h2 => ?_⟩⟩, fun h1 => ?_⟩, fun q => absurd q (by decide)⟩, fun q => absurd q (by decide)⟩
  · rw [m15, if_pos h1, if_pos h2] at h; exact h
  · rw [m15, if_pos h1, if_neg h2] at h; exact h
  · rw [m15, if_neg h1] at h; exact h
theorem s_ch13 (hn : n < 70) (hb : vp_in (I 39 n) 70) (h : Q (m13 x (L 54 (I 39 n).toNatClampNeg)) I L) : vc_X7_choose_26 (nI n) 13 x I L Q := by
  have hin : vp_in (nI n) 70 := in_nI hn (by decide)
  simp only [vc_X7_choose_26, vc_X7_choose_227, s_stops, cl_nI (show n < 2 ^ 31 by omega)]
  refine ⟨hin, hb, fun _ => ⟨fun _ => ⟨fun h1 => ⟨fun _ => ⟨fun q => absurd trivial q, fun _ => ⟨fun h2 => ⟨fun _ => s_241 _ I L Q ?_, fun q => absurd q (by decide)⟩, fun h2 => ?_⟩⟩, fun q => absurd q (by decide)⟩, fun h1 => ?_⟩, fun q => absurd q (by decide)⟩, fun q => absurd q (by decide)⟩
  · rw [m13, if_pos h1, if_neg h2] at h; exact h
  · rw [m13, if_pos h1, if_pos h2] at h; exact h
  · rw [m13, if_neg h1] at h; exact h
theorem s_ch14 (hn : n < 70) (hb : vp_in (I 39 n) 70) (h : Q (m14 x (L 54 (I 39 n).toNatClampNeg)) I L) : vc_X7_choose_26 (nI n) 14 x I L Q := by
  have hin : vp_in (nI n) 70 := in_nI hn (by decide)
  simp only [vc_X7_choose_26, vc_X7_choose_227, s_stops, cl_nI (show n < 2 ^ 31 by omega)]
  refine ⟨hin, hb, fun _ => ⟨fun _ => ⟨fun h1 => ⟨fun _ => ⟨fun _ => ⟨fun q => absurd trivial q, fun _ => ⟨fun h2 => s_241 _ I L Q ?_, fun h2 => ?_⟩⟩, fun q => absurd q (by decide)⟩, fun q => absurd q (by decide)⟩, fun h1 => ?_⟩, fun q => absurd q (by decide)⟩, fun q => absurd q (by decide)⟩
  · rw [m14, if_pos h1, if_pos h2] at h; exact h
  · rw [m14, if_pos h1, if_neg h2] at h; exact h
  · rw [m14, if_neg h1] at h; exact h
theorem s_choose {k : Int32} (hn : n < 70) (hA : I 38 n = -1 ∨ ∃ a, a < 70 ∧ I 38 n = nI a) (h : vc_X7_choose_26 (nI n) k (if I 38 n = -1 then 1000000000001 else L 54 (I 38 n).toNatClampNeg) I L Q) : vc_X7_choose (nI n) k I L Q := by
  have hin : vp_in (nI n) 70 := in_nI hn (by decide)
  simp only [vc_X7_choose, vc_X7_choose_0, cl_nI (show n < 2 ^ 31 by omega)]
  refine ⟨hin, fun h1 => ⟨hin, ?_, ?_⟩, fun h1 => ?_⟩
  · rcases hA with z | ⟨a, ha, z⟩
    · rw [z] at h1; exact absurd h1 (by decide)
    · rw [z]; exact in_nI ha (by decide)
  · rw [if_neg (fun z => by rw [z] at h1; exact absurd h1 (by decide))] at h
    exact h
  · rcases hA with z | ⟨a, ha, z⟩
    · rw [if_pos z] at h; exact h
    · rw [z] at h1; exact absurd (nI_pos' (by omega)) h1
end CH
