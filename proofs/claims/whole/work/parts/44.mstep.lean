/-! PURE: the reference's value of a node -/
def stMK (I : mm_I) (L : mm_L) (p : Nat) (W D : Nat → Int64) (n : Nat) : Nat → Int64
  | 0 => (I 4 n).toInt64
  | 1 => (I 47 (p * 8 + (I 4 n).toNatClampNeg)).toInt64
  | 2 => D (I 4 n).toNatClampNeg
  | 3 => L 53 (p * 2 + (I 4 n).toNatClampNeg)
  | 11 => m3 11 (W (I 4 n).toNatClampNeg) (W (I 5 n).toNatClampNeg) (W (I 6 n).toNatClampNeg)
  | 12 => m3 12 (W (I 4 n).toNatClampNeg) 0 1
  | 13 => m13 (W (I 4 n).toNatClampNeg) (W (I 5 n).toNatClampNeg)
  | 14 => m14 (W (I 4 n).toNatClampNeg) (W (I 5 n).toNatClampNeg)
  | 15 => m15 (W (I 4 n).toNatClampNeg) (W (I 5 n).toNatClampNeg) (W (I 6 n).toNatClampNeg)
  | 16 => 1000000000001
  | 17 => m17 (if I 4 n = -1 then 1000000000001 else W (I 4 n).toNatClampNeg) (W (I 5 n).toNatClampNeg) (W (I 6 n).toNatClampNeg)
  | 18 => m18 (W (I 4 n).toNatClampNeg) (W (I 5 n).toNatClampNeg)
  | 19 => if mS (W (I 5 n).toNatClampNeg) = 0 then mScl I (I 4 n).toNatClampNeg (W (I 5 n).toNatClampNeg) else mS (W (I 5 n).toNatClampNeg)
  | _ => m3 (I 3 n) (W (I 4 n).toNatClampNeg) (W (I 5 n).toNatClampNeg) 1
def stM (I : mm_I) (L : mm_L) (p : Nat) (W D : Nat → Int64) (n : Nat) : Int64 := stMK I L p W D n (I 3 n).toNatClampNeg
theorem nd_ne {I : mm_I} {n : Nat} {x : Int32} (hn : n < 70) (h : nd I n x) : ¬ x = -1 := by
  obtain ⟨a, ha, rfl, -⟩ := h
  intro q
  have h1 : (nI a).toInt = (a : Int) := nI_toInt (by omega)
  rw [q] at h1
  have h2 : (-1 : Int32).toInt = -1 := by decide
  omega
theorem nd_70 {I : mm_I} {n : Nat} {x : Int32} (hn : n < 70) (h : nd I n x) : ∃ a, a < 70 ∧ x = nI a := by
  obtain ⟨a, ha, e, -⟩ := h
  exact ⟨a, by omega, e⟩
theorem s_mworkOut {I : mm_I} {L : mm_L} {n p nn : Nat} (hn : n < nn) (hp : p < 6) (hN : vN I nn) (hT : vT I) (Q : Int64 → mm_I → mm_L → Prop) (h : Q (stM I L p (L 54) (L 55) n) I L) : vc_X7_workOut (nI p) (nI n) I L Q := by
  have hnn := hN.1
  have hn70 : n < 70 := by omega
  obtain ⟨ok, e37, e38, e39, e40, -, -⟩ := hN.2.2.2 n hn
  obtain ⟨k, hk, ek, oA, o17, oB, oC, o1, o2, o3, -, -⟩ := ok
  have hin : vp_in (nI n) 70 := in_nI hn70 (by decide)
  have hs : Q (stMK I L p (L 54) (L 55) n k) I L := by
    have e : (I 3 n).toNatClampNeg = k := by rw [ek]; exact cl_nI (by omega)
    rw [stM, e] at h
    exact h
  have kk : ∀ j, j < 20 → I 3 n = nI j → k = j := fun j hj q => by
    rw [ek] at q
    exact (nI_eq (by omega) (by omega)).mp q
  have kn : ∀ j, j < 20 → ¬ I 3 n = nI j → ¬ k = j := fun j hj q z => q (by rw [ek, z])
  simp only [vc_X7_workOut, vc_X7_workOut_0, cl_nI (show n < 2 ^ 31 by omega), e37]
  have cho : (13 ≤ k ∧ k ≤ 15) ∨ k = 17 ∨ k = 18 → vc_X7_workOut_112 (nI n) (I 3 n) I L Q := by
    intro hk2
    simp only [vc_X7_workOut_112]
    refine s_choose hn70 ?_ ?_
    · rw [e38]
      rcases (show k = 17 ∨ ¬ k = 17 by omega) with z | z
      · rcases o17 z with y | y
        · exact Or.inl y
        · exact Or.inr (nd_70 hn70 y)
      · exact Or.inr (nd_70 hn70 (oA (by omega)))
    · have vb : vp_in (I 39 n) 70 := by rw [e39]; exact nd_in hn70 (oB (by omega))
      rw [e38, ek]
      obtain rfl | rfl | rfl | rfl | rfl : k = 13 ∨ k = 14 ∨ k = 15 ∨ k = 17 ∨ k = 18 := by omega
      · rw [if_neg (nd_ne hn70 (oA (by omega)))]
        refine s_ch13 hn70 vb ?_
        rw [e39]; simp only [stMK] at hs; exact hs
      · rw [if_neg (nd_ne hn70 (oA (by omega)))]
        refine s_ch14 hn70 vb ?_
        rw [e39]; simp only [stMK] at hs; exact hs
      · rw [if_neg (nd_ne hn70 (oA (by omega)))]
        refine s_ch15 hn70 vb (by rw [e40]; exact nd_in hn70 (oC (by omega))) ?_
        rw [e39, e40]; simp only [stMK] at hs; exact hs
      · refine s_ch17 hn70 vb (by rw [e40]; exact nd_in hn70 (oC (by omega))) ?_
        rw [e39, e40]; simp only [stMK] at hs; exact hs
      · rw [if_neg (nd_ne hn70 (oA (by omega)))]
        refine s_ch18 hn70 vb ?_
        rw [e39]; simp only [stMK] at hs; exact hs
  rw [e38, e39]
  refine ⟨hin, hin, fun h0 => ⟨fun h1 => ⟨fun h2 => ⟨fun h3 => ⟨fun h16 => ⟨fun q => cho (by have := kk 13 (by decide) q; omega), fun h13 => ⟨fun q => cho (by have := kk 14 (by decide) q; omega), fun h14 => ⟨fun q => cho (by have := kk 15 (by decide) q; omega), fun h15 => ⟨fun q => cho (by have := kk 17 (by decide) q; omega), fun h17 => ⟨fun h18 => ⟨fun h19 => ?_, fun q => ?_⟩, fun q => cho (by have := kk 18 (by decide) q; omega)⟩⟩⟩⟩⟩, fun q => ?_⟩, fun q => ?_⟩, fun q => ?_⟩, fun q => ?_⟩, fun q => ?_⟩
  · have n0 := kn 0 (by decide) h0
    have n1 := kn 1 (by decide) h1
    have n2 := kn 2 (by decide) h2
    have n3 := kn 3 (by decide) h3
    have n13 := kn 13 (by decide) h13
    have n14 := kn 14 (by decide) h14
    have n15 := kn 15 (by decide) h15
    have n16 := kn 16 (by decide) h16
    have n17 := kn 17 (by decide) h17
    have n18 := kn 18 (by decide) h18
    have n19 := kn 19 (by decide) h19
    refine ⟨nd_in hn70 (oA (by omega)), fun h12 => ⟨hin, nd_in hn70 (oB (by have := kn 12 (by decide) h12; omega)), ?_⟩, fun q => ?_⟩
    · have n12 := kn 12 (by decide) h12
      simp only [vc_X7_workOut_211, cl_nI (show n < 2 ^ 31 by omega)]
      refine ⟨fun h11 => s_234 _ _ _ _ I L _ ?_, fun q => ⟨hin, ?_, s_234 _ _ _ _ I L _ ?_⟩⟩
      · have n11 := kn 11 (by decide) h11
        obtain rfl | rfl | rfl | rfl | rfl | rfl | rfl : k = 4 ∨ k = 5 ∨ k = 6 ∨ k = 7 ∨ k = 8 ∨ k = 9 ∨ k = 10 := by omega
        all_goals (simp only [stMK] at hs; exact hs)
      · rw [e40]; exact nd_in hn70 (oC (by have := kk 11 (by decide) q; omega))
      · obtain rfl := kk 11 (by decide) q
        rw [e40, q]; simp only [stMK] at hs; exact hs
    · obtain rfl := kk 12 (by decide) q
      simp only [vc_X7_workOut_211]
      refine ⟨fun _ => s_234 _ _ _ _ I L _ ?_, fun z => absurd (kk 11 (by decide) z) (by decide)⟩
      rw [q]; simp only [stMK] at hs; exact hs
  · obtain rfl := kk 19 (by decide) q
    obtain ⟨a, ha, ea⟩ := o3 (Or.inr rfl)
    obtain ⟨k5, hk5, -, e5, -⟩ := hT a ha
    have e : (I 4 n).toNatClampNeg = a := by rw [ea]; exact cl_nI (by omega)
    have vb := nd_in hn70 (oB (by omega))
    simp only [stMK, e] at hs
    simp only [s_stops, e39, ea]
    refine ⟨hin, vb, fun z => ⟨hin, vb, s_mscale a k5 ha hk5 I L e5 _ _ ?_⟩, fun z => ⟨hin, vb, ?_⟩⟩
    · rw [if_pos z] at hs; exact hs
    · rw [if_neg z] at hs; exact hs
  · obtain rfl := kk 16 (by decide) q
    simp only [stMK] at hs; exact hs
  · obtain rfl := kk 3 (by decide) q
    obtain ⟨a, ha, ea⟩ := o3 (Or.inl rfl)
    simp only [stMK] at hs
    rw [ea] at hs ⊢
    rw [cl_nI (show a < 2 ^ 31 by omega)] at hs
    rw [ixm p 2 a (m := 2) rfl, cl_nI (show p * 2 + a < 2 ^ 31 by omega)]
    exact ⟨in_nI (by omega) (by decide), hs⟩
  · obtain rfl := kk 2 (by decide) q
    obtain ⟨a, ha, ea, -⟩ := o2 rfl
    simp only [stMK] at hs
    exact ⟨by rw [ea]; exact in_nI ha (by decide), hs⟩
  · obtain rfl := kk 1 (by decide) q
    obtain ⟨a, ha, ea⟩ := o1 rfl
    simp only [stMK] at hs
    rw [ea] at hs ⊢
    rw [cl_nI (show a < 2 ^ 31 by omega)] at hs
    rw [ixm p 8 a (m := 8) rfl, cl_nI (show p * 8 + a < 2 ^ 31 by omega)]
    exact ⟨in_nI (by omega) (by decide), hs⟩
  · obtain rfl := kk 0 (by decide) q
    simp only [stMK] at hs; exact hs
