/-! PURE: the component works out a node -/
def scL (I : mm_I) (t : Nat) (x : Int64) : Nat → Nat → Int64 → Int64 → Int64
  | 0, _, a, _ => a
  | m + 1, s, a, lo => if x ≤ lo then a else scL I t x m (s + 1) (a + ((if (I (20 + t) s).toInt64 ≤ x then (I (20 + t) s).toInt64 else x) - lo) * (I (22 + t) s).toInt64) (I (20 + t) s).toInt64
def vScl (I : mm_I) (t : Nat) (x : Int64) : Int64 := if kI x = true then vRnd (scL I t x (I (18 + t) 2).toNatClampNeg 0 0 0) 1000 else vF x
theorem s_scaled (t k : Nat) (hk : k ≤ 5) (I : mm_I) (L : mm_L) (e : I (18 + t) 2 = nI k) (x : Int64) (Q : Int64 → mm_I → mm_L → Prop) (h : Q (vScl I t x) I L) : vc_X4_scaled t x I L Q := by
  have ek : (I (18 + t) 2).toNatClampNeg = k := by rw [e]; exact cl_nI (by omega)
  simp only [vc_X4_scaled, vc_X4_scaled_0, s_isInt, s_faultOf, bI_0]
  cases h1 : kI x
  · simpa [vScl, h1] using h
  · simp only [vScl, h1, if_true, ek] at h
    simp only [not_true_eq_false, not_false_eq_true, forall_const, false_implies, and_true]
    have aux : ∀ (m s : Nat) (a lo : Int64), s + m = k → Q (vRnd (scL I t x m s a lo) 1000) I L → vc_X4_scaled_20 (m + 1) t x a lo (nI s) I L Q := by
      intro m
      induction m with
      | zero =>
        intro s a lo hs hq
        obtain rfl : s = k := by omega
        rw [vc_X4_scaled_20, e]
        exact ⟨fun _ => s_rounded _ _ I L _ hq, fun q => absurd (nI_le (Nat.le_refl s) (by omega)) q⟩
      | succ m ih =>
        intro s a lo hs hq
        rw [vc_X4_scaled_20, e]
        refine ⟨fun q => absurd q (nI_ge (by omega) (by omega)), fun _ => ⟨fun h2 => ?_, fun h2 => ?_⟩⟩
        · rw [scL, if_pos h2] at hq
          exact s_rounded _ _ I L _ hq
        · rw [scL, if_neg h2] at hq
          simp only [cl_nI (show s < 2 ^ 31 by omega), nI_1']
          have hin : vp_in (nI s) 5 := in_nI (by omega) (by decide)
          refine ⟨hin, fun h3 => ⟨hin, hin, hin, ih (s + 1) _ _ (by omega) ?_⟩, fun h3 => ⟨hin, hin, ih (s + 1) _ _ (by omega) ?_⟩⟩
          · rw [if_pos h3] at hq
            exact hq
          · rw [if_neg h3] at hq
            exact hq
    exact ⟨k + 1, aux k 0 0 0 (by omega) h⟩
def dW (I : mm_I) (W : Nat → Int64) (d : Nat) : Int64 := if I 10 d = -1 then 1000000000001 else W (I 10 d).toNatClampNeg
theorem s_workedOrEmpty (x : Int32) (I : mm_I) (L : mm_L) (Q : Int64 → mm_I → mm_L → Prop) (hx : x = -1 ∨ vp_in x 70) (h : Q (if x = -1 then 1000000000001 else L 12 x.toNatClampNeg) I L) : vc_X2_workedOrEmpty x I L Q := by
  simp only [vc_X2_workedOrEmpty, vc_X2_workedOrEmpty_0]
  refine ⟨fun q => ?_, fun q => ?_⟩
  · rw [if_neg q] at h
    exact ⟨hx.elim (fun z => absurd z q) id, h⟩
  · rw [if_pos q] at h
    exact h
theorem s_workedDefinition (d : Nat) (hd : d < 8) (I : mm_I) (L : mm_L) (Q : Int64 → mm_I → mm_L → Prop) (hx : I 10 d = -1 ∨ vp_in (I 10 d) 70) (h : Q (dW I (L 12) d) I L) : vc_X2_workedDefinition (nI d) I L Q := by
  simp only [vc_X2_workedDefinition, vc_X2_workedDefinition_0, cl_nI (show d < 2 ^ 31 by omega)]
  exact ⟨in_nI hd (by decide), s_workedOrEmpty _ I L _ hx h⟩
def stK (I : mm_I) (L : mm_L) (p : Nat) (W : Nat → Int64) (n : Nat) : Nat → Int64
  | 0 => (I 4 n).toInt64
  | 1 => (I (30 + p) (I 4 n).toNatClampNeg).toInt64
  | 2 => dW I W (I 4 n).toNatClampNeg
  | 3 => if I 4 n = 0 then L (24 + p) 1 else L (24 + p) 2
  | 11 => vShare (W (I 4 n).toNatClampNeg) (W (I 5 n).toNatClampNeg) (W (I 6 n).toNatClampNeg)
  | 12 => vNot (W (I 4 n).toNatClampNeg)
  | 13 => vBoth (W (I 4 n).toNatClampNeg) (W (I 5 n).toNatClampNeg)
  | 14 => vAny (W (I 4 n).toNatClampNeg) (W (I 5 n).toNatClampNeg)
  | 15 => vIf (W (I 4 n).toNatClampNeg) (W (I 5 n).toNatClampNeg) (W (I 6 n).toNatClampNeg)
  | 16 => 1000000000001
  | 17 => vDef (if I 4 n = -1 then 1000000000001 else W (I 4 n).toNatClampNeg) (W (I 5 n).toNatClampNeg) (W (I 6 n).toNatClampNeg)
  | 18 => vAlso (W (I 4 n).toNatClampNeg) (W (I 5 n).toNatClampNeg)
  | 19 => vScl I (I 4 n).toNatClampNeg (W (I 5 n).toNatClampNeg)
  | _ => vTwo (I 3 n) (W (I 4 n).toNatClampNeg) (W (I 5 n).toNatClampNeg)
def stC (I : mm_I) (L : mm_L) (p : Nat) (W : Nat → Int64) (n : Nat) : Int64 := stK I L p W n (I 3 n).toNatClampNeg
theorem nd_in {I : mm_I} {n : Nat} {x : Int32} (hn : n < 70) (h : nd I n x) : vp_in x 70 := by
  obtain ⟨a, ha, rfl, -⟩ := h
  exact in_nI (by omega) (by decide)
theorem s_workedOut {I : mm_I} {L : mm_L} {n p nn : Nat} (hn : n < 70) (hp : p < 6) (ok : nOK I n) (hD : vD I nn) (hnn : nn ≤ 70) (hT : vT I) (Q : Int64 → mm_I → mm_L → Prop) (h : Q (stC I L p (L 12) n) I L) : vc_X2_workedOut (nI n) p I L Q := by
  obtain ⟨k, hk, ek, oA, o17, oB, oC, o1, o2, o3, -, -⟩ := ok
  have hin : vp_in (nI n) 70 := in_nI hn (by decide)
  simp only [vc_X2_workedOut, vc_X2_workedOut_0, vc_X2_workedOut_328, cl_nI (show n < 2 ^ 31 by omega)]
  refine ⟨hin, hin, hin, hin, ?_⟩
  have hs : Q (stK I L p (L 12) n k) I L := by
    have e : (I 3 n).toNatClampNeg = k := by rw [ek]; exact cl_nI (by omega)
    rw [stC, e] at h
    exact h
  have kk : ∀ j, j < 20 → I 3 n = nI j → k = j := fun j hj q => by
    rw [ek] at q
    exact (nI_eq (by omega) (by omega)).mp q
  have two : ∀ j, 4 ≤ j → j ≤ 10 → I 3 n = nI j → vp_in (I 4 n) 70 ∧ vp_in (I 5 n) 70 ∧ vc_X5_ofTwo (I 3 n) (L 12 (I 4 n).toNatClampNeg) (L 12 (I 5 n).toNatClampNeg) I L (fun r I L => Q r I L) := by
    intro j h4 h10 q
    have hkj := kk j (by omega) q
    refine ⟨nd_in hn (oA (by omega)), nd_in hn (oB (by omega)), s_ofTwo _ _ _ I L _ ?_⟩
    obtain rfl | rfl | rfl | rfl | rfl | rfl | rfl : k = 4 ∨ k = 5 ∨ k = 6 ∨ k = 7 ∨ k = 8 ∨ k = 9 ∨ k = 10 := by omega
    all_goals exact hs
  refine ⟨fun q => ?_, fun q => ?_, fun q => ?_, fun q => ?_, fun q => ?_, two 4 (by decide) (by decide), two 5 (by decide) (by decide), two 6 (by decide) (by decide), two 7 (by decide) (by decide), two 8 (by decide) (by decide), two 9 (by decide) (by decide), two 10 (by decide) (by decide), fun q => ?_, fun q => ?_, fun q => ?_, fun q => ?_, fun q => ?_, fun q => ?_, fun q => ?_, fun q => ?_, fun q => ?_⟩
  · rw [ek, nI_toInt (by omega)] at q
    omega
  · obtain rfl := kk 0 (by decide) q
    exact hs
  · obtain rfl := kk 1 (by decide) q
    obtain ⟨a, ha, ea⟩ := o1 rfl
    refine ⟨by rw [ea]; exact in_nI ha (by decide), hs⟩
  · obtain rfl := kk 2 (by decide) q
    obtain ⟨a, ha, ea, -⟩ := o2 rfl
    have e : (I 4 n).toNatClampNeg = a := by rw [ea]; exact cl_nI (by omega)
    have hs : Q (dW I (L 12) (I 4 n).toNatClampNeg) I L := hs
    rw [e] at hs
    rw [ea]
    refine s_workedDefinition a ha I L _ ?_ hs
    rcases (hD a ha).2 with z | ⟨m, hm, z, -⟩
    · exact Or.inl z
    · exact Or.inr (by rw [z]; exact in_nI (by omega) (by decide))
  · obtain rfl := kk 3 (by decide) q
    have hs : Q (if I 4 n = 0 then L (24 + p) 1 else L (24 + p) 2) I L := hs
    simp only [vc_X1_paidSoFar, vc_X1_paidSoFar_0]
    refine ⟨fun z => ?_, fun z => ?_⟩
    · rw [if_neg z] at hs
      exact hs
    · rw [if_pos z] at hs
      exact hs
  · obtain rfl := kk 11 (by decide) q
    exact ⟨nd_in hn (oA (by omega)), nd_in hn (oB (by omega)), nd_in hn (oC (by omega)), s_share _ _ _ I L _ hs⟩
  · obtain rfl := kk 12 (by decide) q
    exact ⟨nd_in hn (oA (by omega)), (s_not _ I L _).mpr hs⟩
  · obtain rfl := kk 13 (by decide) q
    exact ⟨nd_in hn (oA (by omega)), nd_in hn (oB (by omega)), (s_both _ _ I L _).mpr hs⟩
  · obtain rfl := kk 14 (by decide) q
    exact ⟨nd_in hn (oA (by omega)), nd_in hn (oB (by omega)), (s_any _ _ I L _).mpr hs⟩
  · obtain rfl := kk 15 (by decide) q
    exact ⟨nd_in hn (oA (by omega)), nd_in hn (oB (by omega)), nd_in hn (oC (by omega)), (s_choice _ _ _ I L _).mpr hs⟩
  · obtain rfl := kk 16 (by decide) q
    exact hs
  · obtain rfl := kk 17 (by decide) q
    refine s_workedOrEmpty _ I L _ ((o17 rfl).elim Or.inl (fun z => Or.inr (nd_in hn z))) ?_
    exact ⟨nd_in hn (oB (by omega)), nd_in hn (oC (by omega)), (s_byDefault _ _ _ I L _).mpr hs⟩
  · obtain rfl := kk 18 (by decide) q
    exact ⟨nd_in hn (oA (by omega)), nd_in hn (oB (by omega)), (s_also _ _ I L _).mpr hs⟩
  · obtain rfl := kk 19 (by decide) q
    obtain ⟨a, ha, ea⟩ := o3 (Or.inr rfl)
    obtain ⟨k5, hk5, e5, -⟩ := hT a ha
    have e : (I 4 n).toNatClampNeg = a := by rw [ea]; exact cl_nI (by omega)
    have hs : Q (vScl I (I 4 n).toNatClampNeg (L 12 (I 5 n).toNatClampNeg)) I L := hs
    rw [e] at hs
    rw [e]
    exact ⟨by rw [ea]; exact in_nI ha (by decide), nd_in hn (oB (by omega)), s_scaled a k5 hk5 I L e5 _ _ hs⟩
