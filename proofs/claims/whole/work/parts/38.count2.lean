/-! PURE: count, both sides -/
def mB (I : mm_I) : Nat → Int32 → Int32 := fun r a => if I 49 r = 0 then a else a + 1
def mA (I : mm_I) : Nat → Int32 → Int32 := fun r a => if I 49 r = 0 then a + fo (mS6 I r) 6 0 0 else a
def mPc (I : mm_I) : Nat → Int32 → Int32 := fun p a => if I 48 p = 0 then a else a + 1
def mD8 (I : mm_I) : Nat → Int32 → Int32 := fun d a => if I 43 d < 0 then a else a ||| (1 <<< (nI d &&& 31))
def mSel (I : mm_I) (x b a o s : Int32) : Int32 := if x = 0 then I 36 0 else if x = 1 then I 36 1 else if x = 2 then b else if x = 3 then a else if x = 4 then o else if x = 5 then I 44 0 else if x = 6 then I 44 1 else if x = 7 then s else -1
theorem c179_5 {I : mm_I} {L : mm_L} {Q : Int32 → mm_I → mm_L → Prop} (h : Q (I 44 0) I L) : vc_X7_count_179 5 I L Q := ⟨in_nI (j := 0) (by decide) (by decide), h⟩
theorem c179_6 {I : mm_I} {L : mm_L} {Q : Int32 → mm_I → mm_L → Prop} (h : Q (I 44 1) I L) : vc_X7_count_179 6 I L Q := ⟨in_nI (j := 1) (by decide) (by decide), h⟩
theorem s_c85 (x b a o : Int32) (I : mm_I) (L : mm_L) (Q : Int32 → mm_I → mm_L → Prop) (h : Q (mSel I x b a o (fo (mD8 I) 8 0 0)) I L) : ∃ n, vc_X7_count_85 n x b a o 0 0 I L Q := by
  have aux : ∀ (m i : Nat) (s : Int32), i + m = 8 → Q (mSel I x b a o (fo (mD8 I) m i s)) I L → vc_X7_count_85 (m + 1) x b a o s (nI i) I L Q := by
    intro m
    induction m with
    | zero =>
      intro i s hi hq
      obtain rfl : i = 8 := by omega
      have hq : Q (mSel I x b a o s) I L := hq
      rw [vc_X7_count_85]
      refine ⟨fun _ => ?_, fun q => absurd (by decide) q⟩
      refine ⟨fun h0 => ⟨fun h1 => ⟨fun h2 => ⟨fun h3 => ⟨fun h4 => ⟨fun h5 => ?_, fun h5 => ⟨fun h6 => ⟨fun h7 => ?_, fun h7 => ?_⟩, fun h6 => ?_⟩⟩, fun h4 => ?_⟩, fun h3 => ?_⟩, fun h2 => ?_⟩, fun h1 => ?_⟩, fun h0 => ?_⟩
      · subst h5; exact c179_5 hq
      · simp only [mSel, h0, h1, h2, h3, h4, h5, h6, h7, if_false] at hq; exact hq
      · subst h7; exact hq
      · subst h6; exact c179_6 hq
      · subst h4; exact hq
      · subst h3; exact hq
      · subst h2; exact hq
      · subst h1; exact hq
      · subst h0; exact hq
    | succ m ih =>
      intro i s hi hq
      rw [vc_X7_count_85]
      refine ⟨fun q => absurd q (nI_ge (b := 8) (by omega) (by decide)), fun _ => ?_⟩
      simp only [cl_nI (show i < 2 ^ 31 by omega), nI_1']
      have hq : Q (mSel I x b a o (fo (mD8 I) m (i + 1) (mD8 I i s))) I L := hq
      refine ⟨in_nI (by omega) (by decide), fun h1 => ih (i + 1) s (by omega) ?_, fun h1 => ih (i + 1) _ (by omega) ?_⟩
      · rw [mD8, if_pos h1] at hq
        exact hq
      · rw [mD8, if_neg h1] at hq
        exact hq
  exact ⟨9, aux 8 0 0 rfl h⟩
theorem s_c56 (x b a : Int32) (I : mm_I) (L : mm_L) (Q : Int32 → mm_I → mm_L → Prop) (h : Q (mSel I x b a (fo (mPc I) 6 0 0) (fo (mD8 I) 8 0 0)) I L) : ∃ n, vc_X7_count_56 n x b a 0 0 0 I L Q := by
  have aux : ∀ (m i : Nat) (o : Int32), i + m = 6 → Q (mSel I x b a (fo (mPc I) m i o) (fo (mD8 I) 8 0 0)) I L → vc_X7_count_56 (m + 1) x b a o 0 (nI i) I L Q := by
    intro m
    induction m with
    | zero =>
      intro i o hi hq
      obtain rfl : i = 6 := by omega
      rw [vc_X7_count_56]
      exact ⟨fun _ => s_c85 x b a o I L Q hq, fun q => absurd (by decide) q⟩
    | succ m ih =>
      intro i o hi hq
      rw [vc_X7_count_56]
      refine ⟨fun q => absurd q (nI_ge (b := 6) (by omega) (by decide)), fun _ => ?_⟩
      simp only [cl_nI (show i < 2 ^ 31 by omega), nI_1']
      have hq : Q (mSel I x b a (fo (mPc I) m (i + 1) (mPc I i o)) (fo (mD8 I) 8 0 0)) I L := hq
      refine ⟨in_nI (by omega) (by decide), fun h1 => ih (i + 1) o (by omega) ?_, fun h1 => ih (i + 1) _ (by omega) ?_⟩
      · rw [mPc, if_pos h1] at hq
        exact hq
      · rw [mPc, if_neg h1] at hq
        exact hq
  exact ⟨7, aux 6 0 0 rfl h⟩
theorem s_mcount (rr : Nat) (hrr : rr ≤ 16) (x : Int32) (I : mm_I) (L : mm_L) (e : I 36 1 = nI rr) (Q : Int32 → mm_I → mm_L → Prop) (h : Q (mSel I x (fo (mB I) rr 0 0) (fo (mA I) rr 0 0) (fo (mPc I) 6 0 0) (fo (mD8 I) 8 0 0)) I L) : vc_X7_count x I L Q := by
  have aux : ∀ (m i : Nat) (b a : Int32), i + m = rr → Q (mSel I x (fo (mB I) m i b) (fo (mA I) m i a) (fo (mPc I) 6 0 0) (fo (mD8 I) 8 0 0)) I L → vc_X7_count_13 (m + 1) x b a 0 0 (nI i) I L Q := by
    intro m
    induction m with
    | zero =>
      intro i b a hi hq
      rw [vc_X7_count_13]
      exact rg e hrr (fun _ => s_c56 x b a I L Q hq) (fun q => absurd q (by omega)) (by omega)
    | succ m ih =>
      intro i b a hi hq
      rw [vc_X7_count_13]
      refine rg e hrr (fun q => absurd q (by omega)) (fun _ => ?_) (by omega)
      simp only [cl_nI (show i < 2 ^ 31 by omega), nI_1']
      have hq : Q (mSel I x (fo (mB I) m (i + 1) (mB I i b)) (fo (mA I) m (i + 1) (mA I i a)) (fo (mPc I) 6 0 0) (fo (mD8 I) 8 0 0)) I L := hq
      refine ⟨in_nI (by omega) (by decide), fun h1 => s_mslips i (by omega) I L _ (ih (i + 1) _ _ (by omega) ?_), fun h1 => ih (i + 1) _ _ (by omega) ?_⟩
      · rw [mB, if_pos h1, mA, if_pos h1] at hq
        exact hq
      · rw [mB, if_neg h1, mA, if_neg h1] at hq
        exact hq
  exact ⟨rr + 1, aux rr 0 0 0 (by omega) h⟩
theorem op_count {I : mm_I} {L : mm_L} (hI : Inv I L) (x : Int32) (Q : Int32 → Int32 → mm_I → mm_L → Prop) (hQ : ∀ r I2 L2, Inv I2 L2 → Q r r I2 L2) : vc_X6_count x I L (fun r I1 L1 => vc_X7_count x I1 L1 (fun r' I2 L2 => Q r r' I2 L2)) := by
  obtain ⟨nn, rr, hN, hO, hD, hT, hP, hR⟩ := id hI
  have hrr := hR.1
  have e1 := hR.2.1
  have e2 := hR.2.2.1
  have eB : fo (mB I) rr 0 0 = fo (gB I) rr 0 0 := fo_c rr 0 0 (fun r _ hr b => by
    unfold mB gB
    rw [(hR.2.2.2.1 r (by omega)).2])
  have eA : fo (mA I) rr 0 0 = fo (gA I L) rr 0 0 := fo_c rr 0 0 (fun r _ hr b => by
    unfold mA gA
    rw [(hR.2.2.2.1 r (by omega)).2, slips_eq hR (by omega) 0])
  have eP : fo (mPc I) 6 0 0 = fo (gP I) 6 0 0 := fo_c 6 0 0 (fun p _ hp b => by
    unfold mPc gP
    rw [(hP p (by omega)).2.2.1])
  have eD : fo (mD8 I) 8 0 0 = fo (gD I) 8 0 0 := fo_c 8 0 0 (fun d _ hd b => by
    unfold mD8 gD
    rw [(hD d (by omega)).1]
    rcases (hD d (by omega)).2 with z | ⟨n, hn, z, -⟩
    · rw [z, if_pos (by decide), if_pos rfl]
    · have hn70 := hN.1
      rw [z, if_neg (nI_pos (by omega)), if_neg (fun q => absurd q (fun q => by
        have h1 : (nI n).toInt = (n : Int) := nI_toInt (by omega)
        rw [q] at h1
        have h2 : (-1 : Int32).toInt = -1 := by decide
        omega))])
  have fin : ∀ r, r = mSel I x (fo (gB I) rr 0 0) (fo (gA I L) rr 0 0) (fo (gP I) 6 0 0) (fo (gD I) 8 0 0) → vc_X7_count x I L (fun r' I2 L2 => Q r r' I2 L2) := by
    intro r hr
    refine s_mcount rr hrr x I L e2 _ ?_
    rw [eB, eA, eP, eD, ← hr]
    exact hQ _ _ _ hI
  simp only [vc_X6_count, vc_X6_count_0]
  refine ⟨fun h => fin _ ?_, fun h => fin _ ?_, fun h => fin _ ?_, fun h => s_howManyTakenBack rr hrr I L e1 _ (fin _ ?_), fun h => s_slipsStanding rr hrr I L e1 _ (fin _ ?_), fun h => s_howManyActive I L _ (fin _ ?_), fun h => ⟨in_nI (j := 0) (by decide) (by decide), fin _ ?_⟩, fun h => ⟨in_nI (j := 1) (by decide) (by decide), fin _ ?_⟩, fun h => s_definitionBits I L _ (fin _ ?_)⟩
  · have n0 : ¬ x = 0 := fun q => by subst q; revert h; decide
    have n1 : ¬ x = 1 := fun q => by subst q; revert h; decide
    have n2 : ¬ x = 2 := fun q => by subst q; revert h; decide
    have n3 : ¬ x = 3 := fun q => by subst q; revert h; decide
    have n4 : ¬ x = 4 := fun q => by subst q; revert h; decide
    have n5 : ¬ x = 5 := fun q => by subst q; revert h; decide
    have n6 : ¬ x = 6 := fun q => by subst q; revert h; decide
    have n7 : ¬ x = 7 := fun q => by subst q; revert h; decide
    simp only [mSel, n0, n1, n2, n3, n4, n5, n6, n7, if_false]
  · subst h
    show I 2 7 = I 36 0
    rw [hN.2.1, hN.2.2.1]
  · subst h
    show I 14 3 = I 36 1
    rw [e1, e2]
  · subst h; rfl
  · subst h; rfl
  · subst h; rfl
  · subst h
    obtain ⟨k, -, f1, f2, -⟩ := hT 0 (by decide)
    show I (18 + 0) 2 = I 44 0
    rw [f1, f2]
  · subst h
    obtain ⟨k, -, f1, f2, -⟩ := hT 1 (by decide)
    show I (18 + 1) 2 = I 44 1
    rw [f1, f2]
  · subst h; rfl
