/-! PURE: back, the call -/
theorem s_stands (x : Int32) (rr : Nat) (hrr : rr ≤ 16) (I : mm_I) (L : mm_L) (e : I 14 3 = nI rr) (Q : Int32 → mm_I → mm_L → Prop) (h1 : (∃ a, a < rr ∧ x = nI a ∧ I 17 a = 0) → Q 1 I L) (h0 : (¬ ∃ a, a < rr ∧ x = nI a ∧ I 17 a = 0) → Q 0 I L) : vc_X3_stands x I L Q := by
  simp only [vc_X3_stands, vc_X3_stands_0, s_rhas, bI_0]
  rcases in_or x (n := rr) (by omega) with ⟨a, ha, rfl⟩ | hx
  · simp only [w_t (n := rr) (b := I 14 3) ha (by omega) e, not_true_eq_false, not_false_eq_true, forall_const, false_implies, true_and, cl_nI (show a < 2 ^ 31 by omega)]
    refine ⟨in_nI (by omega) (by decide), fun q => h0 ?_, fun q => h1 ⟨a, ha, rfl, q⟩⟩
    intro ⟨b, hb, eb, z⟩
    have hab : a = b := (nI_eq (by omega) (by omega)).mp eb
    subst hab
    exact q z
  · simp only [w_f (n := rr) (b := I 14 3) hx e, not_true_eq_false, not_false_eq_true, forall_const, false_implies, and_true]
    refine h0 ?_
    intro ⟨b, hb, eb, z⟩
    subst eb
    exact hx.elim (fun q => absurd q (nI_pos (by omega))) (fun q => absurd q (nI_ge hb (by omega)))
theorem op_back {I : mm_I} {L : mm_L} (hI : Inv I L) (x : Int32) (Q : Int32 → Int32 → mm_I → mm_L → Prop) (hQ : ∀ r I2 L2, Inv I2 L2 → Q r r I2 L2) : vc_X6_back x I L (fun r I1 L1 => vc_X7_back x I1 L1 (fun r' I2 L2 => Q r r' I2 L2)) := by
  obtain ⟨nn, rr, hN, hO, hD, hT, hP, hR⟩ := id hI
  have hrr := hR.1
  have e1 : I 14 3 = nI rr := hR.2.1
  have e2 : I 36 1 = nI rr := hR.2.2.1
  have nb : vp_nar .boolean 1 = 1 := by decide
  simp only [vc_X6_back, vc_X6_back_0, vc_X7_back, vc_X7_back_0]
  refine s_stands x rr hrr I L e1 _ (fun hs => ⟨fun _ => ?_, fun q => absurd q (by decide)⟩) (fun hs => ⟨fun q => absurd rfl q, fun _ => ?_⟩)
  · obtain ⟨a, ha, rfl, h17⟩ := hs
    have h49 : I 49 a = 0 := (hR.2.2.2.1 a ha).2.trans h17
    refine s_unpayAll a (by omega) I L _ (fun L1 c1 c2 => ⟨in_nI (by omega) (by decide), ?_⟩)
    simp only [cl_nI (show a < 2 ^ 31 by omega), nb]
    have j36 : (mm_uI I 17 a 1) 36 = I 36 := uI_ne _ _ _ (by decide)
    have j49 : (mm_uI I 17 a 1) 49 = I 49 := uI_ne _ _ _ (by decide)
    have j50 : (mm_uI I 17 a 1) 50 = I 50 := uI_ne _ _ _ (by decide)
    rw [j36, j49]
    refine r_if e2 (by omega) (fun _ => ⟨in_nI (by omega) (by decide), fun _ => ?_, fun q => absurd h49 q⟩) (fun q => q.elim (fun q => absurd q (nI_pos (by omega))) (fun q => absurd q (nI_ge ha (by omega))))
    refine s_takeBack a (by omega) _ L1 _ (fun L2 d1 d2 => hQ _ _ _ ?_)
    have l53 : L1 53 = L 53 := c1 53 (by omega)
    have l52 : L1 52 = L 52 := c1 52 (by omega)
    have tt : ∀ q w, t1 (mm_uI I 17 a 1) L1 a q w = t1 I L a q w := fun q w => by unfold t1; rw [j50, l53, l52]
    refine ⟨nn, rr, vN_c (fun t ht => ?_) hN, vO_c ?_ ?_ hO, vD_c ?_ ?_ ?_ hD, vT_c (fun t ht => ?_) hT, fun q hq => ?_, ?_⟩
    · rw [uI_ne _ _ _ (by omega), uI_ne _ _ _ (by omega)]
    · rw [uI_ne _ _ _ (by omega), uI_ne _ _ _ (by omega)]
    · rw [uI_ne _ _ _ (by omega), uI_ne _ _ _ (by omega)]
    · rw [uI_ne _ _ _ (by omega), uI_ne _ _ _ (by omega)]
    · rw [uI_ne _ _ _ (by omega), uI_ne _ _ _ (by omega)]
    · rw [uI_ne _ _ _ (by omega), uI_ne _ _ _ (by omega)]
    · rw [uI_ne _ _ _ (by omega), uI_ne _ _ _ (by omega)]
    · obtain ⟨g1, g2, g3, -⟩ := hP q hq
      have te := tb_eq (hR.2.2.2.2.2 a q ha hq) (hP q hq)
      have k1 : ∀ t, t ≠ 17 → t ≠ 49 → (mm_uI (mm_uI I 17 a 1) 49 a 1) t = I t := fun t h1 h2 => by rw [uI_ne _ _ _ h2, uI_ne _ _ _ h1]
      refine ⟨fun i hi => by rw [k1 47 (by decide) (by decide), k1 (30 + q) (by omega) (by omega)]; exact g1 i hi, by rw [k1 (24 + q) (by omega) (by omega)]; exact g2, by rw [k1 (24 + q) (by omega) (by omega), k1 48 (by decide) (by decide)]; exact g3, ?_, ?_⟩
      · rw [(d2 q hq).1, tt, te.1, d1 (24 + q) (by omega), (c2 q hq).1]
      · rw [(d2 q hq).2, tt, te.2, d1 (24 + q) (by omega), (c2 q hq).2]
    · have k1 : ∀ t, t ≠ 17 → t ≠ 49 → (mm_uI (mm_uI I 17 a 1) 49 a 1) t = I t := fun t h1 h2 => by rw [uI_ne _ _ _ h2, uI_ne _ _ _ h1]
      have k17 : ∀ r, (mm_uI (mm_uI I 17 a 1) 49 a 1) 17 r = if r = a then 1 else I 17 r := fun r => by rw [uI_ne _ _ _ (by decide), uI_at]
      have k49 : ∀ r, (mm_uI (mm_uI I 17 a 1) 49 a 1) 49 r = if r = a then 1 else I 49 r := fun r => by rw [uI_at, j49]
      refine ⟨hrr, by rw [k1 14 (by decide) (by decide)]; exact e1, by rw [k1 36 (by decide) (by decide)]; exact e2, fun r hr => ?_, fun r h1 h2 => ?_, fun r q hr hq => ?_⟩
      · rw [k17, k49]
        by_cases hra : r = a
        · rw [if_pos hra, if_pos hra]
          exact ⟨Or.inr rfl, rfl⟩
        · rw [if_neg hra, if_neg hra]
          exact hR.2.2.2.1 r hr
      · rw [k17, if_neg (by omega)]
        exact hR.2.2.2.2.1 r h1 h2
      · have := hR.2.2.2.2.2 r q hr hq
        unfold vS1 at this ⊢
        rw [k1 51 (by decide) (by decide), k1 16 (by decide) (by decide), k1 50 (by decide) (by decide), d1 15 (by decide), d1 52 (by decide), c1 15 (by omega), l52]
        exact this
  · refine r_if e2 (by omega) (fun q => ?_) (fun _ => hQ _ _ _ hI)
    obtain ⟨a, ha, rfl⟩ := q
    rw [cl_nI (show a < 2 ^ 31 by omega)]
    refine ⟨in_nI (by omega) (by decide), fun z => absurd ⟨a, ha, rfl, (hR.2.2.2.1 a ha).2.symm.trans z⟩ hs, fun _ => hQ _ _ _ hI⟩
