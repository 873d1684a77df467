/-! PURE: step -/
theorem nI_1' (k : Nat) : nI k + 1 = nI (k + 1) := nI_1 k
theorem s_addStep (j k : Nat) (hj : j < 2) (hk : k ≤ 5) (I : mm_I) (L : mm_L) (e : I (18 + j) 2 = nI k) (x v : Int32) (Q : Int32 → mm_I → mm_L → Prop) (z : Int32) (ez : z = if k = 0 then 0 else I (20 + j) (k - 1)) (hbad : (x ≤ z ∨ v < 0 ∨ ¬ v ≤ 1000) → Q (-1) I L) (hfull : ¬ (x ≤ z ∨ v < 0 ∨ ¬ v ≤ 1000) → k = 5 → Q (-2) I L) (hok : ¬ (x ≤ z ∨ v < 0 ∨ ¬ v ≤ 1000) → k < 5 → Q (nI (k + 1)) (mm_uI (mm_uI (mm_uI I (20 + j) k x) (22 + j) k v) (18 + j) 2 (nI (k + 1))) L) : vc_X4_addStep j x v I L Q := by
  have r1 : (mm_uI I (20 + j) k x) (18 + j) = I (18 + j) := uI_ne _ _ _ (by omega)
  have r2 : (mm_uI (mm_uI I (20 + j) k x) (22 + j) k v) (18 + j) = I (18 + j) := by rw [uI_ne _ _ _ (by omega), r1]
  have r3 : (mm_uI (mm_uI (mm_uI I (20 + j) k x) (22 + j) k v) (18 + j) 2 (nI (k + 1))) (18 + j) 2 = nI (k + 1) := by rw [uI_at]; simp
  have main : vc_X4_addStep_22 j x v z I L Q := by
    simp only [vc_X4_addStep_22, e, cl_nI (show k < 2 ^ 31 by omega), r1, r2, nI_1', r3]
    refine ⟨fun h => hbad (Or.inl h), fun h => ⟨fun h2 => hbad (Or.inr (Or.inl h2)), fun h2 => ⟨fun h3 => ⟨fun h4 => ?_, fun h4 => ?_⟩, fun h3 => hbad (Or.inr (Or.inr h3))⟩⟩⟩
    · have hk5 : k < 5 := by
        rcases (show k < 5 ∨ k = 5 by omega) with q | q
        · exact q
        · subst q; exact absurd rfl h4
      exact ⟨in_nI hk5 (by decide), in_nI hk5 (by decide), hok (fun q => q.elim h (fun q => q.elim h2 (fun q => q h3))) hk5⟩
    · have hk5 : k = 5 := (nI_eq (by omega) (by decide)).mp h4
      exact hfull (fun q => q.elim h (fun q => q.elim h2 (fun q => q h3))) hk5
  simp only [vc_X4_addStep, vc_X4_addStep_0, e]
  refine ⟨fun h => ?_, fun h => ?_⟩
  · have hk0 : k = 0 := by
      rcases (show k = 0 ∨ 0 < k by omega) with q | q
      · exact q
      · exact absurd h (nI_nle q (by omega))
    rw [ez, if_pos hk0] at main
    exact main
  · have hk0 : ¬ k = 0 := by
      intro q
      subst q
      exact h (by decide)
    obtain ⟨k', rfl⟩ : ∃ k', k = k' + 1 := ⟨k - 1, by omega⟩
    rw [ez, if_neg hk0] at main
    rw [nI_pred, cl_nI (show k' < 2 ^ 31 by omega)]
    exact ⟨in_nI (by omega) (by decide), main⟩
theorem s_mstep (j k : Nat) (hj : j < 2) (hk : k ≤ 5) (I : mm_I) (L : mm_L) (e : I 44 j = nI k) (x v : Int32) (Q : Int32 → mm_I → mm_L → Prop) (z : Int32) (ez : z = if k = 0 then 0 else I 45 (j * 5 + k - 1)) (hz : 0 ≤ z.toInt) (hbad : (x ≤ z ∨ v < 0 ∨ ¬ v ≤ 1000) → Q (-1) I L) (hfull : ¬ (x ≤ z ∨ v < 0 ∨ ¬ v ≤ 1000) → k = 5 → Q (-2) I L) (hok : ¬ (x ≤ z ∨ v < 0 ∨ ¬ v ≤ 1000) → k < 5 → Q (nI (k + 1)) (mm_uI (mm_uI (mm_uI I 45 (j * 5 + k) x) 46 (j * 5 + k) v) 44 j (nI (k + 1))) L) : vc_X7_step (nI j) x v I L Q := by
  have r1 : (mm_uI I 45 (j * 5 + k) x) 44 = I 44 := uI_ne _ _ _ (by omega)
  have r2 : (mm_uI (mm_uI I 45 (j * 5 + k) x) 46 (j * 5 + k) v) 44 = I 44 := by rw [uI_ne _ _ _ (by omega), r1]
  have r3 : (mm_uI (mm_uI (mm_uI I 45 (j * 5 + k) x) 46 (j * 5 + k) v) 44 j (nI (k + 1))) 44 j = nI (k + 1) := by rw [uI_at]; simp
  have main : ¬ x ≤ z → ¬ (v < 0 ∨ ¬ v ≤ 1000) → vc_X7_step_59 (nI j) x v I L Q := by
    intro h1 h2
    simp only [vc_X7_step_59, cl_nI (show j < 2 ^ 31 by omega), e, ixm j 5 k (m := 5) rfl, cl_nI (show j * 5 + k < 2 ^ 31 by omega), r1, r2, nI_1', r3]
    refine ⟨in_nI hj (by decide), fun h4 => ?_, fun h4 => ?_⟩
    · have hk5 : k < 5 := by
        rcases (show k < 5 ∨ k = 5 by omega) with q | q
        · exact q
        · subst q; exact absurd rfl h4
      exact ⟨in_nI hj (by decide), in_nI (by omega) (by decide), in_nI hj (by decide), in_nI (by omega) (by decide), in_nI hj (by decide), in_nI hj (by decide), in_nI hj (by decide), hok (fun q => q.elim h1 h2) hk5⟩
    · exact hfull (fun q => q.elim h1 h2) ((nI_eq (by omega) (by decide)).mp h4)
  simp only [vc_X7_step, vc_X7_step_0, s_out, bI_0, o_f (n := 1) (b := 1) (show j < 1 + 1 by omega) (by decide) rfl, not_true_eq_false, not_false_eq_true, forall_const, false_implies, and_true, true_and]
  refine ⟨fun h => hbad (Or.inl ?_), fun h => ⟨fun h2 => ?_, fun h2 => ⟨in_nI hj (by decide), ?_⟩⟩⟩
  · rw [Int32.lt_iff_toInt_lt] at h
    rw [Int32.le_iff_toInt_le]
    have : (1 : Int32).toInt = 1 := by decide
    omega
  · exact hbad (Or.inr (by
      by_cases q : v < 0 ∨ ¬ v ≤ 1000
      · exact q
      · exact absurd q h2))
  · simp only [cl_nI (show j < 2 ^ 31 by omega), e]
    refine ⟨fun h3 => ?_, fun h3 => ?_⟩
    · have hk0 : k = 0 := by
        rcases (show k = 0 ∨ 0 < k by omega) with q | q
        · exact q
        · exact absurd h3 (nI_nle q (by omega))
      refine main ?_ h2
      rw [ez, if_pos hk0]
      intro q
      rw [Int32.lt_iff_toInt_lt] at h
      rw [Int32.le_iff_toInt_le] at q
      have h1 : (1 : Int32).toInt = 1 := by decide
      have h0 : (0 : Int32).toInt = 0 := by decide
      omega
    · have hk0 : ¬ k = 0 := by
        intro q
        subst q
        exact h3 (by decide)
      obtain ⟨k', rfl⟩ : ∃ k', k = k' + 1 := ⟨k - 1, by omega⟩
      have ez' : z = I 45 (j * 5 + k') := by rw [ez, if_neg hk0]; rfl
      rw [ixm j 5 (k' + 1) (m := 5) rfl, show j * 5 + (k' + 1) = (j * 5 + k') + 1 by omega, nI_pred, cl_nI (show j * 5 + k' < 2 ^ 31 by omega), ← ez']
      refine ⟨in_nI hj (by decide), in_nI (by omega) (by decide), fun h4 => main (Int32.not_le.mpr h4) h2, fun h4 => hbad (Or.inl (Int32.not_lt.mp h4))⟩
theorem op_step {I : mm_I} {L : mm_L} (hI : Inv I L) (t x v : Int32) (Q : Int32 → Int32 → mm_I → mm_L → Prop) (hQ : ∀ r I2 L2, Inv I2 L2 → Q r r I2 L2) : vc_X6_step t x v I L (fun r I1 L1 => vc_X7_step t x v I1 L1 (fun r' I2 L2 => Q r r' I2 L2)) := by
  rcases in_or t (n := 2) (by decide) with ⟨j, hj, rfl⟩ | hd
  · obtain ⟨nn, rr, hN, hO, hD, hT, hP, hR⟩ := id hI
    obtain ⟨k, hk, e1, e2, e3⟩ := hT j hj
    simp only [vc_X6_step, vc_X6_step_0, s_within, bI_0, w_t (n := 2) (b := 2) hj (by decide) rfl, not_true_eq_false, not_false_eq_true, forall_const, false_implies, and_true, true_and, cl_nI (show j < 2 ^ 31 by omega)]
    refine ⟨in_nI hj (by decide), ?_⟩
    obtain ⟨z, ez⟩ : ∃ z, z = if k = 0 then 0 else I (20 + j) (k - 1) := ⟨_, rfl⟩
    have ez' : z = if k = 0 then 0 else I 45 (j * 5 + k - 1) := by
      rw [ez]
      by_cases h : k = 0
      · rw [if_pos h, if_pos h]
      · rw [if_neg h, if_neg h, ← (e3 (k - 1) (by omega)).1, show j * 5 + (k - 1) = j * 5 + k - 1 by omega]
    have hz : 0 ≤ z.toInt := by
      rw [ez]
      by_cases h : k = 0
      · rw [if_pos h]; decide
      · rw [if_neg h]
        have := (e3 (k - 1) (by omega)).2.2.1
        omega
    refine s_addStep j k hj hk I L e1 x v _ z ez (fun hb => ?_) (fun hb h5 => ?_) (fun hb h5 => ?_)
    · exact s_mstep j k hj hk I L e2 x v _ z ez' hz (fun _ => hQ _ _ _ hI) (fun q => absurd hb q) (fun q => absurd hb q)
    · exact s_mstep j k hj hk I L e2 x v _ z ez' hz (fun q => absurd q hb) (fun _ _ => hQ _ _ _ hI) (fun _ q => absurd q (by omega))
    · have a44 : (mm_uI (mm_uI (mm_uI I (20 + j) k x) (22 + j) k v) (18 + j) 2 (nI (k + 1))) 44 = I 44 := by rw [uI_ne _ _ _ (by omega), uI_ne _ _ _ (by omega), uI_ne _ _ _ (by omega)]
      have a45 : (mm_uI (mm_uI (mm_uI I (20 + j) k x) (22 + j) k v) (18 + j) 2 (nI (k + 1))) 45 = I 45 := by rw [uI_ne _ _ _ (by omega), uI_ne _ _ _ (by omega), uI_ne _ _ _ (by omega)]
      refine s_mstep j k hj hk _ L (by rw [a44]; exact e2) x v _ z (by rw [a45]; exact ez') hz (fun q => absurd q hb) (fun _ q => absurd q (by omega)) (fun _ _ => hQ _ _ _ ?_)
      refine ⟨nn, rr, vN_c (fun t ht => ?_) hN, vO_c ?_ ?_ hO, vD_c ?_ ?_ ?_ hD, fun q hq => ?_, vP_c (fun t ht => ?_) (fun _ _ => rfl) hP, vRn_c (fun t ht => ?_) (fun _ _ => rfl) hR⟩
      · iterate 6 rw [uI_ne _ _ _ (by omega)]
      · iterate 6 rw [uI_ne _ _ _ (by omega)]
      · iterate 6 rw [uI_ne _ _ _ (by omega)]
      · iterate 6 rw [uI_ne _ _ _ (by omega)]
      · iterate 6 rw [uI_ne _ _ _ (by omega)]
      · iterate 6 rw [uI_ne _ _ _ (by omega)]
      · by_cases hqj : q = j
        · subst hqj
          refine ⟨k + 1, by omega, ?_, ?_, fun i hi => ?_⟩
          · rw [uI_ne _ _ _ (by omega), uI_ne _ _ _ (by omega), uI_ne _ _ _ (by omega), uI_at]; simp
          · rw [uI_at]; simp
          · have b45 : (mm_uI (mm_uI (mm_uI (mm_uI (mm_uI (mm_uI I (20 + q) k x) (22 + q) k v) (18 + q) 2 (nI (k + 1))) 45 (q * 5 + k) x) 46 (q * 5 + k) v) 44 q (nI (k + 1))) 45 (q * 5 + i) = if i = k then x else I 45 (q * 5 + i) := by
              rw [uI_ne _ _ _ (by omega), uI_ne _ _ _ (by omega), uI_at, a45]
              by_cases h : i = k
              · rw [if_pos h, if_pos (by omega)]
              · rw [if_neg h, if_neg (by omega)]
            have b46 : (mm_uI (mm_uI (mm_uI (mm_uI (mm_uI (mm_uI I (20 + q) k x) (22 + q) k v) (18 + q) 2 (nI (k + 1))) 45 (q * 5 + k) x) 46 (q * 5 + k) v) 44 q (nI (k + 1))) 46 (q * 5 + i) = if i = k then v else I 46 (q * 5 + i) := by
              rw [uI_ne _ _ _ (by omega), uI_at, uI_ne _ _ _ (by omega), uI_ne _ _ _ (by omega), uI_ne _ _ _ (by omega), uI_ne _ _ _ (by omega)]
              by_cases h : i = k
              · rw [if_pos h, if_pos (by omega)]
              · rw [if_neg h, if_neg (by omega)]
            have b20 : ∀ i, (mm_uI (mm_uI (mm_uI (mm_uI (mm_uI (mm_uI I (20 + q) k x) (22 + q) k v) (18 + q) 2 (nI (k + 1))) 45 (q * 5 + k) x) 46 (q * 5 + k) v) 44 q (nI (k + 1))) (20 + q) i = if i = k then x else I (20 + q) i := by
              intro i
              rw [uI_ne _ _ _ (by omega), uI_ne _ _ _ (by omega), uI_ne _ _ _ (by omega), uI_ne _ _ _ (by omega), uI_ne _ _ _ (by omega), uI_at]
            have b22 : (mm_uI (mm_uI (mm_uI (mm_uI (mm_uI (mm_uI I (20 + q) k x) (22 + q) k v) (18 + q) 2 (nI (k + 1))) 45 (q * 5 + k) x) 46 (q * 5 + k) v) 44 q (nI (k + 1))) (22 + q) i = if i = k then v else I (22 + q) i := by
              rw [uI_ne _ _ _ (by omega), uI_ne _ _ _ (by omega), uI_ne _ _ _ (by omega), uI_ne _ _ _ (by omega), uI_at, uI_ne _ _ _ (by omega)]
            rw [b45, b46, b20, b20, b22]
            have hx : z.toInt < x.toInt := by
              have h1 : ¬ x ≤ z := fun q => hb (Or.inl q)
              rw [Int32.le_iff_toInt_le] at h1
              omega
            by_cases h : i = k
            · have h2 : ¬ v < 0 := fun q => hb (Or.inr (Or.inl q))
              have h3 : v ≤ 1000 := by
                by_cases q : v ≤ 1000
                · exact q
                · exact absurd (Or.inr (Or.inr q)) hb
              rw [Int32.lt_iff_toInt_lt] at h2
              rw [Int32.le_iff_toInt_le] at h3
              have c0 : (0 : Int32).toInt = 0 := by decide
              have c1 : (1000 : Int32).toInt = 1000 := by decide
              simp only [h, if_true]
              exact ⟨trivial, trivial, by omega, by omega, by omega, fun q => absurd q (by omega)⟩
            · obtain ⟨f1, f2, f3, f4, f5, f6⟩ := e3 i (by omega)
              simp only [h, if_false]
              refine ⟨f1, f2, f3, f4, f5, fun hi1 => ?_⟩
              by_cases h' : i + 1 = k
              · simp only [h', if_true]
                rw [if_neg (by omega), show k - 1 = i by omega] at ez
                rw [← ez]
                exact hx
              · simp only [h', if_false]
                exact f6 (by omega)
        · obtain ⟨k', hk', f1, f2, f3⟩ := hT q hq
          refine ⟨k', hk', ?_, ?_, fun i hi => ?_⟩
          · iterate 6 rw [uI_ne _ _ _ (by omega)]
            exact f1
          · rw [uI_at, if_neg hqj]
            iterate 5 rw [uI_ne _ _ _ (by omega)]
            exact f2
          · have b45 : (mm_uI (mm_uI (mm_uI (mm_uI (mm_uI (mm_uI I (20 + j) k x) (22 + j) k v) (18 + j) 2 (nI (k + 1))) 45 (j * 5 + k) x) 46 (j * 5 + k) v) 44 j (nI (k + 1))) 45 (q * 5 + i) = I 45 (q * 5 + i) := by
              rw [uI_ne _ _ _ (by omega), uI_ne _ _ _ (by omega), uI_at, if_neg (by omega), a45]
            have b46 : (mm_uI (mm_uI (mm_uI (mm_uI (mm_uI (mm_uI I (20 + j) k x) (22 + j) k v) (18 + j) 2 (nI (k + 1))) 45 (j * 5 + k) x) 46 (j * 5 + k) v) 44 j (nI (k + 1))) 46 (q * 5 + i) = I 46 (q * 5 + i) := by
              rw [uI_ne _ _ _ (by omega), uI_at, if_neg (by omega), uI_ne _ _ _ (by omega), uI_ne _ _ _ (by omega), uI_ne _ _ _ (by omega), uI_ne _ _ _ (by omega)]
            have b20 : (mm_uI (mm_uI (mm_uI (mm_uI (mm_uI (mm_uI I (20 + j) k x) (22 + j) k v) (18 + j) 2 (nI (k + 1))) 45 (j * 5 + k) x) 46 (j * 5 + k) v) 44 j (nI (k + 1))) (20 + q) = I (20 + q) := by
              iterate 6 rw [uI_ne _ _ _ (by omega)]
            have b22 : (mm_uI (mm_uI (mm_uI (mm_uI (mm_uI (mm_uI I (20 + j) k x) (22 + j) k v) (18 + j) 2 (nI (k + 1))) 45 (j * 5 + k) x) 46 (j * 5 + k) v) 44 j (nI (k + 1))) (22 + q) = I (22 + q) := by
              iterate 6 rw [uI_ne _ _ _ (by omega)]
            rw [b45, b46, b20, b22]
            exact f3 i hi
      · iterate 6 rw [uI_ne _ _ _ (by omega)]
      · iterate 6 rw [uI_ne _ _ _ (by omega)]
  · simp only [vc_X6_step, vc_X6_step_0, s_within, bI_0, w_f (n := 2) (b := 2) hd rfl, vc_X7_step, vc_X7_step_0, s_out, o_t (n := 1) (b := 1) hd (by decide) rfl, not_true_eq_false, not_false_eq_true, forall_const, false_implies, true_and, and_true]
    exact hQ _ _ _ hI
