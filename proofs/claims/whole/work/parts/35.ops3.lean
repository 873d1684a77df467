/-! PURE: paid, held, slip -/
theorem op_paid {I : mm_I} {L : mm_L} (hI : Inv I L) (p w : Int32) (Q : Int64 → Int64 → mm_I → mm_L → Prop) (hQ : ∀ r I2 L2, Inv I2 L2 → Q r r I2 L2) : vc_X6_paid p w I L (fun r I1 L1 => vc_X7_paid p w I1 L1 (fun r' I2 L2 => Q r r' I2 L2)) := by
  simp only [vc_X6_paid, vc_X6_paid_0, vc_X1_paidSoFar, vc_X1_paidSoFar_0, s_within, bI_0, vc_X7_paid, vc_X7_paid_0, s_out]
  rcases in_or p (n := 6) (by decide) with ⟨j, hj, rfl⟩ | hp
  · simp only [w_t (n := 6) (b := 6) hj (by decide) rfl, o_f (n := 5) (b := 5) hj (by decide) rfl, not_true_eq_false, not_false_eq_true, forall_const, false_implies, and_true, true_and, cl_nI (show j < 2 ^ 31 by omega)]
    rcases in_or w (n := 2) (by decide) with ⟨k, hk, rfl⟩ | hw
    · simp only [w_t (n := 2) (b := 2) hk (by decide) rfl, o_f (n := 1) (b := 1) hk (by decide) rfl, not_true_eq_false, not_false_eq_true, forall_const, false_implies, and_true, true_and, ixm j 2 k (m := 2) rfl, cl_nI (show j * 2 + k < 2 ^ 31 by omega)]
      obtain ⟨nn, rr, hN, hO, hD, hT, hP, hR⟩ := id hI
      obtain ⟨-, -, -, h4, h5⟩ := hP j hj
      refine ⟨in_nI hj (by decide), fun h => ⟨in_nI (by omega) (by decide), ?_⟩, fun h => ⟨in_nI (by omega) (by decide), ?_⟩⟩
      · have hk1 : k = 1 := by
          rcases (show k = 0 ∨ k = 1 by omega) with rfl | rfl
          · exact absurd rfl h
          · rfl
        subst hk1
        rw [h5]
        exact hQ _ _ _ hI
      · have hk0 : k = 0 := by
          rcases (show k = 0 ∨ k = 1 by omega) with rfl | rfl
          · rfl
          · exact absurd h (by decide)
        subst hk0
        rw [Nat.add_zero, h4]
        exact hQ _ _ _ hI
    · simp only [w_f (n := 2) (b := 2) hw rfl, o_t (n := 1) (b := 1) hw (by decide) rfl, not_true_eq_false, not_false_eq_true, forall_const, false_implies, true_and, and_true]
      exact hQ _ _ _ hI
  · simp only [w_f (n := 6) (b := 6) hp rfl, o_t (n := 5) (b := 5) hp (by decide) rfl, not_true_eq_false, not_false_eq_true, forall_const, false_implies, true_and, and_true]
    exact hQ _ _ _ hI
theorem s_rhas (x : Int32) (I : mm_I) (L : mm_L) (Q : Int32 → mm_I → mm_L → Prop) : vc_X3_has x I L Q ↔ Q (bI (¬ x < 0 ∧ ¬ I 14 3 ≤ x)) I L := by
  simp only [vc_X3_has, vc_X3_has_0, s_within, zb_t, true_and]
/-- the reference's own test of a run -/
theorem r_if {x b : Int32} {A B : Prop} {n : Nat} (hb : b = nI n) (hn : n < 2 ^ 31) (h1 : (∃ j, j < n ∧ x = nI j) → B) (h2 : (x < 0 ∨ nI n ≤ x) → A) : (x < 0 → A) ∧ (¬ x < 0 → (b ≤ x → A) ∧ (¬ b ≤ x → B)) := by
  rw [hb]
  refine ⟨fun h => h2 (Or.inl h), fun h => ⟨fun q => h2 (Or.inr q), fun q => h1 ?_⟩⟩
  rcases in_or x hn with z | z
  · exact z
  · exact absurd z (fun z => z.elim h q)
theorem op_held {I : mm_I} {L : mm_L} (hI : Inv I L) (r p : Int32) (Q : Int32 → Int32 → mm_I → mm_L → Prop) (hQ : ∀ r I2 L2, Inv I2 L2 → Q r r I2 L2) : vc_X6_held r p I L (fun r1 I1 L1 => vc_X7_held r p I1 L1 (fun r' I2 L2 => Q r1 r' I2 L2)) := by
  obtain ⟨nn, rr, hN, hO, hD, hT, hP, hR⟩ := id hI
  have e1 : I 14 3 = nI rr := hR.2.1
  have e2 : I 36 1 = nI rr := hR.2.2.1
  have hr16 := hR.1
  simp only [vc_X6_held, vc_X6_held_0, s_rhas, s_within, bI_0, vc_X7_held, vc_X7_held_0, s_out]
  rcases in_or r (n := rr) (by omega) with ⟨a, ha, rfl⟩ | hr
  · simp only [w_t (n := rr) (b := I 14 3) ha (by omega) e1, not_true_eq_false, not_false_eq_true, forall_const, false_implies, and_true, true_and]
    rcases in_or p (n := 6) (by decide) with ⟨j, hj, rfl⟩ | hp
    · simp only [w_t (n := 6) (b := 6) hj (by decide) rfl, o_f (n := 5) (b := 5) hj (by decide) rfl, not_true_eq_false, not_false_eq_true, forall_const, false_implies, and_true, true_and, ixm a 6 j (m := 6) rfl, cl_nI (show a * 6 + j < 2 ^ 31 by omega)]
      refine ⟨in_nI (by omega) (by decide), r_if e2 (by omega) (fun _ => ⟨in_nI (by omega) (by decide), ?_⟩) (fun q => q.elim (fun q => absurd q (nI_pos (by omega))) (fun q => absurd q (nI_ge ha (by omega))))⟩
      rw [(hR.2.2.2.2.2 a j ha hj).1]
      exact hQ _ _ _ hI
    · simp only [w_f (n := 6) (b := 6) hp rfl, o_t (n := 5) (b := 5) hp (by decide) rfl, not_true_eq_false, not_false_eq_true, forall_const, false_implies, true_and, and_true]
      exact r_if e2 (by omega) (fun _ => hQ _ _ _ hI) (fun _ => hQ _ _ _ hI)
  · simp only [w_f (n := rr) (b := I 14 3) hr e1, not_true_eq_false, not_false_eq_true, forall_const, false_implies, true_and, and_true]
    refine r_if e2 (by omega) (fun q => ?_) (fun _ => hQ _ _ _ hI)
    obtain ⟨a, ha, rfl⟩ := q
    exact absurd hr (fun q => q.elim (fun q => absurd q (nI_pos (by omega))) (fun q => absurd q (nI_ge ha (by omega))))
theorem s_amountOf (a j w : Nat) (ha : a < 16) (hj : j < 6) (hw : w < 3) (I : mm_I) (L : mm_L) (Q : Int64 → mm_I → mm_L → Prop) : vc_X3_amountOf (nI a) (nI j) (nI w) I L Q ↔ Q (L 15 ((a * 6 + j) * 3 + w)) I L := by
  simp only [vc_X3_amountOf, vc_X3_amountOf_0, vc_X3_placeOf, vc_X3_placeOf_0, ixm a 6 j (m := 6) rfl, ixm (a * 6 + j) 3 w (m := 3) rfl, cl_nI (show (a * 6 + j) * 3 + w < 2 ^ 31 by omega)]
  exact ⟨fun h => h.2, fun h => ⟨in_nI (by omega) (by decide), h⟩⟩
theorem op_slip {I : mm_I} {L : mm_L} (hI : Inv I L) (r p w : Int32) (Q : Int64 → Int64 → mm_I → mm_L → Prop) (hQ : ∀ r I2 L2, Inv I2 L2 → Q r r I2 L2) : vc_X6_slip r p w I L (fun r1 I1 L1 => vc_X7_slip r p w I1 L1 (fun r' I2 L2 => Q r1 r' I2 L2)) := by
  obtain ⟨nn, rr, hN, hO, hD, hT, hP, hR⟩ := id hI
  have e1 : I 14 3 = nI rr := hR.2.1
  have e2 : I 36 1 = nI rr := hR.2.2.1
  have hr16 := hR.1
  simp only [vc_X6_slip, vc_X6_slip_0, s_rhas, s_within, bI_0, vc_X7_slip, vc_X7_slip_0, s_out]
  rcases in_or r (n := rr) (by omega) with ⟨a, ha, rfl⟩ | hr
  · have no : ¬ (nI a < 0 ∨ nI rr ≤ nI a) := fun q => q.elim (fun q => absurd q (nI_pos (by omega))) (fun q => absurd q (nI_ge ha (by omega)))
    simp only [w_t (n := rr) (b := I 14 3) ha (by omega) e1, not_true_eq_false, not_false_eq_true, forall_const, false_implies, and_true, true_and]
    rcases in_or p (n := 6) (by decide) with ⟨j, hj, rfl⟩ | hp
    · simp only [w_t (n := 6) (b := 6) hj (by decide) rfl, o_f (n := 5) (b := 5) hj (by decide) rfl, not_true_eq_false, not_false_eq_true, forall_const, false_implies, and_true, true_and]
      rcases in_or w (n := 3) (by decide) with ⟨k, hk, rfl⟩ | hw
      · simp only [w_t (n := 3) (b := 3) hk (by decide) rfl, o_f (n := 2) (b := 2) hk (by decide) rfl, not_true_eq_false, not_false_eq_true, forall_const, false_implies, and_true, true_and, s_amountOf a j k (by omega) hj hk, ixm a 6 j (m := 6) rfl, ixm (a * 6 + j) 3 k (m := 3) rfl, cl_nI (show a * 6 + j < 2 ^ 31 by omega), cl_nI (show (a * 6 + j) * 3 + k < 2 ^ 31 by omega)]
        refine r_if e2 (by omega) (fun _ => ⟨in_nI (by omega) (by decide), fun h => ⟨in_nI (by omega) (by decide), ?_⟩, fun h => ?_⟩) (fun q => absurd q no)
        · rcases (hR.2.2.2.2.2 a j ha hj).2 with z | z
          · exact absurd z.1 h
          · rw [z.2.2 k hk]
            exact hQ _ _ _ hI
        · rcases (hR.2.2.2.2.2 a j ha hj).2 with z | z
          · rw [z.2 k hk]
            exact hQ _ _ _ hI
          · exact absurd (h.symm.trans z.1) (by decide)
      · simp only [w_f (n := 3) (b := 3) hw rfl, o_t (n := 2) (b := 2) hw (by decide) rfl, not_true_eq_false, not_false_eq_true, forall_const, false_implies, true_and, and_true]
        exact r_if e2 (by omega) (fun _ => hQ _ _ _ hI) (fun _ => hQ _ _ _ hI)
    · simp only [w_f (n := 6) (b := 6) hp rfl, o_t (n := 5) (b := 5) hp (by decide) rfl, not_true_eq_false, not_false_eq_true, forall_const, false_implies, true_and, and_true]
      exact r_if e2 (by omega) (fun _ => hQ _ _ _ hI) (fun _ => hQ _ _ _ hI)
  · simp only [w_f (n := rr) (b := I 14 3) hr e1, not_true_eq_false, not_false_eq_true, forall_const, false_implies, true_and, and_true]
    refine r_if e2 (by omega) (fun q => ?_) (fun _ => hQ _ _ _ hI)
    obtain ⟨a, ha, rfl⟩ := q
    exact absurd hr (fun q => q.elim (fun q => absurd q (nI_pos (by omega))) (fun q => absurd q (nI_ge ha (by omega))))
