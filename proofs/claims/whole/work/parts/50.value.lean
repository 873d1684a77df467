/-! PURE: value -/
theorem s_paidIsInt (p : Nat) (I : mm_I) (L : mm_L) (Q : Int32 → mm_I → mm_L → Prop) : vc_X1_paidIsInt p I L Q ↔ Q (bI (kI (L (24 + p) 1) = true ∧ kI (L (24 + p) 2) = true)) I L := by
  simp only [vc_X1_paidIsInt, vc_X1_paidIsInt_0, s_isInt, bI_0]
  cases h1 : kI (L (24 + p) 1) <;> cases h2 : kI (L (24 + p) 2) <;> simp [bI]
theorem s_paidWhole (p : Nat) (hp : p < 6) (I : mm_I) (L : mm_L) (Q : Int32 → mm_I → mm_L → Prop) : vc_X7_paidWhole (nI p) I L Q ↔ Q (bI (kI (L 53 (p * 2)) = true ∧ kI (L 53 (p * 2 + 1)) = true)) I L := by
  have e : nI p * 2 = nI (p * 2) := pk_mul p 2
  have i1 : vp_in (nI (p * 2)) 12 := in_nI (by omega) (by decide)
  have i2 : vp_in (nI (p * 2 + 1)) 12 := in_nI (by omega) (by decide)
  simp only [vc_X7_paidWhole, vc_X7_paidWhole_0, s_whole, bI_0, e, nI_1', cl_nI (show p * 2 < 2 ^ 31 by omega), cl_nI (show p * 2 + 1 < 2 ^ 31 by omega), i1, i2, true_and]
  cases h1 : kI (L 53 (p * 2)) <;> cases h2 : kI (L 53 (p * 2 + 1)) <;> simp [bI]
theorem Inv_L {I : mm_I} {L L' : mm_L} (h : ∀ t, t ≠ 12 → t ≠ 54 → t ≠ 55 → L' t = L t) (hI : Inv I L) : Inv I L' := by
  obtain ⟨nn, rr, hN, hO, hD, hT, hP, hR⟩ := hI
  exact ⟨nn, rr, hN, hO, hD, hT, vP_c (fun _ _ => rfl) (fun t ht => h t (by omega) (by omega) (by omega)) hP, vRn_c (fun _ _ => rfl) (fun t ht => h t (by omega) (by omega) (by omega)) hR⟩
theorem op_value {I : mm_I} {L : mm_L} (hI : Inv I L) (p n : Int32) (Q : Int64 → Int64 → mm_I → mm_L → Prop) (hQ : ∀ r I2 L2, Inv I2 L2 → Q r r I2 L2) : vc_X6_value p n I L (fun r I1 L1 => vc_X7_value p n I1 L1 (fun r' I2 L2 => Q r r' I2 L2)) := by
  obtain ⟨nn, rr, hN, hO, hD, hT, hP, hR⟩ := id hI
  have hn70 := hN.1
  have e27 : I 2 7 = nI nn := hN.2.1
  have e360 : I 36 0 = nI nn := hN.2.2.1
  simp only [vc_X6_value, vc_X6_value_0, s_within, s_has, s_paidIsInt, bI_0, vc_X7_value, vc_X7_value_0, s_out, s_isNode]
  rcases in_or p (n := 6) (by decide) with ⟨j, hj, rfl⟩ | hp
  · simp only [w_t (n := 6) (b := 6) hj (by decide) rfl, o_f (n := 5) (b := 5) hj (by decide) rfl, not_true_eq_false, not_false_eq_true, forall_const, false_implies, and_true, true_and, cl_nI (show j < 2 ^ 31 by omega), s_paidWhole j hj, bI_0]
    rcases in_or n (n := nn) (by omega) with ⟨m, hm, rfl⟩ | hn
    · simp only [w_t (n := nn) (b := I 2 7) hm (by omega) e27, w_t (n := nn) (b := I 36 0) hm (by omega) e360, not_true_eq_false, not_false_eq_true, forall_const, false_implies, and_true, true_and, cl_nI (show m < 2 ^ 31 by omega)]
      have hin : vp_in (nI j) 6 := in_nI hj (by decide)
      have him : vp_in (nI m) 70 := in_nI (by omega) (by decide)
      obtain ⟨-, -, -, q4, q5⟩ := hP j hj
      refine ⟨hin, fun hk => ?_, fun hk => ?_⟩
      · have hk : kI (L (24 + j) 1) = true ∧ kI (L (24 + j) 2) = true := by
          by_cases z : kI (L (24 + j) 1) = true ∧ kI (L (24 + j) 2) = true
          · exact z
          · exact absurd z hk
        refine ⟨hin, s_workOutFor hj hN hO hD hT _ (fun L1 a1 a2 => ⟨him, ?_⟩)⟩
        have l1 : L1 (24 + j) = L (24 + j) := a1 _ (by omega)
        have l53 : L1 53 = L 53 := a1 53 (by decide)
        simp only [w_t (n := nn) (b := I 36 0) hm (by omega) e360, not_true_eq_false, not_false_eq_true, forall_const, false_implies, and_true, true_and]
        rw [l53, q4, q5]
        refine ⟨fun _ => ?_, fun z => absurd hk z⟩
        have hP1 : vP1 I L1 j := vP1_c rfl rfl rfl rfl l1 l53 (hP j hj)
        refine s_person (W := L1 12) hj hN hD hT hP1 (by rw [l1]; exact hk.1) (by rw [l1]; exact hk.2) (fun x hx => ?_) _ (fun L2 b1 b2 b3 => ⟨him, ?_⟩)
        · rw [stC_c (L := L) (L' := L1) (W := L1 12) hx hn70 (hN.2.2.2 x hx).1 hD l1 (fun _ _ _ => rfl)]
          exact a2 x hx
        · rw [b2 m hm]
          exact hQ _ _ _ (Inv_L (fun t h1 h2 h3 => (b1 t h2 h3).trans (a1 t h1)) hI)
      · rw [q4, q5]
        exact ⟨fun z => absurd hk z, fun _ => hQ _ _ _ hI⟩
    · simp only [w_f (n := nn) (b := I 2 7) hn e27, w_f (n := nn) (b := I 36 0) hn e360, not_true_eq_false, not_false_eq_true, forall_const, false_implies, and_true, true_and]
      exact hQ _ _ _ hI
  · simp only [w_f (n := 6) (b := 6) hp rfl, o_t (n := 5) (b := 5) hp (by decide) rfl, not_true_eq_false, not_false_eq_true, forall_const, false_implies, true_and, and_true]
    exact hQ _ _ _ hI
