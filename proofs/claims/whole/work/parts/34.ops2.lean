/-! PURE: input, activate, clear, paid, held, slip -/
theorem ixm (a b c : Nat) {m : Int32} (hm : m = nI b) : nI a * m + nI c = nI (a * b + c) := by rw [hm, pk_mul, nI_add]
theorem op_input {I : mm_I} {L : mm_L} (hI : Inv I L) (p i v : Int32) (Q : Int32 → Int32 → mm_I → mm_L → Prop) (hQ : ∀ r I2 L2, Inv I2 L2 → Q r r I2 L2) : vc_X6_input p i v I L (fun r I1 L1 => vc_X7_input p i v I1 L1 (fun r' I2 L2 => Q r r' I2 L2)) := by
  simp only [vc_X6_input, vc_X6_input_0, s_within, bI_0, vc_X7_input, vc_X7_input_0, s_out]
  rcases in_or p (n := 6) (by decide) with ⟨j, hj, rfl⟩ | hp
  · simp only [w_t (n := 6) (b := 6) hj (by decide) rfl, o_f (n := 5) (b := 5) hj (by decide) rfl, not_true_eq_false, not_false_eq_true, forall_const, false_implies, and_true, true_and]
    rcases in_or i (n := 8) (by decide) with ⟨k, hk, rfl⟩ | hi
    · simp only [w_t (n := 8) (b := 8) hk (by decide) rfl, o_f (n := 7) (b := 7) hk (by decide) rfl, not_true_eq_false, not_false_eq_true, forall_const, false_implies, and_true, true_and, ixm j 8 k (m := 8) rfl, cl_nI (show j < 2 ^ 31 by omega), cl_nI (show k < 2 ^ 31 by omega), cl_nI (show j * 8 + k < 2 ^ 31 by omega)]
      refine ⟨in_nI hj (by decide), in_nI hk (by decide), in_nI (by omega) (by decide), hQ _ _ _ ?_⟩
      obtain ⟨nn, rr, hN, hO, hD, hT, hP, hR⟩ := hI
      refine ⟨nn, rr, vN_c (fun t ht => ?_) hN, vO_c ?_ ?_ hO, vD_c ?_ ?_ ?_ hD, vT_c (fun t ht => ?_) hT, fun q hq => ?_, vRn_c (fun t ht => ?_) (fun _ _ => rfl) hR⟩
      · rw [uI_ne _ _ _ (by omega), uI_ne _ _ _ (by omega)]
      · rw [uI_ne _ _ _ (by omega), uI_ne _ _ _ (by omega)]
      · rw [uI_ne _ _ _ (by omega), uI_ne _ _ _ (by omega)]
      · rw [uI_ne _ _ _ (by omega), uI_ne _ _ _ (by omega)]
      · rw [uI_ne _ _ _ (by omega), uI_ne _ _ _ (by omega)]
      · rw [uI_ne _ _ _ (by omega), uI_ne _ _ _ (by omega)]
      · rw [uI_ne _ _ _ (by omega), uI_ne _ _ _ (by omega)]
      · obtain ⟨h1, h2, h3, h4⟩ := hP q hq
        have a24 : (mm_uI (mm_uI I (30 + j) k v) 47 (j * 8 + k) v) (24 + q) = I (24 + q) := by rw [uI_ne _ _ _ (by omega), uI_ne _ _ _ (by omega)]
        have a48 : (mm_uI (mm_uI I (30 + j) k v) 47 (j * 8 + k) v) 48 = I 48 := by rw [uI_ne _ _ _ (by omega), uI_ne _ _ _ (by omega)]
        refine ⟨fun x hx => ?_, by rw [a24]; exact h2, by rw [a24, a48]; exact h3, h4⟩
        rw [uI_at, uI_ne _ _ _ (show 30 + q ≠ 47 by omega), uI_ne _ _ _ (show 47 ≠ 30 + j by omega)]
        by_cases hqj : q = j
        · subst hqj
          rw [uI_at]
          by_cases hxk : x = k
          · simp [hxk]
          · rw [if_neg hxk, if_neg (by omega)]
            exact h1 x hx
        · rw [uI_ne _ _ _ (by omega), if_neg (by omega)]
          exact h1 x hx
      · rw [uI_ne _ _ _ (by omega), uI_ne _ _ _ (by omega)]
    · simp only [w_f (n := 8) (b := 8) hi rfl, o_t (n := 7) (b := 7) hi (by decide) rfl, not_true_eq_false, not_false_eq_true, forall_const, false_implies, true_and, and_true]
      exact hQ _ _ _ hI
  · simp only [w_f (n := 6) (b := 6) hp rfl, o_t (n := 5) (b := 5) hp (by decide) rfl, not_true_eq_false, not_false_eq_true, forall_const, false_implies, true_and, and_true]
    exact hQ _ _ _ hI
theorem nar_zb {x : Int32} (h : zb x) : vp_nar .boolean x = x := by rcases h with rfl | rfl <;> decide
theorem op_activate {I : mm_I} {L : mm_L} (hI : Inv I L) (p v : Int32) (hv : zb v) (Q : Int32 → Int32 → mm_I → mm_L → Prop) (hQ : ∀ r I2 L2, Inv I2 L2 → Q r r I2 L2) : vc_X6_activate p v I L (fun r I1 L1 => vc_X7_activate p v I1 L1 (fun r' I2 L2 => Q r r' I2 L2)) := by
  simp only [vc_X6_activate, vc_X6_activate_0, s_within, bI_0, vc_X7_activate, vc_X7_activate_0, s_out, nar_zb hv]
  rcases in_or p (n := 6) (by decide) with ⟨j, hj, rfl⟩ | hp
  · simp only [w_t (n := 6) (b := 6) hj (by decide) rfl, o_f (n := 5) (b := 5) hj (by decide) rfl, not_true_eq_false, not_false_eq_true, forall_const, false_implies, and_true, true_and, cl_nI (show j < 2 ^ 31 by omega)]
    refine ⟨in_nI hj (by decide), hv, in_nI hj (by decide), hQ _ _ _ ?_⟩
    obtain ⟨nn, rr, hN, hO, hD, hT, hP, hR⟩ := hI
    refine ⟨nn, rr, vN_c (fun t ht => ?_) hN, vO_c ?_ ?_ hO, vD_c ?_ ?_ ?_ hD, vT_c (fun t ht => ?_) hT, fun q hq => ?_, vRn_c (fun t ht => ?_) (fun _ _ => rfl) hR⟩
    · rw [uI_ne _ _ _ (by omega), uI_ne _ _ _ (by omega)]
    · rw [uI_ne _ _ _ (by omega), uI_ne _ _ _ (by omega)]
    · rw [uI_ne _ _ _ (by omega), uI_ne _ _ _ (by omega)]
    · rw [uI_ne _ _ _ (by omega), uI_ne _ _ _ (by omega)]
    · rw [uI_ne _ _ _ (by omega), uI_ne _ _ _ (by omega)]
    · rw [uI_ne _ _ _ (by omega), uI_ne _ _ _ (by omega)]
    · rw [uI_ne _ _ _ (by omega), uI_ne _ _ _ (by omega)]
    · obtain ⟨h1, h2, h3, h4⟩ := hP q hq
      have a30 : (mm_uI (mm_uI I (24 + j) 3 v) 48 j v) (30 + q) = I (30 + q) := by rw [uI_ne _ _ _ (by omega), uI_ne _ _ _ (by omega)]
      have a47 : (mm_uI (mm_uI I (24 + j) 3 v) 48 j v) 47 = I 47 := by rw [uI_ne _ _ _ (by omega), uI_ne _ _ _ (by omega)]
      have a24 : (mm_uI (mm_uI I (24 + j) 3 v) 48 j v) (24 + q) 3 = if q = j then v else I (24 + q) 3 := by
        rw [uI_ne _ _ _ (by omega)]
        by_cases hqj : q = j
        · subst hqj
          rw [uI_at]
          simp
        · rw [uI_ne _ _ _ (by omega), if_neg hqj]
      have a48 : (mm_uI (mm_uI I (24 + j) 3 v) 48 j v) 48 q = if q = j then v else I 48 q := by rw [uI_at, uI_ne _ _ _ (by omega)]
      refine ⟨fun x hx => by rw [a30, a47]; exact h1 x hx, ?_, ?_, h4⟩
      · rw [a24]
        by_cases hqj : q = j
        · rw [if_pos hqj]; exact hv
        · rw [if_neg hqj]; exact h2
      · rw [a24, a48]
        by_cases hqj : q = j
        · rw [if_pos hqj, if_pos hqj]
        · rw [if_neg hqj, if_neg hqj]; exact h3
    · rw [uI_ne _ _ _ (by omega), uI_ne _ _ _ (by omega)]
  · simp only [w_f (n := 6) (b := 6) hp rfl, o_t (n := 5) (b := 5) hp (by decide) rfl, not_true_eq_false, not_false_eq_true, forall_const, false_implies, true_and, and_true]
    exact hQ _ _ _ hI
theorem op_clear {I : mm_I} {L : mm_L} (hI : Inv I L) (t : Int32) (Q : Int32 → Int32 → mm_I → mm_L → Prop) (hQ : ∀ r I2 L2, Inv I2 L2 → Q r r I2 L2) : vc_X6_clear t I L (fun r I1 L1 => vc_X7_clear t I1 L1 (fun r' I2 L2 => Q r r' I2 L2)) := by
  simp only [vc_X6_clear, vc_X6_clear_0, vc_X4_loseSteps, vc_X4_loseSteps_0, s_within, bI_0, vc_X7_clear, vc_X7_clear_0, s_out]
  rcases in_or t (n := 2) (by decide) with ⟨j, hj, rfl⟩ | hd
  · obtain ⟨nn, rr, hN, hO, hD, hT, hP, hR⟩ := hI
    obtain ⟨k, hk, e1, e2, -⟩ := hT j hj
    simp only [w_t (n := 2) (b := 2) hj (by decide) rfl, o_f (n := 1) (b := 1) hj (by decide) rfl, not_true_eq_false, not_false_eq_true, forall_const, false_implies, and_true, true_and, cl_nI (show j < 2 ^ 31 by omega)]
    refine ⟨in_nI hj (by decide), in_nI hj (by decide), in_nI hj (by decide), ?_⟩
    have a44 : (mm_uI I (18 + j) 2 0) 44 = I 44 := uI_ne _ _ _ (by omega)
    rw [a44, e1, e2]
    refine hQ _ _ _ ⟨nn, rr, vN_c (fun t ht => ?_) hN, vO_c ?_ ?_ hO, vD_c ?_ ?_ ?_ hD, fun q hq => ?_, vP_c (fun t ht => ?_) (fun _ _ => rfl) hP, vRn_c (fun t ht => ?_) (fun _ _ => rfl) hR⟩
    · rw [uI_ne _ _ _ (by omega), uI_ne _ _ _ (by omega)]
    · rw [uI_ne _ _ _ (by omega), uI_ne _ _ _ (by omega)]
    · rw [uI_ne _ _ _ (by omega), uI_ne _ _ _ (by omega)]
    · rw [uI_ne _ _ _ (by omega), uI_ne _ _ _ (by omega)]
    · rw [uI_ne _ _ _ (by omega), uI_ne _ _ _ (by omega)]
    · rw [uI_ne _ _ _ (by omega), uI_ne _ _ _ (by omega)]
    · by_cases hqj : q = j
      · subst hqj
        refine ⟨0, by omega, ?_, ?_, fun x hx => absurd hx (by omega)⟩
        · rw [uI_ne _ _ _ (by omega), uI_at]; simp; rfl
        · rw [uI_at]; simp; rfl
      · obtain ⟨k', hk', f1, f2, f3⟩ := hT q hq
        refine ⟨k', hk', ?_, ?_, ?_⟩
        · rw [uI_ne _ _ _ (by omega), uI_ne _ _ _ (by omega)]; exact f1
        · rw [uI_at, if_neg hqj, uI_ne _ _ _ (by omega)]; exact f2
        · rw [uI_ne _ _ _ (show 45 ≠ 44 by omega), uI_ne _ _ _ (show 45 ≠ 18 + j by omega), uI_ne _ _ _ (show 20 + q ≠ 44 by omega), uI_ne _ _ _ (show 20 + q ≠ 18 + j by omega), uI_ne _ _ _ (show 46 ≠ 44 by omega), uI_ne _ _ _ (show 46 ≠ 18 + j by omega), uI_ne _ _ _ (show 22 + q ≠ 44 by omega), uI_ne _ _ _ (show 22 + q ≠ 18 + j by omega)]
          exact f3
    · rw [uI_ne _ _ _ (by omega), uI_ne _ _ _ (by omega)]
    · rw [uI_ne _ _ _ (by omega), uI_ne _ _ _ (by omega)]
  · simp only [w_f (n := 2) (b := 2) hd rfl, o_t (n := 1) (b := 1) hd (by decide) rfl, not_true_eq_false, not_false_eq_true, forall_const, false_implies, true_and, and_true]
    exact hQ _ _ _ hI
