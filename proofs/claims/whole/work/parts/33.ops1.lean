/-! PURE: the small calls, both sides -/
theorem uI_ne (I : mm_I) {t t' : Nat} (k : Nat) (v : Int32) (h : t' ≠ t) : mm_uI I t k v t' = I t' := mm_uI_ne I k v h
theorem uI_at (I : mm_I) (t k : Nat) (v : Int32) (j : Nat) : mm_uI I t k v t j = if j = k then v else I t j := by
  rw [mm_uI_at]
  rfl
theorem uL_at (L : mm_L) (t k : Nat) (v : Int64) (j : Nat) : mm_uL L t k v t j = if j = k then v else L t j := by
  rw [mm_uL_at]
  rfl
theorem op_undefine {I : mm_I} {L : mm_L} (hI : Inv I L) (d : Int32) (Q : Int32 → Int32 → mm_I → mm_L → Prop) (hQ : ∀ r I2 L2, Inv I2 L2 → Q r r I2 L2) : vc_X6_undefine d I L (fun r I1 L1 => vc_X7_undefine d I1 L1 (fun r' I2 L2 => Q r r' I2 L2)) := by
  simp only [vc_X6_undefine, vc_X6_undefine_0, s_within, bI_0, vc_X7_undefine, vc_X7_undefine_0, s_out]
  rcases in_or d (n := 8) (by decide) with ⟨j, hj, rfl⟩ | hd
  · simp only [w_t (n := 8) (b := 8) hj (by decide) rfl, o_f (n := 7) (b := 7) hj (by decide) rfl, not_true_eq_false, not_false_eq_true, forall_const, false_implies, and_true, cl_nI (show j < 2 ^ 31 by omega)]
    refine ⟨in_nI hj (by decide), in_nI hj (by decide), hQ _ _ _ ?_⟩
    obtain ⟨nn, rr, hN, hO, hD, hT, hP, hR⟩ := hI
    refine ⟨nn, rr, vN_c (fun t ht => ?_) hN, vO_c ?_ ?_ hO, fun k hk => ?_, vT_c (fun t ht => ?_) hT, vP_c (fun t ht => ?_) (fun _ _ => rfl) hP, vRn_c (fun t ht => ?_) (fun _ _ => rfl) hR⟩
    · rw [uI_ne _ _ _ (by omega), uI_ne _ _ _ (by omega)]
    · rw [uI_ne _ _ _ (by omega), uI_ne _ _ _ (by omega)]
    · rw [uI_ne _ _ _ (by omega), uI_ne _ _ _ (by omega)]
    · have e8 : (mm_uI (mm_uI I 10 j (-1)) 43 j (-1)) 8 = I 8 := by rw [uI_ne _ _ _ (by omega), uI_ne _ _ _ (by omega)]
      have e10 : (mm_uI (mm_uI I 10 j (-1)) 43 j (-1)) 10 k = if k = j then -1 else I 10 k := by rw [uI_ne _ _ _ (by omega), uI_at]
      have e43 : (mm_uI (mm_uI I 10 j (-1)) 43 j (-1)) 43 k = if k = j then -1 else I 43 k := by rw [uI_at, uI_ne _ _ _ (by omega)]
      unfold rk
      rw [e8, e10, e43]
      by_cases hkj : k = j
      · simp [hkj]
      · simp only [hkj, if_false]
        exact hD k hk
    · rw [uI_ne _ _ _ (by omega), uI_ne _ _ _ (by omega)]
    · rw [uI_ne _ _ _ (by omega), uI_ne _ _ _ (by omega)]
    · rw [uI_ne _ _ _ (by omega), uI_ne _ _ _ (by omega)]
  · simp only [w_f (n := 8) (b := 8) hd rfl, o_t (n := 7) (b := 7) hd (by decide) rfl, not_true_eq_false, not_false_eq_true, forall_const, false_implies, true_and]
    exact hQ _ _ _ hI
theorem op_define {I : mm_I} {L : mm_L} (hI : Inv I L) (d n : Int32) (Q : Int32 → Int32 → mm_I → mm_L → Prop) (hQ : ∀ r I2 L2, Inv I2 L2 → Q r r I2 L2) : vc_X6_define d n I L (fun r I1 L1 => vc_X7_define d n I1 L1 (fun r' I2 L2 => Q r r' I2 L2)) := by
  obtain ⟨nn, rr, hN, hO, hD, hT, hP, hR⟩ := id hI
  have hn70 := hN.1
  have e27 : I 2 7 = nI nn := hN.2.1
  have e360 : I 36 0 = nI nn := hN.2.2.1
  simp only [vc_X6_define, vc_X6_define_0, s_within, s_has, bI_0, vc_X7_define, vc_X7_define_0, s_out, s_isNode]
  rcases in_or d (n := 8) (by decide) with ⟨j, hj, rfl⟩ | hd
  · simp only [w_t (n := 8) (b := 8) hj (by decide) rfl, o_f (n := 7) (b := 7) hj (by decide) rfl, not_true_eq_false, not_false_eq_true, forall_const, false_implies, and_true, true_and]
    rcases in_or n (n := nn) (by omega) with ⟨m, hm, rfl⟩ | hn
    · have em : I 42 m = I 8 m := (hN.2.2.2 m hm).2.2.2.2.2.2
      obtain ⟨r, hr, er⟩ : ∃ r, r ≤ 8 ∧ I 8 m = nI r := by
        obtain ⟨k, -, -, -, -, -, -, -, -, -, -, h⟩ := (hN.2.2.2 m hm).1
        exact h
      have ek : rk I m = r := by unfold rk; rw [er]; exact cl_nI (by omega)
      simp only [w_t (n := nn) (b := I 2 7) hm (by omega) e27, not_true_eq_false, not_false_eq_true, forall_const, false_implies, and_true, true_and, cl_nI (show m < 2 ^ 31 by omega), cl_nI (show j < 2 ^ 31 by omega)]
      refine ⟨in_nI (by omega) (by decide), fun hle => ?_, fun hle => ?_⟩
      · refine ⟨in_nI hj (by decide), ?_⟩
        have u36 : (mm_uI I 10 j (nI m)) 36 = I 36 := uI_ne _ _ _ (by omega)
        have u42 : (mm_uI I 10 j (nI m)) 42 = I 42 := uI_ne _ _ _ (by omega)
        rw [u36, u42]
        simp only [w_t (n := nn) (b := I 36 0) hm (by omega) e360, not_true_eq_false, not_false_eq_true, forall_const, false_implies, and_true, true_and]
        rw [em]
        refine ⟨in_nI (by omega) (by decide), fun _ => ⟨in_nI hj (by decide), hQ _ _ _ ?_⟩, fun q => absurd hle q⟩
        have hrj : r ≤ j := by
          rw [er] at hle
          exact (nI_leI (by omega) (by omega)).mp hle
        refine ⟨nn, rr, vN_c (fun t ht => ?_) hN, vO_c ?_ ?_ hO, fun k hk => ?_, vT_c (fun t ht => ?_) hT, vP_c (fun t ht => ?_) (fun _ _ => rfl) hP, vRn_c (fun t ht => ?_) (fun _ _ => rfl) hR⟩
        · rw [uI_ne _ _ _ (by omega), uI_ne _ _ _ (by omega)]
        · rw [uI_ne _ _ _ (by omega), uI_ne _ _ _ (by omega)]
        · rw [uI_ne _ _ _ (by omega), uI_ne _ _ _ (by omega)]
        · have e8 : (mm_uI (mm_uI I 10 j (nI m)) 43 j (nI m)) 8 = I 8 := by rw [uI_ne _ _ _ (by omega), uI_ne _ _ _ (by omega)]
          have e10 : (mm_uI (mm_uI I 10 j (nI m)) 43 j (nI m)) 10 k = if k = j then nI m else I 10 k := by rw [uI_ne _ _ _ (by omega), uI_at]
          have e43 : (mm_uI (mm_uI I 10 j (nI m)) 43 j (nI m)) 43 k = if k = j then nI m else I 43 k := by rw [uI_at, uI_ne _ _ _ (by omega)]
          have hrk : rk (mm_uI (mm_uI I 10 j (nI m)) 43 j (nI m)) m = r := by
            have : rk (mm_uI (mm_uI I 10 j (nI m)) 43 j (nI m)) m = rk I m := by unfold rk; rw [e8]
            rw [this, ek]
          rw [e10, e43]
          by_cases hkj : k = j
          · simp only [hkj, if_true]
            exact ⟨trivial, Or.inr ⟨m, hm, rfl, by rw [hrk]; exact hrj⟩⟩
          · simp only [hkj, if_false]
            have := hD k hk
            unfold rk at this ⊢
            rw [e8]
            exact this
        · rw [uI_ne _ _ _ (by omega), uI_ne _ _ _ (by omega)]
        · rw [uI_ne _ _ _ (by omega), uI_ne _ _ _ (by omega)]
        · rw [uI_ne _ _ _ (by omega), uI_ne _ _ _ (by omega)]
      · simp only [w_t (n := nn) (b := I 36 0) hm (by omega) e360, not_true_eq_false, not_false_eq_true, forall_const, false_implies, and_true, true_and]
        rw [em]
        exact ⟨in_nI (by omega) (by decide), fun q => absurd q hle, fun _ => hQ _ _ _ hI⟩
    · simp only [w_f (n := nn) (b := I 2 7) hn e27, w_f (n := nn) (b := I 36 0) hn e360, not_true_eq_false, not_false_eq_true, forall_const, false_implies, and_true, true_and]
      exact hQ _ _ _ hI
  · simp only [w_f (n := 8) (b := 8) hd rfl, o_t (n := 7) (b := 7) hd (by decide) rfl, not_true_eq_false, not_false_eq_true, forall_const, false_implies, true_and, and_true]
    exact hQ _ _ _ hI
