/-! PURE: all calls, one after another -/
theorem lt5 {LN i : Nat} (hL : LN ≤ 2560) (hi : i ≤ 2600) : ((Int32.ofNat LN) - 5) < nI i ↔ LN < i + 5 := by
  have h1 : (Int32.ofNat LN).toInt = (LN : Int) := nI_toInt (by omega)
  have h5 : (5 : Int32).toInt = 5 := by decide
  rw [Int32.lt_iff_toInt_lt, Int32.toInt_sub, h1, h5, nI_toInt (by omega), Int.bmod_eq_of_le (by omega) (by omega)]
  omega
theorem law_all (LN : Nat) (xs : Nat → Int32) (hL : LN ≤ 2560) : ∀ (m i : Nat) (I : mm_I) (L : mm_L), LN ≤ i + 5 * m → i ≤ 2600 → Inv I L → vc_L_law LN xs (m + 1) (nI i) I L := by
  intro m
  induction m with
  | zero =>
    intro i I L hm hi hI
    rw [vc_L_law]
    exact ⟨fun _ => trivial, fun q => absurd ((lt5 hL hi).mpr (by omega)) q⟩
  | succ m ih =>
    intro i I L hm hi hI
    rw [vc_L_law]
    refine ⟨fun _ => trivial, fun q => ?_⟩
    have hi5 : i + 5 ≤ LN := by
      rcases Nat.lt_or_ge LN (i + 5) with z | z
      · exact absurd ((lt5 hL hi).mpr z) q
      · exact z
    have nx : ∀ I2 L2, Inv I2 L2 → vc_L_law LN xs (m + 1) (nI (i + 5)) I2 L2 := fun I2 L2 h => ih (i + 5) I2 L2 (by omega) (by omega) h
    have e2 : nI i + 2 = nI (i + 2) := nI_add i 2
    have e3 : nI i + 3 = nI (i + 3) := nI_add i 3
    have e4 : nI i + 4 = nI (i + 4) := nI_add i 4
    have e5 : nI i + 5 = nI (i + 5) := nI_add i 5
    have h0 : vp_in (nI i) LN := in_nI (by omega) (by omega)
    have h1 : vp_in (nI (i + 1)) LN := in_nI (by omega) (by omega)
    have h2 : vp_in (nI (i + 2)) LN := in_nI (by omega) (by omega)
    have h3 : vp_in (nI (i + 3)) LN := in_nI (by omega) (by omega)
    have h4 : vp_in (nI (i + 4)) LN := in_nI (by omega) (by omega)
    simp only [nI_1', e2, e3, e4, e5, h0, h1, h2, h3, h4, true_and, cl_nI (show i < 2 ^ 31 by omega), cl_nI (show i + 1 < 2 ^ 31 by omega), cl_nI (show i + 2 < 2 ^ 31 by omega), cl_nI (show i + 3 < 2 ^ 31 by omega), cl_nI (show i + 4 < 2 ^ 31 by omega)]
    refine ⟨fun _ => nx I L hI, fun _ => ?_, fun _ => ?_, fun _ => ?_, fun _ => ?_, fun _ => ?_, fun _ => ?_, fun _ => ?_, fun _ => ?_, fun _ => ?_, fun _ => ?_, fun _ => ?_, fun _ => ?_, fun _ => ?_, fun _ => ?_, fun _ => ?_, fun _ => ?_⟩
    · exact op_node hI _ _ _ _ (fun r r' I2 L2 => (r = r' → vc_L_law LN xs (m + 1) (nI (i + 5)) I2 L2) ∧ (¬ r = r' → False)) (fun r I2 L2 h => ⟨fun _ => nx I2 L2 h, fun q => q rfl⟩)
    · exact op_define hI _ _ (fun r r' I2 L2 => (r = r' → vc_L_law LN xs (m + 1) (nI (i + 5)) I2 L2) ∧ (¬ r = r' → False)) (fun r I2 L2 h => ⟨fun _ => nx I2 L2 h, fun q => q rfl⟩)
    · exact op_undefine hI _ (fun r r' I2 L2 => (r = r' → vc_L_law LN xs (m + 1) (nI (i + 5)) I2 L2) ∧ (¬ r = r' → False)) (fun r I2 L2 h => ⟨fun _ => nx I2 L2 h, fun q => q rfl⟩)
    · exact op_step hI _ _ _ (fun r r' I2 L2 => (r = r' → vc_L_law LN xs (m + 1) (nI (i + 5)) I2 L2) ∧ (¬ r = r' → False)) (fun r I2 L2 h => ⟨fun _ => nx I2 L2 h, fun q => q rfl⟩)
    · exact op_clear hI _ (fun r r' I2 L2 => (r = r' → vc_L_law LN xs (m + 1) (nI (i + 5)) I2 L2) ∧ (¬ r = r' → False)) (fun r I2 L2 h => ⟨fun _ => nx I2 L2 h, fun q => q rfl⟩)
    · exact op_input hI _ _ _ (fun r r' I2 L2 => (r = r' → vc_L_law LN xs (m + 1) (nI (i + 5)) I2 L2) ∧ (¬ r = r' → False)) (fun r I2 L2 h => ⟨fun _ => nx I2 L2 h, fun q => q rfl⟩)
    · refine ⟨fun z => ?_, fun z => ?_⟩
      · simp only [eq_true z, not_true_eq_false, forall_const, false_implies, and_true]
        exact op_activate hI _ _ (Or.inl rfl) (fun r r' I2 L2 => (r = r' → vc_L_law LN xs (m + 1) (nI (i + 5)) I2 L2) ∧ (¬ r = r' → False)) (fun r I2 L2 h => ⟨fun _ => nx I2 L2 h, fun q => q rfl⟩)
      · simp only [eq_false z, not_false_eq_true, forall_const, false_implies, true_and]
        exact op_activate hI _ _ (Or.inr rfl) (fun r r' I2 L2 => (r = r' → vc_L_law LN xs (m + 1) (nI (i + 5)) I2 L2) ∧ (¬ r = r' → False)) (fun r I2 L2 h => ⟨fun _ => nx I2 L2 h, fun q => q rfl⟩)
    · exact op_value hI _ _ (fun r r' I2 L2 => (r = r' → vc_L_law LN xs (m + 1) (nI (i + 5)) I2 L2) ∧ (¬ r = r' → False)) (fun r I2 L2 h => ⟨fun _ => nx I2 L2 h, fun q => q rfl⟩)
    · exact op_pay hI (fun r r' I2 L2 => (r = r' → vc_L_law LN xs (m + 1) (nI (i + 5)) I2 L2) ∧ (¬ r = r' → False)) (fun r I2 L2 h => ⟨fun _ => nx I2 L2 h, fun q => q rfl⟩)
    · exact op_back hI _ (fun r r' I2 L2 => (r = r' → vc_L_law LN xs (m + 1) (nI (i + 5)) I2 L2) ∧ (¬ r = r' → False)) (fun r I2 L2 h => ⟨fun _ => nx I2 L2 h, fun q => q rfl⟩)
    · exact op_again hI _ (fun r r' I2 L2 => (r = r' → vc_L_law LN xs (m + 1) (nI (i + 5)) I2 L2) ∧ (¬ r = r' → False)) (fun r I2 L2 h => ⟨fun _ => nx I2 L2 h, fun q => q rfl⟩)
    · exact op_slip hI _ _ _ (fun r r' I2 L2 => (r = r' → vc_L_law LN xs (m + 1) (nI (i + 5)) I2 L2) ∧ (¬ r = r' → False)) (fun r I2 L2 h => ⟨fun _ => nx I2 L2 h, fun q => q rfl⟩)
    · exact op_held hI _ _ (fun r r' I2 L2 => (r = r' → vc_L_law LN xs (m + 1) (nI (i + 5)) I2 L2) ∧ (¬ r = r' → False)) (fun r I2 L2 h => ⟨fun _ => nx I2 L2 h, fun q => q rfl⟩)
    · exact op_account hI _ (fun r r' I2 L2 => (r = r' → vc_L_law LN xs (m + 1) (nI (i + 5)) I2 L2) ∧ (¬ r = r' → False)) (fun r I2 L2 h => ⟨fun _ => nx I2 L2 h, fun q => q rfl⟩)
    · exact op_paid hI _ _ (fun r r' I2 L2 => (r = r' → vc_L_law LN xs (m + 1) (nI (i + 5)) I2 L2) ∧ (¬ r = r' → False)) (fun r I2 L2 h => ⟨fun _ => nx I2 L2 h, fun q => q rfl⟩)
    · exact op_count hI _ (fun r r' I2 L2 => (r = r' → vc_L_law LN xs (m + 1) (nI (i + 5)) I2 L2) ∧ (¬ r = r' → False)) (fun r I2 L2 h => ⟨fun _ => nx I2 L2 h, fun q => q rfl⟩)
theorem law_ok (LN : Nat) (xs : Nat → Int32) (hL : LN ≤ 2560) : ∃ n, vc_L_law LN xs n 0 mm_I0 mm_L0 := ⟨LN + 1, law_all LN xs hL LN 0 mm_I0 mm_L0 (by omega) (by omega) Inv_0⟩
