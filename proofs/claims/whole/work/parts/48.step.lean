/-! PURE: one node, both sides -/
theorem v_i (x : Int32) : vV x.toInt64 := Or.inl (by
  rw [kI_t, Int32.toInt_toInt64]
  have h1 := Int32.toInt_lt x
  have h2 := Int32.le_toInt x
  omega)
theorem st_same {I : mm_I} {L : mm_L} {p n nn : Nat} {W D : Nat → Int64} (hn : n < nn) (hN : vN I nn) (hD : vD I nn) (hT : vT I) (hP : vP1 I L p) (p1 : kI (L (24 + p) 1) = true) (p2 : kI (L (24 + p) 2) = true) (hW : ∀ m, m < nn → ky I m < ky I n → vV (W m)) (hDf : ∀ a, a < 8 → a + 1 ≤ rk I n → D a = dW I W a) : stM I L p W D n = stC I L p W n ∧ vV (stC I L p W n) := by
  have hnn := hN.1
  have hn70 : n < 70 := by omega
  obtain ⟨ok, -⟩ := hN.2.2.2 n hn
  obtain ⟨k, hk, ek, oA, o17, oB, oC, o1, o2, o3, -, -⟩ := ok
  have e : (I 3 n).toNatClampNeg = k := by rw [ek]; exact cl_nI (by omega)
  unfold stM stC
  rw [e]
  have w : ∀ x, nd I n x → vV (W x.toNatClampNeg) := by
    intro x h
    obtain ⟨a, ha, rfl, hky⟩ := nd_ky h
    rw [cl_nI (show a < 2 ^ 31 by omega)]
    exact hW a (by omega) hky
  by_cases h410 : 4 ≤ k ∧ k ≤ 10
  · have wa := w _ (oA (by omega))
    have wb := w _ (oB (by omega))
    have n11 : ¬ I 3 n = 11 := fun q => by
      rw [ek] at q
      have := (nI_eq (b := 11) (by omega) (by decide)).mp q
      omega
    have n12 : ¬ I 3 n = 12 := fun q => by
      rw [ek] at q
      have := (nI_eq (b := 12) (by omega) (by decide)).mp q
      omega
    obtain rfl | rfl | rfl | rfl | rfl | rfl | rfl : k = 4 ∨ k = 5 ∨ k = 6 ∨ k = 7 ∨ k = 8 ∨ k = 9 ∨ k = 10 := by omega
    all_goals (simp only [stMK, stK]; exact ⟨e_two wa wb n11 n12, v_two wa wb⟩)
  · obtain rfl | rfl | rfl | rfl | rfl | rfl | rfl | rfl | rfl | rfl | rfl | rfl | rfl : k = 0 ∨ k = 1 ∨ k = 2 ∨ k = 3 ∨ k = 11 ∨ k = 12 ∨ k = 13 ∨ k = 14 ∨ k = 15 ∨ k = 16 ∨ k = 17 ∨ k = 18 ∨ k = 19 := by omega
    · simp only [stMK, stK]
      exact ⟨trivial, v_i _⟩
    · obtain ⟨a, ha, ea⟩ := o1 rfl
      simp only [stMK, stK]
      rw [ea, cl_nI (show a < 2 ^ 31 by omega), hP.1 a ha]
      exact ⟨rfl, v_i _⟩
    · obtain ⟨a, ha, ea, hr⟩ := o2 rfl
      simp only [stMK, stK]
      rw [ea, cl_nI (show a < 2 ^ 31 by omega), hDf a ha hr]
      refine ⟨rfl, ?_⟩
      unfold dW
      split
      · exact vV_E
      · rename_i q
        rcases (hD a ha).2 with z | ⟨m, hm, z, hrm⟩
        · exact absurd z q
        · rw [z, cl_nI (show m < 2 ^ 31 by omega)]
          exact hW m hm (by unfold ky; omega)
    · obtain ⟨a, ha, ea⟩ := o3 (Or.inl rfl)
      simp only [stMK, stK]
      rw [ea, cl_nI (show a < 2 ^ 31 by omega)]
      rcases (show a = 0 ∨ a = 1 by omega) with rfl | rfl
      · rw [if_pos nI_0, Nat.add_zero, hP.2.2.2.1]
        exact ⟨rfl, Or.inl p1⟩
      · rw [if_neg (by decide), hP.2.2.2.2]
        exact ⟨rfl, Or.inl p2⟩
    · have wa := w _ (oA (by omega))
      have wb := w _ (oB (by omega))
      have wc := w _ (oC (by omega))
      simp only [stMK, stK]
      exact ⟨e_share wa wb wc, v_share wa wb wc⟩
    · have wa := w _ (oA (by omega))
      simp only [stMK, stK]
      exact ⟨e_not wa, v_not wa⟩
    · have wa := w _ (oA (by omega))
      have wb := w _ (oB (by omega))
      simp only [stMK, stK]
      exact ⟨e_13 wa wb, v_both wa wb⟩
    · have wa := w _ (oA (by omega))
      have wb := w _ (oB (by omega))
      simp only [stMK, stK]
      exact ⟨e_14 wa wb, v_any wa wb⟩
    · have wa := w _ (oA (by omega))
      have wb := w _ (oB (by omega))
      have wc := w _ (oC (by omega))
      simp only [stMK, stK]
      exact ⟨e_15 wa, v_if wa wb wc⟩
    · simp only [stMK, stK]
      exact ⟨trivial, vV_E⟩
    · have wb := w _ (oB (by omega))
      have wc := w _ (oC (by omega))
      have wx : vV (if I 4 n = -1 then 1000000000001 else W (I 4 n).toNatClampNeg) := by
        split
        · exact vV_E
        · rename_i q
          exact w _ ((o17 rfl).elim (fun z => absurd z q) id)
      simp only [stMK, stK]
      exact ⟨e_17 wb, v_def wx wb wc⟩
    · have wa := w _ (oA (by omega))
      have wb := w _ (oB (by omega))
      simp only [stMK, stK]
      exact ⟨e_18 wa wb, v_also wa wb⟩
    · obtain ⟨a, ha, ea⟩ := o3 (Or.inr rfl)
      have wb := w _ (oB (by omega))
      simp only [stMK, stK]
      rw [ea, cl_nI (show a < 2 ^ 31 by omega)]
      exact e_scale (hT a ha) wb
