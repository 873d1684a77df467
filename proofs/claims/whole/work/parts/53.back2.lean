/-! PURE: back -/
theorem s_takeBack (r : Nat) (hr : r < 16) (I : mm_I) (L : mm_L) (Q : mm_I → mm_L → Prop) (h : ∀ L', (∀ t, t ≠ 53 → L' t = L t) → (∀ q, q < 6 → L' 53 (q * 2) = t1 I L r q 0 ∧ L' 53 (q * 2 + 1) = t1 I L r q 1) → Q (mm_uI I 49 r 1) L') : vc_X7_takeBack (nI r) I L Q := by
  have nb : vp_nar .boolean 1 = 1 := by decide
  have i50 : (mm_uI I 49 r 1) 50 = I 50 := uI_ne _ _ _ (by decide)
  have aux : ∀ (m i : Nat) (L1 : mm_L), i + m = 6 → (∀ t, t ≠ 53 → L1 t = L t) → (∀ q, q < i → L1 53 (q * 2) = t1 I L r q 0 ∧ L1 53 (q * 2 + 1) = t1 I L r q 1) → (∀ x, i * 2 ≤ x → L1 53 x = L 53 x) → vc_X7_takeBack_9 (m + 1) (nI r) (nI i) (mm_uI I 49 r 1) L1 Q := by
    intro m
    induction m with
    | zero =>
      intro i L1 hi a1 a2 a3
      obtain rfl : i = 6 := by omega
      rw [vc_X7_takeBack_9]
      exact ⟨fun _ => h L1 a1 a2, fun q => absurd (by decide) q⟩
    | succ m ih =>
      intro i L1 hi a1 a2 a3
      rw [vc_X7_takeBack_9]
      refine ⟨fun q => absurd q (nI_ge (b := 6) (by omega) (by decide)), fun _ => ?_⟩
      refine s_tb17 r i hr (by omega) _ L1 Q _ (fun L2 b1 b2 b3 b4 => ?_)
      rw [nI_1']
      refine ih (i + 1) L2 (by omega) (fun t ht => (b1 t ht).trans (a1 t ht)) (fun q hq => ?_) (fun x hx => (b2 x (by omega) (by omega)).trans (a3 x (by omega)))
      by_cases hqi : q = i
      · subst hqi
        have a52 : L1 52 = L 52 := a1 52 (by decide)
        rw [b3, b4]
        unfold t1
        rw [i50, a52, a3 (q * 2 + 0) (by omega), a3 (q * 2 + 1) (by omega)]
        exact ⟨rfl, rfl⟩
      · rw [b2 _ (by omega) (by omega), b2 _ (by omega) (by omega)]
        exact a2 q (by omega)
  simp only [vc_X7_takeBack, vc_X7_takeBack_0, cl_nI (show r < 2 ^ 31 by omega), nb]
  exact ⟨in_nI hr (by decide), 7, aux 6 0 L rfl (fun _ _ => rfl) (fun q hq => absurd hq (by omega)) (fun _ _ => rfl)⟩
/-- what taking a run back does to PAID, both sides alike -/
theorem tb_eq {I : mm_I} {L : mm_L} {r q : Nat} (hS : vS1 I L r q) (hP : vP1 I L q) : t1 I L r q 0 = u1 L r q ∧ t1 I L r q 1 = u2 L r q := by
  obtain ⟨-, -, -, h4, h5⟩ := hP
  unfold t1 u1 u2
  rcases hS.2 with z | z
  · have z0 := z.2 0 (by decide)
    rw [Nat.add_zero] at z0
    rw [if_pos z.1, if_pos z.1, if_pos z0, if_pos z0, Nat.add_zero, h4, h5]
    exact ⟨rfl, rfl⟩
  · have n1 : ¬ I 50 (r * 6 + q) = 0 := by rw [z.1]; decide
    have w0 := z.2.2 0 (by decide)
    have w1 := z.2.2 1 (by decide)
    rw [if_neg n1, if_neg n1, if_neg z.2.1, if_neg z.2.1, w0, w1, Nat.add_zero, Nat.add_zero, h4, h5, Int64.sub_eq_add_neg, Int64.sub_eq_add_neg]
    exact ⟨rfl, rfl⟩
