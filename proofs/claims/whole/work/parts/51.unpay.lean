/-! PURE: a run is taken back, the component's side -/
def u1 (L : mm_L) (r q : Nat) : Int64 := if L 15 ((r * 6 + q) * 3) = 1000000000000 then L (24 + q) 1 else L (24 + q) 1 + -(L 15 ((r * 6 + q) * 3))
def u2 (L : mm_L) (r q : Nat) : Int64 := if L 15 ((r * 6 + q) * 3) = 1000000000000 then L (24 + q) 2 else L (24 + q) 2 + -(L 15 ((r * 6 + q) * 3 + 1))
theorem s_grow (p : Nat) (x y : Int64) (I : mm_I) (L : mm_L) (Q : mm_I → mm_L → Prop) (h : ∀ L', (∀ t, t ≠ 24 + p → L' t = L t) → L' (24 + p) 1 = L (24 + p) 1 + x → L' (24 + p) 2 = L (24 + p) 2 + y → Q I L') : vc_X1_grow p x y I L Q := by
  simp only [vc_X1_grow, vc_X1_grow_0]
  refine h _ (fun t ht => ?_) ?_ ?_
  · rw [mm_uL_ne _ _ _ ht, mm_uL_ne _ _ _ ht]
  · rw [uL_at, if_neg (by decide), uL_at, if_pos rfl]
  · rw [uL_at, if_pos rfl, uL_at, if_neg (by decide)]
theorem s_unpayAll (r : Nat) (hr : r < 16) (I : mm_I) (L : mm_L) (Q : mm_I → mm_L → Prop) (h : ∀ L', (∀ t, (t < 24 ∨ 30 ≤ t) → L' t = L t) → (∀ q, q < 6 → L' (24 + q) 1 = u1 L r q ∧ L' (24 + q) 2 = u2 L r q) → Q I L') : vc_X6_unpayAll (nI r) I L Q := by
  have aux : ∀ (m i : Nat) (L1 : mm_L), i + m = 6 → (∀ t, (t < 24 ∨ 30 ≤ t) → L1 t = L t) → (∀ q, q < i → L1 (24 + q) 1 = u1 L r q ∧ L1 (24 + q) 2 = u2 L r q) → (∀ q, i ≤ q → q < 6 → L1 (24 + q) = L (24 + q)) → vc_X6_unpayAll_2 (m + 1) (nI r) (nI i) I L1 Q := by
    intro m
    induction m with
    | zero =>
      intro i L1 hi a1 a2 a3
      obtain rfl : i = 6 := by omega
      rw [vc_X6_unpayAll_2]
      exact ⟨fun _ => h L1 a1 a2, fun q => absurd (by decide) q⟩
    | succ m ih =>
      intro i L1 hi a1 a2 a3
      have a15 : L1 15 = L 15 := a1 15 (by omega)
      have ai := a3 i (Nat.le_refl i) (by omega)
      rw [vc_X6_unpayAll_2]
      refine ⟨fun q => absurd q (nI_ge (b := 6) (by omega) (by decide)), fun _ => ?_⟩
      have am0 : ∀ (I : mm_I) (L : mm_L) (Q : Int64 → mm_I → mm_L → Prop), vc_X3_amountOf (nI r) (nI i) 0 I L Q ↔ Q (L 15 ((r * 6 + i) * 3)) I L := fun I L Q => s_amountOf r i 0 hr (by omega) (by decide) I L Q
      have am1 : ∀ (I : mm_I) (L : mm_L) (Q : Int64 → mm_I → mm_L → Prop), vc_X3_amountOf (nI r) (nI i) 1 I L Q ↔ Q (L 15 ((r * 6 + i) * 3 + 1)) I L := fun I L Q => s_amountOf r i 1 hr (by omega) (by decide) I L Q
      simp only [s_hasSlip r i hr (by omega), am0, am1, bI_0, nI_1', cl_nI (show i < 2 ^ 31 by omega)]
      refine ⟨fun h1 => ?_, fun h1 => ⟨in_nI (by omega) (by decide), s_grow i _ _ I L1 _ (fun L2 b1 b2 b3 => ?_)⟩⟩
      · have h2 : L 15 ((r * 6 + i) * 3) = 1000000000000 := by
          rw [a15] at h1
          simpa using h1
        refine ih (i + 1) L1 (by omega) a1 (fun q hq => ?_) (fun q h3 h4 => a3 q (by omega) h4)
        by_cases hqi : q = i
        · subst hqi
          rw [u1, u2, if_pos h2, if_pos h2, ai]
          exact ⟨rfl, rfl⟩
        · exact a2 q (by omega)
      · have h2 : ¬ L 15 ((r * 6 + i) * 3) = 1000000000000 := by
          rw [a15] at h1
          simpa using h1
        refine ih (i + 1) L2 (by omega) (fun t ht => by rw [b1 t (by omega)]; exact a1 t ht) (fun q hq => ?_) (fun q h3 h4 => by rw [b1 _ (by omega)]; exact a3 q (by omega) h4)
        by_cases hqi : q = i
        · subst hqi
          rw [u1, u2, if_neg h2, if_neg h2, b2, b3, ai, a15]
          exact ⟨rfl, rfl⟩
        · rw [b1 _ (by omega)]
          exact a2 q (by omega)
  exact ⟨7, aux 6 0 L rfl (fun _ _ => rfl) (fun q hq => absurd hq (by omega)) (fun _ _ _ => rfl)⟩
