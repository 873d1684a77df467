/-! PURE: the component's pass: what it leaves is a fixpoint of the step -/
theorem rgn {N i : Nat} {b : Int32} (hb : b = nI N) (hN : N < 2 ^ 31) (hi : i < 2 ^ 31) {A B : Prop} (h1 : N ≤ i → A) (h2 : i < N → B) : (b ≤ nI i → A) ∧ (¬ b ≤ nI i → B) := by
  rw [hb]
  refine ⟨fun q => h1 ((nI_leI hN hi).mp q), fun q => h2 ?_⟩
  rcases Nat.lt_or_ge i N with z | z
  · exact z
  · exact absurd (nI_le z hi) q
theorem nd_ky {I : mm_I} {n : Nat} {x : Int32} (h : nd I n x) : ∃ a, a < n ∧ x = nI a ∧ ky I a < ky I n := by
  obtain ⟨a, ha, e, hr⟩ := h
  exact ⟨a, ha, e, by unfold ky; omega⟩
theorem stC_c {I : mm_I} {L L' : mm_L} {p n nn : Nat} {W W' : Nat → Int64} (hn : n < nn) (hnn : nn ≤ 70) (ok : nOK I n) (hD : vD I nn) (hL : L' (24 + p) = L (24 + p)) (hW : ∀ m, m < nn → ky I m < ky I n → W' m = W m) : stC I L' p W' n = stC I L p W n := by
  obtain ⟨k, hk, ek, oA, o17, oB, oC, o1, o2, o3, -, -⟩ := ok
  have e : (I 3 n).toNatClampNeg = k := by rw [ek]; exact cl_nI (by omega)
  unfold stC
  rw [e]
  have w : ∀ x, nd I n x → W' x.toNatClampNeg = W x.toNatClampNeg := by
    intro x h
    obtain ⟨a, ha, rfl, hky⟩ := nd_ky h
    rw [cl_nI (show a < 2 ^ 31 by omega)]
    exact hW a (by omega) hky
  have two : (4 ≤ k ∧ k ≤ 10) → stK I L' p W' n k = stK I L p W n k := by
    intro h
    have wa := w _ (oA (by omega))
    have wb := w _ (oB (by omega))
    have t1 : ∀ (L : mm_L) (W : Nat → Int64), stK I L p W n k = vTwo (I 3 n) (W (I 4 n).toNatClampNeg) (W (I 5 n).toNatClampNeg) := by
      intro L W
      obtain rfl | rfl | rfl | rfl | rfl | rfl | rfl : k = 4 ∨ k = 5 ∨ k = 6 ∨ k = 7 ∨ k = 8 ∨ k = 9 ∨ k = 10 := by omega
      all_goals rfl
    rw [t1, t1, wa, wb]
  by_cases h410 : 4 ≤ k ∧ k ≤ 10
  · exact two h410
  · obtain rfl | rfl | rfl | rfl | rfl | rfl | rfl | rfl | rfl | rfl | rfl | rfl | rfl : k = 0 ∨ k = 1 ∨ k = 2 ∨ k = 3 ∨ k = 11 ∨ k = 12 ∨ k = 13 ∨ k = 14 ∨ k = 15 ∨ k = 16 ∨ k = 17 ∨ k = 18 ∨ k = 19 := by omega
    · simp only [stK]
    · simp only [stK]
    · obtain ⟨a, ha, ea, hr⟩ := o2 rfl
      simp only [stK]
      rw [ea, cl_nI (show a < 2 ^ 31 by omega)]
      unfold dW
      rcases (hD a ha).2 with z | ⟨m, hm, z, hrm⟩
      · rw [if_pos z, if_pos z]
      · split
        · simp only [stK]
        · rw [z, cl_nI (show m < 2 ^ 31 by omega)]
          exact hW m hm (by unfold ky; omega)
    · simp only [stK]
      rw [hL]
    · simp only [stK]
      rw [w _ (oA (by omega)), w _ (oB (by omega)), w _ (oC (by omega))]
    · simp only [stK]
      rw [w _ (oA (by omega))]
    · simp only [stK]
      rw [w _ (oA (by omega)), w _ (oB (by omega))]
    · simp only [stK]
      rw [w _ (oA (by omega)), w _ (oB (by omega))]
    · simp only [stK]
      rw [w _ (oA (by omega)), w _ (oB (by omega)), w _ (oC (by omega))]
    · simp only [stK]
    · simp only [stK]
      rw [w _ (oB (by omega)), w _ (oC (by omega))]
      rcases o17 rfl with z | z
      · rw [if_pos z, if_pos z]
      · rw [w _ z]
    · simp only [stK]
      rw [w _ (oA (by omega)), w _ (oB (by omega))]
    · simp only [stK]
      rw [w _ (oB (by omega))]
theorem s_workOutFor {I : mm_I} {L : mm_L} {p nn : Nat} (hp : p < 6) (hN : vN I nn) (hO : vO I nn) (hD : vD I nn) (hT : vT I) (Q : mm_I → mm_L → Prop) (h : ∀ L', (∀ t, t ≠ 12 → L' t = L t) → (∀ n, n < nn → L' 12 n = stC I L p (L' 12) n) → Q I L') : vc_X2_workOutFor p I L Q := by
  obtain ⟨hnn, e27, -, hok⟩ := hN
  obtain ⟨o, ho1, ho2, ho3⟩ := hO
  have inj : ∀ i j, i < nn → j < nn → o i = o j → i = j := by
    intro i j hi hj q
    rcases Nat.lt_trichotomy i j with z | z | z
    · have := ho2 i j z hj
      rw [q] at this
      omega
    · exact z
    · have := ho2 j i z hi
      rw [q] at this
      omega
  have aux : ∀ (m i : Nat) (L1 : mm_L), i + m = nn → (∀ t, t ≠ 12 → L1 t = L t) → (∀ j, j < i → L1 12 (o j) = stC I L p (L1 12) (o j)) → vc_X2_workOutFor_2 (m + 1) p (nI i) I L1 Q := by
    intro m
    induction m with
    | zero =>
      intro i L1 hi h1 h2
      obtain rfl : i = nn := by omega
      rw [vc_X2_workOutFor_2]
      refine rgn e27 (by omega) (by omega) (fun _ => h L1 h1 (fun n hn => ?_)) (fun q => absurd q (by omega))
      obtain ⟨j, hj, rfl⟩ := ho3 n hn
      exact h2 j hj
    | succ m ih =>
      intro i L1 hi h1 h2
      rw [vc_X2_workOutFor_2]
      refine rgn e27 (by omega) (by omega) (fun q => absurd q (by omega)) (fun _ => ?_)
      have hoi := ho1 i (by omega)
      have hb70 : o i < 70 := by omega
      simp only [cl_nI (show i < 2 ^ 31 by omega), hoi.2, cl_nI (show o i < 2 ^ 31 by omega), nI_1']
      refine ⟨in_nI (by omega) (by decide), s_workedOut hb70 hp (hok (o i) hoi.1).1 hD hnn hT _ ⟨in_nI hb70 (by decide), ?_⟩⟩
      have ev : stC I L1 p (L1 12) (o i) = stC I L p (L1 12) (o i) := stC_c hoi.1 hnn (hok (o i) hoi.1).1 hD (h1 (24 + p) (by omega)) (fun _ _ _ => rfl)
      refine ih (i + 1) _ (by omega) (fun t ht => ?_) (fun j hj => ?_)
      · rw [mm_uL_ne _ _ _ ht]
        exact h1 t ht
      · have up : ∀ x, (mm_uL L1 12 (o i) (stC I L1 p (L1 12) (o i))) 12 x = if x = o i then stC I L1 p (L1 12) (o i) else L1 12 x := fun x => uL_at _ _ _ _ _
        have hlt : ∀ j, j ≤ i → ∀ m, m < nn → ky I m < ky I (o j) → (mm_uL L1 12 (o i) (stC I L1 p (L1 12) (o i))) 12 m = L1 12 m := by
          intro j hj m hm hky
          rw [up, if_neg]
          intro q
          subst q
          rcases Nat.lt_or_ge j i with z | z
          · have := ho2 j i z (by omega)
            omega
          · obtain rfl : j = i := by omega
            omega
        have hoj := ho1 j (by omega)
        rw [stC_c (L := L) (L' := L) (W := L1 12) hoj.1 hnn (hok (o j) hoj.1).1 hD rfl (hlt j (by omega)), up]
        by_cases q : o j = o i
        · have hji := inj j i (by omega) (by omega) q
          subst hji
          rw [if_pos rfl, ev]
        · rw [if_neg q]
          have hji : j < i := by
            rcases Nat.lt_or_ge j i with z | z
            · exact z
            · obtain rfl : j = i := by omega
              exact absurd rfl q
          exact h2 j hji
  exact ⟨nn + 1, aux nn 0 L (by omega) (fun _ _ => rfl) (fun j hj => absurd hj (by omega))⟩
