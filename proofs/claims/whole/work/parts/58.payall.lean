/-! PURE: pay, both sides -/
theorem s_mpayAll {I : mm_I} {R Ls : mm_L} {r nn : Nat} {W : Nat → Nat → Int64} (hr : r < 16) (hN : vN I nn) (hD : vD I nn) (hT : vT I) (hA : ∀ p, p < 6 → (∀ i, i < 8 → I 47 (p * 8 + i) = I (30 + p) i) ∧ zb (I (24 + p) 3) ∧ I 48 p = I (24 + p) 3) (hX : ∀ p, p < 6 → R 53 (p * 2) = Ls (24 + p) 1 ∧ R 53 (p * 2 + 1) = Ls (24 + p) 2) (hW : ∀ p, p < 6 → (¬ I (24 + p) 3 = 0 ∧ kI (Ls (24 + p) 1) = true ∧ kI (Ls (24 + p) 2) = true → fixW I Ls p nn (W p))) (Q : mm_I → mm_L → Prop) (h : ∀ I' L', (∀ t, t ≠ 49 → t ≠ 50 → t ≠ 51 → I' t = I t) → (∀ x, I' 49 x = if x = r then 0 else I 49 x) → (∀ x, ¬ (r * 6 ≤ x ∧ x < r * 6 + 6) → I' 50 x = I 50 x ∧ I' 51 x = I 51 x) → (∀ t, t ≠ 52 → t ≠ 53 → t ≠ 54 → t ≠ 55 → L' t = R t) → (∀ k, ¬ (r * 18 ≤ k ∧ k < r * 18 + 18) → L' 52 k = R 52 k) → (∀ p, p < 6 → mE (I (24 + p) 3) (Ls (24 + p) 1) (Ls (24 + p) 2) (dW I (W p) 0) (dW I (W p) 1) (dW I (W p) 2) (I' 51 (r * 6 + p)) (I' 50 (r * 6 + p)) (L' 52 ((r * 6 + p) * 3)) (L' 52 ((r * 6 + p) * 3 + 1)) (L' 52 ((r * 6 + p) * 3 + 2)) (L' 53 (p * 2)) (L' 53 (p * 2 + 1))) → Q I' L') : vc_X7_payAll (nI r) I R Q := by
  have nb : vp_nar .boolean 0 = 0 := by decide
  have aux : ∀ (m i : Nat) (I1 : mm_I) (L1 : mm_L), i + m = 6 → (∀ t, t ≠ 49 → t ≠ 50 → t ≠ 51 → I1 t = I t) → (∀ x, I1 49 x = if x = r then 0 else I 49 x) → (∀ x, ¬ (r * 6 ≤ x ∧ x < r * 6 + 6) → I1 50 x = I 50 x ∧ I1 51 x = I 51 x) → (∀ t, t ≠ 52 → t ≠ 53 → t ≠ 54 → t ≠ 55 → L1 t = R t) → (∀ k, ¬ (r * 18 ≤ k ∧ k < r * 18 + 18) → L1 52 k = R 52 k) → (∀ p, p < i → mE (I (24 + p) 3) (Ls (24 + p) 1) (Ls (24 + p) 2) (dW I (W p) 0) (dW I (W p) 1) (dW I (W p) 2) (I1 51 (r * 6 + p)) (I1 50 (r * 6 + p)) (L1 52 ((r * 6 + p) * 3)) (L1 52 ((r * 6 + p) * 3 + 1)) (L1 52 ((r * 6 + p) * 3 + 2)) (L1 53 (p * 2)) (L1 53 (p * 2 + 1))) → (∀ k, i * 2 ≤ k → L1 53 k = R 53 k) → vc_X7_payAll_9 (m + 1) (nI r) (nI i) I1 L1 Q := by
    intro m
    induction m with
    | zero =>
      intro i I1 L1 hi a1 a2 a3 a4 a5 a6 a7
      obtain rfl : i = 6 := by omega
      rw [vc_X7_payAll_9]
      exact ⟨fun _ => h I1 L1 a1 a2 a3 a4 a5 a6, fun q => absurd (by decide) q⟩
    | succ m ih =>
      intro i I1 L1 hi a1 a2 a3 a4 a5 a6 a7
      have hi6 : i < 6 := by omega
      obtain ⟨h47, hzb, h48⟩ := hA i hi6
      rw [vc_X7_payAll_9]
      refine ⟨fun q => absurd q (nI_ge (b := 6) (by omega) (by decide)), fun _ => ?_⟩
      have hin : vp_in (nI (r * 6 + i)) 96 := in_nI (by omega) (by decide)
      simp only [ixm r 6 i (m := 6) rfl, nb, cl_nI (show i < 2 ^ 31 by omega), cl_nI (show r * 6 + i < 2 ^ 31 by omega), nI_1']
      have o2 : ∀ t, t ≠ 50 → (mm_uI I1 50 (r * 6 + i) 0) t = I1 t := fun t ht => uI_ne _ _ _ ht
      have c50 : (mm_uI I1 50 (r * 6 + i) 0) 50 (r * 6 + i) = 0 := by rw [uI_at, if_pos rfl]
      have o50 : ∀ x, x ≠ r * 6 + i → (mm_uI I1 50 (r * 6 + i) 0) 50 x = I1 50 x := fun x hx => by rw [uI_at, if_neg hx]
      generalize mm_uI I1 50 (r * 6 + i) 0 = J at o2 c50 o50 ⊢
      have oJ : ∀ t, t ≠ 49 → t ≠ 50 → t ≠ 51 → J t = I t := fun t h1 h2 h3 => (o2 t h2).trans (a1 t h1 h2 h3)
      have j48 : J 48 i = I (24 + i) 3 := by rw [oJ 48 (by decide) (by decide) (by decide)]; exact h48
      have x1 : L1 53 (i * 2) = Ls (24 + i) 1 := (a7 _ (by omega)).trans (hX i hi6).1
      have x2 : L1 53 (i * 2 + 1) = Ls (24 + i) 2 := (a7 _ (by omega)).trans (hX i hi6).2
      rw [j48]
      refine ⟨hin, in_nI hi6 (by decide), fun hz => ⟨hin, ?_⟩, fun hz => ?_⟩
      · refine ih (i + 1) _ L1 (by omega) (fun t h1 h2 h3 => by rw [uI_ne _ _ _ h3]; exact oJ t h1 h2 h3) (fun x => by rw [uI_ne _ _ _ (by decide), o2 49 (by decide)]; exact a2 x) (fun x hx => ?_) a4 a5 (fun q hq => ?_) (fun k hk => a7 k (by omega))
        · rw [uI_ne _ _ _ (by decide), uI_at, if_neg (by omega), o50 x (by omega), o2 51 (by decide)]
          exact a3 x hx
        · rw [uI_ne _ _ _ (show 50 ≠ 51 by decide), uI_at]
          by_cases hqi : q = i
          · subst hqi
            rw [if_pos rfl, c50]
            refine ⟨by rw [oR, if_pos hz], fun z => absurd hz z.1, fun _ => ⟨rfl, x1, x2⟩⟩
          · rw [if_neg (by omega), o50 _ (by omega), o2 51 (by decide)]
            exact a6 q (by omega)
      · have hNJ : vN J nn := vN_c (fun t ht => oJ t (by omega) (by omega) (by omega)) hN
        have hDJ : vD J nn := vD_c (oJ 8 (by decide) (by decide) (by decide)) (oJ 10 (by decide) (by decide) (by decide)) (oJ 43 (by decide) (by decide) (by decide)) hD
        have hTJ : vT J := vT_c (fun t ht => oJ t (by omega) (by omega) (by omega)) hT
        have e24 : J (24 + i) = I (24 + i) := oJ _ (by omega) (by omega) (by omega)
        have e10 : J 10 = I 10 := oJ 10 (by decide) (by decide) (by decide)
        have dd : ∀ d, dW J (W i) d = dW I (W i) d := fun d => by unfold dW; rw [e10]
        refine s_mpayOne (Ls := Ls) (W := W i) hr hi6 hNJ hDJ hTJ (fun k hk => by rw [oJ 47 (by decide) (by decide) (by decide), oJ (30 + i) (by omega) (by omega) (by omega)]; exact h47 k hk) (by rw [e24]; exact hzb) (by rw [e24]; exact j48) x1 x2 (by rw [e24]; exact hz) c50 (fun z => fix_c hi6 hNJ hDJ (I' := I) (fun t ht => (oJ t (by omega) (by omega) (by omega)).symm) rfl (hW i hi6 (by rw [e24] at z; exact z))) _ (fun re I3 L3 d1 d2 d3 d4 d5 d6 => ⟨hin, ?_⟩)
        rw [e24, dd, dd, dd] at d6
        refine ih (i + 1) _ L3 (by omega) (fun t h1 h2 h3 => by rw [uI_ne _ _ _ h3, d1 t h2]; exact oJ t h1 h2 h3) (fun x => by rw [uI_ne _ _ _ (by decide), d1 49 (by decide), o2 49 (by decide)]; exact a2 x) (fun x hx => ?_) (fun t h1 h2 h3 h4 => by rw [d3 t h1 h2 h3 h4]; exact a4 t h1 h2 h3 h4) (fun k hk => by rw [d4 k (by omega)]; exact a5 k hk) (fun q hq => ?_) (fun k hk => by rw [d5 k (by omega) (by omega)]; exact a7 k (by omega))
        · rw [uI_ne _ _ _ (by decide), uI_at, if_neg (by omega), d2 x (by omega), o50 x (by omega), d1 51 (by decide), o2 51 (by decide)]
          exact a3 x hx
        · rw [uI_ne _ _ _ (show 50 ≠ 51 by decide), uI_at]
          by_cases hqi : q = i
          · subst hqi
            rw [if_pos rfl]
            exact d6
          · rw [if_neg (by omega), d1 51 (by decide), o2 51 (by decide), d2 _ (by omega), o50 _ (by omega), d4 _ (by omega), d4 _ (by omega), d4 _ (by omega), d5 _ (by omega) (by omega), d5 _ (by omega) (by omega)]
            exact a6 q (by omega)
  simp only [vc_X7_payAll, vc_X7_payAll_0, nb, cl_nI (show r < 2 ^ 31 by omega)]
  refine ⟨in_nI hr (by decide), 7, aux 6 0 _ R rfl (fun t h1 _ _ => uI_ne _ _ _ h1) (fun x => by rw [uI_at]) (fun x _ => ?_) (fun _ _ _ _ _ => rfl) (fun _ _ => rfl) (fun q hq => absurd hq (by omega)) (fun _ _ => rfl)⟩
  rw [uI_ne _ _ _ (by decide), uI_ne _ _ _ (by decide)]
  exact ⟨rfl, rfl⟩
theorem kI_none {x : Int64} (h : kI x = true) : ¬ x = 1000000000000 := by
  rw [kI_t] at h
  have h1 : (1000000000000 : Int64).toInt = 1000000000000 := by decide
  intro q
  rw [q, h1] at h
  omega
theorem whyS_g {x y g t n : Int64} (h : whyS x y g t n = 0) (hg : vV g) : kI g = true := by
  by_cases k : kI g = true
  · exact k
  · rw [whyS, if_neg k] at h
    exfalso
    rcases hg with q | rfl | rfl | rfl | rfl | rfl
    · exact k q
    all_goals exact absurd h (by decide)
theorem pay_S {I : mm_I} {L : mm_L} {r p : Nat} {a : Int32} {x y g t n : Int64} (hg : oP a x y g t n → ¬ g = 1000000000000) (h1 : cE a x y g t n (I 16 (r * 6 + p)) (L 15 ((r * 6 + p) * 3)) (L 15 ((r * 6 + p) * 3 + 1)) (L 15 ((r * 6 + p) * 3 + 2)) (L (24 + p) 1) (L (24 + p) 2)) (h2 : mE a x y g t n (I 51 (r * 6 + p)) (I 50 (r * 6 + p)) (L 52 ((r * 6 + p) * 3)) (L 52 ((r * 6 + p) * 3 + 1)) (L 52 ((r * 6 + p) * 3 + 2)) (L 53 (p * 2)) (L 53 (p * 2 + 1))) : vS1 I L r p ∧ L 53 (p * 2) = L (24 + p) 1 ∧ L 53 (p * 2 + 1) = L (24 + p) 2 := by
  have w3 : ∀ w, w < 3 → w = 0 ∨ w = 1 ∨ w = 2 := fun w hw => by omega
  by_cases o : oP a x y g t n
  · obtain ⟨e1, e2, e3, e4, e5⟩ := h1.2.1 o
    obtain ⟨f0, f1, f2, f3, f4, f5⟩ := h2.2.1 o
    refine ⟨⟨h2.1.trans h1.1.symm, Or.inr ⟨f0, by rw [e1]; exact hg o, fun w hw => ?_⟩⟩, f4.trans e4.symm, f5.trans e5.symm⟩
    rcases w3 w hw with rfl | rfl | rfl
    · exact f1.trans e1.symm
    · exact f2.trans e2.symm
    · exact f3.trans e3.symm
  · obtain ⟨e1, e2, e3, e4, e5⟩ := h1.2.2 o
    obtain ⟨f0, f4, f5⟩ := h2.2.2 o
    refine ⟨⟨h2.1.trans h1.1.symm, Or.inl ⟨f0, fun w hw => ?_⟩⟩, f4.trans e4.symm, f5.trans e5.symm⟩
    rcases w3 w hw with rfl | rfl | rfl
    · exact e1
    · exact e2
    · exact e3
theorem cA_I {I J : mm_I} {L : mm_L} {p nn : Nat} {re : Int32} {m0 m1 m2 x' y' : Int64} (hp : p < 6) (hN : vN J nn) (hD : vD J nn) (h : ∀ t, ((3 ≤ t ∧ t ≤ 10) ∨ (18 ≤ t ∧ t ≤ 35)) → I t = J t) (q : cA I L p nn re m0 m1 m2 x' y') : cA J L p nn re m0 m1 m2 x' y' := by
  obtain ⟨W, f1, f2⟩ := q
  have e24 : I (24 + p) = J (24 + p) := h _ (by omega)
  have e10 : I 10 = J 10 := h 10 (by omega)
  have dd : ∀ d, dW I W d = dW J W d := fun d => by unfold dW; rw [e10]
  rw [e24] at f1
  rw [e24, dd, dd, dd] at f2
  exact ⟨W, fun z => fix_c hp hN hD (fun t ht => h t (by omega)) rfl (f1 z), f2⟩
/-- the reference pays after the component has paid -/
theorem s_mpay2 {J : mm_I} {R Ls : mm_L} {r nn : Nat} (hr : r < 16) (hN : vN J nn) (hD : vD J nn) (hT : vT J) (hA : ∀ p, p < 6 → (∀ i, i < 8 → J 47 (p * 8 + i) = J (30 + p) i) ∧ zb (J (24 + p) 3) ∧ J 48 p = J (24 + p) 3) (hX : ∀ p, p < 6 → R 53 (p * 2) = Ls (24 + p) 1 ∧ R 53 (p * 2 + 1) = Ls (24 + p) 2) (hC : ∀ p, p < 6 → cA J Ls p nn (J 16 (r * 6 + p)) (R 15 ((r * 6 + p) * 3)) (R 15 ((r * 6 + p) * 3 + 1)) (R 15 ((r * 6 + p) * 3 + 2)) (R (24 + p) 1) (R (24 + p) 2)) (Q : mm_I → mm_L → Prop) (h : ∀ I' L', (∀ t, t ≠ 49 → t ≠ 50 → t ≠ 51 → I' t = J t) → (∀ x, I' 49 x = if x = r then 0 else J 49 x) → (∀ x, ¬ (r * 6 ≤ x ∧ x < r * 6 + 6) → I' 50 x = J 50 x ∧ I' 51 x = J 51 x) → (∀ t, t ≠ 52 → t ≠ 53 → t ≠ 54 → t ≠ 55 → L' t = R t) → (∀ k, ¬ (r * 18 ≤ k ∧ k < r * 18 + 18) → L' 52 k = R 52 k) → (∀ p, p < 6 → vS1 I' L' r p ∧ L' 53 (p * 2) = L' (24 + p) 1 ∧ L' 53 (p * 2 + 1) = L' (24 + p) 2) → Q I' L') : vc_X7_payAll (nI r) J R Q := by
  have hC' : ∀ p, ∃ W, p < 6 → ((¬ J (24 + p) 3 = 0 ∧ kI (Ls (24 + p) 1) = true ∧ kI (Ls (24 + p) 2) = true → fixW J Ls p nn W) ∧ cE (J (24 + p) 3) (Ls (24 + p) 1) (Ls (24 + p) 2) (dW J W 0) (dW J W 1) (dW J W 2) (J 16 (r * 6 + p)) (R 15 ((r * 6 + p) * 3)) (R 15 ((r * 6 + p) * 3 + 1)) (R 15 ((r * 6 + p) * 3 + 2)) (R (24 + p) 1) (R (24 + p) 2)) := fun p => by
    by_cases hp : p < 6
    · obtain ⟨W, q⟩ := hC p hp
      exact ⟨W, fun _ => q⟩
    · exact ⟨fun _ => 0, fun q => absurd q hp⟩
  obtain ⟨W, hW⟩ := Classical.axiomOfChoice hC'
  refine s_mpayAll (Ls := Ls) (W := W) hr hN hD hT hA hX (fun p hp => (hW p hp).1) Q (fun I' L' a1 a2 a3 a4 a5 a6 => h I' L' a1 a2 a3 a4 a5 (fun p hp => ?_))
  have c := (hW p hp).2
  refine pay_S (g := dW J (W p) 0) (fun o => ?_) (by rw [a1 16 (by decide) (by decide) (by decide), a4 15 (by decide) (by decide) (by decide) (by decide), a4 (24 + p) (by omega) (by omega) (by omega) (by omega)]; exact c) (a6 p hp)
  obtain ⟨o1, o2, o3, o4⟩ := o
  refine kI_none (whyS_g o4 ?_)
  have fx := (hW p hp).1 ⟨o1, o2, o3⟩
  obtain ⟨h47, hzb, h48⟩ := hA p hp
  let Lv : mm_L := fun t => if t = 53 then R 53 else Ls t
  have v53 : Lv 53 = R 53 := if_pos rfl
  have v24 : Lv (24 + p) = Ls (24 + p) := if_neg (by omega)
  have hPv : vP1 J Lv p := ⟨h47, hzb, h48, by rw [v53, v24]; exact (hX p hp).1, by rw [v53, v24]; exact (hX p hp).2⟩
  have fv : ∀ n, n < nn → W p n = stC J Lv p (W p) n := fix_c hp hN hD (I' := J) (L' := Ls) (fun _ _ => rfl) v24.symm fx
  have vW := W_v hN hD hT hPv (by rw [v24]; exact o2) (by rw [v24]; exact o3) fv
  have h70 := hN.1
  unfold dW
  rcases (hD 0 (by decide)).2 with z | ⟨m, hm, z, -⟩
  · rw [if_pos z]
    exact vV_E
  · split
    · exact vV_E
    · rw [z, cl_nI (show m < 2 ^ 31 by omega)]
      exact vW m hm
