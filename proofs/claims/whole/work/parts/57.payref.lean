/-! PURE: pay, the reference's side -/
theorem two_rs : ((1000000000102 : Int64) - 1000000000100).toInt32 = 2 := by decide
theorem s_p18 {x1 x2 : Int32} {d n : Nat} {I : mm_I} {L : mm_L} {Q : Int32 → mm_I → mm_L → Prop} (hd : d < 3) (hv : vV (L 55 d)) (h1 : kI (L 55 d) = true → vc_X7_payOne_18 n x1 x2 (nI (d + 1)) I L Q) (h2 : ¬ kI (L 55 d) = true → Q (rs (L 55 d)) I L) : vc_X7_payOne_18 (n + 1) x1 x2 (nI d) I L Q := by
  have hin : vp_in (nI d) 8 := in_nI (by omega) (by decide)
  rw [vc_X7_payOne_18]
  simp only [cl_nI (show d < 2 ^ 31 by omega), nI_1']
  refine ⟨fun q => absurd q (nI_ge (b := 3) hd (by decide)), fun _ => ⟨hin, fun q => ⟨hin, fun z => h1 ?_, fun z => ?_⟩, fun q => ⟨hin, ?_⟩⟩⟩
  · by_cases k : kI (L 55 d) = true
    · exact k
    · rcases vV_n hv k with e | ⟨e1, -, -⟩
      · exact absurd e z
      · exact absurd q e1
  · have k : ¬ kI (L 55 d) = true := by rw [z]; exact E_k
    have := h2 k
    rw [rs, vF, if_pos z, two_rs] at this
    exact this
  · have k : ¬ kI (L 55 d) = true := fun k => q (kI_small k).2
    have := h2 k
    rcases vV_n hv k with e | ⟨-, -, e3⟩
    · exact absurd (by rw [e]; exact E_le) q
    · rw [rs, e3] at this
      exact this
theorem s_145 {r p : Nat} (hr : r < 16) (hp : p < 6) (I : mm_I) (L : mm_L) (Q : Int32 → mm_I → mm_L → Prop) (h : ∀ L', (∀ t, t ≠ 52 → t ≠ 53 → L' t = L t) → (∀ k, ¬ ((r * 6 + p) * 3 ≤ k ∧ k < (r * 6 + p) * 3 + 3) → L' 52 k = L 52 k) → (∀ w, w < 3 → L' 52 ((r * 6 + p) * 3 + w) = L 55 w) → (∀ k, k ≠ p * 2 → k ≠ p * 2 + 1 → L' 53 k = L 53 k) → L' 53 (p * 2) = L 53 (p * 2) + L 55 0 → L' 53 (p * 2 + 1) = L 53 (p * 2 + 1) + L 55 1 → Q 0 (mm_uI I 50 (r * 6 + p) 1) L') : ∃ n, vc_X7_payOne_145 n (nI r) (nI p) 0 I L Q := by
  have nb : vp_nar .boolean 1 = 1 := by decide
  have c0 : (0 : Int32).toNatClampNeg = 0 := by decide
  have c1 : (1 : Int32).toNatClampNeg = 1 := by decide
  have e2 : nI p * 2 = nI (p * 2) := pk_mul p 2
  have aux : ∀ (m d : Nat) (L1 : mm_L), d + m = 3 → (∀ t, t ≠ 52 → L1 t = L t) → (∀ k, ¬ ((r * 6 + p) * 3 ≤ k ∧ k < (r * 6 + p) * 3 + 3) → L1 52 k = L 52 k) → (∀ w, w < d → L1 52 ((r * 6 + p) * 3 + w) = L 55 w) → vc_X7_payOne_145 (m + 1) (nI r) (nI p) (nI d) I L1 Q := by
    intro m
    induction m with
    | zero =>
      intro d L1 hd a1 a2 a3
      obtain rfl : d = 3 := by omega
      have l53 : L1 53 = L 53 := a1 53 (by decide)
      have l55 : L1 55 = L 55 := a1 55 (by decide)
      rw [vc_X7_payOne_145]
      simp only [ixm r 6 p (m := 6) rfl, e2, nb, nI_1', c0, c1, cl_nI (show r * 6 + p < 2 ^ 31 by omega), cl_nI (show p * 2 < 2 ^ 31 by omega), cl_nI (show p * 2 + 1 < 2 ^ 31 by omega)]
      refine ⟨fun _ => ⟨in_nI (by omega) (by decide), in_nI (by omega) (by decide), in_nI (j := 0) (by decide) (by decide), in_nI (by omega) (by decide), in_nI (by omega) (by decide), in_nI (j := 1) (by decide) (by decide), in_nI (by omega) (by decide), h _ (fun t h1 h2 => ?_) (fun k hk => ?_) (fun w hw => ?_) (fun k h1 h2 => ?_) ?_ ?_⟩, fun q => absurd (by decide) q⟩
      · rw [mm_uL_ne _ _ _ h2, mm_uL_ne _ _ _ h2]
        exact a1 t h1
      · rw [mm_uL_ne _ _ _ (by decide), mm_uL_ne _ _ _ (by decide)]
        exact a2 k hk
      · rw [mm_uL_ne _ _ _ (by decide), mm_uL_ne _ _ _ (by decide)]
        exact a3 w hw
      · rw [uL_at, if_neg h2, uL_at, if_neg h1, l53]
      · rw [uL_at, if_neg (by omega), uL_at, if_pos rfl, l53, l55]
      · rw [uL_at, if_pos rfl, uL_at, if_neg (by omega), mm_uL_ne _ _ _ (by decide), l53, l55]
    | succ m ih =>
      intro d L1 hd a1 a2 a3
      rw [vc_X7_payOne_145]
      simp only [ixm r 6 p (m := 6) rfl, ixm (r * 6 + p) 3 d (m := 3) rfl, nI_1', cl_nI (show d < 2 ^ 31 by omega), cl_nI (show (r * 6 + p) * 3 + d < 2 ^ 31 by omega)]
      refine ⟨fun q => absurd q (nI_ge (b := 3) (by omega) (by decide)), fun _ => ⟨in_nI (by omega) (by decide), in_nI (by omega) (by decide), ih (d + 1) _ (by omega) (fun t ht => ?_) (fun k hk => ?_) (fun w hw => ?_)⟩⟩
      · rw [mm_uL_ne _ _ _ ht]
        exact a1 t ht
      · rw [uL_at, if_neg (by omega)]
        exact a2 k hk
      · rw [uL_at]
        by_cases hwd : w = d
        · subst hwd
          rw [if_pos rfl, a1 55 (by decide)]
        · rw [if_neg (by omega)]
          exact a3 w (by omega)
  exact ⟨4, aux 3 0 L rfl (fun _ _ => rfl) (fun _ _ => rfl) (fun w hw => absurd hw (by omega))⟩
def mE (a : Int32) (x y g t n : Int64) (re : Int32) (hs : Int32) (m0 m1 m2 x' y' : Int64) : Prop := re = oR a x y g t n ∧ (oP a x y g t n → hs = 1 ∧ m0 = g ∧ m1 = t ∧ m2 = n ∧ x' = x + g ∧ y' = y + t) ∧ (¬ oP a x y g t n → hs = 0 ∧ x' = x ∧ y' = y)
theorem s_mpayOne {I : mm_I} {R Ls : mm_L} {r p nn : Nat} {W : Nat → Int64} (hr : r < 16) (hp : p < 6) (hN : vN I nn) (hD : vD I nn) (hT : vT I) (h47 : ∀ i, i < 8 → I 47 (p * 8 + i) = I (30 + p) i) (hzb : zb (I (24 + p) 3)) (h48 : I 48 p = I (24 + p) 3) (x1 : R 53 (p * 2) = Ls (24 + p) 1) (x2 : R 53 (p * 2 + 1) = Ls (24 + p) 2) (ha : ¬ I (24 + p) 3 = 0) (h50 : I 50 (r * 6 + p) = 0) (hW : ¬ I (24 + p) 3 = 0 ∧ kI (Ls (24 + p) 1) = true ∧ kI (Ls (24 + p) 2) = true → fixW I Ls p nn W) (Q : Int32 → mm_I → mm_L → Prop) (h : ∀ re I' L', (∀ t, t ≠ 50 → I' t = I t) → (∀ k, k ≠ r * 6 + p → I' 50 k = I 50 k) → (∀ t, t ≠ 52 → t ≠ 53 → t ≠ 54 → t ≠ 55 → L' t = R t) → (∀ k, ¬ ((r * 6 + p) * 3 ≤ k ∧ k < (r * 6 + p) * 3 + 3) → L' 52 k = R 52 k) → (∀ k, k ≠ p * 2 → k ≠ p * 2 + 1 → L' 53 k = R 53 k) → mE (I (24 + p) 3) (Ls (24 + p) 1) (Ls (24 + p) 2) (dW I W 0) (dW I W 1) (dW I W 2) re (I' 50 (r * 6 + p)) (L' 52 ((r * 6 + p) * 3)) (L' 52 ((r * 6 + p) * 3 + 1)) (L' 52 ((r * 6 + p) * 3 + 2)) (L' 53 (p * 2)) (L' 53 (p * 2 + 1)) → Q re I' L') : vc_X7_payOne (nI r) (nI p) I R Q := by
  have e2 : nI p * 2 = nI (p * 2) := pk_mul p 2
  have c0 : (0 : Int32).toNatClampNeg = 0 := by decide
  have c1 : (1 : Int32).toNatClampNeg = 1 := by decide
  have c2 : (2 : Int32).toNatClampNeg = 2 := by decide
  simp only [vc_X7_payOne, vc_X7_payOne_0, s_paidWhole p hp, bI_0]
  rw [x1, x2]
  refine ⟨fun hk => ?_, fun hk => ?_⟩
  · have hk : kI (Ls (24 + p) 1) = true ∧ kI (Ls (24 + p) 2) = true := by
      by_cases z : kI (Ls (24 + p) 1) = true ∧ kI (Ls (24 + p) 2) = true
      · exact z
      · exact absurd z hk
    have fx := hW ⟨ha, hk.1, hk.2⟩
    let Lv : mm_L := fun t => if t = 53 then R 53 else Ls t
    have v53 : Lv 53 = R 53 := if_pos rfl
    have v24 : Lv (24 + p) = Ls (24 + p) := if_neg (by omega)
    have hPv : vP1 I Lv p := ⟨h47, hzb, h48, by rw [v53, v24]; exact x1, by rw [v53, v24]; exact x2⟩
    have fv : ∀ n, n < nn → W n = stC I Lv p W n := fix_c hp hN hD (I' := I) (L' := Ls) (fun _ _ => rfl) v24.symm fx
    have k1 : kI (Lv (24 + p) 1) = true := by rw [v24]; exact hk.1
    have k2 : kI (Lv (24 + p) 2) = true := by rw [v24]; exact hk.2
    have vW := W_v hN hD hT hPv k1 k2 fv
    have vD8 : ∀ d, d < 8 → vV (dW I W d) := fun d hd => by
      have h70 := hN.1
      unfold dW
      rcases (hD d hd).2 with z | ⟨m, hm, z, -⟩
      · rw [if_pos z]
        exact vV_E
      · split
        · exact vV_E
        · rw [z, cl_nI (show m < 2 ^ 31 by omega)]
          exact vW m hm
    refine s_personV (R := R) (L := Lv) (W := W) v53.symm hp hN hD hT hPv k1 k2 fv _ (fun L1 b1 b2 b3 => ⟨4, ?_⟩)
    have g0 : L1 55 0 = dW I W 0 := b3 0 (by decide)
    have g1 : L1 55 1 = dW I W 1 := b3 1 (by decide)
    have g2 : L1 55 2 = dW I W 2 := b3 2 (by decide)
    have l53 : L1 53 = R 53 := b1 53 (by decide) (by decide)
    have l52 : L1 52 = R 52 := b1 52 (by decide) (by decide)
    have out : ∀ re, ¬ re = 0 → re = whyS (Ls (24 + p) 1) (Ls (24 + p) 2) (dW I W 0) (dW I W 1) (dW I W 2) → Q re I L1 := fun re hre er => by
      refine h re I L1 (fun _ _ => rfl) (fun _ _ => rfl) (fun t _ _ h3 h4 => b1 t h3 h4) (fun k _ => by rw [l52]) (fun k _ _ => by rw [l53]) ⟨?_, fun q => absurd (er.trans q.2.2.2) hre, fun _ => ⟨h50, by rw [l53]; exact x1, by rw [l53]; exact x2⟩⟩
      rw [er, oR, if_neg ha, if_pos hk]
    have rs0 : ∀ x, vV x → ¬ kI x = true → ¬ rs x = 0 := by
      intro x hx k
      rcases hx with q | rfl | rfl | rfl | rfl | rfl
      · exact absurd q k
      all_goals decide
    refine s_p18 (d := 0) (by decide) (by rw [g0]; exact vD8 0 (by decide)) (fun i0 => ?_) (fun i0 => ?_)
    · refine s_p18 (d := 0 + 1) (by decide) (by rw [show (0 + 1 : Nat) = 1 from rfl, g1]; exact vD8 1 (by decide)) (fun i1 => ?_) (fun i1 => ?_)
      · refine s_p18 (d := 0 + 1 + 1) (by decide) (by rw [show (0 + 1 + 1 : Nat) = 2 from rfl, g2]; exact vD8 2 (by decide)) (fun i2 => ?_) (fun i2 => ?_)
        · have i1 : kI (L1 55 1) = true := i1
          have i2 : kI (L1 55 2) = true := i2
          rw [g0] at i0
          rw [g1] at i1
          rw [g2] at i2
          rw [vc_X7_payOne_18]
          simp only [e2, nI_1', c0, c1, c2, cl_nI (show p * 2 < 2 ^ 31 by omega), cl_nI (show p * 2 + 1 < 2 ^ 31 by omega), s_whole, bI_0, g0, g1, g2, l53, x1, x2]
          refine ⟨fun _ => ⟨in_nI (j := 0) (by decide) (by decide), in_nI (j := 1) (by decide) (by decide), in_nI (j := 2) (by decide) (by decide), fun hs => ⟨in_nI (by omega) (by decide), in_nI (j := 0) (by decide) (by decide), fun z => ?_, fun z => ⟨in_nI (by omega) (by decide), in_nI (j := 1) (by decide) (by decide), fun y => ?_, fun y => ?_⟩⟩, fun hs => ?_⟩, fun q => absurd (by decide) q⟩
          · refine out 6 (by decide) ?_
            rw [whyS, if_pos i0, if_pos i1, if_pos i2, if_pos hs, if_neg z]
          · have z' : kI (Ls (24 + p) 1 + dW I W 0) = true := by
              by_cases q : kI (Ls (24 + p) 1 + dW I W 0) = true
              · exact q
              · exact absurd q z
            have y' : kI (Ls (24 + p) 2 + dW I W 1) = true := by
              by_cases q : kI (Ls (24 + p) 2 + dW I W 1) = true
              · exact q
              · exact absurd q y
            have w0 : whyS (Ls (24 + p) 1) (Ls (24 + p) 2) (dW I W 0) (dW I W 1) (dW I W 2) = 0 := by
              rw [whyS, if_pos i0, if_pos i1, if_pos i2, if_pos hs, if_pos z', if_pos y']
            refine s_145 hr hp I L1 Q (fun L2 f1 f2 f3 f4 f5 f6 => ?_)
            refine h 0 _ L2 (fun t ht => uI_ne _ _ _ ht) (fun k hk => by rw [uI_at, if_neg hk]) (fun t h1 h2 h3 h4 => by rw [f1 t h1 h2]; exact b1 t h3 h4) (fun k hk => by rw [f2 k hk, l52]) (fun k h1 h2 => by rw [f4 k h1 h2, l53]) ⟨?_, fun _ => ?_, fun q => absurd ⟨ha, hk.1, hk.2, w0⟩ q⟩
            · rw [oR, if_neg ha, if_pos hk, w0]
            · have f30 : L2 52 ((r * 6 + p) * 3) = L1 55 0 := f3 0 (by decide)
              rw [f30, f3 1 (by decide), f3 2 (by decide), f5, f6, g0, g1, g2, l53, x1, x2, uI_at, if_pos rfl]
              exact ⟨rfl, rfl, rfl, rfl, rfl, rfl⟩
          · have z' : kI (Ls (24 + p) 1 + dW I W 0) = true := by
              by_cases q : kI (Ls (24 + p) 1 + dW I W 0) = true
              · exact q
              · exact absurd q z
            refine out 6 (by decide) ?_
            rw [whyS, if_pos i0, if_pos i1, if_pos i2, if_pos hs, if_pos z', if_neg y]
          · refine out 5 (by decide) ?_
            rw [whyS, if_pos i0, if_pos i1, if_pos i2, if_neg hs]
        · have i1 : kI (L1 55 1) = true := i1
          have i2 : ¬ kI (L1 55 2) = true := i2
          rw [g0] at i0
          rw [g1] at i1
          rw [g2] at i2
          rw [show L1 55 (0 + 1 + 1) = dW I W 2 from g2]
          refine out _ (rs0 _ (vD8 2 (by decide)) i2) ?_
          rw [whyS, if_pos i0, if_pos i1, if_neg i2]
      · have i1 : ¬ kI (L1 55 1) = true := i1
        rw [g0] at i0
        rw [g1] at i1
        rw [show L1 55 (0 + 1) = dW I W 1 from g1]
        refine out _ (rs0 _ (vD8 1 (by decide)) i1) ?_
        rw [whyS, if_pos i0, if_neg i1]
    · rw [g0] at i0 ⊢
      refine out _ (rs0 _ (vD8 0 (by decide)) i0) ?_
      rw [whyS, if_neg i0]
  · refine h 6 I R (fun _ _ => rfl) (fun _ _ => rfl) (fun _ _ _ _ _ => rfl) (fun _ _ => rfl) (fun _ _ _ => rfl) ⟨?_, fun q => absurd ⟨q.2.1, q.2.2.1⟩ hk, fun _ => ⟨h50, x1, x2⟩⟩
    rw [oR, if_neg ha, if_neg hk]
