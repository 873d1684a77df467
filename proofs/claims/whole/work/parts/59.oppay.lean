/-! PURE: pay and again, the calls -/
theorem vN_c36 {I I' : mm_I} {nn : Nat} (h : ∀ t, (t = 2 ∨ (3 ≤ t ∧ t ≤ 8) ∨ (37 ≤ t ∧ t ≤ 42)) → I' t = I t) (h36 : I' 36 0 = I 36 0) (q : vN I nn) : vN I' nn := by
  obtain ⟨q1, q2, q3, q4⟩ := q
  refine ⟨q1, by rw [h 2 (by omega)]; exact q2, by rw [h36]; exact q3, fun n hn => ?_⟩
  rw [h 3 (by omega), h 4 (by omega), h 5 (by omega), h 6 (by omega), h 7 (by omega), h 8 (by omega), h 37 (by omega), h 38 (by omega), h 39 (by omega), h 40 (by omega), h 41 (by omega), h 42 (by omega)]
  exact ⟨nOK_c (fun t h1 h2 => h t (by omega)) (q4 n hn).1, (q4 n hn).2⟩
theorem vS1_p {I I' : mm_I} {L L' : mm_L} {r p : Nat} (h51 : I' 51 (r * 6 + p) = I 51 (r * 6 + p)) (h16 : I' 16 (r * 6 + p) = I 16 (r * 6 + p)) (h50 : I' 50 (r * 6 + p) = I 50 (r * 6 + p)) (h15 : ∀ w, w < 3 → L' 15 ((r * 6 + p) * 3 + w) = L 15 ((r * 6 + p) * 3 + w)) (h52 : ∀ w, w < 3 → L' 52 ((r * 6 + p) * 3 + w) = L 52 ((r * 6 + p) * 3 + w)) (q : vS1 I L r p) : vS1 I' L' r p := by
  have h150 : L' 15 ((r * 6 + p) * 3) = L 15 ((r * 6 + p) * 3) := h15 0 (by decide)
  unfold vS1 at q ⊢
  rw [h51, h16, h50, h150]
  refine ⟨q.1, q.2.elim (fun z => Or.inl ⟨z.1, fun w hw => by rw [h15 w hw]; exact z.2 w hw⟩) (fun z => Or.inr ⟨z.1, z.2.1, fun w hw => by rw [h15 w hw, h52 w hw]; exact z.2.2 w hw⟩)⟩
theorem nI_s1 (k : Nat) : nI (k + 1) - 1 = nI k := by rw [← nI_1', Int32.add_sub_cancel]
theorem op_pay {I : mm_I} {L : mm_L} (hI : Inv I L) (Q : Int32 → Int32 → mm_I → mm_L → Prop) (hQ : ∀ r I2 L2, Inv I2 L2 → Q r r I2 L2) : vc_X6_pay I L (fun r I1 L1 => vc_X7_pay I1 L1 (fun r' I2 L2 => Q r r' I2 L2)) := by
  obtain ⟨nn, rr, hN, hO, hD, hT, hP, hR⟩ := id hI
  have hrr := hR.1
  have e1 : I 14 3 = nI rr := hR.2.1
  have e2 : I 36 1 = nI rr := hR.2.2.1
  simp only [vc_X6_pay, vc_X6_pay_0, vc_X7_pay, vc_X7_pay_0]
  rw [e1]
  by_cases h16 : rr = 16
  · subst h16
    refine ⟨fun q => absurd rfl q, fun _ => ?_⟩
    rw [e2]
    exact ⟨fun q => absurd rfl q, fun _ => hQ _ _ _ hI⟩
  · have n16 : ¬ nI rr = 16 := fun q => h16 ((nI_eq (a := rr) (b := 16) (by omega) (by decide)).mp q)
    refine ⟨fun _ => ?_, fun q => absurd q n16⟩
    rw [nI_1']
    have o0 : ∀ t, t ≠ 14 → (mm_uI I 14 3 (nI (rr + 1))) t = I t := fun t ht => uI_ne _ _ _ ht
    have c14 : (mm_uI I 14 3 (nI (rr + 1))) 14 3 = nI (rr + 1) := by rw [uI_at, if_pos rfl]
    generalize mm_uI I 14 3 (nI (rr + 1)) = I0 at o0 c14 ⊢
    have hN0 : vN I0 nn := vN_c (fun t ht => o0 t (by omega)) hN
    have hO0 : vO I0 nn := vO_c (o0 8 (by decide)) (o0 9 (by decide)) hO
    have hD0 : vD I0 nn := vD_c (o0 8 (by decide)) (o0 10 (by decide)) (o0 43 (by decide)) hD
    have hT0 : vT I0 := vT_c (fun t ht => o0 t (by omega)) hT
    refine s_cpayAll (by omega) hN0 hO0 hD0 hT0 _ (fun I1 L1 c1 c2 c3 c4 c5 => ?_)
    have oj : ∀ t, t ≠ 14 → t ≠ 16 → I1 t = I t := fun t h1 h2 => (c1 t h2).trans (o0 t h1)
    have j36 : I1 36 = I 36 := oj 36 (by decide) (by decide)
    rw [j36, e2]
    refine ⟨fun _ => ?_, fun q => absurd q n16⟩
    have hN1 : vN I1 nn := vN_c (fun t ht => oj t (by omega) (by omega)) hN
    have hD1 : vD I1 nn := vD_c (oj 8 (by decide) (by decide)) (oj 10 (by decide) (by decide)) (oj 43 (by decide) (by decide)) hD
    have hT1 : vT I1 := vT_c (fun t ht => oj t (by omega) (by omega)) hT
    have l53 : L1 53 = L 53 := c3 53 (by decide) (by decide) (by omega)
    have l52 : L1 52 = L 52 := c3 52 (by decide) (by decide) (by omega)
    refine s_mpay2 (Ls := L) (by omega) hN1 hD1 hT1 (fun p hp => ?_) (fun p hp => ?_) (fun p hp => cA_I hp hN1 hD1 (fun t ht => (c1 t (by omega)).symm) (c5 p hp)) _ (fun I2 L2 d1 d2 d3 d4 d5 d6 => ?_)
    · obtain ⟨g1, g2, g3, -⟩ := hP p hp
      rw [oj 47 (by decide) (by decide), oj 48 (by decide) (by decide), oj (30 + p) (by omega) (by omega), oj (24 + p) (by omega) (by omega)]
      exact ⟨g1, g2, g3⟩
    · obtain ⟨-, -, -, g4, g5⟩ := hP p hp
      rw [l53]
      exact ⟨g4, g5⟩
    · have f36 : I2 36 = I 36 := (d1 36 (by decide) (by decide) (by decide)).trans j36
      rw [f36, e2, nI_1', uI_at, if_pos rfl, nI_s1]
      have o3 : ∀ t, t ≠ 36 → (mm_uI I2 36 1 (nI (rr + 1))) t = I2 t := fun t ht => uI_ne _ _ _ ht
      have c361 : (mm_uI I2 36 1 (nI (rr + 1))) 36 1 = nI (rr + 1) := by rw [uI_at, if_pos rfl]
      have c360 : (mm_uI I2 36 1 (nI (rr + 1))) 36 0 = I 36 0 := by rw [uI_at, if_neg (by decide), f36]
      generalize mm_uI I2 36 1 (nI (rr + 1)) = I3 at o3 c361 c360 ⊢
      have o4 : ∀ t, t ≠ 14 → t ≠ 16 → t ≠ 36 → t ≠ 49 → t ≠ 50 → t ≠ 51 → I3 t = I t := fun t h1 h2 h3 h4 h5 h6 => by rw [o3 t h3, d1 t h4 h5 h6, oj t h1 h2]
      have k49 : ∀ r, I3 49 r = if r = rr then 0 else I 49 r := fun r => by rw [o3 49 (by decide), d2, oj 49 (by decide) (by decide)]
      have k17 : I3 17 = I 17 := o4 17 (by decide) (by decide) (by decide) (by decide) (by decide) (by decide)
      refine hQ _ _ _ ⟨nn, rr + 1, vN_c36 (fun t ht => o4 t (by omega) (by omega) (by omega) (by omega) (by omega) (by omega)) c360 hN, vO_c (o4 8 (by decide) (by decide) (by decide) (by decide) (by decide) (by decide)) (o4 9 (by decide) (by decide) (by decide) (by decide) (by decide) (by decide)) hO, vD_c (o4 8 (by decide) (by decide) (by decide) (by decide) (by decide) (by decide)) (o4 10 (by decide) (by decide) (by decide) (by decide) (by decide) (by decide)) (o4 43 (by decide) (by decide) (by decide) (by decide) (by decide) (by decide)) hD, vT_c (fun t ht => o4 t (by omega) (by omega) (by omega) (by omega) (by omega) (by omega)) hT, fun p hp => ?_, by omega, ?_, c361, fun r hr => ?_, fun r h1 h2 => ?_, fun r p hr hp => ?_⟩
      · obtain ⟨g1, g2, g3, -⟩ := hP p hp
        refine ⟨?_, ?_, ?_, (d6 p hp).2.1, (d6 p hp).2.2⟩
        · rw [o4 47 (by decide) (by decide) (by decide) (by decide) (by decide) (by decide), o4 (30 + p) (by omega) (by omega) (by omega) (by omega) (by omega) (by omega)]
          exact g1
        · rw [o4 (24 + p) (by omega) (by omega) (by omega) (by omega) (by omega) (by omega)]
          exact g2
        · rw [o4 (24 + p) (by omega) (by omega) (by omega) (by omega) (by omega) (by omega), o4 48 (by decide) (by decide) (by decide) (by decide) (by decide) (by decide)]
          exact g3
      · rw [o3 14 (by decide), d1 14 (by decide) (by decide) (by decide), c1 14 (by decide)]
        exact c14
      · rw [k49, k17]
        by_cases hra : r = rr
        · rw [if_pos hra, hra, hR.2.2.2.2.1 rr (Nat.le_refl rr) (by omega)]
          exact ⟨Or.inl rfl, rfl⟩
        · rw [if_neg hra]
          exact hR.2.2.2.1 r (by omega)
      · rw [k17]
        exact hR.2.2.2.2.1 r (by omega) h2
      · by_cases hra : r = rr
        · subst hra
          refine vS1_p ?_ ?_ ?_ (fun _ _ => rfl) (fun _ _ => rfl) (d6 p hp).1
          · rw [o3 51 (by decide)]
          · rw [o3 16 (by decide)]
          · rw [o3 50 (by decide)]
        · have hx := d3 (r * 6 + p) (by omega)
          refine vS1_p (I := I) (L := L) ?_ ?_ ?_ (fun w hw => ?_) (fun w hw => ?_) (hR.2.2.2.2.2 r p (by omega) hp)
          · rw [o3 51 (by decide), hx.2, oj 51 (by decide) (by decide)]
          · rw [o3 16 (by decide), d1 16 (by decide) (by decide) (by decide), c2 _ (by omega), o0 16 (by decide)]
          · rw [o3 50 (by decide), hx.1, oj 50 (by decide) (by decide)]
          · rw [d4 15 (by decide) (by decide) (by decide) (by decide), c4 _ (by omega)]
          · rw [d5 _ (by omega), l52]
theorem op_again {I : mm_I} {L : mm_L} (hI : Inv I L) (x : Int32) (Q : Int32 → Int32 → mm_I → mm_L → Prop) (hQ : ∀ r I2 L2, Inv I2 L2 → Q r r I2 L2) : vc_X6_again x I L (fun r I1 L1 => vc_X7_again x I1 L1 (fun r' I2 L2 => Q r r' I2 L2)) := by
  obtain ⟨nn, rr, hN, hO, hD, hT, hP, hR⟩ := id hI
  have hrr := hR.1
  have e1 : I 14 3 = nI rr := hR.2.1
  have e2 : I 36 1 = nI rr := hR.2.2.1
  simp only [vc_X6_again, vc_X6_again_0, vc_X7_again, vc_X7_again_0]
  refine s_stands x rr hrr I L e1 _ (fun hs => ⟨fun q => absurd q (by decide), fun _ => ?_⟩) (fun hs => ⟨fun _ => ?_, fun q => absurd rfl q⟩)
  · obtain ⟨a, ha, rfl, h17⟩ := hs
    have h49 : I 49 a = 0 := (hR.2.2.2.1 a ha).2.trans h17
    obtain ⟨s, rfl⟩ : ∃ s, rr = s + 1 := ⟨rr - 1, by omega⟩
    rw [e1, nI_s1]
    refine ⟨fun hx => ?_, fun hx => ?_⟩
    · obtain rfl : a = s := (nI_eq (by omega) (by omega)).mp hx
      refine s_unpayAll a (by omega) I L _ (fun L1 c1 c2 => ?_)
      refine s_cpayAll (by omega) hN hO hD hT _ (fun I2 L2 b1 b2 b3 b4 b5 => s_slipsOf a (by omega) I2 L2 _ ?_)
      have j36 : I2 36 = I 36 := b1 36 (by decide)
      have j49 : I2 49 = I 49 := b1 49 (by decide)
      have j50 : I2 50 = I 50 := b1 50 (by decide)
      have l53 : L2 53 = L 53 := (b3 53 (by decide) (by decide) (by omega)).trans (c1 53 (by omega))
      have l52 : L2 52 = L 52 := (b3 52 (by decide) (by decide) (by omega)).trans (c1 52 (by omega))
      rw [j36, j49, e2, nI_s1, cl_nI (show a < 2 ^ 31 by omega)]
      refine ⟨fun q => absurd q (nI_pos (by omega)), fun _ => ⟨fun q => absurd rfl q, fun _ => ⟨in_nI (by omega) (by decide), fun _ => ?_, fun q => absurd h49 q⟩⟩⟩
      refine s_takeBack a (by omega) I2 L2 _ (fun L3 t1' t2 => ?_)
      have oJ : ∀ t, t ≠ 49 → (mm_uI I2 49 a 1) t = I2 t := fun t ht => uI_ne _ _ _ ht
      have o49 : ∀ r, r ≠ a → (mm_uI I2 49 a 1) 49 r = I 49 r := fun r hra => by rw [uI_at, if_neg hra, j49]
      generalize mm_uI I2 49 a 1 = J at oJ o49 ⊢
      have oI : ∀ t, t ≠ 16 → t ≠ 49 → J t = I t := fun t h1 h2 => (oJ t h2).trans (b1 t h1)
      have hNJ : vN J nn := vN_c (fun t ht => oI t (by omega) (by omega)) hN
      have hDJ : vD J nn := vD_c (oI 8 (by decide) (by decide)) (oI 10 (by decide) (by decide)) (oI 43 (by decide) (by decide)) hD
      have hTJ : vT J := vT_c (fun t ht => oI t (by omega) (by omega)) hT
      have tt : ∀ q w, t1 I2 L2 a q w = t1 I L a q w := fun q w => by unfold t1; rw [j50, l53, l52]
      refine s_mpay2 (Ls := L1) (by omega) hNJ hDJ hTJ (fun p hp => ?_) (fun p hp => ?_) (fun p hp => ?_) _ (fun I4 L4 d1 d2 d3 d4 d5 d6 => s_mslips a (by omega) I4 L4 _ ?_)
      · obtain ⟨g1, g2, g3, -⟩ := hP p hp
        rw [oI 47 (by decide) (by decide), oI 48 (by decide) (by decide), oI (30 + p) (by omega) (by omega), oI (24 + p) (by omega) (by omega)]
        exact ⟨g1, g2, g3⟩
      · have te := tb_eq (hR.2.2.2.2.2 a p ha hp) (hP p hp)
        rw [(t2 p hp).1, (t2 p hp).2, tt, tt, te.1, te.2, (c2 p hp).1, (c2 p hp).2]
        exact ⟨rfl, rfl⟩
      · rw [oJ 16 (by decide), t1' 15 (by decide), t1' (24 + p) (by omega)]
        exact cA_I hp hNJ hDJ (fun t ht => (oI t (by omega) (by omega)).symm) (b5 p hp)
      · have o4 : ∀ t, t ≠ 16 → t ≠ 49 → t ≠ 50 → t ≠ 51 → I4 t = I t := fun t h1 h2 h3 h4 => by rw [d1 t h2 h3 h4, oI t h1 h2]
        have k17 : I4 17 = I 17 := o4 17 (by decide) (by decide) (by decide) (by decide)
        have m15 : L4 15 = L2 15 := (d4 15 (by decide) (by decide) (by decide) (by decide)).trans (t1' 15 (by decide))
        have m52 : ∀ k, ¬ (a * 18 ≤ k ∧ k < a * 18 + 18) → L4 52 k = L 52 k := fun k hk => by rw [d5 k hk, t1' 52 (by decide), l52]
        have hR4 : vRn I4 L4 (a + 1) := by
          refine ⟨hrr, ?_, ?_, fun r hr => ?_, fun r h1 h2 => ?_, fun r p hr hp => ?_⟩
          · rw [o4 14 (by decide) (by decide) (by decide) (by decide)]
            exact e1
          · rw [o4 36 (by decide) (by decide) (by decide) (by decide)]
            exact e2
          · rw [k17, d2]
            by_cases hra : r = a
            · rw [if_pos hra, hra, h17]
              exact ⟨Or.inl rfl, rfl⟩
            · rw [if_neg hra, o49 r hra]
              exact hR.2.2.2.1 r hr
          · rw [k17]
            exact hR.2.2.2.2.1 r h1 h2
          · by_cases hra : r = a
            · subst hra
              exact (d6 p hp).1
            · have hx := d3 (r * 6 + p) (by omega)
              refine vS1_p (I := I) (L := L) ?_ ?_ ?_ (fun w hw => ?_) (fun w hw => ?_) (hR.2.2.2.2.2 r p hr hp)
              · rw [hx.2, oI 51 (by decide) (by decide)]
              · rw [d1 16 (by decide) (by decide) (by decide), oJ 16 (by decide), b2 _ (by omega)]
              · rw [hx.1, oI 50 (by decide) (by decide)]
              · rw [m15, b4 _ (by omega), c1 15 (by omega)]
              · exact m52 _ (by omega)
        have eg : gS L2 a = gS L4 a := by unfold gS; rw [m15]
        rw [eg, slips_eq hR4 (Nat.lt_succ_self a) 0]
        refine hQ _ _ _ ⟨nn, a + 1, vN_c (fun t ht => o4 t (by omega) (by omega) (by omega) (by omega)) hN, vO_c (o4 8 (by decide) (by decide) (by decide) (by decide)) (o4 9 (by decide) (by decide) (by decide) (by decide)) hO, vD_c (o4 8 (by decide) (by decide) (by decide) (by decide)) (o4 10 (by decide) (by decide) (by decide) (by decide)) (o4 43 (by decide) (by decide) (by decide) (by decide)) hD, vT_c (fun t ht => o4 t (by omega) (by omega) (by omega) (by omega)) hT, fun p hp => ?_, hR4⟩
        obtain ⟨g1, g2, g3, -⟩ := hP p hp
        refine ⟨?_, ?_, ?_, (d6 p hp).2.1, (d6 p hp).2.2⟩
        · rw [o4 47 (by decide) (by decide) (by decide) (by decide), o4 (30 + p) (by omega) (by omega) (by omega) (by omega)]
          exact g1
        · rw [o4 (24 + p) (by omega) (by omega) (by omega) (by omega)]
          exact g2
        · rw [o4 (24 + p) (by omega) (by omega) (by omega) (by omega), o4 48 (by decide) (by decide) (by decide) (by decide)]
          exact g3
    · rw [e2, nI_s1]
      exact ⟨fun _ => hQ _ _ _ hI, fun _ => ⟨fun _ => hQ _ _ _ hI, fun q => absurd q hx⟩⟩
  · refine ⟨fun _ => hQ _ _ _ hI, fun hx => ⟨fun _ => hQ _ _ _ hI, fun hq => ?_⟩⟩
    rw [e2] at hq
    rcases Nat.eq_zero_or_pos rr with hz | hpos
    · subst hz
      subst hq
      exact absurd (by decide) hx
    · obtain ⟨s, rfl⟩ : ∃ s, rr = s + 1 := ⟨rr - 1, by omega⟩
      rw [nI_s1] at hq
      subst hq
      rw [cl_nI (show s < 2 ^ 31 by omega)]
      exact ⟨in_nI (by omega) (by decide), fun z => absurd ⟨s, by omega, rfl, (hR.2.2.2.1 s (by omega)).2.symm.trans z⟩ hs, fun _ => hQ _ _ _ hI⟩
