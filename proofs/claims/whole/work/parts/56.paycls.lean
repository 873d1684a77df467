/-! PURE: pay, the component's side -/
theorem scL_I {I I' : mm_I} {t : Nat} (h20 : I' (20 + t) = I (20 + t)) (h22 : I' (22 + t) = I (22 + t)) (x : Int64) : ∀ (m s : Nat) (a lo : Int64), scL I' t x m s a lo = scL I t x m s a lo := by
  intro m
  induction m with
  | zero => intro s a lo; rfl
  | succ m ih =>
    intro s a lo
    simp only [scL, h20, h22, ih]
theorem stC_I {I I' : mm_I} {L : mm_L} {p n : Nat} {W : Nat → Int64} (hp : p < 6) (ok : nOK I n) (h : ∀ t, ((3 ≤ t ∧ t ≤ 8) ∨ t = 10 ∨ (18 ≤ t ∧ t ≤ 23) ∨ (30 ≤ t ∧ t ≤ 35)) → I' t = I t) : stC I' L p W n = stC I L p W n := by
  obtain ⟨k, hk, ek, -, -, -, -, -, -, o3, -, -⟩ := ok
  have e3 := h 3 (by omega)
  have e4 := h 4 (by omega)
  have e5 := h 5 (by omega)
  have e6 := h 6 (by omega)
  have e10 := h 10 (by omega)
  have e30 := h (30 + p) (by omega)
  have e : (I 3 n).toNatClampNeg = k := by rw [ek]; exact cl_nI (by omega)
  unfold stC
  rw [e3, e]
  by_cases h19 : k = 19
  · subst h19
    obtain ⟨a, ha, ea⟩ := o3 (Or.inr rfl)
    simp only [stK]
    rw [e4, e5, ea, cl_nI (show a < 2 ^ 31 by omega)]
    unfold vScl
    rw [h (18 + a) (by omega)]
    simp only [scL_I (h (20 + a) (by omega)) (h (22 + a) (by omega))]
  · obtain rfl | rfl | rfl | rfl | rfl | rfl | rfl | rfl | rfl | rfl | rfl | rfl | rfl | rfl | rfl | rfl | rfl | rfl | rfl : k = 0 ∨ k = 1 ∨ k = 2 ∨ k = 3 ∨ k = 4 ∨ k = 5 ∨ k = 6 ∨ k = 7 ∨ k = 8 ∨ k = 9 ∨ k = 10 ∨ k = 11 ∨ k = 12 ∨ k = 13 ∨ k = 14 ∨ k = 15 ∨ k = 16 ∨ k = 17 ∨ k = 18 := by omega
    all_goals simp only [stK, dW, e3, e4, e5, e6, e10, e30]
def fixW (I : mm_I) (L : mm_L) (p nn : Nat) (W : Nat → Int64) : Prop := ∀ n, n < nn → W n = stC I L p W n
theorem fix_c {I I' : mm_I} {L L' : mm_L} {p nn : Nat} {W : Nat → Int64} (hp : p < 6) (hN : vN I nn) (hD : vD I nn) (h : ∀ t, ((3 ≤ t ∧ t ≤ 8) ∨ t = 10 ∨ (18 ≤ t ∧ t ≤ 23) ∨ (30 ≤ t ∧ t ≤ 35)) → I' t = I t) (hL : L' (24 + p) = L (24 + p)) (q : fixW I' L' p nn W) : fixW I L p nn W := by
  intro n hn
  have ok := (hN.2.2.2 n hn).1
  rw [← stC_c (L' := L') (L := L) (W' := W) hn hN.1 ok hD hL (fun _ _ _ => rfl), ← stC_I (I' := I') hp ok h]
  exact q n hn
def whyS (x y g t n : Int64) : Int32 := if kI g = true then (if kI t = true then (if kI n = true then (if g - t = n then (if kI (x + g) = true then (if kI (y + t) = true then 0 else 6) else 6) else 5) else rs n) else rs t) else rs g
theorem why_S (L : mm_L) (p : Nat) (g t n : Int64) : why L p g t n = whyS (L (24 + p) 1) (L (24 + p) 2) g t n := by
  unfold why whyS
  rfl
def oR (a : Int32) (x y g t n : Int64) : Int32 := if a = 0 then 0 else if kI x = true ∧ kI y = true then whyS x y g t n else 6
def oP (a : Int32) (x y g t n : Int64) : Prop := ¬ a = 0 ∧ kI x = true ∧ kI y = true ∧ whyS x y g t n = 0
/-- what the component leaves of one person -/
def cE (a : Int32) (x y g t n : Int64) (re : Int32) (m0 m1 m2 x' y' : Int64) : Prop := re = oR a x y g t n ∧ (oP a x y g t n → m0 = g ∧ m1 = t ∧ m2 = n ∧ x' = x + g ∧ y' = y + t) ∧ (¬ oP a x y g t n → m0 = 1000000000000 ∧ m1 = 1000000000000 ∧ m2 = 1000000000000 ∧ x' = x ∧ y' = y)
def cA (I : mm_I) (L : mm_L) (p nn : Nat) (re : Int32) (m0 m1 m2 x' y' : Int64) : Prop := ∃ W, (¬ I (24 + p) 3 = 0 ∧ kI (L (24 + p) 1) = true ∧ kI (L (24 + p) 2) = true → fixW I L p nn W) ∧ cE (I (24 + p) 3) (L (24 + p) 1) (L (24 + p) 2) (dW I W 0) (dW I W 1) (dW I W 2) re m0 m1 m2 x' y'
theorem s_writeSlip {r p : Nat} (hr : r < 16) (hp : p < 6) (x y z : Int64) (I : mm_I) (L : mm_L) (Q : mm_I → mm_L → Prop) (h : ∀ L', (∀ t, t ≠ 15 → L' t = L t) → (∀ k, ¬ ((r * 6 + p) * 3 ≤ k ∧ k < (r * 6 + p) * 3 + 3) → L' 15 k = L 15 k) → L' 15 ((r * 6 + p) * 3) = x → L' 15 ((r * 6 + p) * 3 + 1) = y → L' 15 ((r * 6 + p) * 3 + 2) = z → Q I L') : vc_X3_writeSlip (nI r) (nI p) x y z I L Q := by
  have e3 : nI (r * 6 + p) * 3 = nI ((r * 6 + p) * 3) := pk_mul (r * 6 + p) 3
  have a0 : nI ((r * 6 + p) * 3) + 0 = nI ((r * 6 + p) * 3) := nI_add ((r * 6 + p) * 3) 0
  have a2 : nI ((r * 6 + p) * 3) + 2 = nI ((r * 6 + p) * 3 + 2) := nI_add ((r * 6 + p) * 3) 2
  simp only [vc_X3_writeSlip, vc_X3_writeSlip_0, vc_X3_placeOf, vc_X3_placeOf_0, ixm r 6 p (m := 6) rfl, e3, a0, a2, nI_1', cl_nI (show (r * 6 + p) * 3 < 2 ^ 31 by omega), cl_nI (show (r * 6 + p) * 3 + 1 < 2 ^ 31 by omega), cl_nI (show (r * 6 + p) * 3 + 2 < 2 ^ 31 by omega)]
  refine ⟨in_nI (by omega) (by decide), in_nI (by omega) (by decide), in_nI (by omega) (by decide), h _ (fun t ht => ?_) (fun k hk => ?_) ?_ ?_ ?_⟩
  · rw [mm_uL_ne _ _ _ ht, mm_uL_ne _ _ _ ht, mm_uL_ne _ _ _ ht]
  · rw [uL_at, if_neg (by omega), uL_at, if_neg (by omega), uL_at, if_neg (by omega)]
  · rw [uL_at, if_neg (by omega), uL_at, if_neg (by omega), uL_at, if_pos rfl]
  · rw [uL_at, if_neg (by omega), uL_at, if_pos rfl]
  · rw [uL_at, if_pos rfl]
theorem s_hold {r p : Nat} (hr : r < 16) (hp : p < 6) (v : Int32) (I : mm_I) (L : mm_L) (Q : mm_I → mm_L → Prop) (h : Q (mm_uI I 16 (r * 6 + p) v) L) : vc_X3_hold (nI r) (nI p) v I L Q := by
  simp only [vc_X3_hold, vc_X3_hold_0, ixm r 6 p (m := 6) rfl, cl_nI (show r * 6 + p < 2 ^ 31 by omega)]
  exact ⟨in_nI (by omega) (by decide), h⟩
theorem s_cpayOne {I : mm_I} {L : mm_L} {r p nn : Nat} (hr : r < 16) (hp : p < 6) (hN : vN I nn) (hO : vO I nn) (hD : vD I nn) (hT : vT I) (ha : ¬ I (24 + p) 3 = 0) (h16 : I 16 (r * 6 + p) = 0) (w0 : L 15 ((r * 6 + p) * 3) = 1000000000000) (w1 : L 15 ((r * 6 + p) * 3 + 1) = 1000000000000) (w2 : L 15 ((r * 6 + p) * 3 + 2) = 1000000000000) (Q : mm_I → mm_L → Prop) (h : ∀ I' L', (∀ t, t ≠ 16 → I' t = I t) → (∀ x, x ≠ r * 6 + p → I' 16 x = I 16 x) → (∀ t, t ≠ 12 → t ≠ 15 → t ≠ 24 + p → L' t = L t) → (∀ k, ¬ ((r * 6 + p) * 3 ≤ k ∧ k < (r * 6 + p) * 3 + 3) → L' 15 k = L 15 k) → cA I L p nn (I' 16 (r * 6 + p)) (L' 15 ((r * 6 + p) * 3)) (L' 15 ((r * 6 + p) * 3 + 1)) (L' 15 ((r * 6 + p) * 3 + 2)) (L' (24 + p) 1) (L' (24 + p) 2) → Q I' L') : vc_X6_payOne (nI r) (nI p) I L Q := by
  have dIn : ∀ d, d < 8 → (I 10 d = -1 ∨ vp_in (I 10 d) 70) := fun d hd => by
    have h70 := hN.1
    rcases (hD d hd).2 with z | ⟨m, hm, z, -⟩
    · exact Or.inl z
    · exact Or.inr (by rw [z]; exact in_nI (by omega) (by decide))
  simp only [vc_X6_payOne, vc_X6_payOne_0, cl_nI (show p < 2 ^ 31 by omega), s_paidIsInt, bI_0]
  refine ⟨in_nI hp (by decide), fun hk => ?_, fun hk => ?_⟩
  · have hk : kI (L (24 + p) 1) = true ∧ kI (L (24 + p) 2) = true := by
      by_cases z : kI (L (24 + p) 1) = true ∧ kI (L (24 + p) 2) = true
      · exact z
      · exact absurd z hk
    refine s_workOutFor hp hN hO hD hT _ (fun L1 a1 a2 => ?_)
    refine s_workedDefinition 0 (by decide) I L1 _ (dIn 0 (by decide)) ?_
    refine s_workedDefinition 1 (by decide) I L1 _ (dIn 1 (by decide)) ?_
    refine s_workedDefinition 2 (by decide) I L1 _ (dIn 2 (by decide)) ?_
    refine (s_reasonToHold _ _ _ _ I L1 _).mpr ?_
    have l24 : L1 (24 + p) = L (24 + p) := a1 (24 + p) (by omega)
    have l15 : L1 15 = L 15 := a1 15 (by decide)
    rw [why_S, l24]
    refine ⟨fun hz => s_writeSlip hr hp _ _ _ I L1 _ (fun L2 b1 b2 b3 b4 b5 => s_grow p _ _ I L2 _ (fun L3 c1 c2 c3 => ?_)), fun hz => s_hold hr hp _ I L1 _ ?_⟩
    · refine h I L3 (fun _ _ => rfl) (fun _ _ => rfl) (fun t h1 h2 h3 => by rw [c1 t h3, b1 t h2, a1 t h1]) (fun k hk => by rw [c1 15 (by omega), b2 k hk, l15]) ⟨L1 12, fun _ => a2, ?_, fun _ => ?_, fun q => absurd ⟨ha, hk.1, hk.2, hz⟩ q⟩
      · rw [h16, oR, if_neg ha, if_pos hk, hz]
      · rw [c1 15 (by omega), b3, b4, b5, c2, c3, b1 (24 + p) (by omega), l24]
        exact ⟨rfl, rfl, rfl, rfl, rfl⟩
    · refine h _ L1 (fun t ht => uI_ne _ _ _ ht) (fun x hx => by rw [uI_at, if_neg hx]) (fun t h1 _ _ => a1 t h1) (fun k _ => by rw [l15]) ⟨L1 12, fun _ => a2, ?_, fun q => absurd q.2.2.2 hz, fun _ => ?_⟩
      · rw [uI_at, if_pos rfl, oR, if_neg ha, if_pos hk]
      · rw [l15, l24]
        exact ⟨w0, w1, w2, rfl, rfl⟩
  · refine s_hold hr hp _ I L _ ?_
    refine h _ L (fun t ht => uI_ne _ _ _ ht) (fun x hx => by rw [uI_at, if_neg hx]) (fun t _ _ _ => rfl) (fun k _ => rfl) ⟨fun _ => 0, fun q => absurd q.2 hk, ?_, fun q => absurd ⟨q.2.1, q.2.2.1⟩ hk, fun _ => ⟨w0, w1, w2, rfl, rfl⟩⟩
    rw [uI_at, if_pos rfl, oR, if_neg ha, if_neg hk]
theorem s_cpayAll {I : mm_I} {L : mm_L} {r nn : Nat} (hr : r < 16) (hN : vN I nn) (hO : vO I nn) (hD : vD I nn) (hT : vT I) (Q : mm_I → mm_L → Prop) (h : ∀ I' L', (∀ t, t ≠ 16 → I' t = I t) → (∀ x, ¬ (r * 6 ≤ x ∧ x < r * 6 + 6) → I' 16 x = I 16 x) → (∀ t, t ≠ 12 → t ≠ 15 → (t < 24 ∨ 30 ≤ t) → L' t = L t) → (∀ k, ¬ (r * 18 ≤ k ∧ k < r * 18 + 18) → L' 15 k = L 15 k) → (∀ p, p < 6 → cA I L p nn (I' 16 (r * 6 + p)) (L' 15 ((r * 6 + p) * 3)) (L' 15 ((r * 6 + p) * 3 + 1)) (L' 15 ((r * 6 + p) * 3 + 2)) (L' (24 + p) 1) (L' (24 + p) 2)) → Q I' L') : vc_X6_payAll (nI r) I L Q := by
  have aux : ∀ (m i : Nat) (I1 : mm_I) (L1 : mm_L), i + m = 6 → (∀ t, t ≠ 16 → I1 t = I t) → (∀ x, ¬ (r * 6 ≤ x ∧ x < r * 6 + 6) → I1 16 x = I 16 x) → (∀ t, t ≠ 12 → t ≠ 15 → (t < 24 ∨ 30 ≤ t) → L1 t = L t) → (∀ k, ¬ (r * 18 ≤ k ∧ k < r * 18 + 18) → L1 15 k = L 15 k) → (∀ p, p < i → cA I L p nn (I1 16 (r * 6 + p)) (L1 15 ((r * 6 + p) * 3)) (L1 15 ((r * 6 + p) * 3 + 1)) (L1 15 ((r * 6 + p) * 3 + 2)) (L1 (24 + p) 1) (L1 (24 + p) 2)) → (∀ p, i ≤ p → p < 6 → L1 (24 + p) = L (24 + p)) → vc_X6_payAll_2 (m + 1) (nI r) (nI i) I1 L1 Q := by
    intro m
    induction m with
    | zero =>
      intro i I1 L1 hi a1 a2 a3 a4 a5 a6
      obtain rfl : i = 6 := by omega
      rw [vc_X6_payAll_2]
      exact ⟨fun _ => h I1 L1 a1 a2 a3 a4 a5, fun q => absurd (by decide) q⟩
    | succ m ih =>
      intro i I1 L1 hi a1 a2 a3 a4 a5 a6
      have hi6 : i < 6 := by omega
      rw [vc_X6_payAll_2]
      refine ⟨fun q => absurd q (nI_ge (b := 6) (by omega) (by decide)), fun _ => ?_⟩
      simp only [vc_X3_wipe, vc_X3_wipe_0, cl_nI (show i < 2 ^ 31 by omega), nI_1']
      refine s_writeSlip hr hi6 _ _ _ I1 L1 _ (fun L2 b1 b2 b3 b4 b5 => s_hold hr hi6 _ I1 L2 _ ?_)
      have o2 : ∀ t, t ≠ 16 → (mm_uI I1 16 (r * 6 + i) 0) t = I t := fun t ht => (uI_ne _ _ _ ht).trans (a1 t ht)
      have c16 : (mm_uI I1 16 (r * 6 + i) 0) 16 (r * 6 + i) = 0 := by rw [uI_at, if_pos rfl]
      have o16 : ∀ x, x ≠ r * 6 + i → (mm_uI I1 16 (r * 6 + i) 0) 16 x = I1 16 x := fun x hx => by rw [uI_at, if_neg hx]
      generalize mm_uI I1 16 (r * 6 + i) 0 = I2 at o2 c16 o16 ⊢
      have l24 : L2 (24 + i) = L (24 + i) := (b1 _ (by omega)).trans (a6 i (Nat.le_refl i) hi6)
      refine ⟨in_nI hi6 (by decide), fun hz => ?_, fun hz => ?_⟩
      · refine ih (i + 1) I2 L2 (by omega) o2 (fun x hx => by rw [o16 x (by omega)]; exact a2 x hx) (fun t h1 h2 h3 => by rw [b1 t h2]; exact a3 t h1 h2 h3) (fun k hk => by rw [b2 k (by omega)]; exact a4 k hk) (fun q hq => ?_) (fun q h1 h2 => by rw [b1 _ (by omega)]; exact a6 q (by omega) h2)
        by_cases hqi : q = i
        · subst hqi
          rw [o2 _ (by omega)] at hz
          refine ⟨fun _ => 0, fun z => absurd hz z.1, ?_, fun z => absurd hz z.1, fun _ => ?_⟩
          · rw [c16, oR, if_pos hz]
          · rw [b3, b4, b5, l24]
            exact ⟨rfl, rfl, rfl, rfl, rfl⟩
        · rw [o16 _ (by omega), b2 _ (by omega), b2 _ (by omega), b2 _ (by omega), b1 _ (by omega)]
          exact a5 q (by omega)
      · have hN2 : vN I2 nn := vN_c (fun t ht => o2 t (by omega)) hN
        have hO2 : vO I2 nn := vO_c (o2 8 (by decide)) (o2 9 (by decide)) hO
        have hD2 : vD I2 nn := vD_c (o2 8 (by decide)) (o2 10 (by decide)) (o2 43 (by decide)) hD
        have hT2 : vT I2 := vT_c (fun t ht => o2 t (by omega)) hT
        refine s_cpayOne hr hi6 hN2 hO2 hD2 hT2 hz c16 b3 b4 b5 _ (fun I3 L3 d1 d2 d3 d4 d5 => ?_)
        refine ih (i + 1) I3 L3 (by omega) (fun t ht => (d1 t ht).trans (o2 t ht)) (fun x hx => by rw [d2 x (by omega), o16 x (by omega)]; exact a2 x hx) (fun t h1 h2 h3 => by rw [d3 t h1 h2 (by omega), b1 t h2]; exact a3 t h1 h2 h3) (fun k hk => by rw [d4 k (by omega), b2 k (by omega)]; exact a4 k hk) (fun q hq => ?_) (fun q h1 h2 => by rw [d3 _ (by omega) (by omega) (by omega), b1 _ (by omega)]; exact a6 q (by omega) h2)
        by_cases hqi : q = i
        · subst hqi
          obtain ⟨W, f1, f2⟩ := d5
          have e24 : I2 (24 + q) = I (24 + q) := o2 _ (by omega)
          have e10 : I2 10 = I 10 := o2 10 (by decide)
          have dd : ∀ d, dW I2 W d = dW I W d := fun d => by unfold dW; rw [e10]
          rw [e24, l24] at f1
          rw [e24, l24, dd, dd, dd] at f2
          exact ⟨W, fun z => fix_c hi6 hN hD (fun t ht => o2 t (by omega)) l24 (f1 z), f2⟩
        · rw [d2 _ (by omega), o16 _ (by omega), d4 _ (by omega), d4 _ (by omega), d4 _ (by omega), b2 _ (by omega), b2 _ (by omega), b2 _ (by omega), d3 _ (by omega) (by omega) (by omega), b1 _ (by omega)]
          exact a5 q (by omega)
  simp only [vc_X6_payAll, vc_X6_payAll_0]
  exact ⟨7, aux 6 0 I L rfl (fun _ _ => rfl) (fun _ _ => rfl) (fun _ _ _ _ => rfl) (fun _ _ => rfl) (fun q hq => absurd hq (by omega)) (fun _ _ _ => rfl)⟩
