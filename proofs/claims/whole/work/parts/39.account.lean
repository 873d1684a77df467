/-! PURE: account -/
def gT (L : mm_L) (r w : Nat) : Nat → Int64 → Int64 := fun p a => if L 15 ((r * 6 + p) * 3) = 1000000000000 then a else a + L 15 ((r * 6 + p) * 3 + w)
theorem fo_add {g : Nat → Int64 → Int64} (hg : ∀ k a b, g k (a + b) = a + g k b) : ∀ (m i : Nat) (a b : Int64), fo g m i (a + b) = a + fo g m i b
  | 0, _, _, _ => rfl
  | m + 1, i, a, b => by
    show fo g m (i + 1) (g i (a + b)) = a + fo g m (i + 1) (g i b)
    rw [hg]
    exact fo_add hg m (i + 1) a (g i b)
theorem gT_add (L : mm_L) (r w k : Nat) (a b : Int64) : gT L r w k (a + b) = a + gT L r w k b := by
  unfold gT
  split
  · rfl
  · exact Int64.add_assoc a b _
theorem s_totalOfRun (r w : Nat) (hr : r < 16) (hw : w < 3) (I : mm_I) (L : mm_L) (Q : Int64 → mm_I → mm_L → Prop) (h : Q (fo (gT L r w) 6 0 0) I L) : vc_X3_totalOfRun (nI r) (nI w) I L Q := by
  have aux : ∀ (m i : Nat) (a : Int64), i + m = 6 → Q (fo (gT L r w) m i a) I L → vc_X3_totalOfRun_5 (m + 1) (nI r) (nI w) a (nI i) I L Q := by
    intro m
    induction m with
    | zero =>
      intro i a hi hq
      obtain rfl : i = 6 := by omega
      rw [vc_X3_totalOfRun_5]
      exact ⟨fun _ => hq, fun q => absurd (by decide) q⟩
    | succ m ih =>
      intro i a hi hq
      rw [vc_X3_totalOfRun_5]
      refine ⟨fun q => absurd q (nI_ge (b := 6) (by omega) (by decide)), fun _ => ?_⟩
      simp only [s_hasSlip r i hr (by omega), s_amountOf r i w hr (by omega) hw, bI_0, nI_1']
      have hq : Q (fo (gT L r w) m (i + 1) (gT L r w i a)) I L := hq
      refine ⟨fun h1 => ih (i + 1) a (by omega) ?_, fun h1 => ih (i + 1) _ (by omega) ?_⟩
      · have h2 : L 15 ((r * 6 + i) * 3) = 1000000000000 := by simpa using h1
        rw [gT, if_pos h2] at hq
        exact hq
      · have h2 : ¬ L 15 ((r * 6 + i) * 3) = 1000000000000 := by simpa using h1
        rw [gT, if_neg h2] at hq
        exact hq
  exact ⟨7, aux 6 0 0 rfl h⟩
def gTT (I : mm_I) (L : mm_L) (w : Nat) : Nat → Int64 → Int64 := fun r a => if I 17 r = 0 then a + fo (gT L r w) 6 0 0 else a
theorem s_totalOf (rr w : Nat) (hrr : rr ≤ 16) (hw : w < 3) (I : mm_I) (L : mm_L) (e : I 14 3 = nI rr) (Q : Int64 → mm_I → mm_L → Prop) (h : Q (fo (gTT I L w) rr 0 0) I L) : vc_X3_totalOf (nI w) I L Q := by
  have aux : ∀ (m i : Nat) (a : Int64), i + m = rr → Q (fo (gTT I L w) m i a) I L → vc_X3_totalOf_5 (m + 1) (nI w) a (nI i) I L Q := by
    intro m
    induction m with
    | zero =>
      intro i a hi hq
      rw [vc_X3_totalOf_5]
      exact rg e hrr (fun _ => hq) (fun q => absurd q (by omega)) (by omega)
    | succ m ih =>
      intro i a hi hq
      rw [vc_X3_totalOf_5]
      refine rg e hrr (fun q => absurd q (by omega)) (fun _ => ?_) (by omega)
      simp only [cl_nI (show i < 2 ^ 31 by omega), nI_1']
      have hq : Q (fo (gTT I L w) m (i + 1) (gTT I L w i a)) I L := hq
      refine ⟨in_nI (by omega) (by decide), fun h1 => ih (i + 1) a (by omega) ?_, fun h1 => s_totalOfRun i w (by omega) hw I L _ (ih (i + 1) _ (by omega) ?_)⟩
      · rw [gTT, if_neg h1] at hq
        exact hq
      · rw [gTT, if_pos h1] at hq
        exact hq
  exact ⟨rr + 1, aux rr 0 0 (by omega) h⟩
def mT (I : mm_I) (L : mm_L) (r w : Nat) : Nat → Int64 → Int64 := fun p a => if I 50 (r * 6 + p) = 0 then a else a + L 52 ((r * 6 + p) * 3 + w)
def mTT (I : mm_I) (L : mm_L) (w : Nat) : Nat → Int64 → Int64 := fun r a => if I 49 r = 0 then fo (mT I L r w) 6 0 a else a
theorem s_a31 (r w : Nat) (hr : r < 16) (hw : w < 3) (a : Int64) (I : mm_I) (L : mm_L) (Q : Int64 → mm_I → mm_L → Prop) (K : Int32 → Int64 → Int32 → mm_I → mm_L → Prop) (h : K (nI w) (mTT I L w r a) (nI r) I L) : ∃ n, vc_X7_account_31 n (nI w) a (nI r) 0 I L Q K := by
  by_cases ht : I 49 r = 0
  · rw [mTT, if_pos ht] at h
    have aux : ∀ (m i : Nat) (a : Int64), i + m = 6 → K (nI w) (fo (mT I L r w) m i a) (nI r) I L → vc_X7_account_31 (m + 1) (nI w) a (nI r) (nI i) I L Q K := by
      intro m
      induction m with
      | zero =>
        intro i a hi hq
        obtain rfl : i = 6 := by omega
        rw [vc_X7_account_31]
        exact ⟨fun _ => hq, fun q => absurd (by decide) q⟩
      | succ m ih =>
        intro i a hi hq
        rw [vc_X7_account_31]
        refine ⟨fun q => absurd q (nI_ge (b := 6) (by omega) (by decide)), fun _ => ?_⟩
        simp only [cl_nI (show r < 2 ^ 31 by omega), ixm r 6 i (m := 6) rfl, ixm (r * 6 + i) 3 w (m := 3) rfl, cl_nI (show r * 6 + i < 2 ^ 31 by omega), cl_nI (show (r * 6 + i) * 3 + w < 2 ^ 31 by omega), nI_1']
        have hq : K (nI w) (fo (mT I L r w) m (i + 1) (mT I L r w i a)) (nI r) I L := hq
        refine ⟨in_nI hr (by decide), fun q => absurd ht q, fun _ => ⟨in_nI (by omega) (by decide), fun h1 => ih (i + 1) a (by omega) ?_, fun h1 => ⟨in_nI (by omega) (by decide), ih (i + 1) _ (by omega) ?_⟩⟩⟩
        · rw [mT, if_pos h1] at hq
          exact hq
        · rw [mT, if_neg h1] at hq
          exact hq
    exact ⟨7, aux 6 0 a rfl h⟩
  · rw [mTT, if_neg ht] at h
    refine ⟨1, ?_⟩
    rw [vc_X7_account_31]
    refine ⟨fun q => absurd q (by decide), fun _ => ⟨in_nI hr (by decide), fun _ => h, fun q => ?_⟩⟩
    rw [cl_nI (show r < 2 ^ 31 by omega)] at q
    exact absurd q ht
theorem s_maccount (rr w : Nat) (hrr : rr ≤ 16) (hw : w < 3) (I : mm_I) (L : mm_L) (e : I 36 1 = nI rr) (Q : Int64 → mm_I → mm_L → Prop) (h : Q (if w = 0 then fo (mTT I L w) rr 0 0 else -(fo (mTT I L w) rr 0 0)) I L) : ∃ n, vc_X7_account_19 n (nI w) 0 0 I L Q := by
  have aux : ∀ (m i : Nat) (a : Int64), i + m = rr → Q (if w = 0 then fo (mTT I L w) m i a else -(fo (mTT I L w) m i a)) I L → vc_X7_account_19 (m + 1) (nI w) a (nI i) I L Q := by
    intro m
    induction m with
    | zero =>
      intro i a hi hq
      have hq : Q (if w = 0 then a else -a) I L := hq
      rw [vc_X7_account_19]
      refine rg e hrr (fun _ => ⟨fun h1 => ?_, fun h1 => ?_⟩) (fun q => absurd q (by omega)) (by omega)
      · rw [if_neg (fun q => by subst q; exact h1 rfl)] at hq
        exact hq
      · rw [if_pos ((nI_eq (b := 0) (by omega) (by decide)).mp h1)] at hq
        exact hq
    | succ m ih =>
      intro i a hi hq
      rw [vc_X7_account_19]
      refine rg e hrr (fun q => absurd q (by omega)) (fun _ => ?_) (by omega)
      have hq : Q (if w = 0 then fo (mTT I L w) m (i + 1) (mTT I L w i a) else -(fo (mTT I L w) m (i + 1) (mTT I L w i a))) I L := hq
      refine s_a31 i w (by omega) hw a I L Q _ ?_
      rw [nI_1']
      exact ih (i + 1) _ (by omega) hq
  exact ⟨rr + 1, aux rr 0 0 (by omega) h⟩
theorem op_account {I : mm_I} {L : mm_L} (hI : Inv I L) (x : Int32) (Q : Int64 → Int64 → mm_I → mm_L → Prop) (hQ : ∀ r I2 L2, Inv I2 L2 → Q r r I2 L2) : vc_X6_account x I L (fun r I1 L1 => vc_X7_account x I1 L1 (fun r' I2 L2 => Q r r' I2 L2)) := by
  obtain ⟨nn, rr, hN, hO, hD, hT, hP, hR⟩ := id hI
  have hrr := hR.1
  have e1 := hR.2.1
  have e2 := hR.2.2.1
  simp only [vc_X6_account, vc_X6_account_0, s_within, bI_0, vc_X7_account, vc_X7_account_0, s_out]
  rcases in_or x (n := 3) (by decide) with ⟨w, hw, rfl⟩ | hd
  · simp only [w_t (n := 3) (b := 3) hw (by decide) rfl, o_f (n := 2) (b := 2) hw (by decide) rfl, not_true_eq_false, not_false_eq_true, forall_const, false_implies, and_true, true_and]
    have eT : fo (mTT I L w) rr 0 0 = fo (gTT I L w) rr 0 0 := fo_c rr 0 0 (fun r _ hr b => by
      unfold mTT gTT
      rw [(hR.2.2.2.1 r (by omega)).2]
      split
      · rw [← fo_add (gT_add L r w) 6 0 b 0, Int64.add_zero]
        refine fo_c 6 0 b (fun p _ hp a => ?_)
        unfold mT gT
        rcases (hR.2.2.2.2.2 r p (by omega) (by omega)).2 with z | z
        · have := z.2 0 (by decide)
          rw [Nat.add_zero] at this
          rw [if_pos this, if_pos z.1]
        · rw [if_neg z.2.1, if_neg (by rw [z.1]; decide), z.2.2 w hw]
      · rfl)
    refine ⟨fun h => ?_, fun h => ?_⟩
    · refine s_totalOf rr w hrr hw I L e1 _ (s_maccount rr w hrr hw I L e2 _ ?_)
      rw [if_neg (fun q => by subst q; exact h rfl), eT]
      exact hQ _ _ _ hI
    · have hw0 : w = 0 := (nI_eq (b := 0) (by omega) (by decide)).mp h
      subst hw0
      refine s_totalOf rr 0 hrr (by decide) I L e1 _ (s_maccount rr 0 hrr (by decide) I L e2 _ ?_)
      rw [if_pos rfl, eT]
      exact hQ _ _ _ hI
  · simp only [w_f (n := 3) (b := 3) hd rfl, o_t (n := 2) (b := 2) hd (by decide) rfl, not_true_eq_false, not_false_eq_true, forall_const, false_implies, true_and, and_true]
    exact hQ _ _ _ hI
