/-! PURE: count, account: loops as folds -/
def fo {α : Type} (g : Nat → α → α) : Nat → Nat → α → α
  | 0, _, a => a
  | m + 1, i, a => fo g m (i + 1) (g i a)
theorem fo_c {α : Type} {g g' : Nat → α → α} : ∀ (m i : Nat) (a : α), (∀ k, i ≤ k → k < i + m → ∀ b, g k b = g' k b) → fo g m i a = fo g' m i a
  | 0, _, _, _ => rfl
  | m + 1, i, a, h => by
    show fo g m (i + 1) (g i a) = fo g' m (i + 1) (g' i a)
    rw [h i (Nat.le_refl i) (by omega) a]
    exact fo_c m (i + 1) _ (fun k h1 h2 b => h k (by omega) (by omega) b)
theorem s_hasSlip (a j : Nat) (ha : a < 16) (hj : j < 6) (I : mm_I) (L : mm_L) (Q : Int32 → mm_I → mm_L → Prop) : vc_X3_hasSlip (nI a) (nI j) I L Q ↔ Q (bI (¬ L 15 ((a * 6 + j) * 3) = 1000000000000)) I L := by
  have e : nI (a * 6 + j) * 3 = nI ((a * 6 + j) * 3) := pk_mul (a * 6 + j) 3
  simp only [vc_X3_hasSlip, vc_X3_hasSlip_0, vc_X3_placeOf, vc_X3_placeOf_0, ixm a 6 j (m := 6) rfl, e, cl_nI (show (a * 6 + j) * 3 < 2 ^ 31 by omega)]
  have hin : vp_in (nI ((a * 6 + j) * 3)) 288 := in_nI (by omega) (by decide)
  by_cases h : L 15 ((a * 6 + j) * 3) = 1000000000000 <;> simp [h, hin, bI]
def gS (L : mm_L) (r : Nat) : Nat → Int32 → Int32 := fun p a => if L 15 ((r * 6 + p) * 3) = 1000000000000 then a else a + 1
theorem s_slipsOf (r : Nat) (hr : r < 16) (I : mm_I) (L : mm_L) (Q : Int32 → mm_I → mm_L → Prop) (h : Q (fo (gS L r) 6 0 0) I L) : vc_X3_slipsOf (nI r) I L Q := by
  have aux : ∀ (m i : Nat) (a : Int32), i + m = 6 → Q (fo (gS L r) m i a) I L → vc_X3_slipsOf_4 (m + 1) (nI r) a (nI i) I L Q := by
    intro m
    induction m with
    | zero =>
      intro i a hi hq
      obtain rfl : i = 6 := by omega
      rw [vc_X3_slipsOf_4]
      exact ⟨fun _ => hq, fun q => absurd (by decide) q⟩
    | succ m ih =>
      intro i a hi hq
      rw [vc_X3_slipsOf_4]
      refine ⟨fun q => absurd q (nI_ge (b := 6) (by omega) (by decide)), fun _ => ?_⟩
      simp only [s_hasSlip r i hr (by omega), bI_0, nI_1']
      have hq : Q (fo (gS L r) m (i + 1) (gS L r i a)) I L := hq
      refine ⟨fun h1 => ih (i + 1) a (by omega) ?_, fun h1 => ih (i + 1) (a + 1) (by omega) ?_⟩
      · have h2 : L 15 ((r * 6 + i) * 3) = 1000000000000 := by simpa using h1
        rw [gS, if_pos h2] at hq
        exact hq
      · have h2 : ¬ L 15 ((r * 6 + i) * 3) = 1000000000000 := by simpa using h1
        rw [gS, if_neg h2] at hq
        exact hq
  exact ⟨7, aux 6 0 0 rfl h⟩
def mS6 (I : mm_I) (r : Nat) : Nat → Int32 → Int32 := fun p a => if I 50 (r * 6 + p) = 0 then a else a + 1
theorem s_mslips (r : Nat) (hr : r < 16) (I : mm_I) (L : mm_L) (Q : Int32 → mm_I → mm_L → Prop) (h : Q (fo (mS6 I r) 6 0 0) I L) : vc_X7_slips (nI r) I L Q := by
  have aux : ∀ (m i : Nat) (a : Int32), i + m = 6 → Q (fo (mS6 I r) m i a) I L → vc_X7_slips_4 (m + 1) (nI r) a (nI i) I L Q := by
    intro m
    induction m with
    | zero =>
      intro i a hi hq
      obtain rfl : i = 6 := by omega
      rw [vc_X7_slips_4]
      exact ⟨fun _ => hq, fun q => absurd (by decide) q⟩
    | succ m ih =>
      intro i a hi hq
      rw [vc_X7_slips_4]
      refine ⟨fun q => absurd q (nI_ge (b := 6) (by omega) (by decide)), fun _ => ?_⟩
      simp only [ixm r 6 i (m := 6) rfl, cl_nI (show r * 6 + i < 2 ^ 31 by omega), nI_1']
      have hq : Q (fo (mS6 I r) m (i + 1) (mS6 I r i a)) I L := hq
      refine ⟨in_nI (by omega) (by decide), fun h1 => ih (i + 1) a (by omega) ?_, fun h1 => ih (i + 1) (a + 1) (by omega) ?_⟩
      · rw [mS6, if_pos h1] at hq
        exact hq
      · rw [mS6, if_neg h1] at hq
        exact hq
  exact ⟨7, aux 6 0 0 rfl h⟩
theorem slips_eq {I : mm_I} {L : mm_L} {rr r : Nat} (hR : vRn I L rr) (hr : r < rr) (a : Int32) : fo (gS L r) 6 0 a = fo (mS6 I r) 6 0 a := by
  refine fo_c 6 0 a (fun p _ hp b => ?_)
  unfold gS mS6
  rcases (hR.2.2.2.2.2 r p hr (by omega)).2 with z | z
  · have := z.2 0 (by decide)
    rw [Nat.add_zero] at this
    rw [if_pos this, if_pos z.1]
  · rw [if_neg z.2.1, if_neg (by rw [z.1]; decide)]
/-- a loop over the runs, by its own words -/
theorem rg {rr i : Nat} {b : Int32} (hb : b = nI rr) (hrr : rr ≤ 16) {A B : Prop} (h1 : rr ≤ i → A) (h2 : i < rr → B) (hi : i ≤ 16) : (b ≤ nI i → A) ∧ (¬ b ≤ nI i → B) := by
  rw [hb]
  refine ⟨fun q => h1 ((nI_leI (by omega) (by omega)).mp q), fun q => h2 ?_⟩
  rcases Nat.lt_or_ge i rr with z | z
  · exact z
  · exact absurd (nI_le z (by omega)) q
def gB (I : mm_I) : Nat → Int32 → Int32 := fun r a => if I 17 r = 0 then a else a + 1
def gA (I : mm_I) (L : mm_L) : Nat → Int32 → Int32 := fun r a => if I 17 r = 0 then a + fo (gS L r) 6 0 0 else a
def gP (I : mm_I) : Nat → Int32 → Int32 := fun p a => if I (24 + p) 3 = 0 then a else a + 1
def gD (I : mm_I) : Nat → Int32 → Int32 := fun d a => if I 10 d = -1 then a else a ||| (1 <<< (nI d &&& 31))
theorem s_howManyTakenBack (rr : Nat) (hrr : rr ≤ 16) (I : mm_I) (L : mm_L) (e : I 14 3 = nI rr) (Q : Int32 → mm_I → mm_L → Prop) (h : Q (fo (gB I) rr 0 0) I L) : vc_X3_howManyTakenBack I L Q := by
  have aux : ∀ (m i : Nat) (a : Int32), i + m = rr → Q (fo (gB I) m i a) I L → vc_X3_howManyTakenBack_4 (m + 1) a (nI i) I L Q := by
    intro m
    induction m with
    | zero =>
      intro i a hi hq
      rw [vc_X3_howManyTakenBack_4]
      exact rg e hrr (fun _ => hq) (fun q => absurd q (by omega)) (by omega)
    | succ m ih =>
      intro i a hi hq
      rw [vc_X3_howManyTakenBack_4]
      refine rg e hrr (fun q => absurd q (by omega)) (fun _ => ?_) (by omega)
      simp only [cl_nI (show i < 2 ^ 31 by omega), nI_1']
      have hq : Q (fo (gB I) m (i + 1) (gB I i a)) I L := hq
      refine ⟨in_nI (by omega) (by decide), fun h1 => ih (i + 1) a (by omega) ?_, fun h1 => ih (i + 1) (a + 1) (by omega) ?_⟩
      · rw [gB, if_pos h1] at hq
        exact hq
      · rw [gB, if_neg h1] at hq
        exact hq
  exact ⟨rr + 1, aux rr 0 0 (by omega) h⟩
theorem s_slipsStanding (rr : Nat) (hrr : rr ≤ 16) (I : mm_I) (L : mm_L) (e : I 14 3 = nI rr) (Q : Int32 → mm_I → mm_L → Prop) (h : Q (fo (gA I L) rr 0 0) I L) : vc_X3_slipsStanding I L Q := by
  have aux : ∀ (m i : Nat) (a : Int32), i + m = rr → Q (fo (gA I L) m i a) I L → vc_X3_slipsStanding_4 (m + 1) a (nI i) I L Q := by
    intro m
    induction m with
    | zero =>
      intro i a hi hq
      rw [vc_X3_slipsStanding_4]
      exact rg e hrr (fun _ => hq) (fun q => absurd q (by omega)) (by omega)
    | succ m ih =>
      intro i a hi hq
      rw [vc_X3_slipsStanding_4]
      refine rg e hrr (fun q => absurd q (by omega)) (fun _ => ?_) (by omega)
      simp only [cl_nI (show i < 2 ^ 31 by omega), nI_1']
      have hq : Q (fo (gA I L) m (i + 1) (gA I L i a)) I L := hq
      refine ⟨in_nI (by omega) (by decide), fun h1 => ih (i + 1) a (by omega) ?_, fun h1 => s_slipsOf i (by omega) I L _ (ih (i + 1) _ (by omega) ?_)⟩
      · rw [gA, if_neg h1] at hq
        exact hq
      · rw [gA, if_pos h1] at hq
        exact hq
  exact ⟨rr + 1, aux rr 0 0 (by omega) h⟩
theorem s_howManyActive (I : mm_I) (L : mm_L) (Q : Int32 → mm_I → mm_L → Prop) (h : Q (fo (gP I) 6 0 0) I L) : vc_X6_howManyActive I L Q := by
  have aux : ∀ (m i : Nat) (a : Int32), i + m = 6 → Q (fo (gP I) m i a) I L → vc_X6_howManyActive_4 (m + 1) a (nI i) I L Q := by
    intro m
    induction m with
    | zero =>
      intro i a hi hq
      obtain rfl : i = 6 := by omega
      rw [vc_X6_howManyActive_4]
      exact ⟨fun _ => hq, fun q => absurd (by decide) q⟩
    | succ m ih =>
      intro i a hi hq
      rw [vc_X6_howManyActive_4]
      refine ⟨fun q => absurd q (nI_ge (b := 6) (by omega) (by decide)), fun _ => ?_⟩
      simp only [cl_nI (show i < 2 ^ 31 by omega), nI_1']
      have hq : Q (fo (gP I) m (i + 1) (gP I i a)) I L := hq
      refine ⟨in_nI (by omega) (by decide), fun h1 => ih (i + 1) a (by omega) ?_, fun h1 => ih (i + 1) (a + 1) (by omega) ?_⟩
      · rw [gP, if_pos h1] at hq
        exact hq
      · rw [gP, if_neg h1] at hq
        exact hq
  exact ⟨7, aux 6 0 0 rfl h⟩
theorem s_definitionBits (I : mm_I) (L : mm_L) (Q : Int32 → mm_I → mm_L → Prop) (h : Q (fo (gD I) 8 0 0) I L) : vc_X2_definitionBits I L Q := by
  have aux : ∀ (m i : Nat) (a : Int32), i + m = 8 → Q (fo (gD I) m i a) I L → vc_X2_definitionBits_4 (m + 1) a (nI i) I L Q := by
    intro m
    induction m with
    | zero =>
      intro i a hi hq
      obtain rfl : i = 8 := by omega
      rw [vc_X2_definitionBits_4]
      exact ⟨fun _ => hq, fun q => absurd (by decide) q⟩
    | succ m ih =>
      intro i a hi hq
      rw [vc_X2_definitionBits_4]
      refine ⟨fun q => absurd q (nI_ge (b := 8) (by omega) (by decide)), fun _ => ?_⟩
      simp only [cl_nI (show i < 2 ^ 31 by omega), nI_1']
      have hq : Q (fo (gD I) m (i + 1) (gD I i a)) I L := hq
      refine ⟨in_nI (by omega) (by decide), fun h1 => ih (i + 1) a (by omega) ?_, fun h1 => ih (i + 1) _ (by omega) ?_⟩
      · rw [gD, if_pos h1] at hq
        exact hq
      · rw [gD, if_neg h1] at hq
        exact hq
  exact ⟨9, aux 8 0 0 rfl h⟩
