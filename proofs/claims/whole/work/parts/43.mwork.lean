/-! PURE: the reference works out a node -/
def scM (I : mm_I) (x : Int64) : Nat → Nat → Int64 → Int64 → Int64
  | 0, _, a, _ => a
  | m + 1, j, a, lo => scM I x m (j + 1) (if (if (I 45 j).toInt64 ≤ x then (I 45 j).toInt64 else x) ≤ lo then a else a + ((if (I 45 j).toInt64 ≤ x then (I 45 j).toInt64 else x) - lo) * (I 46 j).toInt64) (I 45 j).toInt64
def mScl (I : mm_I) (t : Nat) (x : Int64) : Int64 := if 0 < x then mRnd (scM I x (I 44 t).toNatClampNeg (t * 5) 0 0) 1000 else 0
theorem s_mscale (t k : Nat) (ht : t < 2) (hk : k ≤ 5) (I : mm_I) (L : mm_L) (e : I 44 t = nI k) (x : Int64) (Q : Int64 → mm_I → mm_L → Prop) (h : Q (mScl I t x) I L) : vc_X7_scale (nI t) x I L Q := by
  have ek : (I 44 t).toNatClampNeg = k := by rw [e]; exact cl_nI (by omega)
  rw [mScl, ek] at h
  have aux : ∀ (m j : Nat) (a lo : Int64), j + m = t * 5 + k → Q (if 0 < x then mRnd (scM I x m j a lo) 1000 else 0) I L → vc_X7_scale_11 (m + 1) (nI t) x a lo (nI j) I L Q := by
    intro m
    induction m with
    | zero =>
      intro j a lo hj hq
      have hq : Q (if 0 < x then mRnd a 1000 else 0) I L := hq
      rw [vc_X7_scale_11, cl_nI (show t < 2 ^ 31 by omega), e, ixm t 5 k (m := 5) rfl]
      refine ⟨in_nI ht (by decide), rgn rfl (by omega) (by omega) (fun _ => ⟨fun h1 => s_mrounded _ _ I L _ (by decide) ?_, fun h1 => ?_⟩) (fun q => absurd q (by omega))⟩
      · rw [if_pos h1] at hq; exact hq
      · rw [if_neg h1] at hq; exact hq
    | succ m ih =>
      intro j a lo hj hq
      rw [vc_X7_scale_11, cl_nI (show t < 2 ^ 31 by omega), e, ixm t 5 k (m := 5) rfl]
      refine ⟨in_nI ht (by decide), rgn rfl (by omega) (by omega) (fun q => absurd q (by omega)) (fun _ => ?_)⟩
      simp only [cl_nI (show j < 2 ^ 31 by omega), nI_1']
      have hin : vp_in (nI j) 10 := in_nI (by omega) (by decide)
      rw [scM] at hq
      refine ⟨hin, fun h1 => ⟨hin, fun h2 => ⟨hin, ih (j + 1) _ _ (by omega) ?_⟩, fun h2 => ⟨hin, hin, ih (j + 1) _ _ (by omega) ?_⟩⟩, fun h1 => ⟨fun h2 => ⟨hin, ih (j + 1) _ _ (by omega) ?_⟩, fun h2 => ⟨hin, hin, ih (j + 1) _ _ (by omega) ?_⟩⟩⟩
      · simp only [if_pos h1, if_pos h2] at hq; exact hq
      · simp only [if_pos h1, if_neg h2] at hq; exact hq
      · simp only [if_neg h1, if_pos h2] at hq; exact hq
      · simp only [if_neg h1, if_neg h2] at hq; exact hq
  refine ⟨k + 1, ?_⟩
  have e5 : nI t * 5 = nI (t * 5) := pk_mul t 5
  rw [e5]
  exact aux k (t * 5) 0 0 rfl h
def m3F (k : Int32) (x y z : Int64) : Int64 := if k = 12 then (if x = 0 then 1 else 0) else if k = 11 then (if z = 0 then 1000000000103 else vR (mRnd (x * y) z)) else mP k x y
def m3 (k : Int32) (x y z : Int64) : Int64 := if mS x = 0 then (if mS y = 0 then (if mS z = 0 then m3F k x y z else mS z) else mS y) else mS x
theorem s_234 (k : Int32) (x y z : Int64) (I : mm_I) (L : mm_L) (Q : Int64 → mm_I → mm_L → Prop) (h : Q (m3 k x y z) I L) : vc_X7_workOut_234 k x y z I L Q := by
  simp only [vc_X7_workOut_234, s_stops]
  refine ⟨fun h1 => ⟨fun h2 => ⟨fun h3 => ⟨fun h4 => ⟨fun h5 => (s_plain _ _ _ I L _).mpr ?_, fun h5 => ⟨fun h6 => s_mrounded _ _ I L _ h6 ((s_ranged _ I L _).mpr ?_), fun h6 => ?_⟩⟩, fun h4 => ⟨fun h5 => ?_, fun h5 => ?_⟩⟩, fun h3 => ?_⟩, fun h2 => ?_⟩, fun h1 => ?_⟩
  · rw [m3, if_pos h1, if_pos h2, if_pos h3, m3F, if_neg h4, if_neg h5] at h; exact h
  · rw [m3, if_pos h1, if_pos h2, if_pos h3, m3F, if_neg h4, if_pos h5, if_neg h6] at h; exact h
  · rw [m3, if_pos h1, if_pos h2, if_pos h3, m3F, if_neg h4, if_pos h5, if_pos h6] at h; exact h
  · rw [m3, if_pos h1, if_pos h2, if_pos h3, m3F, if_pos h4, if_neg h5] at h; exact h
  · rw [m3, if_pos h1, if_pos h2, if_pos h3, m3F, if_pos h4, if_pos h5] at h; exact h
  · rw [m3, if_pos h1, if_pos h2, if_neg h3] at h; exact h
  · rw [m3, if_pos h1, if_neg h2] at h; exact h
  · rw [m3, if_neg h1] at h; exact h
