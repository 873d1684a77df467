/-! PURE: SCALE alike -/
theorem scM_stop {I : mm_I} {t k : Nat} {x : Int64} (h3 : ∀ j, j < k → I 45 (t * 5 + j) = I (20 + t) j ∧ (j + 1 < k → (I (20 + t) j).toInt < (I (20 + t) (j + 1)).toInt)) : ∀ (m s : Nat) (a lo : Int64), s + m = k → x.toInt ≤ lo.toInt → (s < k → lo.toInt < (I (20 + t) s).toInt) → scM I x m (t * 5 + s) a lo = a := by
  intro m
  induction m with
  | zero => intro s a lo _ _ _; rfl
  | succ m ih =>
    intro s a lo hs hx hl
    obtain ⟨f1, f6⟩ := h3 s (by omega)
    have hl := hl (by omega)
    have e : (I (20 + t) s).toInt64.toInt = (I (20 + t) s).toInt := Int32.toInt_toInt64 _
    have n1 : ¬ (I (20 + t) s).toInt64 ≤ x := by rw [Int64.le_iff_toInt_le, e]; omega
    have n2 : x ≤ lo := by rw [Int64.le_iff_toInt_le]; exact hx
    rw [scM, f1, if_neg n1, if_pos n2, show t * 5 + s + 1 = t * 5 + (s + 1) by omega]
    exact ih (s + 1) a _ (by omega) (by rw [e]; omega) (fun h => by rw [e]; exact f6 h)
theorem scl_eq {I : mm_I} {t k : Nat} {x : Int64} (h3 : ∀ j, j < k → I 45 (t * 5 + j) = I (20 + t) j ∧ I 46 (t * 5 + j) = I (22 + t) j ∧ (j + 1 < k → (I (20 + t) j).toInt < (I (20 + t) (j + 1)).toInt)) : ∀ (m s : Nat) (a lo : Int64), s + m = k → (s < k → lo.toInt < (I (20 + t) s).toInt) → scM I x m (t * 5 + s) a lo = scL I t x m s a lo := by
  intro m
  induction m with
  | zero => intro s a lo _ _; rfl
  | succ m ih =>
    intro s a lo hs hl
    obtain ⟨f1, f2, f6⟩ := h3 s (by omega)
    have hl' := hl (by omega)
    have e : (I (20 + t) s).toInt64.toInt = (I (20 + t) s).toInt := Int32.toInt_toInt64 _
    by_cases hx : x ≤ lo
    · rw [scL, if_pos hx]
      exact scM_stop (fun j hj => ⟨(h3 j hj).1, (h3 j hj).2.2⟩) (m + 1) s a lo hs (by rw [Int64.le_iff_toInt_le] at hx; exact hx) hl
    · rw [scL, if_neg hx, scM, f1, f2]
      have n2 : ¬ (if (I (20 + t) s).toInt64 ≤ x then (I (20 + t) s).toInt64 else x) ≤ lo := by
        split
        · rw [Int64.le_iff_toInt_le, e]; omega
        · exact hx
      rw [if_neg n2, show t * 5 + s + 1 = t * 5 + (s + 1) by omega]
      exact ih (s + 1) _ _ (by omega) (fun h => by rw [e]; exact f6 h)
theorem scl_b {I : mm_I} {t k : Nat} {x : Int64} {X : Int} (hx1 : x.toInt ≤ X) (hX0 : 0 ≤ X) (hX : X ≤ 2147483647) (h3 : ∀ j, j < k → 0 ≤ (I (22 + t) j).toInt ∧ (I (22 + t) j).toInt ≤ 1000 ∧ (j + 1 < k → (I (20 + t) j).toInt < (I (20 + t) (j + 1)).toInt)) : ∀ (m s : Nat) (a lo : Int64), s + m = k → 0 ≤ lo.toInt → 0 ≤ a.toInt → a.toInt ≤ 1000 * X → (lo.toInt < x.toInt → a.toInt ≤ 1000 * lo.toInt) → (s < k → lo.toInt < (I (20 + t) s).toInt) → 0 ≤ (scL I t x m s a lo).toInt ∧ (scL I t x m s a lo).toInt ≤ 1000 * X := by
  intro m
  induction m with
  | zero => intro s a lo _ _ h1 h2 _ _; exact ⟨h1, h2⟩
  | succ m ih =>
    intro s a lo hs h0 h1 h2 h4 hl
    obtain ⟨g1, g2, f6⟩ := h3 s (by omega)
    have hl := hl (by omega)
    have e : (I (20 + t) s).toInt64.toInt = (I (20 + t) s).toInt := Int32.toInt_toInt64 _
    have er : (I (22 + t) s).toInt64.toInt = (I (22 + t) s).toInt := Int32.toInt_toInt64 _
    have hlim : (I (20 + t) s).toInt < 2147483648 := Int32.toInt_lt _
    by_cases hx : x ≤ lo
    · rw [scL, if_pos hx]
      exact ⟨h1, h2⟩
    · rw [scL, if_neg hx]
      rw [Int64.le_iff_toInt_le] at hx
      have h4 := h4 (by omega)
      obtain ⟨tp, htp⟩ : ∃ tp : Int64, tp = if (I (20 + t) s).toInt64 ≤ x then (I (20 + t) s).toInt64 else x := ⟨_, rfl⟩
      have t1 : lo.toInt < tp.toInt ∧ tp.toInt ≤ x.toInt ∧ ((I (20 + t) s).toInt < x.toInt → tp.toInt = (I (20 + t) s).toInt) := by
        rw [htp]
        split
        · rename_i q
          rw [Int64.le_iff_toInt_le, e] at q
          rw [e]
          exact ⟨by omega, by omega, fun _ => rfl⟩
        · rename_i q
          rw [Int64.le_iff_toInt_le, e] at q
          exact ⟨by omega, by omega, fun z => absurd z (by omega)⟩
      rw [← htp]
      have ed : (tp - lo).toInt = tp.toInt - lo.toInt := by rw [Int64.toInt_sub, bm64 (by omega) (by omega)]
      obtain ⟨r, hr⟩ : ∃ r : Int, r = (I (22 + t) s).toInt := ⟨_, rfl⟩
      obtain ⟨d, hd⟩ : ∃ d : Int, d = tp.toInt - lo.toInt := ⟨_, rfl⟩
      have p1 : 0 ≤ d * r := Int.mul_nonneg (by omega) (by omega)
      have p2 : d * r ≤ d * 1000 := Int.mul_le_mul_of_nonneg_left (by omega) (by omega)
      have em : ((tp - lo) * (I (22 + t) s).toInt64).toInt = d * r := by rw [Int64.toInt_mul, ed, er, ← hd, ← hr, bm64 (by omega) (by omega)]
      have ea : (a + (tp - lo) * (I (22 + t) s).toInt64).toInt = a.toInt + d * r := by rw [Int64.toInt_add, em, bm64 (by omega) (by omega)]
      refine ih (s + 1) _ _ (by omega) (by rw [e]; omega) (by rw [ea]; omega) (by rw [ea]; omega) (fun z => ?_) (fun h => by rw [e]; exact f6 h)
      rw [e] at z ⊢
      rw [ea]
      have := t1.2.2 z
      omega
theorem rnd_k {S : Int64} {X : Int} (h0 : 0 ≤ S.toInt) (h1 : S.toInt ≤ 1000 * X) (hX : X ≤ 2147483647) : kI (vRnd S 1000) = true := by
  have z0 : (0 : Int64).toInt = 0 := by decide
  have p1 : (0 : Int64) ≤ S := by rw [Int64.le_iff_toInt_le, z0]; exact h0
  have a1 : vAbs 1000 = lN 1000 := by decide
  have a2 : vAbs S = S := if_pos p1
  obtain ⟨a, ha, rfl⟩ := pk_lOf (x := S) (by rw [Int64.lt_iff_toInt_lt, z0]; omega)
  rw [pk_lT ha] at h0 h1
  have c : ((0 : Int64) ≤ lN a ↔ (0 : Int64) ≤ 1000) := ⟨fun _ => by decide, fun _ => p1⟩
  have e2 : (2 : Int64) = lN 2 := by decide
  rw [vRnd, if_neg (by decide), vSg, if_pos c, a2, a1, vQ, pk_lRem ha (by decide) (by decide), pk_lDiv ha (by decide) (by decide), e2, lN_mul]
  have hm : a % 1000 < 1000 := Nat.mod_lt a (by decide)
  by_cases q : 2 * (a % 1000) < 1000
  · rw [if_pos ((pk_lLT (by omega) (by decide)).mpr q), kI_t, pk_lT (by omega)]
    omega
  · rw [if_neg (fun z => q ((pk_lLT (by omega) (by decide)).mp z)), lN_1, kI_t, pk_lT (by omega)]
    omega
theorem e_scale {I : mm_I} {t : Nat} {x : Int64} (hT : vT1 I t) (hx : vV x) : (if mS x = 0 then mScl I t x else mS x) = vScl I t x ∧ vV (vScl I t x) := by
  obtain ⟨k, hk, e1, e2, h3⟩ := hT
  have k1 : (I (18 + t) 2).toNatClampNeg = k := by rw [e1]; exact cl_nI (by omega)
  have k2 : (I 44 t).toNatClampNeg = k := by rw [e2]; exact cl_nI (by omega)
  by_cases kx : kI x = true
  · have hb := kI_t.mp kx
    have h0 : (0 : Int64).toInt = 0 := by decide
    have h1000 : (1000 : Int64).toInt = 1000 := by decide
    have lim0 : 0 < k → (0 : Int64).toInt < (I (20 + t) 0).toInt := fun h => by
      have := (h3 0 h).2.2.1
      rw [h0]; omega
    obtain ⟨X, hX⟩ : ∃ X : Int, X = if 0 < x.toInt then x.toInt else 0 := ⟨_, rfl⟩
    have hX1 : x.toInt ≤ X ∧ 0 ≤ X ∧ X ≤ 2147483647 := by rw [hX]; split <;> omega
    have sb := scl_b (I := I) (t := t) (k := k) (x := x) hX1.1 hX1.2.1 hX1.2.2 (fun j hj => ⟨(h3 j hj).2.2.2.1, (h3 j hj).2.2.2.2.1, (h3 j hj).2.2.2.2.2⟩) k 0 0 0 (by omega) (by rw [h0]; omega) (by rw [h0]; omega) (by rw [h0]; omega) (fun _ => by rw [h0]; omega) lim0
    rw [if_pos (mS_int kx), mScl, vScl, if_pos kx, k1, k2]
    have er := e_Rnd (n := scL I t x k 0 0 0) (d := 1000) (by omega) (by decide) (by rw [h1000]; omega) (by rw [h1000]; omega)
    refine ⟨?_, Or.inl (rnd_k sb.1 sb.2 hX1.2.2)⟩
    by_cases hp : 0 < x
    · have es : scM I x k (t * 5) 0 0 = scL I t x k 0 0 0 := by
        have := scl_eq (I := I) (t := t) (k := k) (x := x) (fun j hj => ⟨(h3 j hj).1, (h3 j hj).2.1, (h3 j hj).2.2.2.2.2⟩) k 0 0 0 (by omega) lim0
        rw [Nat.add_zero] at this
        exact this
      rw [if_pos hp, es, er]
    · have es : scL I t x k 0 0 0 = 0 := by
        cases k with
        | zero => rfl
        | succ m => rw [scL, if_pos (Int64.not_lt.mp hp)]
      rw [if_neg hp, es]
      decide
  · rw [if_neg (vV_f hx kx).2, vScl, if_neg kx, (vV_f hx kx).1]
    exact ⟨rfl, vV_F hx kx⟩
