/-! PURE: rounding and SHARE alike -/
theorem bm64 {n : Int} (h1 : -9223372036854775808 ≤ n) (h2 : n < 9223372036854775808) : n.bmod (2 ^ 64) = n := Int.bmod_eq_of_le (by simpa using h1) (by simpa using h2)
theorem mul64 {x y : Int64} (hx : kI x = true) (hy : kI y = true) : (x * y).toInt = x.toInt * y.toInt ∧ -4611686018427387904 ≤ x.toInt * y.toInt ∧ x.toInt * y.toInt ≤ 4611686018427387904 := by
  rw [kI_t] at hx hy
  have hb : -4611686018427387904 ≤ x.toInt * y.toInt ∧ x.toInt * y.toInt ≤ 4611686018427387904 := by
    have h1 : (x.toInt * y.toInt).natAbs ≤ 2147483648 * 2147483648 := by
      rw [Int.natAbs_mul]
      exact Nat.mul_le_mul (by omega) (by omega)
    omega
  refine ⟨?_, hb⟩
  rw [Int64.toInt_mul]
  exact bm64 (by omega) (by omega)
theorem abs_t {n : Int64} (h : -9223372036854775808 < n.toInt) : (vAbs n).toInt = n.toInt.natAbs := by
  have h0 : (0 : Int64).toInt = 0 := by decide
  have hu : n.toInt < 9223372036854775808 := Int64.toInt_lt n
  unfold vAbs
  split
  · rename_i q
    rw [Int64.le_iff_toInt_le, h0] at q
    omega
  · rename_i q
    rw [Int64.le_iff_toInt_le, h0] at q
    rw [Int64.toInt_neg, bm64 (by omega) (by omega)]
    omega
theorem e_Q {s p : Int64} (hs : 0 ≤ s.toInt) (hp : 0 < p.toInt) (hp2 : p.toInt ≤ 4294967296) : vQ s p = mQ s p := by
  have h0 : (0 : Int64).toInt = 0 := by decide
  obtain ⟨a, ha, rfl⟩ := pk_lOf (x := s) (by rw [Int64.lt_iff_toInt_lt, h0]; omega)
  obtain ⟨b, hb, rfl⟩ := pk_lOf (x := p) (by rw [Int64.lt_iff_toInt_lt, h0]; omega)
  rw [pk_lT hb] at hp hp2
  have hb0 : 0 < b := by omega
  have hr : a % b < b := Nat.mod_lt a hb0
  have e2 : (2 : Int64) = lN 2 := by decide
  unfold vQ mQ
  rw [pk_lRem ha hb0 hb, e2, lN_mul, lN_sub (by omega)]
  by_cases c : 2 * (a % b) < b
  · rw [if_pos ((pk_lLT (by omega) hb).mpr c), if_pos ((pk_lLT (by omega) (by omega)).mpr (by omega))]
  · rw [if_neg (fun q => c ((pk_lLT (by omega) hb).mp q)), if_neg (fun q => c (by have := (pk_lLT (by omega) (by omega)).mp q; omega))]
theorem e_Rnd {n d : Int64} (hn : -9223372036854775808 < n.toInt) (hd : ¬ d = 0) (hd1 : -2147483648 ≤ d.toInt) (hd2 : d.toInt ≤ 2147483647) : mRnd n d = vRnd n d := by
  have hd0 : ¬ d.toInt = 0 := fun q => hd (Int64.toInt_inj.mp (by rw [q]; decide))
  rw [mRnd, vRnd, if_neg hd, e_Q (by rw [abs_t hn]; omega) (by rw [abs_t (by omega)]; omega) (by rw [abs_t (by omega)]; omega)]
theorem e_share {x y z : Int64} (hx : vV x) (hy : vV y) (hz : vV z) : m3 11 x y z = vShare x y z := by
  unfold m3 vShare
  by_cases kx : kI x = true
  · rw [if_pos (mS_int kx), if_pos kx]
    by_cases ky' : kI y = true
    · rw [if_pos (mS_int ky'), if_pos ky']
      by_cases kz : kI z = true
      · rw [if_pos (mS_int kz), if_pos kz, m3F, if_neg (by decide), if_pos rfl]
        by_cases h0 : z = 0
        · rw [if_pos h0, if_pos h0]
        · obtain ⟨h1, h2, h3⟩ := mul64 kx ky'
          have hz2 := kI_t.mp kz
          rw [if_neg h0, if_neg h0, e_Rnd (by rw [h1]; omega) h0 hz2.1 hz2.2]
      · rw [if_neg (vV_f hz kz).2, if_neg kz, (vV_f hz kz).1]
    · rw [if_neg (vV_f hy ky').2, if_neg ky', (vV_f hy ky').1]
  · rw [if_neg (vV_f hx kx).2, if_neg kx, (vV_f hx kx).1]
theorem v_share {x y z : Int64} (hx : vV x) (hy : vV y) (hz : vV z) : vV (vShare x y z) := by
  unfold vShare
  split
  · split
    · split
      · split
        · exact Or.inr (Or.inr (Or.inr (Or.inr (Or.inl rfl))))
        · exact v_R _
      · rename_i q
        exact vV_F hz q
    · rename_i q
      exact vV_F hy q
  · rename_i q
    exact vV_F hx q
