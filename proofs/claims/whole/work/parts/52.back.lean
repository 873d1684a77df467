/-! PURE: back, both sides -/
def t1 (I : mm_I) (L : mm_L) (r q w : Nat) : Int64 := if I 50 (r * 6 + q) = 0 then L 53 (q * 2 + w) else L 53 (q * 2 + w) - L 52 ((r * 6 + q) * 3 + w)
theorem s_tb17 (r i : Nat) (hr : r < 16) (hi : i < 6) (I : mm_I) (L : mm_L) (Q : mm_I → mm_L → Prop) (K : Int32 → Int32 → mm_I → mm_L → Prop) (h : ∀ L', (∀ t, t ≠ 53 → L' t = L t) → (∀ x, x ≠ i * 2 → x ≠ i * 2 + 1 → L' 53 x = L 53 x) → L' 53 (i * 2) = t1 I L r i 0 → L' 53 (i * 2 + 1) = t1 I L r i 1 → K (nI r) (nI i) I L') : ∃ n, vc_X7_takeBack_17 n (nI r) (nI i) 0 I L Q K := by
  have e6 := ixm r 6 i (m := 6) rfl
  have hin : vp_in (nI (r * 6 + i)) 96 := in_nI (by omega) (by decide)
  by_cases hz : I 50 (r * 6 + i) = 0
  · refine ⟨1, ?_⟩
    rw [vc_X7_takeBack_17]
    simp only [e6, cl_nI (show r * 6 + i < 2 ^ 31 by omega)]
    refine ⟨fun q => absurd q (by decide), fun _ => ⟨hin, fun _ => h L (fun _ _ => rfl) (fun _ _ _ => rfl) ?_ ?_, fun q => absurd hz q⟩⟩
    · rw [t1, if_pos hz, Nat.add_zero]
    · rw [t1, if_pos hz]
  · refine ⟨3, ?_⟩
    have z0 : (0 : Int32) = nI 0 := rfl
    rw [z0, vc_X7_takeBack_17]
    refine ⟨fun q => absurd q (by decide), fun _ => ?_⟩
    simp only [e6, ixm i 2 0 (m := 2) rfl, ixm (r * 6 + i) 3 0 (m := 3) rfl, cl_nI (show r * 6 + i < 2 ^ 31 by omega), cl_nI (show i * 2 + 0 < 2 ^ 31 by omega), cl_nI (show (r * 6 + i) * 3 + 0 < 2 ^ 31 by omega), nI_1']
    refine ⟨hin, fun q => absurd q hz, fun _ => ⟨in_nI (by omega) (by decide), in_nI (by omega) (by decide), in_nI (by omega) (by decide), ?_⟩⟩
    rw [vc_X7_takeBack_17]
    refine ⟨fun q => absurd q (by decide), fun _ => ?_⟩
    simp only [e6, ixm i 2 (0 + 1) (m := 2) rfl, ixm (r * 6 + i) 3 (0 + 1) (m := 3) rfl, cl_nI (show r * 6 + i < 2 ^ 31 by omega), cl_nI (show i * 2 + (0 + 1) < 2 ^ 31 by omega), cl_nI (show (r * 6 + i) * 3 + (0 + 1) < 2 ^ 31 by omega), nI_1']
    refine ⟨hin, fun q => absurd q hz, fun _ => ⟨in_nI (by omega) (by decide), in_nI (by omega) (by decide), in_nI (by omega) (by decide), ?_⟩⟩
    rw [vc_X7_takeBack_17]
    refine ⟨fun _ => h _ (fun t ht => ?_) (fun x h1 h2 => ?_) ?_ ?_, fun q => absurd (by decide) q⟩
    · rw [mm_uL_ne _ _ _ ht, mm_uL_ne _ _ _ ht]
    · rw [uL_at, if_neg (by omega), uL_at, if_neg (by omega)]
    · rw [uL_at, if_neg (by omega), uL_at, if_pos (by omega), t1, if_neg hz]
    · rw [uL_at, if_pos (by omega), uL_at, if_neg (by omega), mm_uL_ne _ _ _ (by decide), t1, if_neg hz]
