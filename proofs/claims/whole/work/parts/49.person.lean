/-! PURE: the reference's nine passes come to the same fixpoint -/
theorem W_v {I : mm_I} {L : mm_L} {p nn : Nat} {W : Nat → Int64} (hN : vN I nn) (hD : vD I nn) (hT : vT I) (hP : vP1 I L p) (p1 : kI (L (24 + p) 1) = true) (p2 : kI (L (24 + p) 2) = true) (hfix : ∀ n, n < nn → W n = stC I L p W n) : ∀ n, n < nn → vV (W n) := by
  have aux : ∀ (b n : Nat), ky I n < b → n < nn → vV (W n) := by
    intro b
    induction b with
    | zero => intro n h; exact absurd h (by omega)
    | succ b ih =>
      intro n h hn
      rw [hfix n hn]
      exact (st_same (D := dW I W) hn hN hD hT hP p1 p2 (fun m hm hk => ih m (by omega) hm) (fun _ _ _ => rfl)).2
  exact fun n hn => aux (ky I n + 1) n (by omega) hn
section PER
variable {I : mm_I} {L R : mm_L} {p nn : Nat} {W : Nat → Int64}
/-- one node in pass d -/
theorem one_ok (hp : p < 6) (hN : vN I nn) (hD : vD I nn) (hT : vT I) (hP : vP1 I L p) (p1 : kI (L (24 + p) 1) = true) (p2 : kI (L (24 + p) 2) = true) (hfix : ∀ n, n < nn → W n = stC I L p W n) {L1 : mm_L} {d n : Nat} (hn : n < nn) (hL : L1 53 = L 53) (h54 : ∀ m, m < nn → (rk I m < d ∨ (m < n ∧ rk I m ≤ d)) → L1 54 m = W m) (h55 : ∀ a, a < 8 → a < d → L1 55 a = dW I W a) (hr : rk I n ≤ d) : stM I L1 p (L1 54) (L1 55) n = W n := by
  have hnn := hN.1
  have kyle : ∀ m, m < nn → ky I m < ky I n → L1 54 m = W m := by
    intro m hm hk
    refine h54 m hm ?_
    unfold ky at hk
    omega
  have vW := W_v hN hD hT hP p1 p2 hfix
  have e : stM I L1 p (L1 54) (L1 55) n = stM I L p (L1 54) (L1 55) n := by
    unfold stM stMK
    rw [hL]
  have s := st_same (I := I) (L := L) (p := p) (W := L1 54) (D := L1 55) hn hN hD hT hP p1 p2 (fun m hm hk => by rw [kyle m hm hk]; exact vW m hm) (fun a ha har => by
    rw [h55 a ha (by omega)]
    unfold dW
    rcases (hD a ha).2 with z | ⟨m, hm, z, hrm⟩
    · rw [if_pos z, if_pos z]
    · split
      · rfl
      · rw [z, cl_nI (show m < 2 ^ 31 by omega), h54 m hm (Or.inl (by omega))])
  rw [e, s.1, stC_c (L := L) (L' := L) (W := W) (W' := L1 54) hn hnn (hN.2.2.2 n hn).1 hD rfl kyle, ← hfix n hn]
theorem s_pass (hR : R 53 = L 53) (hp : p < 6) (hN : vN I nn) (hD : vD I nn) (hT : vT I) (hP : vP1 I L p) (p1 : kI (L (24 + p) 1) = true) (p2 : kI (L (24 + p) 2) = true) (hfix : ∀ n, n < nn → W n = stC I L p W n) (d : Nat) (L0 : mm_L) (hL0 : ∀ t, t ≠ 54 → t ≠ 55 → L0 t = R t) (h54 : ∀ m, m < nn → rk I m < d → L0 54 m = W m) (h55 : ∀ a, a < 8 → a < d → L0 55 a = dW I W a) (Q : mm_I → mm_L → Prop) (K : Int32 → Int32 → mm_I → mm_L → Prop) (h : ∀ L', (∀ t, t ≠ 54 → t ≠ 55 → L' t = R t) → L' 55 = L0 55 → (∀ m, m < nn → rk I m ≤ d → L' 54 m = W m) → K (nI p) (nI d) I L') : ∃ n, vc_X7_person_33 n (nI p) (nI d) 0 I L0 Q K := by
  have hnn := hN.1
  have aux : ∀ (m i : Nat) (L1 : mm_L), i + m = nn → (∀ t, t ≠ 54 → t ≠ 55 → L1 t = R t) → L1 55 = L0 55 → (∀ q, q < nn → (rk I q < d ∨ (q < i ∧ rk I q ≤ d)) → L1 54 q = W q) → vc_X7_person_33 (m + 1) (nI p) (nI d) (nI i) I L1 Q K := by
    intro m
    induction m with
    | zero =>
      intro i L1 hi a1 a2 a3
      rw [vc_X7_person_33]
      exact rgn hN.2.2.1 (by omega) (by omega) (fun _ => h L1 a1 a2 (fun q hq hr => a3 q hq (Or.inr ⟨by omega, hr⟩))) (fun q => absurd q (by omega))
    | succ m ih =>
      intro i L1 hi a1 a2 a3
      rw [vc_X7_person_33]
      refine rgn hN.2.2.1 (by omega) (by omega) (fun q => absurd q (by omega)) (fun _ => ?_)
      refine s_mworkOut (by omega) hp hN hT _ ⟨in_nI (by omega) (by decide), ?_⟩
      rw [cl_nI (show i < 2 ^ 31 by omega), nI_1']
      refine ih (i + 1) _ (by omega) (fun t h1 h2 => ?_) ?_ (fun q hq hr => ?_)
      · rw [mm_uL_ne _ _ _ h1]; exact a1 t h1 h2
      · rw [mm_uL_ne _ _ _ (by decide)]; exact a2
      · rw [uL_at]
        by_cases hqi : q = i
        · subst hqi
          rw [if_pos rfl]
          exact one_ok hp hN hD hT hP p1 p2 hfix hq ((a1 53 (by decide) (by decide)).trans hR) a3 (fun a ha had => by rw [a2]; exact h55 a ha had) (by omega)
        · rw [if_neg hqi]
          exact a3 q hq (by omega)
  exact ⟨nn + 1, aux nn 0 L0 (by omega) hL0 rfl (fun q hq hr => h54 q hq (by omega))⟩
theorem s_personV (hR : R 53 = L 53) (hp : p < 6) (hN : vN I nn) (hD : vD I nn) (hT : vT I) (hP : vP1 I L p) (p1 : kI (L (24 + p) 1) = true) (p2 : kI (L (24 + p) 2) = true) (hfix : ∀ n, n < nn → W n = stC I L p W n) (Q : mm_I → mm_L → Prop) (h : ∀ L', (∀ t, t ≠ 54 → t ≠ 55 → L' t = R t) → (∀ n, n < nn → L' 54 n = W n) → (∀ d, d < 8 → L' 55 d = dW I W d) → Q I L') : vc_X7_person (nI p) I R Q := by
  have hnn := hN.1
  have r8 : ∀ m, m < nn → rk I m ≤ 8 := by
    intro m hm
    obtain ⟨k, -, -, -, -, -, -, -, -, -, -, r, hr, er⟩ := (hN.2.2.2 m hm).1
    unfold rk
    rw [er, cl_nI (by omega)]
    exact hr
  have pass : ∀ (m d : Nat) (L1 : mm_L), d + m = 9 → (∀ t, t ≠ 54 → t ≠ 55 → L1 t = R t) → (∀ q, q < nn → rk I q < d → L1 54 q = W q) → (∀ a, a < 8 → L1 55 a = if a < d then dW I W a else 1000000000001) → vc_X7_person_25 (m + 1) (nI p) (nI d) I L1 Q := by
    intro m
    induction m with
    | zero =>
      intro d L1 hd a1 a2 a3
      obtain rfl : d = 9 := by omega
      rw [vc_X7_person_25]
      refine ⟨fun _ => h L1 a1 (fun n hn => a2 n hn (by have := r8 n hn; omega)) (fun a ha => by rw [a3 a ha, if_pos (by omega)]), fun q => absurd (by decide) q⟩
    | succ m ih =>
      intro d L1 hd a1 a2 a3
      rw [vc_X7_person_25]
      refine ⟨fun q => absurd q (nI_nlt (b := d) (a := 8) (by omega) (by decide) |> fun z => by exact z), fun _ => ?_⟩
      refine s_pass hR hp hN hD hT hP p1 p2 hfix d L1 a1 a2 (fun a ha had => by rw [a3 a ha, if_pos had]) Q _ (fun L2 b1 b2 b3 => ?_)
      refine rgn (N := 8) rfl (by decide) (by omega) (fun hd8 => ?_) (fun hd8 => ?_)
      · rw [nI_1']
        refine ih (d + 1) L2 (by omega) b1 (fun q hq hr => b3 q hq (by omega)) (fun a ha => ?_)
        rw [b2, a3 a ha, if_pos (by omega), if_pos (by omega)]
      · simp only [cl_nI (show d < 2 ^ 31 by omega), nI_1', (hD d hd8).1]
        have hin : vp_in (nI d) 8 := in_nI hd8 (by decide)
        refine ⟨hin, fun hneg => ?_, fun hpos => ?_⟩
        · refine ih (d + 1) L2 (by omega) b1 (fun q hq hr => b3 q hq (by omega)) (fun a ha => ?_)
          rw [b2, a3 a ha]
          by_cases had : a = d
          · subst had
            rw [if_neg (by omega), if_pos (by omega)]
            rcases (hD a ha).2 with z | ⟨x, hx, z, -⟩
            · rw [dW, if_pos z]
            · rw [z] at hneg
              exact absurd hneg (nI_pos (by omega))
          · by_cases hlt : a < d
            · rw [if_pos hlt, if_pos (by omega)]
            · rw [if_neg hlt, if_neg (by omega)]
        · rcases (hD d hd8).2 with z | ⟨x, hx, z, hrx⟩
          · rw [z] at hpos
            exact absurd (by decide) hpos
          · rw [z, cl_nI (show x < 2 ^ 31 by omega)]
            refine ⟨hin, in_nI (by omega) (by decide), hin, ih (d + 1) _ (by omega) (fun t h1 h2 => ?_) (fun q hq hr => ?_) (fun a ha => ?_)⟩
            · rw [mm_uL_ne _ _ _ h2]; exact b1 t h1 h2
            · rw [mm_uL_ne _ _ _ (by decide)]; exact b3 q hq (by omega)
            · rw [uL_at]
              by_cases had : a = d
              · subst had
                rw [if_pos rfl, if_pos (by omega), b3 x hx hrx, dW, if_neg (fun q => by
                  rw [z] at q
                  have h1 : (nI x).toInt = (x : Int) := nI_toInt (by omega)
                  rw [q] at h1
                  have h2 : (-1 : Int32).toInt = -1 := by decide
                  omega), z, cl_nI (show x < 2 ^ 31 by omega)]
              · rw [if_neg had, b2, a3 a ha]
                by_cases hlt : a < d
                · rw [if_pos hlt, if_pos (by omega)]
                · rw [if_neg hlt, if_neg (by omega)]
  have init : ∀ (m d : Nat) (L1 : mm_L), d + m = 8 → (∀ t, t ≠ 54 → t ≠ 55 → L1 t = R t) → (∀ a, a < d → L1 55 a = 1000000000001) → vc_X7_person_2 (m + 1) (nI p) (nI d) I L1 Q := by
    intro m
    induction m with
    | zero =>
      intro d L1 hd a1 a2
      obtain rfl : d = 8 := by omega
      rw [vc_X7_person_2]
      refine ⟨fun _ => ⟨10, pass 9 0 L1 rfl a1 (fun q _ hr => absurd hr (by omega)) (fun a ha => by rw [a2 a ha, if_neg (by omega)])⟩, fun q => absurd (by decide) q⟩
    | succ m ih =>
      intro d L1 hd a1 a2
      rw [vc_X7_person_2]
      refine ⟨fun q => absurd q (nI_ge (b := 8) (by omega) (by decide)), fun _ => ⟨in_nI (by omega) (by decide), ?_⟩⟩
      rw [cl_nI (show d < 2 ^ 31 by omega), nI_1']
      refine ih (d + 1) _ (by omega) (fun t h1 h2 => by rw [mm_uL_ne _ _ _ h2]; exact a1 t h1 h2) (fun a ha => ?_)
      rw [uL_at]
      by_cases had : a = d
      · rw [if_pos had]
      · rw [if_neg had]; exact a2 a (by omega)
  exact ⟨9, init 8 0 R rfl (fun _ _ _ => rfl) (fun a ha => absurd ha (by omega))⟩
theorem s_person (hp : p < 6) (hN : vN I nn) (hD : vD I nn) (hT : vT I) (hP : vP1 I L p) (p1 : kI (L (24 + p) 1) = true) (p2 : kI (L (24 + p) 2) = true) (hfix : ∀ n, n < nn → W n = stC I L p W n) (Q : mm_I → mm_L → Prop) (h : ∀ L', (∀ t, t ≠ 54 → t ≠ 55 → L' t = L t) → (∀ n, n < nn → L' 54 n = W n) → (∀ d, d < 8 → L' 55 d = dW I W d) → Q I L') : vc_X7_person (nI p) I L Q := s_personV (R := L) rfl hp hN hD hT hP p1 p2 hfix Q h
end PER
