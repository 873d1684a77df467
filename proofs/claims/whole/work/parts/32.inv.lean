/-! PURE: the invariant between the component's cells and the reference's -/
theorem in_or (x : Int32) {n : Nat} (hn : n < 2 ^ 31) : (∃ j, j < n ∧ x = nI j) ∨ (x < 0 ∨ nI n ≤ x) := by
  rcases pk_ix x hn with h | h | h
  · exact Or.inr (Or.inl h)
  · exact Or.inr (Or.inr h)
  · exact Or.inl h
theorem w_t {j n : Nat} {b : Int32} (h : j < n) (hn : n < 2 ^ 31) (hb : b = nI n) : (¬ nI j < 0 ∧ ¬ b ≤ nI j) = True := by
  rw [hb]
  exact eq_true ⟨nI_pos (by omega), nI_ge h hn⟩
theorem w_f {x b : Int32} {n : Nat} (h : x < 0 ∨ nI n ≤ x) (hb : b = nI n) : (¬ x < 0 ∧ ¬ b ≤ x) = False := by
  rw [hb]
  exact eq_false (fun q => h.elim q.1 q.2)
theorem o_f {j n : Nat} {b : Int32} (h : j < n + 1) (hn : n < 2 ^ 31) (hb : b = nI n) : (nI j < 0 ∨ ¬ nI j ≤ b) = False := by
  rw [hb]
  exact eq_false (fun q => q.elim (nI_pos (by omega)) (fun q => q (nI_le (by omega) hn)))
theorem o_t {x b : Int32} {n : Nat} (h : x < 0 ∨ nI (n + 1) ≤ x) (hn : n + 1 < 2 ^ 31) (hb : b = nI n) : (x < 0 ∨ ¬ x ≤ b) = True := by
  rw [hb]
  refine eq_true (h.elim Or.inl (fun q => Or.inr (fun z => ?_)))
  rw [Int32.le_iff_toInt_le, nI_toInt (by omega)] at q z
  omega
theorem in_nI {j n : Nat} (h : j < n) (hn : n < 2 ^ 31) : vp_in (nI j) n := vp_in_nI h hn
theorem cl_nI {j : Nat} (h : j < 2 ^ 31) : (nI j).toNatClampNeg = j := nI_clamp h
def rk (I : mm_I) (n : Nat) : Nat := (I 8 n).toNatClampNeg
def nd (I : mm_I) (n : Nat) (x : Int32) : Prop := ∃ a, a < n ∧ x = nI a ∧ rk I a ≤ rk I n
def nOK (I : mm_I) (n : Nat) : Prop := ∃ k, k < 20 ∧ I 3 n = nI k
  ∧ (((4 ≤ k ∧ k ≤ 15) ∨ k = 18) → nd I n (I 4 n))
  ∧ (k = 17 → I 4 n = -1 ∨ nd I n (I 4 n))
  ∧ (((4 ≤ k ∧ k ≤ 11) ∨ (13 ≤ k ∧ k ≤ 15) ∨ (17 ≤ k ∧ k ≤ 19)) → nd I n (I 5 n))
  ∧ ((k = 11 ∨ k = 15 ∨ k = 17) → nd I n (I 6 n))
  ∧ (k = 1 → ∃ a, a < 8 ∧ I 4 n = nI a)
  ∧ (k = 2 → ∃ a, a < 8 ∧ I 4 n = nI a ∧ a + 1 ≤ rk I n)
  ∧ ((k = 3 ∨ k = 19) → ∃ a, a < 2 ∧ I 4 n = nI a)
  ∧ (∃ l, 1 ≤ l ∧ l ≤ 10 ∧ I 7 n = nI l) ∧ (∃ r, r ≤ 8 ∧ I 8 n = nI r)
def vN (I : mm_I) (nn : Nat) : Prop := nn ≤ 70 ∧ I 2 7 = nI nn ∧ I 36 0 = nI nn ∧ ∀ n, n < nn → nOK I n ∧ I 37 n = I 3 n ∧ I 38 n = I 4 n ∧ I 39 n = I 5 n ∧ I 40 n = I 6 n ∧ I 41 n = I 7 n ∧ I 42 n = I 8 n
def ky (I : mm_I) (n : Nat) : Nat := rk I n * 70 + n
def vO (I : mm_I) (nn : Nat) : Prop := ∃ o : Nat → Nat, (∀ i, i < nn → o i < nn ∧ I 9 i = nI (o i)) ∧ (∀ i j, i < j → j < nn → ky I (o i) < ky I (o j)) ∧ (∀ n, n < nn → ∃ i, i < nn ∧ o i = n)
def vD (I : mm_I) (nn : Nat) : Prop := ∀ d, d < 8 → I 43 d = I 10 d ∧ (I 10 d = -1 ∨ ∃ n, n < nn ∧ I 10 d = nI n ∧ rk I n ≤ d)
def vT1 (I : mm_I) (t : Nat) : Prop := ∃ k, k ≤ 5 ∧ I (18 + t) 2 = nI k ∧ I 44 t = nI k ∧ ∀ j, j < k → I 45 (t * 5 + j) = I (20 + t) j ∧ I 46 (t * 5 + j) = I (22 + t) j ∧ 1 ≤ (I (20 + t) j).toInt ∧ 0 ≤ (I (22 + t) j).toInt ∧ (I (22 + t) j).toInt ≤ 1000 ∧ (j + 1 < k → (I (20 + t) j).toInt < (I (20 + t) (j + 1)).toInt)
def vT (I : mm_I) : Prop := ∀ t, t < 2 → vT1 I t
def vP1 (I : mm_I) (L : mm_L) (p : Nat) : Prop := (∀ i, i < 8 → I 47 (p * 8 + i) = I (30 + p) i) ∧ zb (I (24 + p) 3) ∧ I 48 p = I (24 + p) 3 ∧ L 53 (p * 2) = L (24 + p) 1 ∧ L 53 (p * 2 + 1) = L (24 + p) 2
def vP (I : mm_I) (L : mm_L) : Prop := ∀ p, p < 6 → vP1 I L p
def vS1 (I : mm_I) (L : mm_L) (r p : Nat) : Prop := I 51 (r * 6 + p) = I 16 (r * 6 + p) ∧ ((I 50 (r * 6 + p) = 0 ∧ ∀ w, w < 3 → L 15 ((r * 6 + p) * 3 + w) = 1000000000000) ∨ (I 50 (r * 6 + p) = 1 ∧ ¬ L 15 ((r * 6 + p) * 3) = 1000000000000 ∧ ∀ w, w < 3 → L 52 ((r * 6 + p) * 3 + w) = L 15 ((r * 6 + p) * 3 + w)))
def vRn (I : mm_I) (L : mm_L) (rr : Nat) : Prop := rr ≤ 16 ∧ I 14 3 = nI rr ∧ I 36 1 = nI rr ∧ (∀ r, r < rr → zb (I 17 r) ∧ I 49 r = I 17 r) ∧ (∀ r, rr ≤ r → r < 16 → I 17 r = 0) ∧ ∀ r p, r < rr → p < 6 → vS1 I L r p
def Inv (I : mm_I) (L : mm_L) : Prop := ∃ nn rr, vN I nn ∧ vO I nn ∧ vD I nn ∧ vT I ∧ vP I L ∧ vRn I L rr
/-! what each part looks at -/
theorem nOK_c {I I' : mm_I} {n : Nat} (h : ∀ t, 3 ≤ t → t ≤ 8 → I' t = I t) (q : nOK I n) : nOK I' n := by
  have e3 := h 3 (by decide) (by decide)
  have e4 := h 4 (by decide) (by decide)
  have e5 := h 5 (by decide) (by decide)
  have e6 := h 6 (by decide) (by decide)
  have e7 := h 7 (by decide) (by decide)
  have e8 := h 8 (by decide) (by decide)
  unfold nOK nd rk at *
  rw [e3, e4, e5, e6, e7, e8]
  exact q
theorem vN_c {I I' : mm_I} {nn : Nat} (h : ∀ t, (t = 2 ∨ t = 36 ∨ (3 ≤ t ∧ t ≤ 8) ∨ (37 ≤ t ∧ t ≤ 42)) → I' t = I t) (q : vN I nn) : vN I' nn := by
  obtain ⟨q1, q2, q3, q4⟩ := q
  refine ⟨q1, by rw [h 2 (by omega)]; exact q2, by rw [h 36 (by omega)]; exact q3, fun n hn => ?_⟩
  rw [h 3 (by omega), h 4 (by omega), h 5 (by omega), h 6 (by omega), h 7 (by omega), h 8 (by omega), h 37 (by omega), h 38 (by omega), h 39 (by omega), h 40 (by omega), h 41 (by omega), h 42 (by omega)]
  exact ⟨nOK_c (fun t h1 h2 => h t (by omega)) (q4 n hn).1, (q4 n hn).2⟩
theorem vO_c {I I' : mm_I} {nn : Nat} (h8 : I' 8 = I 8) (h9 : I' 9 = I 9) (q : vO I nn) : vO I' nn := by
  unfold vO ky rk at *
  rw [h8, h9]
  exact q
theorem vD_c {I I' : mm_I} {nn : Nat} (h8 : I' 8 = I 8) (h9 : I' 10 = I 10) (h43 : I' 43 = I 43) (q : vD I nn) : vD I' nn := by
  unfold vD rk at *
  rw [h8, h9, h43]
  exact q
theorem vT1_c {I I' : mm_I} {t : Nat} (h1 : I' (18 + t) = I (18 + t)) (h2 : I' (20 + t) = I (20 + t)) (h3 : I' (22 + t) = I (22 + t)) (h4 : I' 44 = I 44) (h5 : I' 45 = I 45) (h6 : I' 46 = I 46) (q : vT1 I t) : vT1 I' t := by
  unfold vT1 at *
  rw [h1, h2, h3, h4, h5, h6]
  exact q
theorem vT_c {I I' : mm_I} (h : ∀ t, ((18 ≤ t ∧ t ≤ 23) ∨ (44 ≤ t ∧ t ≤ 46)) → I' t = I t) (q : vT I) : vT I' := fun t ht => vT1_c (h _ (by omega)) (h _ (by omega)) (h _ (by omega)) (h _ (by omega)) (h _ (by omega)) (h _ (by omega)) (q t ht)
theorem vP1_c {I I' : mm_I} {L L' : mm_L} {p : Nat} (h1 : I' (30 + p) = I (30 + p)) (h2 : I' (24 + p) = I (24 + p)) (h3 : I' 47 = I 47) (h4 : I' 48 = I 48) (h5 : L' (24 + p) = L (24 + p)) (h6 : L' 53 = L 53) (q : vP1 I L p) : vP1 I' L' p := by
  unfold vP1 at *
  rw [h1, h2, h3, h4, h5, h6]
  exact q
theorem vP_c {I I' : mm_I} {L L' : mm_L} (h : ∀ t, ((24 ≤ t ∧ t ≤ 35) ∨ t = 47 ∨ t = 48) → I' t = I t) (h' : ∀ t, ((24 ≤ t ∧ t ≤ 29) ∨ t = 53) → L' t = L t) (q : vP I L) : vP I' L' := fun p hp => vP1_c (h _ (by omega)) (h _ (by omega)) (h _ (by omega)) (h _ (by omega)) (h' _ (by omega)) (h' _ (by omega)) (q p hp)
theorem vRn_c {I I' : mm_I} {L L' : mm_L} {rr : Nat} (h : ∀ t, (t = 14 ∨ t = 16 ∨ t = 17 ∨ t = 36 ∨ t = 49 ∨ t = 50 ∨ t = 51) → I' t = I t) (h' : ∀ t, (t = 15 ∨ t = 52) → L' t = L t) (q : vRn I L rr) : vRn I' L' rr := by
  unfold vRn vS1 at *
  rw [h 14 (by omega), h 16 (by omega), h 17 (by omega), h 36 (by omega), h 49 (by omega), h 50 (by omega), h 51 (by omega), h' 15 (by omega), h' 52 (by omega)]
  exact q
