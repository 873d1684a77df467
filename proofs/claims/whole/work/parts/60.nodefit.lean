/-! PURE: node: do the operands fit -/
def inn (n : Nat) (x : Int32) : Prop := ∃ m, m < n ∧ x = nI m
theorem inn_no {n : Nat} {x : Int32} (hn : n < 2 ^ 31) (h : x < 0 ∨ nI n ≤ x) : ¬ inn n x := by
  intro ⟨m, hm, e⟩
  subst e
  exact h.elim (nI_pos (by omega)) (nI_ge hm hn)
theorem b_w {x b : Int32} {n : Nat} (hn : n < 2 ^ 31) (hb : b = nI n) {Q : Int32 → Prop} (h1 : inn n x → Q 1) (h0 : ¬ inn n x → Q 0) : Q (bI (¬ x < 0 ∧ ¬ b ≤ x)) := by
  rcases in_or x hn with ⟨m, hm, rfl⟩ | hx
  · have e : bI (¬ nI m < 0 ∧ ¬ b ≤ nI m) = 1 := by rw [bI, if_pos (of_eq_true (w_t hm hn hb))]
    rw [e]
    exact h1 ⟨m, hm, rfl⟩
  · have e : bI (¬ x < 0 ∧ ¬ b ≤ x) = 0 := by rw [bI, if_neg (of_eq_false (w_f hx hb))]
    rw [e]
    exact h0 (inn_no hn hx)
theorem b_o {x b : Int32} {n : Nat} (hn : n + 1 < 2 ^ 31) (hb : b = nI n) {Q : Int32 → Prop} (h1 : inn (n + 1) x → Q 0) (h0 : ¬ inn (n + 1) x → Q 1) : Q (bI (x < 0 ∨ ¬ x ≤ b)) := by
  rcases in_or x hn with ⟨m, hm, rfl⟩ | hx
  · have e : bI (nI m < 0 ∨ ¬ nI m ≤ b) = 0 := by rw [bI, if_neg (of_eq_false (o_f hm (by omega) hb))]
    rw [e]
    exact h1 ⟨m, hm, rfl⟩
  · have e : bI (x < 0 ∨ ¬ x ≤ b) = 1 := by rw [bI, if_pos (of_eq_true (o_t hx hn hb))]
    rw [e]
    exact h0 (inn_no hn hx)
def fit1 (nn j : Nat) (a : Int32) : Prop := (j = 1 ∨ j = 2 → inn 8 a) ∧ (j = 3 ∨ j = 19 → inn 2 a) ∧ (¬ (tb_no j &&& 1) = 0 → inn nn a ∨ (j = 17 ∧ a = -1))
def fitA (nn j : Nat) (a b c : Int32) : Prop := fit1 nn j a ∧ (¬ (tb_no j &&& 2) = 0 → inn nn b) ∧ (¬ (tb_no j &&& 4) = 0 → inn nn c)
theorem s_firstFits {nn j : Nat} {a : Int32} (hj : j < 20) (hnn : nn ≤ 70) {I : mm_I} (e : I 2 7 = nI nn) (L : mm_L) (Q : Int32 → mm_I → mm_L → Prop) (h1 : fit1 nn j a → Q 1 I L) (h0 : ¬ fit1 nn j a → Q 0 I L) : vc_X0_firstFits (nI j) a I L Q := by
  have kk : ∀ i, i < 20 → nI j = nI i → j = i := fun i hi q => (nI_eq (by omega) (by omega)).mp q
  have n145 : ¬ (tb_no j &&& 1) = 0 → (j ≠ 17 ∧ j ≠ 1 ∧ j ≠ 2 ∧ j ≠ 3 ∧ j ≠ 19) → vc_X0_firstFits_145 a I L Q := fun hb n => by
    simp only [vc_X0_firstFits_145, s_has, zb_t, true_and]
    refine b_w (Q := fun v => Q v I L) (show nn < 2 ^ 31 by omega) e (fun q => h1 ⟨fun z => absurd z (by omega), fun z => absurd z (by omega), fun _ => Or.inl q⟩) (fun q => h0 (fun z => (z.2.2 hb).elim q (fun y => n.1 y.1)))
  have nd1 : ∀ i, i < 20 → (¬ (tb_no i &&& 1) = 0) → (i ≠ 17 ∧ i ≠ 1 ∧ i ≠ 2 ∧ i ≠ 3 ∧ i ≠ 19) → nI j = nI i → vc_X0_firstFits_145 a I L Q := fun i hi hb n q => by
    have := kk i hi q
    subst this
    exact n145 hb n
  simp only [vc_X0_firstFits, vc_X0_firstFits_0, s_within, s_has, zb_t, true_and]
  refine ⟨fun q => ?_, fun q => ?_, fun q => ?_, fun q => ?_, fun q => ?_, nd1 4 (by decide) (by decide) (by decide), nd1 5 (by decide) (by decide) (by decide), nd1 6 (by decide) (by decide) (by decide), nd1 7 (by decide) (by decide) (by decide), nd1 8 (by decide) (by decide) (by decide), nd1 9 (by decide) (by decide) (by decide), nd1 10 (by decide) (by decide) (by decide), nd1 11 (by decide) (by decide) (by decide), nd1 12 (by decide) (by decide) (by decide), nd1 13 (by decide) (by decide) (by decide), nd1 14 (by decide) (by decide) (by decide), nd1 15 (by decide) (by decide) (by decide), fun q => ?_, fun q => ?_, nd1 18 (by decide) (by decide) (by decide), fun q => ?_⟩
  · rw [nI_toInt (by omega)] at q
    omega
  · obtain rfl := kk 0 (by decide) q
    exact h1 ⟨fun z => absurd z (by decide), fun z => absurd z (by decide), fun z => absurd (by decide) z⟩
  · obtain rfl := kk 1 (by decide) q
    refine b_w (Q := fun v => Q v I L) (n := 8) (by decide) rfl (fun q => h1 ⟨fun _ => q, fun z => absurd z (by decide), fun z => absurd (by decide) z⟩) (fun q => h0 (fun z => q (z.1 (Or.inl rfl))))
  · obtain rfl := kk 2 (by decide) q
    refine b_w (Q := fun v => Q v I L) (n := 8) (by decide) rfl (fun q => h1 ⟨fun _ => q, fun z => absurd z (by decide), fun z => absurd (by decide) z⟩) (fun q => h0 (fun z => q (z.1 (Or.inr rfl))))
  · obtain rfl := kk 3 (by decide) q
    refine b_w (Q := fun v => Q v I L) (n := 2) (by decide) rfl (fun q => h1 ⟨fun z => absurd z (by decide), fun _ => q, fun z => absurd (by decide) z⟩) (fun q => h0 (fun z => q (z.2.1 (Or.inl rfl))))
  · obtain rfl := kk 16 (by decide) q
    exact h1 ⟨fun z => absurd z (by decide), fun z => absurd z (by decide), fun z => absurd (by decide) z⟩
  · obtain rfl := kk 17 (by decide) q
    refine ⟨fun z => h1 ⟨fun z => absurd z (by decide), fun z => absurd z (by decide), fun _ => Or.inr ⟨rfl, z⟩⟩, fun z => ?_⟩
    refine b_w (Q := fun v => (v = 0 → Q 0 I L) ∧ (¬ v = 0 → Q 1 I L)) (show nn < 2 ^ 31 by omega) e (fun q => ⟨fun y => absurd y (by decide), fun _ => h1 ⟨fun z => absurd z (by decide), fun z => absurd z (by decide), fun _ => Or.inl q⟩⟩) (fun q => ⟨fun _ => h0 (fun y => (y.2.2 (by decide)).elim q (fun y => z y.2)), fun y => absurd rfl y⟩)
  · obtain rfl := kk 19 (by decide) q
    refine b_w (Q := fun v => Q v I L) (n := 2) (by decide) rfl (fun q => h1 ⟨fun z => absurd z (by decide), fun _ => q, fun z => absurd (by decide) z⟩) (fun q => h0 (fun z => q (z.2.1 (Or.inr rfl))))
theorem s_takes {j : Nat} (hj : j < 20) (m : Int32) (I : mm_I) (L : mm_L) (Q : Int32 → mm_I → mm_L → Prop) (h0 : (tb_no j &&& m) = 0 → Q 0 I L) (h1 : ¬ (tb_no j &&& m) = 0 → Q 1 I L) : vc_X0_takesNode (nI j) m I L Q := by
  simp only [vc_X0_takesNode, vc_X0_takesNode_0, cl_nI (show j < 2 ^ 31 by omega)]
  exact ⟨in_nI hj (by decide), h0, h1⟩
theorem s_operandsFit {nn j : Nat} {a b c : Int32} (hj : j < 20) (hnn : nn ≤ 70) {I : mm_I} (e : I 2 7 = nI nn) (L : mm_L) (Q : Int32 → mm_I → mm_L → Prop) (h1 : fitA nn j a b c → Q 1 I L) (h0 : ¬ fitA nn j a b c → Q 0 I L) : vc_X0_operandsFit (nI j) a b c I L Q := by
  simp only [vc_X0_operandsFit, vc_X0_operandsFit_0]
  refine s_firstFits hj hnn e L _ (fun f1 => ⟨fun q => absurd q (by decide), fun _ => ?_⟩) (fun f1 => ⟨fun _ => h0 (fun z => f1 z.1), fun q => absurd rfl q⟩)
  have last : (¬ (tb_no j &&& 2) = 0 → inn nn b) → vc_X0_operandsFit_25 (nI j) c I L Q := fun fb => by
    simp only [vc_X0_operandsFit_25]
    refine s_takes hj 4 I L _ (fun z => ⟨fun _ => h1 ⟨f1, fb, fun q => absurd z q⟩, fun q => absurd rfl q⟩) (fun z => ⟨fun q => absurd q (by decide), fun _ => ?_⟩)
    refine (s_has _ I L _).mpr ?_
    exact b_w (Q := fun v => (v = 0 → Q 0 I L) ∧ (¬ v = 0 → Q 1 I L)) (show nn < 2 ^ 31 by omega) e (fun q => ⟨fun y => absurd y (by decide), fun _ => h1 ⟨f1, fb, fun _ => q⟩⟩) (fun q => ⟨fun _ => h0 (fun y => q (y.2.2 z)), fun y => absurd rfl y⟩)
  refine s_takes hj 2 I L _ (fun z => ⟨fun _ => last (fun q => absurd z q), fun q => absurd rfl q⟩) (fun z => ⟨fun q => absurd q (by decide), fun _ => ?_⟩)
  refine (s_has _ I L _).mpr ?_
  exact b_w (Q := fun v => (v = 0 → Q 0 I L) ∧ (¬ v = 0 → vc_X0_operandsFit_25 (nI j) c I L Q)) (show nn < 2 ^ 31 by omega) e (fun q => ⟨fun y => absurd y (by decide), fun _ => last (fun _ => q)⟩) (fun q => ⟨fun _ => h0 (fun y => q (y.2.1 z)), fun y => absurd rfl y⟩)
theorem s_mfits {nn j : Nat} {a b c : Int32} (hj : j < 20) (hnn : nn ≤ 70) {J : mm_I} (e : J 36 0 = nI nn) (L : mm_L) (Q : Int32 → mm_I → mm_L → Prop) (h1 : fitA nn j a b c → Q 1 J L) (h0 : ¬ fitA nn j a b c → Q 0 J L) : vc_X7_fits (nI j) a b c J L Q := by
  have kk : ∀ i, i < 20 → nI j = nI i → j = i := fun i hi q => (nI_eq (by omega) (by omega)).mp q
  have hn31 : nn < 2 ^ 31 := by omega
  have m107 : fit1 nn j a → (¬ (tb_no j &&& 2) = 0 → inn nn b) → vc_X7_fits_107 c (tb_no j) J L Q := fun f1 fb => by
    simp only [vc_X7_fits_107]
    refine ⟨fun z => h1 ⟨f1, fb, fun q => absurd z q⟩, fun z => (s_isNode _ J L _).mpr ?_⟩
    exact b_w (Q := fun v => (v = 0 → Q 0 J L) ∧ (¬ v = 0 → Q 1 J L)) hn31 e (fun q => ⟨fun y => absurd y (by decide), fun _ => h1 ⟨f1, fb, fun _ => q⟩⟩) (fun q => ⟨fun _ => h0 (fun y => q (y.2.2 z)), fun y => absurd rfl y⟩)
  have m92 : fit1 nn j a → vc_X7_fits_92 b c (tb_no j) J L Q := fun f1 => by
    simp only [vc_X7_fits_92]
    refine ⟨fun z => m107 f1 (fun q => absurd z q), fun z => (s_isNode _ J L _).mpr ?_⟩
    exact b_w (Q := fun v => (v = 0 → Q 0 J L) ∧ (¬ v = 0 → vc_X7_fits_107 c (tb_no j) J L Q)) hn31 e (fun q => ⟨fun y => absurd y (by decide), fun _ => m107 f1 (fun _ => q)⟩) (fun q => ⟨fun _ => h0 (fun y => q (y.2.1 z)), fun y => absurd rfl y⟩)
  have m57 : (j = 1 ∨ j = 2 → inn 8 a) → (j = 3 ∨ j = 19 → inn 2 a) → vc_X7_fits_57 (nI j) a b c J L Q := fun f12 f3 => by
    simp only [vc_X7_fits_57]
    refine (s_named _ J L _).mpr ?_
    rw [mN_tb j hj]
    refine ⟨fun z => m92 ⟨f12, f3, fun q => absurd z q⟩, fun z => (s_isNode _ J L _).mpr ?_⟩
    exact b_w (Q := fun v => (¬ v = 0 → vc_X7_fits_92 b c (tb_no j) J L Q) ∧ (v = 0 → (¬ nI j = 17 → Q 0 J L) ∧ (nI j = 17 → (a = -1 → vc_X7_fits_92 b c (tb_no j) J L Q) ∧ (¬ a = -1 → Q 0 J L)))) hn31 e (fun q => ⟨fun _ => m92 ⟨f12, f3, fun _ => Or.inl q⟩, fun y => absurd y (by decide)⟩) (fun q => ⟨fun y => absurd rfl y, fun _ => ⟨fun n17 => h0 (fun f => (f.1.2.2 z).elim q (fun y => n17 (by rw [y.1]; rfl))), fun e17 => ⟨fun ea => m92 ⟨f12, f3, fun _ => Or.inr ⟨kk 17 (by decide) e17, ea⟩⟩, fun na => h0 (fun f => (f.1.2.2 z).elim q (fun y => na y.2))⟩⟩⟩)
  have m45 : (j = 3 ∨ j = 19) → (j = 1 ∨ j = 2 → inn 8 a) → vc_X7_fits_45 (nI j) a b c J L Q := fun hj3 f12 => by
    simp only [vc_X7_fits_45]
    refine (s_out _ _ _ J L _).mpr ?_
    exact b_o (Q := fun v => (v = 0 → vc_X7_fits_57 (nI j) a b c J L Q) ∧ (¬ v = 0 → Q 0 J L)) (n := 1) (by decide) rfl (fun q => ⟨fun _ => m57 f12 (fun _ => q), fun y => absurd rfl y⟩) (fun q => ⟨fun y => absurd y (by decide), fun _ => h0 (fun f => q (f.1.2.1 hj3))⟩)
  have m34 : (j = 1 ∨ j = 2 → inn 8 a) → vc_X7_fits_34 (nI j) a b c J L Q := fun f12 => by
    simp only [vc_X7_fits_34]
    exact ⟨fun q => m45 (Or.inl (kk 3 (by decide) q)) f12, fun n3 => ⟨fun n19 => m57 f12 (fun z => z.elim (fun z => absurd (by rw [z]; rfl) n3) (fun z => absurd (by rw [z]; rfl) n19)), fun q => m45 (Or.inr (kk 19 (by decide) q)) f12⟩⟩
  have m23 : (j = 1 ∨ j = 2) → vc_X7_fits_23 (nI j) a b c J L Q := fun hj1 => by
    simp only [vc_X7_fits_23]
    refine (s_out _ _ _ J L _).mpr ?_
    exact b_o (Q := fun v => (¬ v = 0 → Q 0 J L) ∧ (v = 0 → vc_X7_fits_34 (nI j) a b c J L Q)) (n := 7) (by decide) rfl (fun q => ⟨fun y => absurd rfl y, fun _ => m34 (fun _ => q)⟩) (fun q => ⟨fun _ => h0 (fun f => q (f.1.1 hj1)), fun y => absurd y (by decide)⟩)
  simp only [vc_X7_fits, vc_X7_fits_0]
  refine (s_out _ _ _ J L _).mpr ?_
  exact b_o (Q := fun v => (v = 0 → (nI j = 1 → vc_X7_fits_23 (nI j) a b c J L Q) ∧ (¬ nI j = 1 → (¬ nI j = 2 → vc_X7_fits_34 (nI j) a b c J L Q) ∧ (nI j = 2 → vc_X7_fits_23 (nI j) a b c J L Q))) ∧ (¬ v = 0 → Q 0 J L)) (n := 19) (by decide) rfl (fun _ => ⟨fun _ => ⟨fun q => m23 (Or.inl (kk 1 (by decide) q)), fun n1 => ⟨fun n2 => m34 (fun z => z.elim (fun z => absurd (by rw [z]; rfl) n1) (fun z => absurd (by rw [z]; rfl) n2)), fun q => m23 (Or.inr (kk 2 (by decide) q))⟩⟩, fun y => absurd rfl y⟩) (fun q => absurd ⟨j, hj, rfl⟩ q)
