/-! PURE: node: the component makes one -/
theorem nI_ltN {a b : Nat} (ha : a < 2 ^ 31) (hb : b < 2 ^ 31) : nI a < nI b ↔ a < b := by
  rw [Int32.lt_iff_toInt_lt, nI_toInt ha, nI_toInt hb]
  omega
theorem mx {a b : Nat} (ha : a < 2 ^ 31) (hb : b < 2 ^ 31) : (if nI a < nI b then nI b else nI a) = nI (max a b) := by
  by_cases h : a < b
  · rw [if_pos ((nI_ltN ha hb).mpr h), Nat.max_eq_right (by omega)]
  · rw [if_neg (fun q => h ((nI_ltN ha hb).mp q)), Nat.max_eq_left (by omega)]
theorem nI_n1 {m : Nat} (h : m < 2 ^ 31) : ¬ nI m = -1 := by
  intro q
  have h1 : (nI m).toInt = (m : Int) := nI_toInt h
  rw [q] at h1
  have h2 : (-1 : Int32).toInt = -1 := by decide
  omega
def od (I : mm_I) (nn : Nat) (x : Int32) (l r : Nat) : Prop := (x = -1 ∧ l = 0 ∧ r = 0) ∨ (∃ m, m < nn ∧ x = nI m ∧ I 7 m = nI l ∧ I 8 m = nI r ∧ l ≤ 10 ∧ r ≤ 8)
theorem od_ex {I : mm_I} {nn : Nat} {x : Int32} (hN : vN I nn) (h : x = -1 ∨ inn nn x) : ∃ l r, od I nn x l r := by
  rcases h with h | ⟨m, hm, e⟩
  · exact ⟨0, 0, Or.inl ⟨h, rfl, rfl⟩⟩
  · obtain ⟨k, -, -, -, -, -, -, -, -, -, ⟨l, -, hl, el⟩, ⟨r, hr, er⟩⟩ := (hN.2.2.2 m hm).1
    exact ⟨l, r, Or.inr ⟨m, hm, e, el, er, hl, hr⟩⟩
theorem od_le {I : mm_I} {nn : Nat} {x : Int32} {l r : Nat} (h : od I nn x l r) : l ≤ 10 ∧ r ≤ 8 := by
  rcases h with ⟨-, rfl, rfl⟩ | ⟨m, -, -, -, -, h1, h2⟩
  · exact ⟨by omega, by omega⟩
  · exact ⟨h1, h2⟩
theorem s_levelOf {I : mm_I} {L : mm_L} {nn : Nat} {x : Int32} {l r : Nat} (hnn : nn ≤ 70) (h : od I nn x l r) (Q : Int32 → mm_I → mm_L → Prop) (hq : Q (nI l) I L) : vc_X0_levelOf x I L Q := by
  simp only [vc_X0_levelOf, vc_X0_levelOf_0]
  rcases h with ⟨rfl, rfl, -⟩ | ⟨m, hm, rfl, e7, -⟩
  · exact ⟨fun q => absurd rfl q, fun _ => hq⟩
  · refine ⟨fun _ => ⟨in_nI (by omega) (by decide), ?_⟩, fun q => absurd q (nI_n1 (by omega))⟩
    rw [cl_nI (show m < 2 ^ 31 by omega), e7]
    exact hq
theorem s_rankOf {I I' : mm_I} {L : mm_L} {nn : Nat} {x : Int32} {l r : Nat} (hnn : nn ≤ 70) (h8 : I' 8 = I 8) (h : od I nn x l r) (Q : Int32 → mm_I → mm_L → Prop) (hq : Q (nI r) I' L) : vc_X0_rankOf x I' L Q := by
  simp only [vc_X0_rankOf, vc_X0_rankOf_0]
  rcases h with ⟨rfl, -, rfl⟩ | ⟨m, hm, rfl, -, e8, -⟩
  · exact ⟨fun q => absurd rfl q, fun _ => hq⟩
  · refine ⟨fun _ => ⟨in_nI (by omega) (by decide), ?_⟩, fun q => absurd q (nI_n1 (by omega))⟩
    rw [cl_nI (show m < 2 ^ 31 by omega), h8, e8]
    exact hq
theorem s_put {I : mm_I} {nn : Nat} {o : Nat → Nat} (hnn : nn < 70) (ho : ∀ i, i < nn → o i < nn ∧ I 9 i = nI (o i)) (hr : ∀ n, n ≤ nn → ∃ r, r ≤ 8 ∧ I 8 n = nI r) (L : mm_L) (Q : mm_I → mm_L → Prop) (h : ∀ I' s, s ≤ nn → (∀ t, t ≠ 9 → I' t = I t) → (∀ i, i < s → I' 9 i = nI (o i)) → I' 9 s = nI nn → (∀ i, s ≤ i → i < nn → I' 9 (i + 1) = nI (o i)) → (∀ i, s ≤ i → i < nn → rk I nn < rk I (o i)) → (∀ i, i + 1 = s → rk I (o i) ≤ rk I nn) → Q I' L) : vc_X0_putInOrder (nI nn) I L Q := by
  have fin : ∀ (s : Nat) (I1 : mm_I), s ≤ nn → (∀ t, t ≠ 9 → I1 t = I t) → (∀ i, i < s → I1 9 i = nI (o i)) → (∀ i, s ≤ i → i < nn → I1 9 (i + 1) = nI (o i)) → (∀ i, s ≤ i → i < nn → rk I nn < rk I (o i)) → (∀ i, i + 1 = s → rk I (o i) ≤ rk I nn) → vc_X0_putInOrder_48 (nI nn) (nI s) I1 L Q := by
    intro s I1 hs a1 a2 a3 a4 a5
    simp only [vc_X0_putInOrder_48, cl_nI (show s < 2 ^ 31 by omega)]
    exact ⟨in_nI (by omega) (by decide), h _ s hs (fun t ht => by rw [uI_ne _ _ _ ht]; exact a1 t ht) (fun i hi => by rw [uI_at, if_neg (by omega)]; exact a2 i hi) (by rw [uI_at, if_pos rfl]) (fun i h1 h2 => by rw [uI_at, if_neg (by omega)]; exact a3 i h1 h2) a4 a5⟩
  have rkv : ∀ n, n ≤ nn → ∃ r, r ≤ 8 ∧ I 8 n = nI r ∧ rk I n = r := fun n hn => by
    obtain ⟨r, h1, h2⟩ := hr n hn
    exact ⟨r, h1, h2, by unfold rk; rw [h2]; exact cl_nI (by omega)⟩
  have aux : ∀ (s : Nat) (I1 : mm_I), s ≤ nn → (∀ t, t ≠ 9 → I1 t = I t) → (∀ i, i < s → I1 9 i = nI (o i)) → (∀ i, s ≤ i → i < nn → I1 9 (i + 1) = nI (o i)) → (∀ i, s ≤ i → i < nn → rk I nn < rk I (o i)) → vc_X0_putInOrder_2 (s + 1) (nI nn) (nI s) I1 L Q := by
    intro s
    induction s with
    | zero =>
      intro I1 hs a1 a2 a3 a4
      rw [vc_X0_putInOrder_2]
      exact ⟨fun _ => fin 0 I1 hs a1 a2 a3 a4 (fun i hi => absurd hi (by omega)), fun q => absurd (by decide) q⟩
    | succ s ih =>
      intro I1 hs a1 a2 a3 a4
      rw [vc_X0_putInOrder_2]
      have e9 : I1 9 s = nI (o s) := a2 s (by omega)
      have hos := (ho s (by omega)).1
      have em : nI (s + 1) + (-1) = nI s := by rw [← Int32.sub_eq_add_neg, nI_s1]
      have e8 : I1 8 = I 8 := a1 8 (by decide)
      obtain ⟨r1, hr1, er1, kr1⟩ := rkv (o s) (by omega)
      obtain ⟨r2, hr2, er2, kr2⟩ := rkv nn (Nat.le_refl nn)
      simp only [nI_s1, em, cl_nI (show s < 2 ^ 31 by omega), cl_nI (show s + 1 < 2 ^ 31 by omega), cl_nI (show nn < 2 ^ 31 by omega), e9, cl_nI (show o s < 2 ^ 31 by omega), e8, er1, er2]
      refine ⟨fun q => absurd q (nI_ge (show 0 < s + 1 by omega) (by omega)), fun _ => ⟨in_nI (by omega) (by decide), in_nI (by omega) (by decide), in_nI (by omega) (by decide), fun hle => fin (s + 1) I1 hs a1 a2 a3 a4 (fun i hi => ?_), fun hgt => ⟨in_nI (by omega) (by decide), in_nI (by omega) (by decide), ih _ (by omega) (fun t ht => ?_) (fun i hi => ?_) (fun i h1 h2 => ?_) (fun i h1 h2 => ?_)⟩⟩⟩
      · obtain rfl : i = s := by omega
        rw [kr1, kr2]
        exact (nI_leI (by omega) (by omega)).mp hle
      · rw [uI_ne _ _ _ ht]
        exact a1 t ht
      · rw [uI_at, if_neg (by omega)]
        exact a2 i (by omega)
      · rw [uI_at]
        by_cases his : i = s
        · rw [if_pos (by omega), his]
        · rw [if_neg (by omega)]
          exact a3 i (by omega) h2
      · by_cases his : i = s
        · rw [his, kr1, kr2]
          rcases Nat.lt_or_ge r2 r1 with z | z
          · exact z
          · exact absurd (nI_le z (by omega)) hgt
        · exact a4 i (by omega) h2
  simp only [vc_X0_putInOrder, vc_X0_putInOrder_0]
  exact ⟨nn + 1, aux nn I (Nat.le_refl nn) (fun _ _ => rfl) (fun i hi => (ho i hi).2) (fun i h1 h2 => absurd h1 (by omega)) (fun i h1 h2 => absurd h1 (by omega))⟩
/-- what the component's cells are after a new node -/
def cN (I I' : mm_I) (nn : Nat) (o : Nat → Nat) (k a b c : Int32) (lv rn s : Nat) : Prop := (∀ t, t ≠ 2 → ¬ (3 ≤ t ∧ t ≤ 9) → I' t = I t) ∧ I' 2 7 = nI (nn + 1) ∧ (∀ m, I' 3 m = if m = nn then k else I 3 m) ∧ (∀ m, I' 4 m = if m = nn then a else I 4 m) ∧ (∀ m, I' 5 m = if m = nn then b else I 5 m) ∧ (∀ m, I' 6 m = if m = nn then c else I 6 m) ∧ (∀ m, I' 7 m = if m = nn then nI (1 + lv) else I 7 m) ∧ (∀ m, I' 8 m = if m = nn then nI rn else I 8 m) ∧ s ≤ nn ∧ (∀ i, i < s → I' 9 i = nI (o i)) ∧ I' 9 s = nI nn ∧ (∀ i, s ≤ i → i < nn → I' 9 (i + 1) = nI (o i)) ∧ (∀ i, s ≤ i → i < nn → rn < rk I (o i)) ∧ (∀ i, i + 1 = s → rk I (o i) ≤ rn)
theorem s_make {I : mm_I} {L : mm_L} {nn j : Nat} {o : Nat → Nat} {a b c xa xb xc : Int32} {la ra lb rb lc rc own : Nat} (hN : vN I nn) (ho : ∀ i, i < nn → o i < nn ∧ I 9 i = nI (o i)) (hj : j < 20) (f : fitA nn j a b c) (xa0 : (tb_no j &&& 1) = 0 → xa = -1) (xa1 : ¬ (tb_no j &&& 1) = 0 → xa = a) (xb0 : (tb_no j &&& 2) = 0 → xb = -1) (xb1 : ¬ (tb_no j &&& 2) = 0 → xb = b) (xc0 : (tb_no j &&& 4) = 0 → xc = -1) (xc1 : ¬ (tb_no j &&& 4) = 0 → xc = c) (oa : od I nn xa la ra) (ob : od I nn xb lb rb) (oc : od I nn xc lc rc) (hown : own ≤ 8) (ow2 : j = 2 → a + 1 = nI own) (own0 : ¬ j = 2 → own = 0) (Q : Int32 → mm_I → mm_L → Prop) (hR : 10 ≤ max la (max lb lc) → Q (-1) I L) (hF : max la (max lb lc) < 10 → nn = 70 → Q (-2) I L) (hM : max la (max lb lc) < 10 → nn < 70 → ∀ I' s, cN I I' nn o (nI j) a b c (max la (max lb lc)) (max (max own ra) (max rb rc)) s → Q (nI nn) I' L) : vc_X0_make (nI j) a b c I L Q := by
  have hnn := hN.1
  have e27 : I 2 7 = nI nn := hN.2.1
  have la10 := od_le oa
  have lb10 := od_le ob
  have lc10 := od_le oc
  have g178 : max la (max lb lc) < 10 → nn < 70 → ∀ I1 : mm_I, (∀ t, ¬ (3 ≤ t ∧ t ≤ 7) → I1 t = I t) → (∀ m, I1 3 m = if m = nn then nI j else I 3 m) → (∀ m, I1 4 m = if m = nn then a else I 4 m) → (∀ m, I1 5 m = if m = nn then b else I 5 m) → (∀ m, I1 6 m = if m = nn then c else I 6 m) → (∀ m, I1 7 m = if m = nn then nI (1 + max la (max lb lc)) else I 7 m) → vc_X0_make_178 xa xb xc (nI nn) (nI own) I1 L Q := by
    intro hl hn I1 b0 b3 b4 b5 b6 b7
    have h8 : I1 8 = I 8 := b0 8 (by omega)
    simp only [vc_X0_make_178]
    refine s_rankOf hnn h8 oa _ ?_
    refine s_rankOf hnn h8 ob _ ?_
    refine s_rankOf hnn h8 oc _ ?_
    have e1 := mx (a := own) (b := ra) (by omega) (by omega)
    have e2 := mx (a := rb) (b := rc) (by omega) (by omega)
    have e3 := mx (a := max own ra) (b := max rb rc) (by omega) (by omega)
    rw [e1, e2, e3, cl_nI (show nn < 2 ^ 31 by omega)]
    refine ⟨in_nI hn (by decide), ?_⟩
    have u8 : ∀ m, (mm_uI I1 8 nn (nI (max (max own ra) (max rb rc)))) 8 m = if m = nn then nI (max (max own ra) (max rb rc)) else I 8 m := fun m => by rw [uI_at, h8]
    have u0 : ∀ t, t ≠ 8 → (mm_uI I1 8 nn (nI (max (max own ra) (max rb rc)))) t = I1 t := fun t ht => uI_ne _ _ _ ht
    generalize mm_uI I1 8 nn (nI (max (max own ra) (max rb rc))) = I2 at u8 u0 ⊢
    have rkn : rk I2 nn = max (max own ra) (max rb rc) := by
      unfold rk
      rw [u8, if_pos rfl]
      exact cl_nI (by omega)
    have rko : ∀ n, n < nn → rk I2 n = rk I n := fun n h => by
      unfold rk
      rw [u8, if_neg (by omega)]
    refine s_put (o := o) hn (fun i hi => ?_) (fun n h => ?_) L _ (fun I3 s d1 d2 d3 d4 d5 d6 d7 => ?_)
    · rw [u0 9 (by decide), b0 9 (by omega)]
      exact ho i hi
    · rw [u8]
      by_cases hnn' : n = nn
      · rw [if_pos hnn']
        exact ⟨_, by omega, rfl⟩
      · rw [if_neg hnn']
        obtain ⟨k, -, -, -, -, -, -, -, -, -, -, h9⟩ := (hN.2.2.2 n (by omega)).1
        exact h9
    · have t27 : I3 2 7 = nI nn := by rw [d2 2 (by decide), u0 2 (by decide), b0 2 (by omega)]; exact e27
      rw [t27, nI_1']
      have w : ∀ t, t ≠ 2 → t ≠ 9 → t ≠ 8 → (mm_uI I3 2 7 (nI (nn + 1))) t = I1 t := fun t h1 h2 h3 => by rw [uI_ne _ _ _ h1, d2 t h2, u0 t h3]
      have w9 : (mm_uI I3 2 7 (nI (nn + 1))) 9 = I3 9 := uI_ne _ _ _ (by decide)
      refine hM hl hn _ s ⟨fun t h1 h2 => ?_, ?_, fun m => ?_, fun m => ?_, fun m => ?_, fun m => ?_, fun m => ?_, fun m => ?_, d1, fun i hi => ?_, ?_, fun i h1 h2 => ?_, fun i h1 h2 => ?_, fun i hi => ?_⟩
      · rw [w t h1 (by omega) (by omega)]
        exact b0 t (by omega)
      · rw [uI_at, if_pos rfl]
      · rw [w 3 (by decide) (by decide) (by decide)]
        exact b3 m
      · rw [w 4 (by decide) (by decide) (by decide)]
        exact b4 m
      · rw [w 5 (by decide) (by decide) (by decide)]
        exact b5 m
      · rw [w 6 (by decide) (by decide) (by decide)]
        exact b6 m
      · rw [w 7 (by decide) (by decide) (by decide)]
        exact b7 m
      · rw [uI_ne _ _ _ (by decide), d2 8 (by decide)]
        exact u8 m
      · rw [w9]
        exact d3 i hi
      · rw [w9]
        exact d4
      · rw [w9]
        exact d5 i h1 h2
      · have := d6 i h1 h2
        rw [rkn, rko _ (ho i h2).1] at this
        exact this
      · have := d7 i hi
        rw [rkn, rko _ (ho i (by omega)).1] at this
        exact this
  have g67 : vc_X0_make_67 (nI j) a b c xa xb xc I L Q := by
    simp only [vc_X0_make_67]
    refine s_levelOf hnn oa _ ?_
    refine s_levelOf hnn ob _ ?_
    refine s_levelOf hnn oc _ ?_
    have e1 := mx (a := lb) (b := lc) (by omega) (by omega)
    have e2 := mx (a := la) (b := max lb lc) (by omega) (by omega)
    have e3 : (1 : Int32) + nI (max la (max lb lc)) = nI (1 + max la (max lb lc)) := nI_add 1 (max la (max lb lc))
    simp only [e1, e2, e3, e27, cl_nI (show nn < 2 ^ 31 by omega)]
    refine ⟨fun hle => ⟨fun n70 => ?_, fun e70 => ?_⟩, fun hgt => hR ?_⟩
    · have hl : max la (max lb lc) < 10 := by
        have := (nI_leI (a := 1 + max la (max lb lc)) (b := 10) (by omega) (by decide)).mp hle
        omega
      have hn : nn < 70 := by
        rcases Nat.lt_or_ge nn 70 with z | z
        · exact z
        · exact absurd (by rw [show nn = 70 by omega]; rfl) n70
      have hin : vp_in (nI nn) 70 := in_nI hn (by decide)
      have g := g178 hl hn (mm_uI (mm_uI (mm_uI (mm_uI (mm_uI I 3 nn (nI j)) 4 nn a) 5 nn b) 6 nn c) 7 nn (nI (1 + max la (max lb lc)))) (fun t ht => by rw [uI_ne _ _ _ (by omega), uI_ne _ _ _ (by omega), uI_ne _ _ _ (by omega), uI_ne _ _ _ (by omega), uI_ne _ _ _ (by omega)]) (fun m => by rw [uI_ne _ _ _ (by decide), uI_ne _ _ _ (by decide), uI_ne _ _ _ (by decide), uI_ne _ _ _ (by decide), uI_at]) (fun m => by rw [uI_ne _ _ _ (by decide), uI_ne _ _ _ (by decide), uI_ne _ _ _ (by decide), uI_at, uI_ne _ _ _ (by decide)]) (fun m => by rw [uI_ne _ _ _ (by decide), uI_ne _ _ _ (by decide), uI_at, uI_ne _ _ _ (by decide), uI_ne _ _ _ (by decide)]) (fun m => by rw [uI_ne _ _ _ (by decide), uI_at, uI_ne _ _ _ (by decide), uI_ne _ _ _ (by decide), uI_ne _ _ _ (by decide)]) (fun m => by rw [uI_at, uI_ne _ _ _ (by decide), uI_ne _ _ _ (by decide), uI_ne _ _ _ (by decide), uI_ne _ _ _ (by decide)])
      refine ⟨hin, hin, hin, hin, hin, fun n2 => ?_, fun e2' => ?_⟩
      · have z := own0 (fun q => n2 (by rw [q]; rfl))
        rw [z] at g
        exact g
      · have j2 : j = 2 := (nI_eq (a := j) (b := 2) (by omega) (by decide)).mp e2'
        rw [ow2 j2]
        exact g
    · have hl : max la (max lb lc) < 10 := by
        have := (nI_leI (a := 1 + max la (max lb lc)) (b := 10) (by omega) (by decide)).mp hle
        omega
      exact hF hl ((nI_eq (a := nn) (b := 70) (by omega) (by decide)).mp e70)
    · rcases Nat.lt_or_ge (max la (max lb lc)) 10 with z | z
      · exact absurd (nI_le (a := 1 + max la (max lb lc)) (b := 10) (by omega) (by decide)) hgt
      · exact z
  have g51 : vc_X0_make_51 (nI j) a b c xa xb I L Q := by
    simp only [vc_X0_make_51]
    refine s_takes hj 4 I L _ (fun z => ⟨fun _ => ?_, fun q => absurd rfl q⟩) (fun z => ⟨fun q => absurd q (by decide), fun _ => ?_⟩)
    · have g := g67
      rw [xc0 z] at g
      exact g
    · have g := g67
      rw [xc1 z] at g
      exact g
  have g36 : vc_X0_make_36 (nI j) a b c xa I L Q := by
    simp only [vc_X0_make_36]
    refine s_takes hj 2 I L _ (fun z => ⟨fun _ => ?_, fun q => absurd rfl q⟩) (fun z => ⟨fun q => absurd q (by decide), fun _ => ?_⟩)
    · have g := g51
      rw [xb0 z] at g
      exact g
    · have g := g51
      rw [xb1 z] at g
      exact g
  simp only [vc_X0_make, vc_X0_make_0, s_within, bI_0, w_t (n := 20) (b := 20) hj (by decide) rfl, not_true_eq_false, not_false_eq_true, forall_const, false_implies, true_and, and_true]
  refine s_operandsFit hj hnn e27 L _ (fun _ => ⟨fun _ => ?_, fun q => absurd q (by decide)⟩) (fun q => absurd f q)
  refine s_takes hj 1 I L _ (fun z => ⟨fun _ => ?_, fun q => absurd rfl q⟩) (fun z => ⟨fun q => absurd q (by decide), fun _ => ?_⟩)
  · have g := g36
    rw [xa0 z] at g
    exact g
  · have g := g36
    rw [xa1 z] at g
    exact g
