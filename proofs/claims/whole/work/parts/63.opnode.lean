/-! PURE: node, the call -/
theorem tb_1 : ∀ k, k < 20 → ((4 ≤ k ∧ k ≤ 15) ∨ k = 18) → ¬ (tb_no k &&& 1) = 0 := by decide
theorem tb_2 : ∀ k, k < 20 → ((4 ≤ k ∧ k ≤ 11) ∨ (13 ≤ k ∧ k ≤ 15) ∨ (17 ≤ k ∧ k ≤ 19)) → ¬ (tb_no k &&& 2) = 0 := by decide
theorem tb_4 : ∀ k, k < 20 → (k = 11 ∨ k = 15 ∨ k = 17) → ¬ (tb_no k &&& 4) = 0 := by decide
theorem tb_17 : ¬ (tb_no 17 &&& 1) = 0 := by decide
theorem nOK_p {I I' : mm_I} {n nn : Nat} (hn : n < nn) (h : ∀ t m, 3 ≤ t → t ≤ 8 → m < nn → I' t m = I t m) (q : nOK I n) : nOK I' n := by
  have e3 := h 3 n (by decide) (by decide) hn
  have e4 := h 4 n (by decide) (by decide) hn
  have e5 := h 5 n (by decide) (by decide) hn
  have e6 := h 6 n (by decide) (by decide) hn
  have e7 := h 7 n (by decide) (by decide) hn
  have e8 := h 8 n (by decide) (by decide) hn
  have er : ∀ m, m < nn → rk I' m = rk I m := fun m hm => by unfold rk; rw [h 8 m (by decide) (by decide) hm]
  have en : ∀ x, nd I n x → nd I' n x := fun x ⟨a, ha, e, hr⟩ => ⟨a, ha, e, by rw [er a (by omega), er n hn]; exact hr⟩
  obtain ⟨k, hk, ek, oA, o17, oB, oC, o1, o2, o3, o4, o5⟩ := q
  refine ⟨k, hk, by rw [e3]; exact ek, ?_, ?_, ?_, ?_, ?_, ?_, ?_, ?_, ?_⟩
  · rw [e4]; exact fun z => en _ (oA z)
  · rw [e4]; exact fun z => (o17 z).elim Or.inl (fun y => Or.inr (en _ y))
  · rw [e5]; exact fun z => en _ (oB z)
  · rw [e6]; exact fun z => en _ (oC z)
  · rw [e4]; exact o1
  · rw [e4, er n hn]; exact o2
  · rw [e4]; exact o3
  · rw [e7]; exact o4
  · rw [e8]; exact o5
theorem vRn_c36 {I I' : mm_I} {L : mm_L} {rr : Nat} (h : ∀ t, (t = 14 ∨ t = 16 ∨ t = 17 ∨ t = 49 ∨ t = 50 ∨ t = 51) → I' t = I t) (h36 : I' 36 1 = I 36 1) (q : vRn I L rr) : vRn I' L rr := by
  unfold vRn vS1 at *
  rw [h 14 (by omega), h 16 (by omega), h 17 (by omega), h36, h 49 (by omega), h 50 (by omega), h 51 (by omega)]
  exact q
theorem od_nd {I I' : mm_I} {nn : Nat} {x : Int32} {l r R : Nat} (hnn : nn < 70) (h : od I nn x l r) (hx : inn nn x) (e8 : ∀ m, m < nn → I' 8 m = I 8 m) (eR : rk I' nn = R) (hR : r ≤ R) : nd I' nn x := by
  rcases h with ⟨e, -⟩ | ⟨m, hm, e, -, er, -, hr8⟩
  · obtain ⟨m, hm, e'⟩ := hx
    exact absurd (e'.symm.trans e) (nI_n1 (by omega))
  · refine ⟨m, hm, e, ?_⟩
    have : rk I' m = r := by
      unfold rk
      rw [e8 m hm, er]
      exact cl_nI (by omega)
    rw [this, eR]
    exact hR
/-- the state after a new node keeps the invariant -/
theorem node_inv {I I' J : mm_I} {L : mm_L} {nn rr j s : Nat} {o : Nat → Nat} {a b c xa xb xc : Int32} {la ra lb rb lc rc own : Nat} (hN : vN I nn) (ho1 : ∀ i, i < nn → o i < nn ∧ I 9 i = nI (o i)) (ho2 : ∀ i k, i < k → k < nn → ky I (o i) < ky I (o k)) (ho3 : ∀ n, n < nn → ∃ i, i < nn ∧ o i = n) (hD : vD I nn) (hT : vT I) (hP : vP I L) (hR : vRn I L rr) (hn : nn < 70) (hj : j < 20) (f : fitA nn j a b c) (xa1 : ¬ (tb_no j &&& 1) = 0 → xa = a) (xb1 : ¬ (tb_no j &&& 2) = 0 → xb = b) (xc1 : ¬ (tb_no j &&& 4) = 0 → xc = c) (oa : od I nn xa la ra) (ob : od I nn xb lb rb) (oc : od I nn xc lc rc) (hown : own ≤ 8) (ow2 : j = 2 → ∃ m, m < 8 ∧ a = nI m ∧ own = m + 1) (hl : max la (max lb lc) < 10) (h1 : cN I I' nn o (nI j) a b c (max la (max lb lc)) (max (max own ra) (max rb rc)) s) (h2 : mNd I' J nn (nI j) a b c (max la (max lb lc)) (max (max own ra) (max rb rc))) : Inv J L := by
  have la10 := od_le oa
  have lb10 := od_le ob
  have lc10 := od_le oc
  obtain ⟨g0, g2, g3, g4, g5, g6, g7, g8, hs, q1, q2, q3, q4, q5⟩ := h1
  obtain ⟨n0, n36, n361, n37, n38, n39, n40, n41, n42⟩ := h2
  have fr : ∀ t, t ≠ 2 → ¬ (3 ≤ t ∧ t ≤ 9) → ¬ (36 ≤ t ∧ t ≤ 42) → J t = I t := fun t h1 h2 h3 => (n0 t (by omega)).trans (g0 t h1 h2)
  have J8 : ∀ m, J 8 m = if m = nn then nI (max (max own ra) (max rb rc)) else I 8 m := fun m => by rw [n0 8 (by omega)]; exact g8 m
  have old : ∀ t m, 3 ≤ t → t ≤ 8 → m < nn → J t m = I t m := by
    intro t m h3 h8 hm
    rw [n0 t (by omega)]
    obtain rfl | rfl | rfl | rfl | rfl | rfl : t = 3 ∨ t = 4 ∨ t = 5 ∨ t = 6 ∨ t = 7 ∨ t = 8 := by omega
    · rw [g3, if_neg (by omega)]
    · rw [g4, if_neg (by omega)]
    · rw [g5, if_neg (by omega)]
    · rw [g6, if_neg (by omega)]
    · rw [g7, if_neg (by omega)]
    · rw [g8, if_neg (by omega)]
  have rkn : rk J nn = max (max own ra) (max rb rc) := by
    unfold rk
    rw [J8, if_pos rfl]
    exact cl_nI (by omega)
  have rko : ∀ n, n < nn → rk J n = rk I n := fun n h => by
    unfold rk
    rw [J8, if_neg (by omega)]
  have o8 : ∀ m, m < nn → J 8 m = I 8 m := fun m hm => old 8 m (by decide) (by decide) hm
  have c3 : J 3 nn = nI j := by rw [n0 3 (by omega), g3, if_pos rfl]
  have c4 : J 4 nn = a := by rw [n0 4 (by omega), g4, if_pos rfl]
  have c5 : J 5 nn = b := by rw [n0 5 (by omega), g5, if_pos rfl]
  have c6 : J 6 nn = c := by rw [n0 6 (by omega), g6, if_pos rfl]
  have c7 : J 7 nn = nI (1 + max la (max lb lc)) := by rw [n0 7 (by omega), g7, if_pos rfl]
  have c8 : J 8 nn = nI (max (max own ra) (max rb rc)) := by rw [J8, if_pos rfl]
  refine ⟨nn + 1, rr, ⟨hn, ?_, n36, fun n hn1 => ?_⟩, ?_, fun d hd => ?_, vT_c (fun t ht => fr t (by omega) (by omega) (by omega)) hT, vP_c (fun t ht => fr t (by omega) (by omega) (by omega)) (fun _ _ => rfl) hP, vRn_c36 (fun t ht => fr t (by omega) (by omega) (by omega)) (n361.trans (by rw [g0 36 (by decide) (by omega)])) hR⟩
  · rw [n0 2 (by omega)]
    exact g2
  · by_cases hnn : n = nn
    · subst hnn
      refine ⟨⟨j, hj, c3, ?_, ?_, ?_, ?_, ?_, ?_, ?_, ?_, ?_⟩, ?_, ?_, ?_, ?_, ?_, ?_⟩
      · rw [c4]
        intro z
        have hb := tb_1 j hj z
        have hi : inn n a := (f.1.2.2 hb).elim id (fun y => absurd y.1 (by omega))
        have := oa
        rw [xa1 hb] at this
        exact od_nd hn this hi o8 rkn (by omega)
      · rw [c4]
        intro z
        subst z
        rcases f.1.2.2 tb_17 with hi | y
        · have := oa
          rw [xa1 tb_17] at this
          exact Or.inr (od_nd hn this hi o8 rkn (by omega))
        · exact Or.inl y.2
      · rw [c5]
        intro z
        have hb := tb_2 j hj z
        have := ob
        rw [xb1 hb] at this
        exact od_nd hn this (f.2.1 hb) o8 rkn (by omega)
      · rw [c6]
        intro z
        have hb := tb_4 j hj z
        have := oc
        rw [xc1 hb] at this
        exact od_nd hn this (f.2.2 hb) o8 rkn (by omega)
      · rw [c4]
        exact fun z => f.1.1 (Or.inl z)
      · rw [c4, rkn]
        intro z
        obtain ⟨m, hm, e, eo⟩ := ow2 z
        exact ⟨m, hm, e, by omega⟩
      · rw [c4]
        exact fun z => f.1.2.1 z
      · rw [c7]
        exact ⟨_, by omega, by omega, rfl⟩
      · rw [c8]
        exact ⟨_, by omega, rfl⟩
      · rw [n37, if_pos rfl, c3]
      · rw [n38, if_pos rfl, c4]
      · rw [n39, if_pos rfl, c5]
      · rw [n40, if_pos rfl, c6]
      · rw [n41, if_pos rfl, c7, Nat.add_comm]
      · rw [n42, if_pos rfl, c8]
    · have hlt : n < nn := by omega
      obtain ⟨ok, e1, e2, e3, e4, e5, e6⟩ := hN.2.2.2 n hlt
      refine ⟨nOK_p hlt old ok, ?_, ?_, ?_, ?_, ?_, ?_⟩
      · rw [n37, if_neg hnn, g0 37 (by decide) (by omega), old 3 n (by decide) (by decide) hlt]; exact e1
      · rw [n38, if_neg hnn, g0 38 (by decide) (by omega), old 4 n (by decide) (by decide) hlt]; exact e2
      · rw [n39, if_neg hnn, g0 39 (by decide) (by omega), old 5 n (by decide) (by decide) hlt]; exact e3
      · rw [n40, if_neg hnn, g0 40 (by decide) (by omega), old 6 n (by decide) (by decide) hlt]; exact e4
      · rw [n41, if_neg hnn, g0 41 (by decide) (by omega), old 7 n (by decide) (by decide) hlt]; exact e5
      · rw [n42, if_neg hnn, g0 42 (by decide) (by omega), o8 n hlt]; exact e6
  · have J9 : J 9 = I' 9 := n0 9 (by omega)
    have kyo : ∀ n, n < nn → ky J n = ky I n := fun n h => by unfold ky; rw [rko n h]
    have kyn : ky J nn = max (max own ra) (max rb rc) * 70 + nn := by unfold ky; rw [rkn]
    have low : ∀ i, i < s → ky I (o i) < max (max own ra) (max rb rc) * 70 + nn := by
      intro i hi
      obtain ⟨s', rfl⟩ : ∃ s', s = s' + 1 := ⟨s - 1, by omega⟩
      have h5 := q5 s' rfl
      have hs' := (ho1 s' (by omega)).1
      have k1 : ky I (o s') < max (max own ra) (max rb rc) * 70 + nn := by unfold ky; omega
      by_cases e : i = s'
      · rw [e]; exact k1
      · have := ho2 i s' (by omega) (by omega)
        omega
    have upp : ∀ i, s ≤ i → i < nn → max (max own ra) (max rb rc) * 70 + nn < ky I (o i) := by
      intro i h1 h2
      have := q4 i h1 h2
      unfold ky
      omega
    have o'1 : ∀ i, i < s → (if i < s then o i else if i = s then nn else o (i - 1)) = o i := fun i hi => if_pos hi
    have o'2 : (if s < s then o s else if s = s then nn else o (s - 1)) = nn := by rw [if_neg (by omega), if_pos rfl]
    have o'3 : ∀ i, s < i → (if i < s then o i else if i = s then nn else o (i - 1)) = o (i - 1) := fun i hi => by rw [if_neg (by omega), if_neg (by omega)]
    refine ⟨fun i => if i < s then o i else if i = s then nn else o (i - 1), fun i hi => ?_, fun i k hik hk => ?_, fun n h => ?_⟩
    · show (if i < s then o i else if i = s then nn else o (i - 1)) < nn + 1 ∧ J 9 i = nI (if i < s then o i else if i = s then nn else o (i - 1))
      rw [J9]
      rcases Nat.lt_trichotomy i s with z | z | z
      · rw [o'1 i z]
        exact ⟨by have := (ho1 i (by omega)).1; omega, q1 i z⟩
      · subst z
        rw [o'2]
        exact ⟨by omega, q2⟩
      · rw [o'3 i z]
        obtain ⟨i', rfl⟩ : ∃ i', i = i' + 1 := ⟨i - 1, by omega⟩
        exact ⟨by have := (ho1 i' (by omega)).1; rw [Nat.add_sub_cancel]; omega, q3 i' (by omega) (by omega)⟩
    · rcases Nat.lt_trichotomy k s with z | z | z
      · have e1 := (ho1 i (by omega)).1
        have e2 := (ho1 k (by omega)).1
        show ky J (if i < s then o i else if i = s then nn else o (i - 1)) < ky J (if k < s then o k else if k = s then nn else o (k - 1))
        rw [o'1 i (by omega), o'1 k z, kyo _ e1, kyo _ e2]
        exact ho2 i k hik (by omega)
      · subst z
        have e1 := (ho1 i (by omega)).1
        show ky J (if i < k then o i else if i = k then nn else o (i - 1)) < ky J (if k < k then o k else if k = k then nn else o (k - 1))
        rw [o'1 i hik, o'2, kyo _ e1, kyn]
        exact low i hik
      · obtain ⟨k', rfl⟩ : ∃ k', k = k' + 1 := ⟨k - 1, by omega⟩
        have e2 := (ho1 k' (by omega)).1
        show ky J (if i < s then o i else if i = s then nn else o (i - 1)) < ky J (if k' + 1 < s then o (k' + 1) else if k' + 1 = s then nn else o (k' + 1 - 1))
        rw [o'3 (k' + 1) z, Nat.add_sub_cancel, kyo _ e2]
        have hu := upp k' (by omega) (by omega)
        rcases Nat.lt_trichotomy i s with y | y | y
        · have e1 := (ho1 i (by omega)).1
          rw [o'1 i y, kyo _ e1]
          have := low i y
          omega
        · subst y
          rw [o'2, kyn]
          exact hu
        · obtain ⟨i', rfl⟩ : ∃ i', i = i' + 1 := ⟨i - 1, by omega⟩
          have e1 := (ho1 i' (by omega)).1
          rw [o'3 (i' + 1) y, Nat.add_sub_cancel, kyo _ e1]
          exact ho2 i' k' (by omega) (by omega)
    · by_cases e : n = nn
      · subst e
        exact ⟨s, by omega, o'2⟩
      · obtain ⟨i, hi, ei⟩ := ho3 n (by omega)
        rcases Nat.lt_or_ge i s with z | z
        · exact ⟨i, by omega, (o'1 i z).trans ei⟩
        · exact ⟨i + 1, by omega, (o'3 (i + 1) (by omega)).trans (by rw [Nat.add_sub_cancel]; exact ei)⟩
  · rw [fr 43 (by decide) (by omega) (by omega), fr 10 (by decide) (by omega) (by omega)]
    obtain ⟨h1, h2⟩ := hD d hd
    refine ⟨h1, h2.elim Or.inl (fun ⟨m, hm, e, hr⟩ => Or.inr ⟨m, by omega, e, by rw [rko m hm]; exact hr⟩)⟩
theorem op_node {I : mm_I} {L : mm_L} (hI : Inv I L) (k a b c : Int32) (Q : Int32 → Int32 → mm_I → mm_L → Prop) (hQ : ∀ r I2 L2, Inv I2 L2 → Q r r I2 L2) : vc_X6_node k a b c I L (fun r I1 L1 => vc_X7_node k a b c I1 L1 (fun r' I2 L2 => Q r r' I2 L2)) := by
  obtain ⟨nn, rr, hN, hO, hD, hT, hP, hR⟩ := id hI
  have hnn := hN.1
  have e27 : I 2 7 = nI nn := hN.2.1
  have e36 : I 36 0 = nI nn := hN.2.2.1
  simp only [vc_X6_node, vc_X6_node_0]
  rcases in_or k (n := 20) (by decide) with ⟨j, hj, rfl⟩ | hk
  · by_cases f : fitA nn j a b c
    · obtain ⟨o, ho1, ho2, ho3⟩ := hO
      obtain ⟨xa, xa0, xa1⟩ : ∃ x, ((tb_no j &&& 1) = 0 → x = -1) ∧ (¬ (tb_no j &&& 1) = 0 → x = a) := by
        by_cases z : (tb_no j &&& 1) = 0
        · exact ⟨-1, fun _ => rfl, fun q => absurd z q⟩
        · exact ⟨a, fun q => absurd q z, fun _ => rfl⟩
      obtain ⟨xb, xb0, xb1⟩ : ∃ x, ((tb_no j &&& 2) = 0 → x = -1) ∧ (¬ (tb_no j &&& 2) = 0 → x = b) := by
        by_cases z : (tb_no j &&& 2) = 0
        · exact ⟨-1, fun _ => rfl, fun q => absurd z q⟩
        · exact ⟨b, fun q => absurd q z, fun _ => rfl⟩
      obtain ⟨xc, xc0, xc1⟩ : ∃ x, ((tb_no j &&& 4) = 0 → x = -1) ∧ (¬ (tb_no j &&& 4) = 0 → x = c) := by
        by_cases z : (tb_no j &&& 4) = 0
        · exact ⟨-1, fun _ => rfl, fun q => absurd z q⟩
        · exact ⟨c, fun q => absurd q z, fun _ => rfl⟩
      obtain ⟨la, ra, oa⟩ : ∃ l r, od I nn xa l r := od_ex hN (by
        by_cases z : (tb_no j &&& 1) = 0
        · exact Or.inl (xa0 z)
        · rw [xa1 z]
          exact (f.1.2.2 z).elim Or.inr (fun y => Or.inl y.2))
      obtain ⟨lb, rb, ob⟩ : ∃ l r, od I nn xb l r := od_ex hN (by
        by_cases z : (tb_no j &&& 2) = 0
        · exact Or.inl (xb0 z)
        · rw [xb1 z]
          exact Or.inr (f.2.1 z))
      obtain ⟨lc, rc, oc⟩ : ∃ l r, od I nn xc l r := od_ex hN (by
        by_cases z : (tb_no j &&& 4) = 0
        · exact Or.inl (xc0 z)
        · rw [xc1 z]
          exact Or.inr (f.2.2 z))
      obtain ⟨own, hown, ow2, own0, ow3⟩ : ∃ own, own ≤ 8 ∧ (j = 2 → a + 1 = nI own) ∧ (¬ j = 2 → own = 0) ∧ (j = 2 → ∃ m, m < 8 ∧ a = nI m ∧ own = m + 1) := by
        by_cases z : j = 2
        · obtain ⟨m, hm, e⟩ := f.1.1 (Or.inr z)
          exact ⟨m + 1, by omega, fun _ => by rw [e, nI_1'], fun q => absurd z q, fun _ => ⟨m, hm, e, rfl⟩⟩
        · exact ⟨0, by omega, fun q => absurd q z, fun _ => rfl, fun q => absurd q z⟩
      have la10 := od_le oa
      have lb10 := od_le ob
      have lc10 := od_le oc
      have bd : la ≤ 10 ∧ ra ≤ 8 ∧ lb ≤ 10 ∧ rb ≤ 8 ∧ lc ≤ 10 ∧ rc ≤ 8 := ⟨la10.1, la10.2, lb10.1, lb10.2, lc10.1, lc10.2⟩
      have in1 : ∀ x, inn nn x → ¬ x = -1 := fun x ⟨m, hm, e⟩ => by rw [e]; exact nI_n1 (by omega)
      have ref : ∀ (J : mm_I) (Q : Int32 → mm_I → mm_L → Prop), J 36 0 = nI nn → (∀ m, m < nn → J 41 m = I 7 m ∧ J 42 m = I 8 m) → (10 ≤ max la (max lb lc) → Q (-1) J L) → (max la (max lb lc) < 10 → nn = 70 → Q (-2) J L) → (max la (max lb lc) < 10 → nn < 70 → ∀ J', mNd J J' nn (nI j) a b c (max la (max lb lc)) (max (max own ra) (max rb rc)) → Q (nI nn) J' L) → vc_X7_node (nI j) a b c J L Q := by
        intro J Q eJ h7 hR hF hM
        refine s_mnode hnn eJ hj f bd (fun z => md_od hnn (fun _ => ?_) (fun q => absurd rfl q) oa h7) (fun z y => md_od hnn (fun q => absurd q (by decide)) (fun _ => ⟨xa1 z, fun q => y (by rw [q]; decide)⟩) oa h7) (fun z => md_od hnn (fun _ => xb0 z) (fun q => absurd rfl q) ob h7) (fun z => md_od hnn (fun q => absurd q (by decide)) (fun _ => ⟨xb1 z, in1 b (f.2.1 z)⟩) ob h7) (fun z => md_od hnn (fun _ => xc0 z) (fun q => absurd rfl q) oc h7) (fun z => md_od hnn (fun q => absurd q (by decide)) (fun _ => ⟨xc1 z, in1 c (f.2.2 z)⟩) oc h7) hown ow2 own0 Q hR hF hM
        by_cases y : (tb_no j &&& 1) = 0
        · exact xa0 y
        · rw [xa1 y]
          rcases f.1.2.2 y with ⟨m, hm, e⟩ | w
          · rcases z with z | z
            · exact absurd z y
            · rw [e] at z
              exact absurd z (nI_pos (by omega))
          · exact w.2
      have h7I : ∀ m, m < nn → I 41 m = I 7 m ∧ I 42 m = I 8 m := fun m hm => by
        obtain ⟨-, -, -, -, -, e5, e6⟩ := hN.2.2.2 m hm
        exact ⟨e5, e6⟩
      refine s_make hN ho1 hj f xa0 xa1 xb0 xb1 xc0 xc1 oa ob oc hown ow2 own0 _ (fun h10 => ?_) (fun h10 h70 => ?_) (fun h10 h70 I' s hc => ?_)
      · exact ref I _ e36 h7I (fun _ => hQ _ _ _ hI) (fun q => absurd q (by omega)) (fun q => absurd q (by omega))
      · exact ref I _ e36 h7I (fun q => absurd q (by omega)) (fun _ _ => hQ _ _ _ hI) (fun _ q => absurd q (by omega))
      · have g0 := hc.1
        refine ref I' _ (by rw [g0 36 (by decide) (by omega)]; exact e36) (fun m hm => by rw [g0 41 (by decide) (by omega), g0 42 (by decide) (by omega)]; exact h7I m hm) (fun q => absurd q (by omega)) (fun _ q => absurd q (by omega)) (fun _ _ J hJ => hQ _ _ _ ?_)
        exact node_inv hN ho1 ho2 ho3 hD hT hP hR h70 hj f xa1 xb1 xc1 oa ob oc hown ow3 h10 hc hJ
    · simp only [vc_X0_make, vc_X0_make_0, s_within, bI_0, w_t (n := 20) (b := 20) hj (by decide) rfl, not_true_eq_false, not_false_eq_true, forall_const, false_implies, true_and, and_true]
      refine s_operandsFit hj hnn e27 L _ (fun q => absurd q f) (fun _ => ⟨fun q => absurd rfl q, fun _ => ?_⟩)
      simp only [vc_X7_node, vc_X7_node_0]
      exact s_mfits hj hnn e36 L _ (fun q => absurd q f) (fun _ => ⟨fun q => absurd rfl q, fun _ => hQ _ _ _ hI⟩)
  · simp only [vc_X0_make, vc_X0_make_0, s_within, bI_0, w_f (n := 20) (b := 20) hk rfl, vc_X7_node, vc_X7_node_0, vc_X7_fits, vc_X7_fits_0, s_out, o_t (n := 19) (b := 19) hk (by decide) rfl, not_true_eq_false, not_false_eq_true, forall_const, false_implies, true_and, and_true]
    exact hQ _ _ _ hI
