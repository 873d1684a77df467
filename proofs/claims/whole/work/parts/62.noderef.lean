/-! PURE: node: the reference makes one -/
theorem hg {fl : Int32} {m v : Nat} (hm : m < 2 ^ 31) (hv : v < 2 ^ 31) (h : fl = 0 → v = 0) : (if ¬ fl = 0 ∧ ¬ nI v ≤ nI m then nI v else nI m) = nI (max m v) := by
  by_cases hf : fl = 0
  · have n : ¬ (¬ fl = 0 ∧ ¬ nI v ≤ nI m) := fun q => q.1 hf
    rw [if_neg n, h hf, Nat.max_eq_left (by omega)]
  · by_cases hle : v ≤ m
    · have n : ¬ (¬ fl = 0 ∧ ¬ nI v ≤ nI m) := fun q => q.2 (nI_le hle hm)
      rw [if_neg n, Nat.max_eq_left hle]
    · have n : ¬ fl = 0 ∧ ¬ nI v ≤ nI m := ⟨hf, fun q => hle ((nI_leI hv hm).mp q)⟩
      rw [if_pos n, Nat.max_eq_right (by omega)]
theorem s_h {fl : Int32} {m v : Nat} (hm : m < 2 ^ 31) (hv : v < 2 ^ 31) (h : fl = 0 → v = 0) (I : mm_I) (L : mm_L) (Q : Int32 → mm_I → mm_L → Prop) (hq : Q (nI (max m v)) I L) : vc_X7_high (nI m) fl (nI v) I L Q := by
  refine (s_high _ _ _ I L _).mpr ?_
  rw [hg hm hv h]
  exact hq
def md (J : mm_I) (nn : Nat) (fl x : Int32) (l r : Nat) : Prop := (fl = 0 ∧ l = 0 ∧ r = 0) ∨ (¬ fl = 0 ∧ ∃ m, m < nn ∧ x = nI m ∧ J 41 m = nI l ∧ J 42 m = nI r)
theorem md_0 {J : mm_I} {nn : Nat} {fl x : Int32} {l r : Nat} (h : md J nn fl x l r) : (fl = 0 → l = 0) ∧ (fl = 0 → r = 0) := by
  rcases h with ⟨-, h1, h2⟩ | ⟨h1, -⟩
  · exact ⟨fun _ => h1, fun _ => h2⟩
  · exact ⟨fun q => absurd q h1, fun q => absurd q h1⟩
theorem md_od {I J : mm_I} {nn : Nat} {fl x x' : Int32} {l r : Nat} (hnn : nn ≤ 70) (h0 : fl = 0 → x' = -1) (h1 : ¬ fl = 0 → x' = x ∧ ¬ x = -1) (h : od I nn x' l r) (h7 : ∀ m, m < nn → J 41 m = I 7 m ∧ J 42 m = I 8 m) : md J nn fl x l r := by
  rcases h with ⟨e, e1, e2⟩ | ⟨m, hm, e, e7, e8, -⟩
  · by_cases hf : fl = 0
    · exact Or.inl ⟨hf, e1, e2⟩
    · exact absurd ((h1 hf).1.symm.trans e) (h1 hf).2
  · by_cases hf : fl = 0
    · exact absurd (e.symm.trans (h0 hf)) (nI_n1 (by omega))
    · exact Or.inr ⟨hf, m, hm, (h1 hf).1.symm.trans e, (h7 m hm).1.trans e7, (h7 m hm).2.trans e8⟩
theorem f_l {J : mm_I} {nn : Nat} {fl x : Int32} {l r : Nat} (hnn : nn ≤ 70) (h : md J nn fl x l r) {P : Int32 → Prop} (hp : P (nI l)) : (fl = 0 → P 0) ∧ (¬ fl = 0 → vp_in x 70 ∧ P (J 41 x.toNatClampNeg)) := by
  rcases h with ⟨h1, rfl, -⟩ | ⟨h1, m, hm, rfl, e, -⟩
  · exact ⟨fun _ => hp, fun q => absurd h1 q⟩
  · refine ⟨fun q => absurd q h1, fun _ => ⟨in_nI (by omega) (by decide), ?_⟩⟩
    rw [cl_nI (show m < 2 ^ 31 by omega), e]
    exact hp
theorem f_r {J : mm_I} {nn : Nat} {fl x : Int32} {l r : Nat} (hnn : nn ≤ 70) (h : md J nn fl x l r) {P : Int32 → Prop} (hp : P (nI r)) : (fl = 0 → P 0) ∧ (¬ fl = 0 → vp_in x 70 ∧ P (J 42 x.toNatClampNeg)) := by
  rcases h with ⟨h1, -, rfl⟩ | ⟨h1, m, hm, rfl, -, e⟩
  · exact ⟨fun _ => hp, fun q => absurd h1 q⟩
  · refine ⟨fun q => absurd q h1, fun _ => ⟨in_nI (by omega) (by decide), ?_⟩⟩
    rw [cl_nI (show m < 2 ^ 31 by omega), e]
    exact hp
def mNd (J J' : mm_I) (nn : Nat) (k a b c : Int32) (lv rn : Nat) : Prop := (∀ t, (t < 36 ∨ 42 < t) → J' t = J t) ∧ J' 36 0 = nI (nn + 1) ∧ J' 36 1 = J 36 1 ∧ (∀ m, J' 37 m = if m = nn then k else J 37 m) ∧ (∀ m, J' 38 m = if m = nn then a else J 38 m) ∧ (∀ m, J' 39 m = if m = nn then b else J 39 m) ∧ (∀ m, J' 40 m = if m = nn then c else J 40 m) ∧ (∀ m, J' 41 m = if m = nn then nI (lv + 1) else J 41 m) ∧ (∀ m, J' 42 m = if m = nn then nI rn else J 42 m)
theorem s_m231 {J : mm_I} {L : mm_L} {nn l r2 rc : Nat} {fl k a b c : Int32} (hnn : nn ≤ 70) (e36 : J 36 0 = nI nn) (hl : l ≤ 10) (hr2 : r2 ≤ 8) (hrc : rc ≤ 8) (hf : fl = 0 → rc = 0) (Q : Int32 → mm_I → mm_L → Prop) (hR : l = 10 → Q (-1) J L) (hF : l < 10 → nn = 70 → Q (-2) J L) (hM : l < 10 → nn < 70 → ∀ J', mNd J J' nn k a b c l (max r2 rc) → Q (nI nn) J' L) : vc_X7_node_231 k a b c (nI l) (nI rc) fl (nI r2) J L Q := by
  have u37 : ∀ (J : mm_I) (k : Nat) (v : Int32), (mm_uI J 37 k v) 36 = J 36 := fun J k v => uI_ne _ _ _ (by decide)
  have u38 : ∀ (J : mm_I) (k : Nat) (v : Int32), (mm_uI J 38 k v) 36 = J 36 := fun J k v => uI_ne _ _ _ (by decide)
  have u39 : ∀ (J : mm_I) (k : Nat) (v : Int32), (mm_uI J 39 k v) 36 = J 36 := fun J k v => uI_ne _ _ _ (by decide)
  have u40 : ∀ (J : mm_I) (k : Nat) (v : Int32), (mm_uI J 40 k v) 36 = J 36 := fun J k v => uI_ne _ _ _ (by decide)
  have u41 : ∀ (J : mm_I) (k : Nat) (v : Int32), (mm_uI J 41 k v) 36 = J 36 := fun J k v => uI_ne _ _ _ (by decide)
  have u42 : ∀ (J : mm_I) (k : Nat) (v : Int32), (mm_uI J 42 k v) 36 = J 36 := fun J k v => uI_ne _ _ _ (by decide)
  have u36 : ∀ (J : mm_I) (v : Int32), (mm_uI J 36 0 v) 36 0 = v := fun J v => by rw [uI_at, if_pos rfl]
  simp only [vc_X7_node_231]
  refine s_h (by omega) (by omega) hf J L _ ?_
  simp only [u37, u38, u39, u40, u41, u42, u36, e36, cl_nI (show nn < 2 ^ 31 by omega), nI_1', nI_s1]
  refine ⟨fun n10 => ⟨fun n70 => ?_, fun e70 => ?_⟩, fun e10 => hR ((nI_eq (a := l) (b := 10) (by omega) (by decide)).mp e10)⟩
  · have hl' : l < 10 := by
      rcases Nat.lt_or_ge l 10 with z | z
      · exact z
      · exact absurd (by rw [show l = 10 by omega]; rfl) n10
    have hn : nn < 70 := by
      rcases Nat.lt_or_ge nn 70 with z | z
      · exact z
      · exact absurd (by rw [show nn = 70 by omega]; rfl) n70
    have hin : vp_in (nI nn) 70 := in_nI hn (by decide)
    refine ⟨hin, hin, hin, hin, hin, hin, hM hl' hn _ ⟨fun t ht => ?_, ?_, ?_, fun m => ?_, fun m => ?_, fun m => ?_, fun m => ?_, fun m => ?_, fun m => ?_⟩⟩
    · rw [uI_ne _ _ _ (by omega), uI_ne _ _ _ (by omega), uI_ne _ _ _ (by omega), uI_ne _ _ _ (by omega), uI_ne _ _ _ (by omega), uI_ne _ _ _ (by omega), uI_ne _ _ _ (by omega)]
    · rw [u36]
    · rw [uI_at, if_neg (by decide), u42, u41, u40, u39, u38, u37]
    · rw [uI_ne _ _ _ (by decide), uI_ne _ _ _ (by decide), uI_ne _ _ _ (by decide), uI_ne _ _ _ (by decide), uI_ne _ _ _ (by decide), uI_ne _ _ _ (by decide), uI_at]
    · rw [uI_ne _ _ _ (by decide), uI_ne _ _ _ (by decide), uI_ne _ _ _ (by decide), uI_ne _ _ _ (by decide), uI_ne _ _ _ (by decide), uI_at, uI_ne _ _ _ (by decide)]
    · rw [uI_ne _ _ _ (by decide), uI_ne _ _ _ (by decide), uI_ne _ _ _ (by decide), uI_ne _ _ _ (by decide), uI_at, uI_ne _ _ _ (by decide), uI_ne _ _ _ (by decide)]
    · rw [uI_ne _ _ _ (by decide), uI_ne _ _ _ (by decide), uI_ne _ _ _ (by decide), uI_at, uI_ne _ _ _ (by decide), uI_ne _ _ _ (by decide), uI_ne _ _ _ (by decide)]
    · rw [uI_ne _ _ _ (by decide), uI_ne _ _ _ (by decide), uI_at, uI_ne _ _ _ (by decide), uI_ne _ _ _ (by decide), uI_ne _ _ _ (by decide), uI_ne _ _ _ (by decide)]
    · rw [uI_ne _ _ _ (by decide), uI_at, uI_ne _ _ _ (by decide), uI_ne _ _ _ (by decide), uI_ne _ _ _ (by decide), uI_ne _ _ _ (by decide), uI_ne _ _ _ (by decide)]
  · have hl' : l < 10 := by
      rcases Nat.lt_or_ge l 10 with z | z
      · exact z
      · exact absurd (by rw [show l = 10 by omega]; rfl) n10
    exact hF hl' ((nI_eq (a := nn) (b := 70) (by omega) (by decide)).mp e70)
theorem s_mnode {J : mm_I} {L : mm_L} {nn j : Nat} {a b c : Int32} {la ra lb rb lc rc own : Nat} (hnn : nn ≤ 70) (e36 : J 36 0 = nI nn) (hj : j < 20) (f : fitA nn j a b c) (bd : la ≤ 10 ∧ ra ≤ 8 ∧ lb ≤ 10 ∧ rb ≤ 8 ∧ lc ≤ 10 ∧ rc ≤ 8) (m10 : ((tb_no j &&& 1) = 0 ∨ a < 0) → md J nn 0 a la ra) (m11 : ¬ (tb_no j &&& 1) = 0 → ¬ a < 0 → md J nn 1 a la ra) (m20 : (tb_no j &&& 2) = 0 → md J nn 0 b lb rb) (m21 : ¬ (tb_no j &&& 2) = 0 → md J nn 1 b lb rb) (m40 : (tb_no j &&& 4) = 0 → md J nn 0 c lc rc) (m41 : ¬ (tb_no j &&& 4) = 0 → md J nn 1 c lc rc) (hown : own ≤ 8) (ow2 : j = 2 → a + 1 = nI own) (own0 : ¬ j = 2 → own = 0) (Q : Int32 → mm_I → mm_L → Prop) (hR : 10 ≤ max la (max lb lc) → Q (-1) J L) (hF : max la (max lb lc) < 10 → nn = 70 → Q (-2) J L) (hM : max la (max lb lc) < 10 → nn < 70 → ∀ J', mNd J J' nn (nI j) a b c (max la (max lb lc)) (max (max own ra) (max rb rc)) → Q (nI nn) J' L) : vc_X7_node (nI j) a b c J L Q := by
  obtain ⟨b1, b2, b3, b4, b5, b6⟩ := bd
  have el : max (max (max 0 la) lb) lc = max la (max lb lc) := by omega
  have er : max (max (max own ra) rb) rc = max (max own ra) (max rb rc) := by omega
  have g82 : ∀ f1 f2 f3, md J nn f1 a la ra → md J nn f2 b lb rb → md J nn f3 c lc rc → vc_X7_node_82 (nI j) a b c 0 (nI own) f1 f2 f3 J L Q := by
    intro f1 f2 f3 m1 m2 m3
    simp only [vc_X7_node_82]
    refine f_l hnn m1 (P := fun v => vc_X7_node_104 (nI j) a b c (nI own) f1 f2 f3 v f1 0 J L Q) ?_
    simp only [vc_X7_node_104]
    refine s_h (m := 0) (by omega) (by omega) (md_0 m1).1 J L _ ?_
    refine f_l hnn m2 (P := fun v => vc_X7_node_129 (nI j) a b c (nI own) f1 f2 f3 v f2 (nI (max 0 la)) J L Q) ?_
    simp only [vc_X7_node_129]
    refine s_h (by omega) (by omega) (md_0 m2).1 J L _ ?_
    refine f_l hnn m3 (P := fun v => vc_X7_node_155 (nI j) a b c (nI own) f1 f2 f3 v f3 (nI (max (max 0 la) lb)) J L Q) ?_
    simp only [vc_X7_node_155]
    refine s_h (by omega) (by omega) (md_0 m3).1 J L _ ?_
    refine f_r hnn m1 (P := fun v => vc_X7_node_180 (nI j) a b c (nI (max (max (max 0 la) lb) lc)) f2 f3 v f1 (nI own) J L Q) ?_
    simp only [vc_X7_node_180]
    refine s_h (by omega) (by omega) (md_0 m1).2 J L _ ?_
    refine f_r hnn m2 (P := fun v => vc_X7_node_205 (nI j) a b c (nI (max (max (max 0 la) lb) lc)) f3 v f2 (nI (max own ra)) J L Q) ?_
    simp only [vc_X7_node_205]
    refine s_h (by omega) (by omega) (md_0 m2).2 J L _ ?_
    refine f_r hnn m3 (P := fun v => vc_X7_node_231 (nI j) a b c (nI (max (max (max 0 la) lb) lc)) v f3 (nI (max (max own ra) rb)) J L Q) ?_
    refine s_m231 hnn e36 (by omega) (by omega) (by omega) (md_0 m3).2 Q (fun q => hR (by omega)) (fun q => hF (by omega)) (fun q hn J' hJ' => hM (by omega) hn J' ?_)
    rw [el, er] at hJ'
    exact hJ'
  have g68 : ∀ f1 f2, md J nn f1 a la ra → md J nn f2 b lb rb → vc_X7_node_68 (nI j) a b c (tb_no j) 0 (nI own) f1 f2 J L Q := by
    intro f1 f2 m1 m2
    simp only [vc_X7_node_68]
    exact ⟨fun z => g82 f1 f2 0 m1 m2 (m40 z), fun z => g82 f1 f2 1 m1 m2 (m41 z)⟩
  have g54 : ∀ f1, md J nn f1 a la ra → vc_X7_node_54 (nI j) a b c (tb_no j) 0 (nI own) f1 J L Q := by
    intro f1 m1
    simp only [vc_X7_node_54]
    exact ⟨fun z => g68 f1 0 m1 (m20 z), fun z => g68 f1 1 m1 (m21 z)⟩
  have g36 : vc_X7_node_36 (nI j) a b c (tb_no j) 0 (nI own) J L Q := by
    simp only [vc_X7_node_36, vc_X7_node_53]
    exact ⟨fun z => g54 0 (m10 (Or.inl z)), fun z => ⟨fun y => g54 0 (m10 (Or.inr y)), fun y => g54 1 (m11 z y)⟩⟩
  simp only [vc_X7_node, vc_X7_node_0]
  refine s_mfits hj hnn e36 L _ (fun _ => ⟨fun _ => ?_, fun q => absurd q (by decide)⟩) (fun q => absurd f q)
  refine (s_named _ J L _).mpr ?_
  rw [mN_tb j hj]
  refine ⟨fun n2 => ?_, fun e2 => ?_⟩
  · have z := own0 (fun q => n2 (by rw [q]; rfl))
    rw [z] at g36
    exact g36
  · have j2 : j = 2 := (nI_eq (a := j) (b := 2) (by omega) (by decide)).mp e2
    rw [ow2 j2]
    exact g36
