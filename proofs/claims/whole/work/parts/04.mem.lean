/-! MEMORY of a fixed layout: cells by tags; what they hold is two functions: ints I tag place, longs L tag place; references stay as they are -/
abbrev mm_Kd : Type := Unit ⊕ Unit ⊕ Option Nat
abbrev mm_Sh : Type := (Nat × Nat × (Unit ⊕ Unit ⊕ (Nat → Option Nat))) ⊕ (Nat × List mm_Kd)
abbrev mm_I : Type := Nat → Nat → Int32
abbrev mm_L : Type := Nat → Nat → Int64
def mm_val (ad : Nat → Nat) (f : Nat → Int32) (g : Nat → Int64) (k : Nat) (d : mm_Kd) : Value := match d with
  | .inl _ => .int (f k)
  | .inr (.inl _) => .long (g k)
  | .inr (.inr r) => va_rf (r.map ad)
def mm_fl (ad : Nat → Nat) (f : Nat → Int32) (g : Nat → Int64) : Nat → List mm_Kd → List Value
  | _, [] => []
  | n, d :: ds => mm_val ad f g n d :: mm_fl ad f g (n + 1) ds
def mm_cell (tc : Nat → ClassId) (ad : Nat → Nat) (f : Nat → Int32) (g : Nat → Int64) (sh : mm_Sh) : va_E := match sh with
  | .inl (ti, n, .inl _) => .inl (tc ti, n, .inl f)
  | .inl (ti, n, .inr (.inl _)) => .inl (tc ti, n, .inr (.inl g))
  | .inl (ti, n, .inr (.inr r)) => .inl (tc ti, n, .inr (.inr (.inr (.inr (fun j => (r j).map ad)))))
  | .inr (ci, ds) => .inr (ci, mm_fl ad f g 0 ds)
def mm_wl (N : Nat) (tc : Nat → ClassId) (ad : Nat → Nat) (lay : Nat → mm_Sh) (I : mm_I) (L : mm_L) : va_W := (List.range N).map fun t => (ad t, mm_cell tc ad (I t) (L t) (lay t))
def mm_uI (I : mm_I) (t k : Nat) (v : Int32) : mm_I := va_up I t (upd (I t) k v)
def mm_uL (L : mm_L) (t k : Nat) (v : Int64) : mm_L := va_up L t (vp_updL (L t) k v)
theorem mm_uI_at (I : mm_I) (t k : Nat) (v : Int32) : mm_uI I t k v t = upd (I t) k v := if_pos rfl
theorem mm_uL_at (L : mm_L) (t k : Nat) (v : Int64) : mm_uL L t k v t = vp_updL (L t) k v := if_pos rfl
theorem mm_uI_ne (I : mm_I) {t t' : Nat} (k : Nat) (v : Int32) (h : t' ≠ t) : mm_uI I t k v t' = I t' := if_neg h
theorem mm_uL_ne (L : mm_L) {t t' : Nat} (k : Nat) (v : Int64) (h : t' ≠ t) : mm_uL L t k v t' = L t' := if_neg h
theorem mm_fl_get (ad : Nat → Nat) (f : Nat → Int32) (g : Nat → Int64) : ∀ (ds : List mm_Kd) (n k : Nat), (mm_fl ad f g n ds)[k]? = (ds[k]?).map (mm_val ad f g (n + k))
  | [], _, _ => rfl
  | _ :: _, _, 0 => rfl
  | _ :: ds, n, k + 1 => by
    have h := mm_fl_get ad f g ds (n + 1) k
    rw [show n + (k + 1) = n + 1 + k by omega]
    exact h
theorem mm_fl_len (ad : Nat → Nat) (f : Nat → Int32) (g : Nat → Int64) : ∀ (ds : List mm_Kd) (n : Nat), (mm_fl ad f g n ds).length = ds.length
  | [], _ => rfl
  | _ :: ds, n => by
    show (mm_fl ad f g (n + 1) ds).length + 1 = ds.length + 1
    rw [mm_fl_len ad f g ds (n + 1)]
theorem mm_fl_eq {ad : Nat → Nat} {f f' : Nat → Int32} {g g' : Nat → Int64} : ∀ (ds : List mm_Kd) (n : Nat), (∀ k, n ≤ k → f k = f' k) → (∀ k, n ≤ k → g k = g' k) → mm_fl ad f g n ds = mm_fl ad f' g' n ds
  | [], _, _, _ => rfl
  | d :: ds, n, h, h2 => by
    show mm_val ad f g n d :: mm_fl ad f g (n + 1) ds = mm_val ad f' g' n d :: mm_fl ad f' g' (n + 1) ds
    rw [mm_fl_eq ds (n + 1) (fun k hk => h k (by omega)) (fun k hk => h2 k (by omega))]
    congr 1
    rcases d with d | d | d
    · show Value.int (f n) = Value.int (f' n)
      rw [h n (Nat.le_refl n)]
    · show Value.long (g n) = Value.long (g' n)
      rw [h2 n (Nat.le_refl n)]
    · rfl
theorem mm_fl_setI (ad : Nat → Nat) (f : Nat → Int32) (g : Nat → Int64) (v : Int32) : ∀ (ds : List mm_Kd) (n k : Nat), ds[k]? = some (.inl ()) → (mm_fl ad f g n ds).set k (.int v) = mm_fl ad (upd f (n + k) v) g n ds
  | [], _, _, h => by simp at h
  | d :: ds, n, 0, h => by
    have hd : d = .inl () := by simpa using h
    subst hd
    show Value.int v :: mm_fl ad f g (n + 1) ds = Value.int (upd f (n + 0) v n) :: mm_fl ad (upd f (n + 0) v) g (n + 1) ds
    rw [mm_fl_eq (f := f) (f' := upd f (n + 0) v) (g := g) (g' := g) ds (n + 1) (fun k hk => by simp [upd, show k ≠ n by omega]) (fun _ _ => rfl)]
    simp [upd]
  | d :: ds, n, k + 1, h => by
    have h' : ds[k]? = some (.inl ()) := by simpa using h
    show mm_val ad f g n d :: (mm_fl ad f g (n + 1) ds).set k (.int v) = mm_val ad (upd f (n + (k + 1)) v) g n d :: mm_fl ad (upd f (n + (k + 1)) v) g (n + 1) ds
    rw [mm_fl_setI ad f g v ds (n + 1) k h', show n + 1 + k = n + (k + 1) by omega]
    congr 1
    rcases d with d | d | d
    · show Value.int (f n) = Value.int (upd f (n + (k + 1)) v n)
      simp [upd]
    · rfl
    · rfl
theorem mm_fl_setL (ad : Nat → Nat) (f : Nat → Int32) (g : Nat → Int64) (v : Int64) : ∀ (ds : List mm_Kd) (n k : Nat), ds[k]? = some (.inr (.inl ())) → (mm_fl ad f g n ds).set k (.long v) = mm_fl ad f (vp_updL g (n + k) v) n ds
  | [], _, _, h => by simp at h
  | d :: ds, n, 0, h => by
    have hd : d = .inr (.inl ()) := by simpa using h
    subst hd
    show Value.long v :: mm_fl ad f g (n + 1) ds = Value.long (vp_updL g (n + 0) v n) :: mm_fl ad f (vp_updL g (n + 0) v) (n + 1) ds
    rw [mm_fl_eq (f := f) (f' := f) (g := g) (g' := vp_updL g (n + 0) v) ds (n + 1) (fun _ _ => rfl) (fun k hk => by simp [vp_updL, show k ≠ n by omega])]
    simp [vp_updL]
  | d :: ds, n, k + 1, h => by
    have h' : ds[k]? = some (.inr (.inl ())) := by simpa using h
    show mm_val ad f g n d :: (mm_fl ad f g (n + 1) ds).set k (.long v) = mm_val ad f (vp_updL g (n + (k + 1)) v) n d :: mm_fl ad f (vp_updL g (n + (k + 1)) v) (n + 1) ds
    rw [mm_fl_setL ad f g v ds (n + 1) k h', show n + 1 + k = n + (k + 1) by omega]
    congr 1
    rcases d with d | d | d
    · rfl
    · show Value.long (g n) = Value.long (vp_updL g (n + (k + 1)) v n)
      simp [vp_updL]
    · rfl
theorem mm_wl_at {N : Nat} {tc : Nat → ClassId} {ad : Nat → Nat} {lay : Nat → mm_Sh} {I : mm_I} {L : mm_L} {t : Nat} (ht : t < N) : (mm_wl N tc ad lay I L)[t]? = some (ad t, mm_cell tc ad (I t) (L t) (lay t)) := by
  simp [mm_wl, ht]
theorem mm_wl_set {N : Nat} {tc : Nat → ClassId} {ad : Nat → Nat} {lay : Nat → mm_Sh} {I I' : mm_I} {L L' : mm_L} {t : Nat} (ht : t < N) {x : va_E} (h1 : mm_cell tc ad (I' t) (L' t) (lay t) = x) (h2 : ∀ t', t' ≠ t → I' t' = I t') (h3 : ∀ t', t' ≠ t → L' t' = L t') : (mm_wl N tc ad lay I L).set t (ad t, x) = mm_wl N tc ad lay I' L' := by
  apply List.ext_getElem?
  intro i
  by_cases hi : i = t
  · subst hi
    rw [List.getElem?_set_self (by simp [mm_wl, ht]), mm_wl_at ht, h1]
  · rw [List.getElem?_set_ne (Ne.symm hi)]
    by_cases hN : i < N
    · rw [mm_wl_at hN, mm_wl_at hN, h2 i hi, h3 i hi]
    · rw [List.getElem?_eq_none (by simp [mm_wl]; omega), List.getElem?_eq_none (by simp [mm_wl]; omega)]
theorem mm_D_any {N : Nat} {tc : Nat → ClassId} {ad : Nat → Nat} {lay : Nat → mm_Sh} {I I' : mm_I} {L L' : mm_L} {A : Nat → Prop} (h : va_D A (mm_wl N tc ad lay I L)) : va_D A (mm_wl N tc ad lay I' L') := by
  have len : ∀ (J : mm_I) (M : mm_L) (i : Nat) (q : Nat × va_E), (mm_wl N tc ad lay J M)[i]? = some q → i < N ∧ q.1 = ad i := by
    intro J M i q hq
    have hi : i < N := by
      have := (List.getElem?_eq_some_iff.mp hq).1
      simpa [mm_wl] using this
    rw [mm_wl_at hi] at hq
    cases hq
    exact ⟨hi, rfl⟩
  refine ⟨fun i j p q hp hq e => ?_, fun k q hq => ?_⟩
  · obtain ⟨hi, e1⟩ := len _ _ _ _ hp
    obtain ⟨hj, e2⟩ := len _ _ _ _ hq
    exact h.1 i j _ _ (mm_wl_at hi) (mm_wl_at hj) (by show ad i = ad j; rw [← e1, ← e2, e])
  · obtain ⟨hi, e1⟩ := len _ _ _ _ hq
    rw [e1]
    exact h.2 k _ (mm_wl_at hi)
section MMW
variable {p : Program} {l : Launch} {e : Env} {R : Room} {s : State} {m : MethodId} {args : Array Value} {below : List Frame} {meth : Method} {c : Code} {H H0 : Heap} {locs : List Loc} {cells slots : Nat} {Q : State → Prop}
variable {cc : ByteArray} {pc : Nat} {ls : Array Slot} {rest : List Value} {D : va_G} {cl : List vw_C} {tys : List (ClassId × FieldType)} {A : Nat → Prop}
variable {N : Nat} {tc : Nat → ClassId} {ad : Nat → Nat} {lay : Nat → mm_Sh} {I : mm_I} {L : mm_L}
theorem mm_gi (hexec : p.tables.exec = Jvm.exec) (hb : c.code = cc) {own ref C : String} {T : u_T} {N0 ci index : Nat} {Ts : List Cond} (hts : ∀ w ∈ Ts, w.before args s = true) (hin : ∀ w ∈ u_ws C T N0, w ∈ Ts) (hown : s.vm.findClass own = some m.cls) (hK : va_K D cl tys s) (hP : va_P D cl (mm_wl N tc ad lay I L) H) {t : Nat} (ht : t < N) {ds : List mm_Kd} (hl : lay t = .inr (ci, ds)) (hc : cl[ci]? = some (C, T, N0)) (k : Nat) (hk : k < N0) (hlink : (Cond.fieldLink own index ref (T k).2.1 (T k).2.2.1).before args s = true) (hsame : ∀ x, s.fieldFound? (T k).1 (T k).2.1 (T k).2.2.1 = some x → s.fieldFound? ref (T k).2.1 (T k).2.2.1 = some x) (hd : ds[k]? = some (.inl ())) (hdg : decode cc pc = .ok (.getfield index, 3))
    (kk : W p l e R s m args below meth c H locs cells slots Q (F0 m (pc + 3) ls (.int (I t k) :: rest))) : W p l e R s m args below meth c H locs cells slots Q (F0 m pc ls (.ref (ad t) :: rest)) :=
  va_get hexec hb hts hin hown hK hP t (fs := mm_fl ad (I t) (L t) 0 ds) (by rw [mm_wl_at ht, hl]; rfl) hc k hk hlink hsame (v := .int (I t k)) (by rw [mm_fl_get, hd]; simp [mm_val]) hdg kk
theorem mm_gl (hexec : p.tables.exec = Jvm.exec) (hb : c.code = cc) {own ref C : String} {T : u_T} {N0 ci index : Nat} {Ts : List Cond} (hts : ∀ w ∈ Ts, w.before args s = true) (hin : ∀ w ∈ u_ws C T N0, w ∈ Ts) (hown : s.vm.findClass own = some m.cls) (hK : va_K D cl tys s) (hP : va_P D cl (mm_wl N tc ad lay I L) H) {t : Nat} (ht : t < N) {ds : List mm_Kd} (hl : lay t = .inr (ci, ds)) (hc : cl[ci]? = some (C, T, N0)) (k : Nat) (hk : k < N0) (hlink : (Cond.fieldLink own index ref (T k).2.1 (T k).2.2.1).before args s = true) (hsame : ∀ x, s.fieldFound? (T k).1 (T k).2.1 (T k).2.2.1 = some x → s.fieldFound? ref (T k).2.1 (T k).2.2.1 = some x) (hd : ds[k]? = some (.inr (.inl ()))) (hdg : decode cc pc = .ok (.getfield index, 3))
    (kk : W p l e R s m args below meth c H locs cells slots Q (F0 m (pc + 3) ls (.long (L t k) :: rest))) : W p l e R s m args below meth c H locs cells slots Q (F0 m pc ls (.ref (ad t) :: rest)) :=
  va_get hexec hb hts hin hown hK hP t (fs := mm_fl ad (I t) (L t) 0 ds) (by rw [mm_wl_at ht, hl]; rfl) hc k hk hlink hsame (v := .long (L t k)) (by rw [mm_fl_get, hd]; simp [mm_val]) hdg kk
theorem mm_gr (hexec : p.tables.exec = Jvm.exec) (hb : c.code = cc) {own ref C : String} {T : u_T} {N0 ci index : Nat} {Ts : List Cond} (hts : ∀ w ∈ Ts, w.before args s = true) (hin : ∀ w ∈ u_ws C T N0, w ∈ Ts) (hown : s.vm.findClass own = some m.cls) (hK : va_K D cl tys s) (hP : va_P D cl (mm_wl N tc ad lay I L) H) {t : Nat} (ht : t < N) {ds : List mm_Kd} (hl : lay t = .inr (ci, ds)) (hc : cl[ci]? = some (C, T, N0)) (k : Nat) (hk : k < N0) (hlink : (Cond.fieldLink own index ref (T k).2.1 (T k).2.2.1).before args s = true) (hsame : ∀ x, s.fieldFound? (T k).1 (T k).2.1 (T k).2.2.1 = some x → s.fieldFound? ref (T k).2.1 (T k).2.2.1 = some x) {r : Nat} (hd : ds[k]? = some (.inr (.inr (some r)))) (hdg : decode cc pc = .ok (.getfield index, 3))
    (kk : W p l e R s m args below meth c H locs cells slots Q (F0 m (pc + 3) ls (.ref (ad r) :: rest))) : W p l e R s m args below meth c H locs cells slots Q (F0 m pc ls (.ref (ad t) :: rest)) :=
  va_get hexec hb hts hin hown hK hP t (fs := mm_fl ad (I t) (L t) 0 ds) (by rw [mm_wl_at ht, hl]; rfl) hc k hk hlink hsame (v := .ref (ad r)) (by rw [mm_fl_get, hd]; simp [mm_val, va_rf]) hdg kk
theorem mm_pi (hexec : p.tables.exec = Jvm.exec) (hb : c.code = cc) {own ref C : String} {T : u_T} {N0 ci index : Nat} {Ts : List Cond} (hts : ∀ w ∈ Ts, w.before args s = true) (hin : ∀ w ∈ u_ws C T N0, w ∈ Ts) (ty0 : Nat → FieldType) (hty : ∀ k, k < N0 → parseFieldDescriptor (T k).2.2.1 = some (ty0 k)) (hnm : ∀ a, a < N0 → ∀ b, b < N0 → a ≠ b → (T a).2.1 ≠ (T b).2.1) (hown : s.vm.findClass own = some m.cls) (hK : va_K D cl tys s) (hP : va_P D cl (mm_wl N tc ad lay I L) H) (hD : va_D A (mm_wl N tc ad lay I L)) (hS0 : va_S A H0 H locs) {t : Nat} (ht : t < N) {ds : List mm_Kd} (hl : lay t = .inr (ci, ds)) (hc : cl[ci]? = some (C, T, N0)) (k : Nat) (hk : k < N0) (hlink : (Cond.fieldLink own index ref (T k).2.1 (T k).2.2.1).before args s = true) (hsame : ∀ x, s.fieldFound? (T k).1 (T k).2.1 (T k).2.2.1 = some x → s.fieldFound? ref (T k).2.1 (T k).2.2.1 = some x) (hfin : (T k).2.2.2 = false) {ty : FieldType} {v : Int32} (hdy : parseFieldDescriptor (T k).2.2.1 = some ty) (hn : narrow ty (.int v) = .int v) (hfit : fits ty (.int v) = true) (hd : ds[k]? = some (.inl ())) (hdg : decode cc pc = .ok (.putfield index, 3))
    (kk : ∀ (H1 : Heap) (locs1 : List Loc), va_P D cl (mm_wl N tc ad lay (mm_uI I t k v) L) H1 → va_D A (mm_wl N tc ad lay (mm_uI I t k v) L) → va_S A H0 H1 locs1 → W p l e R s m args below meth c H1 locs1 cells slots Q (F0 m (pc + 3) ls rest)) : W p l e R s m args below meth c H locs cells slots Q (F0 m pc ls (.int v :: .ref (ad t) :: rest)) := by
  have hset : (mm_wl N tc ad lay I L).set t (ad t, .inr (ci, (mm_fl ad (I t) (L t) 0 ds).set k (.int v))) = mm_wl N tc ad lay (mm_uI I t k v) L := by
    refine mm_wl_set ht ?_ (fun t' h => mm_uI_ne I k v h) (fun _ _ => rfl)
    rw [hl, mm_uI_at, mm_fl_setI ad (I t) (L t) v ds 0 k hd, Nat.zero_add]
    rfl
  have hlen : k < (mm_fl ad (I t) (L t) 0 ds).length := by
    rw [mm_fl_len]
    exact (List.getElem?_eq_some_iff.mp hd).1
  refine va_put hexec hb hts hin ty0 hty hnm hown hK hP hD hS0 t (fs := mm_fl ad (I t) (L t) 0 ds) (by rw [mm_wl_at ht, hl]; rfl) hc k hk hlink hsame hfin hdy hn hfit hlen hdg (fun H1 locs1 h1 h2 h3 => kk H1 locs1 (by rw [← hset]; exact h1) (by rw [← hset]; exact h2) h3)
theorem mm_pl (hexec : p.tables.exec = Jvm.exec) (hb : c.code = cc) {own ref C : String} {T : u_T} {N0 ci index : Nat} {Ts : List Cond} (hts : ∀ w ∈ Ts, w.before args s = true) (hin : ∀ w ∈ u_ws C T N0, w ∈ Ts) (ty0 : Nat → FieldType) (hty : ∀ k, k < N0 → parseFieldDescriptor (T k).2.2.1 = some (ty0 k)) (hnm : ∀ a, a < N0 → ∀ b, b < N0 → a ≠ b → (T a).2.1 ≠ (T b).2.1) (hown : s.vm.findClass own = some m.cls) (hK : va_K D cl tys s) (hP : va_P D cl (mm_wl N tc ad lay I L) H) (hD : va_D A (mm_wl N tc ad lay I L)) (hS0 : va_S A H0 H locs) {t : Nat} (ht : t < N) {ds : List mm_Kd} (hl : lay t = .inr (ci, ds)) (hc : cl[ci]? = some (C, T, N0)) (k : Nat) (hk : k < N0) (hlink : (Cond.fieldLink own index ref (T k).2.1 (T k).2.2.1).before args s = true) (hsame : ∀ x, s.fieldFound? (T k).1 (T k).2.1 (T k).2.2.1 = some x → s.fieldFound? ref (T k).2.1 (T k).2.2.1 = some x) (hfin : (T k).2.2.2 = false) {v : Int64} (hdy : parseFieldDescriptor (T k).2.2.1 = some .long) (hd : ds[k]? = some (.inr (.inl ()))) (hdg : decode cc pc = .ok (.putfield index, 3))
    (kk : ∀ (H1 : Heap) (locs1 : List Loc), va_P D cl (mm_wl N tc ad lay I (mm_uL L t k v)) H1 → va_D A (mm_wl N tc ad lay I (mm_uL L t k v)) → va_S A H0 H1 locs1 → W p l e R s m args below meth c H1 locs1 cells slots Q (F0 m (pc + 3) ls rest)) : W p l e R s m args below meth c H locs cells slots Q (F0 m pc ls (.long v :: .ref (ad t) :: rest)) := by
  have hset : (mm_wl N tc ad lay I L).set t (ad t, .inr (ci, (mm_fl ad (I t) (L t) 0 ds).set k (.long v))) = mm_wl N tc ad lay I (mm_uL L t k v) := by
    refine mm_wl_set ht ?_ (fun _ _ => rfl) (fun t' h => mm_uL_ne L k v h)
    rw [hl, mm_uL_at, mm_fl_setL ad (I t) (L t) v ds 0 k hd, Nat.zero_add]
    rfl
  have hlen : k < (mm_fl ad (I t) (L t) 0 ds).length := by
    rw [mm_fl_len]
    exact (List.getElem?_eq_some_iff.mp hd).1
  refine va_put hexec hb hts hin ty0 hty hnm hown hK hP hD hS0 t (fs := mm_fl ad (I t) (L t) 0 ds) (by rw [mm_wl_at ht, hl]; rfl) hc k hk hlink hsame hfin hdy rfl rfl hlen hdg (fun H1 locs1 h1 h2 h3 => kk H1 locs1 (by rw [← hset]; exact h1) (by rw [← hset]; exact h2) h3)
theorem mm_iald (hexec : p.tables.exec = Jvm.exec) (hb : c.code = cc) (hK : va_K D cl tys s) (hP : va_P D cl (mm_wl N tc ad lay I L) H) {t ti n : Nat} {u : Unit} (ht : t < N) (hl : lay t = .inl (ti, n, .inl u)) (hty : tys[ti]? = some (tc ti, .int)) {i : Int32} (hin : vp_in i n) (hdg : decode cc pc = .ok (.iaload, 1))
    (kk : W p l e R s m args below meth c H locs cells slots Q (F0 m (pc + 1) ls (.int (I t i.toNatClampNeg) :: rest))) : W p l e R s m args below meth c H locs cells slots Q (F0 m pc ls (.int i :: .ref (ad t) :: rest)) :=
  va_iald hexec hb hK hP t ti (by rw [mm_wl_at ht, hl]; rfl) hty hin hdg kk
theorem mm_zald (hexec : p.tables.exec = Jvm.exec) (hb : c.code = cc) (hK : va_K D cl tys s) (hP : va_P D cl (mm_wl N tc ad lay I L) H) {t ti n : Nat} {u : Unit} (ht : t < N) (hl : lay t = .inl (ti, n, .inl u)) (hty : tys[ti]? = some (tc ti, .boolean)) {i : Int32} (hin : vp_in i n) (hdg : decode cc pc = .ok (.baload, 1))
    (kk : W p l e R s m args below meth c H locs cells slots Q (F0 m (pc + 1) ls (.int (I t i.toNatClampNeg) :: rest))) : W p l e R s m args below meth c H locs cells slots Q (F0 m pc ls (.int i :: .ref (ad t) :: rest)) :=
  va_zald hexec hb hK hP t ti (by rw [mm_wl_at ht, hl]; rfl) hty hin hdg kk
theorem mm_lald (hexec : p.tables.exec = Jvm.exec) (hb : c.code = cc) (hK : va_K D cl tys s) (hP : va_P D cl (mm_wl N tc ad lay I L) H) {t ti n : Nat} {u : Unit} (ht : t < N) (hl : lay t = .inl (ti, n, .inr (.inl u))) (hty : tys[ti]? = some (tc ti, .long)) {i : Int32} (hin : vp_in i n) (hdg : decode cc pc = .ok (.laload, 1))
    (kk : W p l e R s m args below meth c H locs cells slots Q (F0 m (pc + 1) ls (.long (L t i.toNatClampNeg) :: rest))) : W p l e R s m args below meth c H locs cells slots Q (F0 m pc ls (.int i :: .ref (ad t) :: rest)) :=
  va_lald hexec hb hK hP t ti (by rw [mm_wl_at ht, hl]; rfl) hty hin hdg kk
theorem mm_aald (hexec : p.tables.exec = Jvm.exec) (hb : c.code = cc) (hK : va_K D cl tys s) (hP : va_P D cl (mm_wl N tc ad lay I L) H) {t ti n : Nat} {f : Nat → Option Nat} {C : String} (ht : t < N) (hl : lay t = .inl (ti, n, .inr (.inr f))) (hty : tys[ti]? = some (tc ti, .object C)) {i : Int32} (hin : vp_in i n) {r : Nat} (hr : f i.toNatClampNeg = some r) (hdg : decode cc pc = .ok (.aaload, 1))
    (kk : W p l e R s m args below meth c H locs cells slots Q (F0 m (pc + 1) ls (.ref (ad r) :: rest))) : W p l e R s m args below meth c H locs cells slots Q (F0 m pc ls (.int i :: .ref (ad t) :: rest)) :=
  va_aldq hexec hb hK hP t ti (f := fun j => (f j).map ad) (by rw [mm_wl_at ht, hl]; rfl) hty hin hdg (by rw [hr]; exact kk)
theorem mm_iast (hexec : p.tables.exec = Jvm.exec) (hb : c.code = cc) (hK : va_K D cl tys s) (hP : va_P D cl (mm_wl N tc ad lay I L) H) (hD : va_D A (mm_wl N tc ad lay I L)) (hS : va_S A H0 H locs) {t ti n : Nat} {u : Unit} (ht : t < N) (hl : lay t = .inl (ti, n, .inl u)) (hty : tys[ti]? = some (tc ti, .int)) {i x : Int32} (hin : vp_in i n) (hdg : decode cc pc = .ok (.iastore, 1))
    (kk : ∀ (H1 : Heap) (locs1 : List Loc), va_P D cl (mm_wl N tc ad lay (mm_uI I t i.toNatClampNeg x) L) H1 → va_D A (mm_wl N tc ad lay (mm_uI I t i.toNatClampNeg x) L) → va_S A H0 H1 locs1 → W p l e R s m args below meth c H1 locs1 cells slots Q (F0 m (pc + 1) ls rest)) : W p l e R s m args below meth c H locs cells slots Q (F0 m pc ls (.int x :: .int i :: .ref (ad t) :: rest)) := by
  have hset : (mm_wl N tc ad lay I L).set t (ad t, .inl (tc ti, n, .inl (upd (I t) i.toNatClampNeg x))) = mm_wl N tc ad lay (mm_uI I t i.toNatClampNeg x) L := by
    refine mm_wl_set ht ?_ (fun t' h => mm_uI_ne I _ x h) (fun _ _ => rfl)
    rw [hl, mm_uI_at]
    rfl
  exact va_iast hexec hb hK hP hD hS t ti (by rw [mm_wl_at ht, hl]; rfl) hty hin hdg (fun H1 locs1 h1 h2 h3 => kk H1 locs1 (by rw [← hset]; exact h1) (by rw [← hset]; exact h2) h3)
theorem mm_zast (hexec : p.tables.exec = Jvm.exec) (hb : c.code = cc) (hK : va_K D cl tys s) (hP : va_P D cl (mm_wl N tc ad lay I L) H) (hD : va_D A (mm_wl N tc ad lay I L)) (hS : va_S A H0 H locs) {t ti n : Nat} {u : Unit} (ht : t < N) (hl : lay t = .inl (ti, n, .inl u)) (hty : tys[ti]? = some (tc ti, .boolean)) {i x : Int32} (hin : vp_in i n) (hdg : decode cc pc = .ok (.bastore, 1))
    (kk : ∀ (H1 : Heap) (locs1 : List Loc), va_P D cl (mm_wl N tc ad lay (mm_uI I t i.toNatClampNeg (vp_nar .boolean x)) L) H1 → va_D A (mm_wl N tc ad lay (mm_uI I t i.toNatClampNeg (vp_nar .boolean x)) L) → va_S A H0 H1 locs1 → W p l e R s m args below meth c H1 locs1 cells slots Q (F0 m (pc + 1) ls rest)) : W p l e R s m args below meth c H locs cells slots Q (F0 m pc ls (.int x :: .int i :: .ref (ad t) :: rest)) := by
  have hset : (mm_wl N tc ad lay I L).set t (ad t, .inl (tc ti, n, .inl (upd (I t) i.toNatClampNeg (vp_nar .boolean x)))) = mm_wl N tc ad lay (mm_uI I t i.toNatClampNeg (vp_nar .boolean x)) L := by
    refine mm_wl_set ht ?_ (fun t' h => mm_uI_ne I _ _ h) (fun _ _ => rfl)
    rw [hl, mm_uI_at]
    rfl
  exact va_zast hexec hb hK hP hD hS t ti (by rw [mm_wl_at ht, hl]; rfl) hty hin hdg (fun H1 locs1 h1 h2 h3 => kk H1 locs1 (by rw [← hset]; exact h1) (by rw [← hset]; exact h2) h3)
theorem mm_last (hexec : p.tables.exec = Jvm.exec) (hb : c.code = cc) (hK : va_K D cl tys s) (hP : va_P D cl (mm_wl N tc ad lay I L) H) (hD : va_D A (mm_wl N tc ad lay I L)) (hS : va_S A H0 H locs) {t ti n : Nat} {u : Unit} (ht : t < N) (hl : lay t = .inl (ti, n, .inr (.inl u))) (hty : tys[ti]? = some (tc ti, .long)) {i : Int32} {x : Int64} (hin : vp_in i n) (hdg : decode cc pc = .ok (.lastore, 1))
    (kk : ∀ (H1 : Heap) (locs1 : List Loc), va_P D cl (mm_wl N tc ad lay I (mm_uL L t i.toNatClampNeg x)) H1 → va_D A (mm_wl N tc ad lay I (mm_uL L t i.toNatClampNeg x)) → va_S A H0 H1 locs1 → W p l e R s m args below meth c H1 locs1 cells slots Q (F0 m (pc + 1) ls rest)) : W p l e R s m args below meth c H locs cells slots Q (F0 m pc ls (.long x :: .int i :: .ref (ad t) :: rest)) := by
  have hset : (mm_wl N tc ad lay I L).set t (ad t, .inl (tc ti, n, .inr (.inl (vp_updL (L t) i.toNatClampNeg x)))) = mm_wl N tc ad lay I (mm_uL L t i.toNatClampNeg x) := by
    refine mm_wl_set ht ?_ (fun _ _ => rfl) (fun t' h => mm_uL_ne L _ x h)
    rw [hl, mm_uL_at]
    rfl
  exact va_last hexec hb hK hP hD hS t ti (by rw [mm_wl_at ht, hl]; rfl) hty hin hdg (fun H1 locs1 h1 h2 h3 => kk H1 locs1 (by rw [← hset]; exact h1) (by rw [← hset]; exact h2) h3)
theorem mm_alen (hexec : p.tables.exec = Jvm.exec) (hb : c.code = cc) (hK : va_K D cl tys s) (hP : va_P D cl (mm_wl N tc ad lay I L) H) {t ti n : Nat} {z : Unit ⊕ Unit ⊕ (Nat → Option Nat)} (ht : t < N) (hl : lay t = .inl (ti, n, z)) {ty : FieldType} (hty : tys[ti]? = some (tc ti, ty)) {v : Int32} (hv : Int32.ofNat n = v) (hdg : decode cc pc = .ok (.arraylength, 1))
    (kk : W p l e R s m args below meth c H locs cells slots Q (F0 m (pc + 1) ls (.int v :: rest))) : W p l e R s m args below meth c H locs cells slots Q (F0 m pc ls (.ref (ad t) :: rest)) := by
  rcases z with z | z | z
  · exact va_alen hexec hb hK hP t ti (x := (n, .inl (I t))) (by rw [mm_wl_at ht, hl]; rfl) hty hv hdg kk
  · exact va_alen hexec hb hK hP t ti (x := (n, .inr (.inl (L t)))) (by rw [mm_wl_at ht, hl]; rfl) hty hv hdg kk
  · exact va_alen hexec hb hK hP t ti (x := (n, .inr (.inr (.inr (.inr (fun j => (z j).map ad)))))) (by rw [mm_wl_at ht, hl]; rfl) hty hv hdg kk
end MMW
/-- a switch: out of its places lo .. hi - 1, or one of them -/
theorem mm_sw (x : Int32) (lo hi : Nat) : (x.toInt < (lo : Int) ∨ (hi : Int) ≤ x.toInt) ∨ ∃ k : Nat, (lo ≤ k ∧ k < hi) ∧ x = nI k := by
  by_cases h0 : x.toInt < (lo : Int)
  · exact Or.inl (Or.inl h0)
  · by_cases h1 : (hi : Int) ≤ x.toInt
    · exact Or.inl (Or.inr h1)
    · refine Or.inr ⟨x.toInt.toNat, by omega, ?_⟩
      apply Int32.toInt_inj.mp
      have hb : x.toInt < 2 ^ 31 := Int32.toInt_lt x
      rw [nI_toInt (by omega)]
      omega
theorem mm_RA_inj {U : State} {cA cB : ClassId} {ty : FieldType} (h1 : va_RA U cA ty) (h2 : va_RA U cB ty) : cA = cB := by
  cases ty with
  | object C =>
    obtain ⟨_, _, _, _, _, a⟩ := h1
    obtain ⟨_, _, _, _, _, b⟩ := h2
    exact Option.some.inj (a.symm.trans b)
  | _ => exact Option.some.inj (Eq.trans (Eq.symm h1) h2)
theorem mm_arr0i (cA : ClassId) (n : Nat) : vp_cell cA (n, .inl (fun _ => 0)) = arrV cA n (fun _ => defaultValue .int) := rfl
theorem mm_arr0z (cA : ClassId) (n : Nat) : vp_cell cA (n, .inl (fun _ => 0)) = arrV cA n (fun _ => defaultValue .boolean) := rfl
theorem mm_arr0l (cA : ClassId) (n : Nat) : vp_cell cA (n, .inr (.inl (fun _ => 0))) = arrV cA n (fun _ => defaultValue .long) := rfl
section MMN
variable {p : Program} {l : Launch} {e : Env} {R : Room} {s : State} {m : MethodId} {args : Array Value} {below : List Frame} {meth : Method} {c : Code} {H H0 : Heap} {locs : List Loc} {cells slots : Nat} {Q : State → Prop}
variable {cc : ByteArray} {pc : Nat} {ls : Array Slot} {rest : List Value} {D : va_G} {cl : List vw_C} {tys : List (ClassId × FieldType)} {A : Nat → Prop} {tc : Nat → ClassId} {ws : va_W}
theorem mm_newa (hexec : p.tables.exec = Jvm.exec) (hb : c.code = cc) {atype : ArrayType} (harr : (Cond.arrayClass (newarray.typeOf atype)).before args s = true) {ty : FieldType} (hty : newarray.typeOf atype = ty) (hK : va_K D cl tys s) (hP : va_P D cl ws H) (hD : va_D A ws) (hS : va_S A H0 H locs) (hA : ∀ q, H0.size ≤ q → A q) {ti : Nat} (ht : tys[ti]? = some (tc ti, ty))
    {n : Int32} {N' : Nat} {a0 : vp_A} (ha : ∀ cA : ClassId, vp_cell cA a0 = arrV cA N' (fun _ => defaultValue ty)) (hn : ¬ n < 0) (hN : n.toNatClampNeg = N') (hbytes : N' * componentBytes ty ≤ 536870912) (hcells : cells + 1 ≤ R.cells) (hslots : slots + N' ≤ R.slots) (hdg : decode cc pc = .ok (.newarray atype, 2))
    (kk : ∀ (q : Nat) (H1 : Heap), va_P D cl (ws ++ [(q, .inl (tc ti, a0))]) H1 → va_D A (ws ++ [(q, .inl (tc ti, a0))]) → va_S A H0 H1 locs →
      W p l e R s m args below meth c H1 locs (cells + 1) (slots + N') Q (F0 m (pc + 2) ls (.ref q :: rest))) : W p l e R s m args below meth c H locs cells slots Q (F0 m pc ls (.int n :: rest)) := by
  refine va_newa hexec hb harr hty hK hP hD hS hA ha hn hN hbytes hcells hslots hdg (fun q cA H1 hK1 hP1 hD1 hS1 => ?_)
  have e1 : cA = tc ti := mm_RA_inj (hK1.2 tys.length (cA, ty) (by simp)).2 (hK.2 ti _ ht).2
  subst e1
  exact kk q H1 hP1 hD1 hS1
theorem mm_newq (hexec : p.tables.exec = Jvm.exec) (hb : c.code = cc) {own C : String} {index : Nat} (hown : s.vm.findClass own = some m.cls) (hclink : (Cond.classLink own index C).before args s = true) (hover : va_AO C s) (hK : va_K D cl tys s) (hP : va_P D cl ws H) (hD : va_D A ws) (hS : va_S A H0 H locs) (hA : ∀ q, H0.size ≤ q → A q) {ti : Nat} (ht : tys[ti]? = some (tc ti, .object C))
    {n : Int32} {N' : Nat} (hn : ¬ n < 0) (hN : n.toNatClampNeg = N') (hbytes : N' * 4 ≤ 536870912) (hcells : cells + 1 ≤ R.cells) (hslots : slots + N' ≤ R.slots) (hdg : decode cc pc = .ok (.anewarray index, 3))
    (kk : ∀ (q : Nat) (H1 : Heap), va_P D cl (ws ++ [(q, .inl (tc ti, N', .inr (.inr (.inr (.inr (fun _ => none))))))]) H1 → va_D A (ws ++ [(q, .inl (tc ti, N', .inr (.inr (.inr (.inr (fun _ => none))))))]) → va_S A H0 H1 locs →
      W p l e R s m args below meth c H1 locs (cells + 1) (slots + N') Q (F0 m (pc + 3) ls (.ref q :: rest))) : W p l e R s m args below meth c H locs cells slots Q (F0 m pc ls (.int n :: rest)) := by
  refine va_newq hexec hb hown hclink hover hK hP hD hS hA hn hN hbytes hcells hslots hdg (fun q cA H1 hK1 hP1 hD1 hS1 => ?_)
  have e1 : cA = tc ti := mm_RA_inj (hK1.2 tys.length (cA, .object C) (by simp)).2 (hK.2 ti _ ht).2
  subst e1
  exact kk q H1 hP1 hD1 hS1
end MMN

