theorem mc_blind {dC : Nat → ClassId} {dI : Nat → Nat → Nat} {tc : Nat → ClassId} {av : List Value} {sz : Nat} {ws : va_W} : FrameBlind (va_Pc av (fun U => U.heap.size = sz ∧ va_P (dC, dI) vwCl ws U.heap ∧ va_K (dC, dI) vwCl (mtys tc) U ∧ va_D (fun _ => True) ws ∧ mm_nw U)) := by
  intro a U g mk q
  obtain ⟨q0, qz, qP, qK, qD, qN⟩ := q
  exact ⟨q0, qz, qP, va_K.moved (u := U) (U := U.calling g mk a) (Vm.Alike.refl U.vm) qK, qD, mm_nw_same rfl qN⟩
abbrev rm_J7_fill : Room := { frames := 0, cells := 0, slots := 0, locals := 0 }
set_option maxHeartbeats 8000000 in
set_option maxRecDepth 100000 in
theorem mt_J7_fill (l : Launch) (dC : Nat → ClassId) (dI : Nat → Nat → Nat) (tc : Nat → ClassId) (h0 sz : Nat) (f : Nat → Int32) (v : Int32) : Met l y_J7_fill w_J7_fill rm_J7_fill (va_Pc [.ref h0, .int v] (fun U => U.heap.size = sz ∧ va_P (dC, dI) vwCl [(h0, .inl (tc 0, 8, .inl f))] U.heap ∧ va_K (dC, dI) vwCl (mtys tc) U ∧ va_D (fun _ => True) [(h0, .inl (tc 0, 8, .inl f))] ∧ mm_nw U)) (va_Qv (fun _ : Unit => True) (fun _ t => va_P (dC, dI) vwCl [(h0, .inl (tc 0, 8, .inl (upd (upd (upd (upd (upd (upd (upd (upd f (0 : Int32).toNatClampNeg v) (1 : Int32).toNatClampNeg v) (2 : Int32).toNatClampNeg v) (3 : Int32).toNatClampNeg v) (4 : Int32).toNatClampNeg v) (5 : Int32).toNatClampNeg v) (6 : Int32).toNatClampNeg v) (7 : Int32).toNatClampNeg v)))] t.heap ∧ va_D (va_A [(h0, .inl (tc 0, 8, .inl f))] sz) [(h0, .inl (tc 0, 8, .inl (upd (upd (upd (upd (upd (upd (upd (upd f (0 : Int32).toNatClampNeg v) (1 : Int32).toNatClampNeg v) (2 : Int32).toNatClampNeg v) (3 : Int32).toNatClampNeg v) (4 : Int32).toNatClampNeg v) (5 : Int32).toNatClampNeg v) (6 : Int32).toNatClampNeg v) (7 : Int32).toNatClampNeg v)))]) (va_A [(h0, .inl (tc 0, 8, .inl f))] sz)) 0 0 (va_A [(h0, .inl (tc 0, 8, .inl f))] sz) := by
  refine Met.ofW (cc := c_J7_fill) (maxL := 4) (ret := none) (by decide) rfl ?_
  intro p e s m args below meth c s₁ B hml hv
  obtain ⟨rfl, hsz, hP, hK, hD0, hN⟩ := hv
  have hx := B.exec
  have hb := B.bytes
  have hr := B.returns
  have hts := atoms_spec (ws := w_J7_fill) B.pre
  have hg : ∀ w ∈ mm_GW, w.before _ s = true := fun w h => hts w (List.mem_cons_of_mem _ h)
  have hown : s.vm.findClass RJ7 = some m.cls := findClass_of_methodNamed B.named
  have hlocks := B.notSynchronized

  subst hsz
  have hD := hD0.self (sz := s.heap.size)
  generalize hAe : va_A [(h0, .inl (tc 0, 8, .inl f))] s.heap.size = A at hD ⊢
  have hA : ∀ q : Nat, s.heap.size ≤ q → A q := fun q h => by rw [← hAe]; exact Or.inr h
  have hS : va_S A s.heap s.heap [] := va_S.rf
  have hP : va_P (dC, dI) vwCl [(h0, .inl (tc 0, 8, .inl f))] s.heap := hP
  have hl := lv_entry ([.ref h0, .int v]) (n := 4) (Nat.le_of_ble_eq_true rfl)
  rw [lg_entry_eq]
  generalize (lg_sl ([.ref h0, .int v]) ++ List.replicate (4 - (lg_sl ([.ref h0, .int v])).length) Slot.unset).toArray = ls at hl ⊢
  have hl : lv_has ls 4 [(0, .ref h0), (1, .int v)] := hl
  refine lv_iconst (v := 0) hx hb d_J7_fill_0 (by decide) ?_
  refine lv_istore_n (lv' := [(2, .int 0), (0, .ref h0), (1, .int v)]) hx hb d_J7_fill_1 rfl hl (by decide) rfl (fun ls hl => ?_)
  refine lv_aload_n hx hb d_J7_fill_2 rfl (lv_at hl 1 rfl) ?_
  refine va_alen (D := (dC, dI)) (ty := .int) hx hb hK hP 0 0 rfl rfl (v := 8) rfl d_J7_fill_3 ?_
  refine lv_istore_n (lv' := [(3, .int 8), (2, .int 0), (0, .ref h0), (1, .int v)]) hx hb d_J7_fill_4 rfl hl (by decide) rfl (fun ls hl => ?_)
  refine lv_iload_n hx hb d_J7_fill_5 rfl (lv_at hl 1 rfl) ?_
  refine lv_iload_n hx hb d_J7_fill_6 rfl (lv_at hl 0 rfl) ?_
  refine lv_icmp_ge (tgt := 20) hx hb d_J7_fill_7 (by decide) (fun hc => absurd hc (by decide)) (fun hc => ?_)
  refine lv_aload_n hx hb d_J7_fill_10 rfl (lv_at hl 2 rfl) ?_
  refine lv_iload_n hx hb d_J7_fill_11 rfl (lv_at hl 1 rfl) ?_
  refine lv_iload_n hx hb d_J7_fill_12 rfl (lv_at hl 3 rfl) ?_
  refine va_iast (D := (dC, dI)) hx hb hK hP hD hS 0 0 rfl rfl (by unfold vp_in; decide) d_J7_fill_13 (fun H locs hP hD hS => ?_)
  have hP : va_P (dC, dI) vwCl [(h0, .inl (tc 0, 8, .inl (upd f (0 : Int32).toNatClampNeg v)))] H := hP
  have hD : va_D A [(h0, .inl (tc 0, 8, .inl (upd f (0 : Int32).toNatClampNeg v)))] := hD
  refine lv_iinc (v := 1) (lv' := [(2, .int 1), (3, .int 8), (0, .ref h0), (1, .int v)]) hx hb d_J7_fill_14 hl (k := 1) rfl (by decide) (by decide) rfl (fun ls hl => ?_)
  refine lv_goto (tgt := 5) hx hb d_J7_fill_17 (by decide) ?_
  refine lv_iload_n hx hb d_J7_fill_5 rfl (lv_at hl 0 rfl) ?_
  refine lv_iload_n hx hb d_J7_fill_6 rfl (lv_at hl 1 rfl) ?_
  refine lv_icmp_ge (tgt := 20) hx hb d_J7_fill_7 (by decide) (fun hc => absurd hc (by decide)) (fun hc => ?_)
  refine lv_aload_n hx hb d_J7_fill_10 rfl (lv_at hl 2 rfl) ?_
  refine lv_iload_n hx hb d_J7_fill_11 rfl (lv_at hl 0 rfl) ?_
  refine lv_iload_n hx hb d_J7_fill_12 rfl (lv_at hl 3 rfl) ?_
  refine va_iast (D := (dC, dI)) hx hb hK hP hD hS 0 0 rfl rfl (by unfold vp_in; decide) d_J7_fill_13 (fun H locs hP hD hS => ?_)
  have hP : va_P (dC, dI) vwCl [(h0, .inl (tc 0, 8, .inl (upd (upd f (0 : Int32).toNatClampNeg v) (1 : Int32).toNatClampNeg v)))] H := hP
  have hD : va_D A [(h0, .inl (tc 0, 8, .inl (upd (upd f (0 : Int32).toNatClampNeg v) (1 : Int32).toNatClampNeg v)))] := hD
  refine lv_iinc (v := 2) (lv' := [(2, .int 2), (3, .int 8), (0, .ref h0), (1, .int v)]) hx hb d_J7_fill_14 hl (k := 0) rfl (by decide) (by decide) rfl (fun ls hl => ?_)
  refine lv_goto (tgt := 5) hx hb d_J7_fill_17 (by decide) ?_
  refine lv_iload_n hx hb d_J7_fill_5 rfl (lv_at hl 0 rfl) ?_
  refine lv_iload_n hx hb d_J7_fill_6 rfl (lv_at hl 1 rfl) ?_
  refine lv_icmp_ge (tgt := 20) hx hb d_J7_fill_7 (by decide) (fun hc => absurd hc (by decide)) (fun hc => ?_)
  refine lv_aload_n hx hb d_J7_fill_10 rfl (lv_at hl 2 rfl) ?_
  refine lv_iload_n hx hb d_J7_fill_11 rfl (lv_at hl 0 rfl) ?_
  refine lv_iload_n hx hb d_J7_fill_12 rfl (lv_at hl 3 rfl) ?_
  refine va_iast (D := (dC, dI)) hx hb hK hP hD hS 0 0 rfl rfl (by unfold vp_in; decide) d_J7_fill_13 (fun H locs hP hD hS => ?_)
  have hP : va_P (dC, dI) vwCl [(h0, .inl (tc 0, 8, .inl (upd (upd (upd f (0 : Int32).toNatClampNeg v) (1 : Int32).toNatClampNeg v) (2 : Int32).toNatClampNeg v)))] H := hP
  have hD : va_D A [(h0, .inl (tc 0, 8, .inl (upd (upd (upd f (0 : Int32).toNatClampNeg v) (1 : Int32).toNatClampNeg v) (2 : Int32).toNatClampNeg v)))] := hD
  refine lv_iinc (v := 3) (lv' := [(2, .int 3), (3, .int 8), (0, .ref h0), (1, .int v)]) hx hb d_J7_fill_14 hl (k := 0) rfl (by decide) (by decide) rfl (fun ls hl => ?_)
  refine lv_goto (tgt := 5) hx hb d_J7_fill_17 (by decide) ?_
  refine lv_iload_n hx hb d_J7_fill_5 rfl (lv_at hl 0 rfl) ?_
  refine lv_iload_n hx hb d_J7_fill_6 rfl (lv_at hl 1 rfl) ?_
  refine lv_icmp_ge (tgt := 20) hx hb d_J7_fill_7 (by decide) (fun hc => absurd hc (by decide)) (fun hc => ?_)
  refine lv_aload_n hx hb d_J7_fill_10 rfl (lv_at hl 2 rfl) ?_
  refine lv_iload_n hx hb d_J7_fill_11 rfl (lv_at hl 0 rfl) ?_
  refine lv_iload_n hx hb d_J7_fill_12 rfl (lv_at hl 3 rfl) ?_
  refine va_iast (D := (dC, dI)) hx hb hK hP hD hS 0 0 rfl rfl (by unfold vp_in; decide) d_J7_fill_13 (fun H locs hP hD hS => ?_)
  have hP : va_P (dC, dI) vwCl [(h0, .inl (tc 0, 8, .inl (upd (upd (upd (upd f (0 : Int32).toNatClampNeg v) (1 : Int32).toNatClampNeg v) (2 : Int32).toNatClampNeg v) (3 : Int32).toNatClampNeg v)))] H := hP
  have hD : va_D A [(h0, .inl (tc 0, 8, .inl (upd (upd (upd (upd f (0 : Int32).toNatClampNeg v) (1 : Int32).toNatClampNeg v) (2 : Int32).toNatClampNeg v) (3 : Int32).toNatClampNeg v)))] := hD
  refine lv_iinc (v := 4) (lv' := [(2, .int 4), (3, .int 8), (0, .ref h0), (1, .int v)]) hx hb d_J7_fill_14 hl (k := 0) rfl (by decide) (by decide) rfl (fun ls hl => ?_)
  refine lv_goto (tgt := 5) hx hb d_J7_fill_17 (by decide) ?_
  refine lv_iload_n hx hb d_J7_fill_5 rfl (lv_at hl 0 rfl) ?_
  refine lv_iload_n hx hb d_J7_fill_6 rfl (lv_at hl 1 rfl) ?_
  refine lv_icmp_ge (tgt := 20) hx hb d_J7_fill_7 (by decide) (fun hc => absurd hc (by decide)) (fun hc => ?_)
  refine lv_aload_n hx hb d_J7_fill_10 rfl (lv_at hl 2 rfl) ?_
  refine lv_iload_n hx hb d_J7_fill_11 rfl (lv_at hl 0 rfl) ?_
  refine lv_iload_n hx hb d_J7_fill_12 rfl (lv_at hl 3 rfl) ?_
  refine va_iast (D := (dC, dI)) hx hb hK hP hD hS 0 0 rfl rfl (by unfold vp_in; decide) d_J7_fill_13 (fun H locs hP hD hS => ?_)
  have hP : va_P (dC, dI) vwCl [(h0, .inl (tc 0, 8, .inl (upd (upd (upd (upd (upd f (0 : Int32).toNatClampNeg v) (1 : Int32).toNatClampNeg v) (2 : Int32).toNatClampNeg v) (3 : Int32).toNatClampNeg v) (4 : Int32).toNatClampNeg v)))] H := hP
  have hD : va_D A [(h0, .inl (tc 0, 8, .inl (upd (upd (upd (upd (upd f (0 : Int32).toNatClampNeg v) (1 : Int32).toNatClampNeg v) (2 : Int32).toNatClampNeg v) (3 : Int32).toNatClampNeg v) (4 : Int32).toNatClampNeg v)))] := hD
  refine lv_iinc (v := 5) (lv' := [(2, .int 5), (3, .int 8), (0, .ref h0), (1, .int v)]) hx hb d_J7_fill_14 hl (k := 0) rfl (by decide) (by decide) rfl (fun ls hl => ?_)
  refine lv_goto (tgt := 5) hx hb d_J7_fill_17 (by decide) ?_
  refine lv_iload_n hx hb d_J7_fill_5 rfl (lv_at hl 0 rfl) ?_
  refine lv_iload_n hx hb d_J7_fill_6 rfl (lv_at hl 1 rfl) ?_
  refine lv_icmp_ge (tgt := 20) hx hb d_J7_fill_7 (by decide) (fun hc => absurd hc (by decide)) (fun hc => ?_)
  refine lv_aload_n hx hb d_J7_fill_10 rfl (lv_at hl 2 rfl) ?_
  refine lv_iload_n hx hb d_J7_fill_11 rfl (lv_at hl 0 rfl) ?_
  refine lv_iload_n hx hb d_J7_fill_12 rfl (lv_at hl 3 rfl) ?_
  refine va_iast (D := (dC, dI)) hx hb hK hP hD hS 0 0 rfl rfl (by unfold vp_in; decide) d_J7_fill_13 (fun H locs hP hD hS => ?_)
  have hP : va_P (dC, dI) vwCl [(h0, .inl (tc 0, 8, .inl (upd (upd (upd (upd (upd (upd f (0 : Int32).toNatClampNeg v) (1 : Int32).toNatClampNeg v) (2 : Int32).toNatClampNeg v) (3 : Int32).toNatClampNeg v) (4 : Int32).toNatClampNeg v) (5 : Int32).toNatClampNeg v)))] H := hP
  have hD : va_D A [(h0, .inl (tc 0, 8, .inl (upd (upd (upd (upd (upd (upd f (0 : Int32).toNatClampNeg v) (1 : Int32).toNatClampNeg v) (2 : Int32).toNatClampNeg v) (3 : Int32).toNatClampNeg v) (4 : Int32).toNatClampNeg v) (5 : Int32).toNatClampNeg v)))] := hD
  refine lv_iinc (v := 6) (lv' := [(2, .int 6), (3, .int 8), (0, .ref h0), (1, .int v)]) hx hb d_J7_fill_14 hl (k := 0) rfl (by decide) (by decide) rfl (fun ls hl => ?_)
  refine lv_goto (tgt := 5) hx hb d_J7_fill_17 (by decide) ?_
  refine lv_iload_n hx hb d_J7_fill_5 rfl (lv_at hl 0 rfl) ?_
  refine lv_iload_n hx hb d_J7_fill_6 rfl (lv_at hl 1 rfl) ?_
  refine lv_icmp_ge (tgt := 20) hx hb d_J7_fill_7 (by decide) (fun hc => absurd hc (by decide)) (fun hc => ?_)
  refine lv_aload_n hx hb d_J7_fill_10 rfl (lv_at hl 2 rfl) ?_
  refine lv_iload_n hx hb d_J7_fill_11 rfl (lv_at hl 0 rfl) ?_
  refine lv_iload_n hx hb d_J7_fill_12 rfl (lv_at hl 3 rfl) ?_
  refine va_iast (D := (dC, dI)) hx hb hK hP hD hS 0 0 rfl rfl (by unfold vp_in; decide) d_J7_fill_13 (fun H locs hP hD hS => ?_)
  have hP : va_P (dC, dI) vwCl [(h0, .inl (tc 0, 8, .inl (upd (upd (upd (upd (upd (upd (upd f (0 : Int32).toNatClampNeg v) (1 : Int32).toNatClampNeg v) (2 : Int32).toNatClampNeg v) (3 : Int32).toNatClampNeg v) (4 : Int32).toNatClampNeg v) (5 : Int32).toNatClampNeg v) (6 : Int32).toNatClampNeg v)))] H := hP
  have hD : va_D A [(h0, .inl (tc 0, 8, .inl (upd (upd (upd (upd (upd (upd (upd f (0 : Int32).toNatClampNeg v) (1 : Int32).toNatClampNeg v) (2 : Int32).toNatClampNeg v) (3 : Int32).toNatClampNeg v) (4 : Int32).toNatClampNeg v) (5 : Int32).toNatClampNeg v) (6 : Int32).toNatClampNeg v)))] := hD
  refine lv_iinc (v := 7) (lv' := [(2, .int 7), (3, .int 8), (0, .ref h0), (1, .int v)]) hx hb d_J7_fill_14 hl (k := 0) rfl (by decide) (by decide) rfl (fun ls hl => ?_)
  refine lv_goto (tgt := 5) hx hb d_J7_fill_17 (by decide) ?_
  refine lv_iload_n hx hb d_J7_fill_5 rfl (lv_at hl 0 rfl) ?_
  refine lv_iload_n hx hb d_J7_fill_6 rfl (lv_at hl 1 rfl) ?_
  refine lv_icmp_ge (tgt := 20) hx hb d_J7_fill_7 (by decide) (fun hc => absurd hc (by decide)) (fun hc => ?_)
  refine lv_aload_n hx hb d_J7_fill_10 rfl (lv_at hl 2 rfl) ?_
  refine lv_iload_n hx hb d_J7_fill_11 rfl (lv_at hl 0 rfl) ?_
  refine lv_iload_n hx hb d_J7_fill_12 rfl (lv_at hl 3 rfl) ?_
  refine va_iast (D := (dC, dI)) hx hb hK hP hD hS 0 0 rfl rfl (by unfold vp_in; decide) d_J7_fill_13 (fun H locs hP hD hS => ?_)
  have hP : va_P (dC, dI) vwCl [(h0, .inl (tc 0, 8, .inl (upd (upd (upd (upd (upd (upd (upd (upd f (0 : Int32).toNatClampNeg v) (1 : Int32).toNatClampNeg v) (2 : Int32).toNatClampNeg v) (3 : Int32).toNatClampNeg v) (4 : Int32).toNatClampNeg v) (5 : Int32).toNatClampNeg v) (6 : Int32).toNatClampNeg v) (7 : Int32).toNatClampNeg v)))] H := hP
  have hD : va_D A [(h0, .inl (tc 0, 8, .inl (upd (upd (upd (upd (upd (upd (upd (upd f (0 : Int32).toNatClampNeg v) (1 : Int32).toNatClampNeg v) (2 : Int32).toNatClampNeg v) (3 : Int32).toNatClampNeg v) (4 : Int32).toNatClampNeg v) (5 : Int32).toNatClampNeg v) (6 : Int32).toNatClampNeg v) (7 : Int32).toNatClampNeg v)))] := hD
  refine lv_iinc (v := 8) (lv' := [(2, .int 8), (3, .int 8), (0, .ref h0), (1, .int v)]) hx hb d_J7_fill_14 hl (k := 0) rfl (by decide) (by decide) rfl (fun ls hl => ?_)
  refine lv_goto (tgt := 5) hx hb d_J7_fill_17 (by decide) ?_
  refine lv_iload_n hx hb d_J7_fill_5 rfl (lv_at hl 0 rfl) ?_
  refine lv_iload_n hx hb d_J7_fill_6 rfl (lv_at hl 1 rfl) ?_
  refine lv_icmp_ge (tgt := 20) hx hb d_J7_fill_7 (by decide) (fun hc => ?_) (fun hc => absurd (by decide) hc)
  have hP9 := hP.sub (ws' := [(h0, .inl (tc 0, 8, .inl (upd (upd (upd (upd (upd (upd (upd (upd f (0 : Int32).toNatClampNeg v) (1 : Int32).toNatClampNeg v) (2 : Int32).toNatClampNeg v) (3 : Int32).toNatClampNeg v) (4 : Int32).toNatClampNeg v) (5 : Int32).toNatClampNeg v) (6 : Int32).toNatClampNeg v) (7 : Int32).toNatClampNeg v)))]) [0] rfl
  have hD9 := hD.sub (ws' := [(h0, .inl (tc 0, 8, .inl (upd (upd (upd (upd (upd (upd (upd (upd f (0 : Int32).toNatClampNeg v) (1 : Int32).toNatClampNeg v) (2 : Int32).toNatClampNeg v) (3 : Int32).toNatClampNeg v) (4 : Int32).toNatClampNeg v) (5 : Int32).toNatClampNeg v) (6 : Int32).toNatClampNeg v) (7 : Int32).toNatClampNeg v)))]) [0] (by decide) rfl
  refine W.widen (k := 0) (n := 0) (by omega) (by omega) ?_
  exact W.vret hx hb hr (fun t ht hW => ⟨⟨(), rfl, trivial, by rw [ht]; exact hP9, hD9⟩, hS.F ht⟩) hS.2.2 d_J7_fill_20
