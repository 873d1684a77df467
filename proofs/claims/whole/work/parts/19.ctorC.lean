abbrev rm_X4_init : Room := { frames := 1, cells := 2, slots := 10, locals := 12 }
set_option maxHeartbeats 8000000 in
set_option maxRecDepth 100000 in
theorem mt_X4_init (l : Launch) (dC : Nat → ClassId) (dI : Nat → Nat → Nat) (tc : Nat → ClassId) (h0 sz : Nat) : Met l y_X4_init w_X4_init rm_X4_init (va_Pc [.ref h0] (fun U => U.heap.size = sz ∧ va_P (dC, dI) vwCl [(h0, .inr (4, [.null, .null, .int 0]))] U.heap ∧ va_K (dC, dI) vwCl (mtys tc) U ∧ va_D (fun _ => True) [(h0, .inr (4, [.null, .null, .int 0]))] ∧ mm_nw U)) (va_Qv (fun _ : Unit => True) (fun _ t => ∃ (q8 q9 : Nat), va_P (dC, dI) vwCl [(h0, .inr (4, [.ref q8, .ref q9, .int 0])), (q8, .inl (tc 0, 5, .inl (fun _ => 0))), (q9, .inl (tc 0, 5, .inl (fun _ => 0)))] t.heap ∧ va_D (va_A [(h0, .inr (4, [.null, .null, .int 0]))] sz) [(h0, .inr (4, [.ref q8, .ref q9, .int 0])), (q8, .inl (tc 0, 5, .inl (fun _ => 0))), (q9, .inl (tc 0, 5, .inl (fun _ => 0)))]) (va_A [(h0, .inr (4, [.null, .null, .int 0]))] sz)) 2 10 (va_A [(h0, .inr (4, [.null, .null, .int 0]))] sz) := by
  refine Met.ofW (cc := c_X4_init) (maxL := 1) (ret := none) (by decide) rfl ?_
  intro p e s m args below meth c s₁ B hml hv
  obtain ⟨rfl, hsz, hP, hK, hD0, hN⟩ := hv
  have hx := B.exec
  have hb := B.bytes
  have hr := B.returns
  have hts := atoms_spec (ws := w_X4_init) B.pre
  have hg : ∀ w ∈ mm_GW, w.before _ s = true := fun w h => hts w (List.mem_cons_of_mem _ h)
  have hown : s.vm.findClass RX4 = some m.cls := findClass_of_methodNamed B.named
  have hlocks := B.notSynchronized
  have hin : meth.name = "<init>" := (name_of_methodNamed B.named B.method).1
  subst hsz
  have hD := hD0.self (sz := s.heap.size)
  generalize hAe : va_A [(h0, .inr (4, [.null, .null, .int 0]))] s.heap.size = A at hD ⊢
  have hA : ∀ q : Nat, s.heap.size ≤ q → A q := fun q h => by rw [← hAe]; exact Or.inr h
  have hS : va_S A s.heap s.heap [] := va_S.rf
  have hP : va_P (dC, dI) vwCl [(h0, .inr (4, [.null, .null, .int 0]))] s.heap := hP
  have hl := lv_entry ([.ref h0]) (n := 1) (Nat.le_of_ble_eq_true rfl)
  rw [lg_entry_eq]
  generalize (lg_sl ([.ref h0]) ++ List.replicate (1 - (lg_sl ([.ref h0])).length) Slot.unset).toArray = ls at hl ⊢
  have hl : lv_has ls 1 [(0, .ref h0)] := hl
  refine lv_aload_n hx hb d_X4_init_0 rfl (lv_at hl 0 rfl) ?_
  refine W.objInit hx hb hown (hg _ k_311) (hg _ k_309) (hg _ kc_obj) rfl (by rw [hml]; exact hl.1) rfl d_X4_init_1 (Nat.le_of_ble_eq_true rfl) (Nat.le_of_ble_eq_true rfl) ?_
  refine W.eq (g2 := F0 m 4 ls []) rfl ?_
  refine lv_aload_n hx hb d_X4_init_4 rfl (lv_at hl 0 rfl) ?_
  refine lv_iconst (v := 5) hx hb d_X4_init_5 (by decide) ?_
  refine mm_newa (atype := .int) (ty := .int) (ti := 0) (a0 := (5, .inl (fun _ => 0))) hx hb (hg _ k_310) rfl hK hP hD hS hA rfl (fun _ => mm_arr0i _ _) (by decide) (N' := 5) (by decide) (by decide) (Nat.le_of_ble_eq_true rfl) (Nat.le_of_ble_eq_true rfl) d_X4_init_6 (fun q8 H hP hD hS => ?_)
  have hP : va_P (dC, dI) vwCl [(h0, .inr (4, [.null, .null, .int 0])), (q8, .inl (tc 0, 5, .inl (fun _ => 0)))] H := hP
  have hD : va_D A [(h0, .inr (4, [.null, .null, .int 0])), (q8, .inl (tc 0, 5, .inl (fun _ => 0)))] := hD
  refine W.widen (k := 1) (n := 5) (by omega) (by omega) ?_
  refine va_putF (D := (dC, dI)) (ci := 4) (v := .ref q8) (ty := .array .int) (C := RX4) (T := TX4) (N := 3) hx hb hg in_X4 tyX4 tyX4_ok nmX4 hown hK hP hD hS 0 rfl rfl 0 (by decide) (hg _ k_44) (fun _ h9 => h9) rfl hin rfl (by decide +kernel) rfl rfl (Nat.le_of_ble_eq_true rfl) d_X4_init_8 (fun H locs hP hD hS => ?_)
  have hP : va_P (dC, dI) vwCl [(h0, .inr (4, [.ref q8, .null, .int 0])), (q8, .inl (tc 0, 5, .inl (fun _ => 0)))] H := hP
  have hD : va_D A [(h0, .inr (4, [.ref q8, .null, .int 0])), (q8, .inl (tc 0, 5, .inl (fun _ => 0)))] := hD
  refine lv_aload_n hx hb d_X4_init_11 rfl (lv_at hl 0 rfl) ?_
  refine lv_iconst (v := 5) hx hb d_X4_init_12 (by decide) ?_
  refine mm_newa (atype := .int) (ty := .int) (ti := 0) (a0 := (5, .inl (fun _ => 0))) hx hb (hg _ k_310) rfl hK hP hD hS hA rfl (fun _ => mm_arr0i _ _) (by decide) (N' := 5) (by decide) (by decide) (Nat.le_of_ble_eq_true rfl) (Nat.le_of_ble_eq_true rfl) d_X4_init_13 (fun q9 H hP hD hS => ?_)
  have hP : va_P (dC, dI) vwCl [(h0, .inr (4, [.ref q8, .null, .int 0])), (q8, .inl (tc 0, 5, .inl (fun _ => 0))), (q9, .inl (tc 0, 5, .inl (fun _ => 0)))] H := hP
  have hD : va_D A [(h0, .inr (4, [.ref q8, .null, .int 0])), (q8, .inl (tc 0, 5, .inl (fun _ => 0))), (q9, .inl (tc 0, 5, .inl (fun _ => 0)))] := hD
  refine W.widen (k := 2) (n := 10) (by omega) (by omega) ?_
  refine va_putF (D := (dC, dI)) (ci := 4) (v := .ref q9) (ty := .array .int) (C := RX4) (T := TX4) (N := 3) hx hb hg in_X4 tyX4 tyX4_ok nmX4 hown hK hP hD hS 0 rfl rfl 1 (by decide) (hg _ k_45) (fun _ h9 => h9) rfl hin rfl (by decide +kernel) rfl rfl (Nat.le_of_ble_eq_true rfl) d_X4_init_15 (fun H locs hP hD hS => ?_)
  have hP : va_P (dC, dI) vwCl [(h0, .inr (4, [.ref q8, .ref q9, .int 0])), (q8, .inl (tc 0, 5, .inl (fun _ => 0))), (q9, .inl (tc 0, 5, .inl (fun _ => 0)))] H := hP
  have hD : va_D A [(h0, .inr (4, [.ref q8, .ref q9, .int 0])), (q8, .inl (tc 0, 5, .inl (fun _ => 0))), (q9, .inl (tc 0, 5, .inl (fun _ => 0)))] := hD
  have hP9 := hP.sub (ws' := [(h0, .inr (4, [.ref q8, .ref q9, .int 0])), (q8, .inl (tc 0, 5, .inl (fun _ => 0))), (q9, .inl (tc 0, 5, .inl (fun _ => 0)))]) [0, 1, 2] rfl
  have hD9 := hD.sub (ws' := [(h0, .inr (4, [.ref q8, .ref q9, .int 0])), (q8, .inl (tc 0, 5, .inl (fun _ => 0))), (q9, .inl (tc 0, 5, .inl (fun _ => 0)))]) [0, 1, 2] (by decide) rfl
  refine W.widen (k := 2) (n := 10) (by omega) (by omega) ?_
  exact W.vret hx hb hr (fun t ht hW => ⟨⟨(), rfl, trivial, q8, q9, by rw [ht]; exact hP9, hD9⟩, hS.F ht⟩) hS.2.2 d_X4_init_18
