abbrev rm_X3_init : Room := { frames := 1, cells := 3, slots := 400, locals := 12 }
set_option maxHeartbeats 8000000 in
set_option maxRecDepth 100000 in
theorem mt_X3_init (l : Launch) (dC : Nat → ClassId) (dI : Nat → Nat → Nat) (tc : Nat → ClassId) (h0 sz : Nat) : Met l y_X3_init w_X3_init rm_X3_init (va_Pc [.ref h0] (fun U => U.heap.size = sz ∧ va_P (dC, dI) vwCl [(h0, .inr (3, [.null, .null, .null, .int 0]))] U.heap ∧ va_K (dC, dI) vwCl (mtys tc) U ∧ va_D (fun _ => True) [(h0, .inr (3, [.null, .null, .null, .int 0]))] ∧ mm_nw U)) (va_Qv (fun _ : Unit => True) (fun _ t => ∃ (q28 q29 q30 : Nat), va_P (dC, dI) vwCl [(h0, .inr (3, [.ref q28, .ref q29, .ref q30, .int 0])), (q28, .inl (tc 1, 288, .inr (.inl (fun _ => 0)))), (q29, .inl (tc 0, 96, .inl (fun _ => 0))), (q30, .inl (tc 2, 16, .inl (fun _ => 0)))] t.heap ∧ va_D (va_A [(h0, .inr (3, [.null, .null, .null, .int 0]))] sz) [(h0, .inr (3, [.ref q28, .ref q29, .ref q30, .int 0])), (q28, .inl (tc 1, 288, .inr (.inl (fun _ => 0)))), (q29, .inl (tc 0, 96, .inl (fun _ => 0))), (q30, .inl (tc 2, 16, .inl (fun _ => 0)))]) (va_A [(h0, .inr (3, [.null, .null, .null, .int 0]))] sz)) 3 400 (va_A [(h0, .inr (3, [.null, .null, .null, .int 0]))] sz) := by
  refine Met.ofW (cc := c_X3_init) (maxL := 1) (ret := none) (by decide) rfl ?_
  intro p e s m args below meth c s₁ B hml hv
  obtain ⟨rfl, hsz, hP, hK, hD0, hN⟩ := hv
  have hx := B.exec
  have hb := B.bytes
  have hr := B.returns
  have hts := atoms_spec (ws := w_X3_init) B.pre
  have hg : ∀ w ∈ mm_GW, w.before _ s = true := fun w h => hts w (List.mem_cons_of_mem _ h)
  have hown : s.vm.findClass RX3 = some m.cls := findClass_of_methodNamed B.named
  have hlocks := B.notSynchronized
  have hin : meth.name = "<init>" := (name_of_methodNamed B.named B.method).1
  subst hsz
  have hD := hD0.self (sz := s.heap.size)
  generalize hAe : va_A [(h0, .inr (3, [.null, .null, .null, .int 0]))] s.heap.size = A at hD ⊢
  have hA : ∀ q : Nat, s.heap.size ≤ q → A q := fun q h => by rw [← hAe]; exact Or.inr h
  have hS : va_S A s.heap s.heap [] := va_S.rf
  have hP : va_P (dC, dI) vwCl [(h0, .inr (3, [.null, .null, .null, .int 0]))] s.heap := hP
  have hl := lv_entry ([.ref h0]) (n := 1) (Nat.le_of_ble_eq_true rfl)
  rw [lg_entry_eq]
  generalize (lg_sl ([.ref h0]) ++ List.replicate (1 - (lg_sl ([.ref h0])).length) Slot.unset).toArray = ls at hl ⊢
  have hl : lv_has ls 1 [(0, .ref h0)] := hl
  refine lv_aload_n hx hb d_X3_init_0 rfl (lv_at hl 0 rfl) ?_
  refine W.objInit hx hb hown (hg _ k_325) (hg _ k_309) (hg _ kc_obj) rfl (by rw [hml]; exact hl.1) rfl d_X3_init_1 (Nat.le_of_ble_eq_true rfl) (Nat.le_of_ble_eq_true rfl) ?_
  refine W.eq (g2 := F0 m 4 ls []) rfl ?_
  refine lv_aload_n hx hb d_X3_init_4 rfl (lv_at hl 0 rfl) ?_
  refine lv_sipush (v := 288) hx hb d_X3_init_5 (by decide) ?_
  refine mm_newa (atype := .long) (ty := .long) (ti := 1) (a0 := (288, .inr (.inl (fun _ => 0)))) hx hb (hg _ k_317) rfl hK hP hD hS hA rfl (fun _ => mm_arr0l _ _) (by decide) (N' := 288) (by decide) (by decide) (Nat.le_of_ble_eq_true rfl) (Nat.le_of_ble_eq_true rfl) d_X3_init_8 (fun q28 H hP hD hS => ?_)
  have hP : va_P (dC, dI) vwCl [(h0, .inr (3, [.null, .null, .null, .int 0])), (q28, .inl (tc 1, 288, .inr (.inl (fun _ => 0))))] H := hP
  have hD : va_D A [(h0, .inr (3, [.null, .null, .null, .int 0])), (q28, .inl (tc 1, 288, .inr (.inl (fun _ => 0))))] := hD
  refine W.widen (k := 1) (n := 288) (by omega) (by omega) ?_
  refine va_putF (D := (dC, dI)) (ci := 3) (v := .ref q28) (ty := .array .long) (C := RX3) (T := TX3) (N := 4) hx hb hg in_X3 tyX3 tyX3_ok nmX3 hown hK hP hD hS 0 rfl rfl 0 (by decide) (hg _ k_136) (fun _ h9 => h9) rfl hin rfl (by decide +kernel) rfl rfl (Nat.le_of_ble_eq_true rfl) d_X3_init_10 (fun H locs hP hD hS => ?_)
  have hP : va_P (dC, dI) vwCl [(h0, .inr (3, [.ref q28, .null, .null, .int 0])), (q28, .inl (tc 1, 288, .inr (.inl (fun _ => 0))))] H := hP
  have hD : va_D A [(h0, .inr (3, [.ref q28, .null, .null, .int 0])), (q28, .inl (tc 1, 288, .inr (.inl (fun _ => 0))))] := hD
  refine lv_aload_n hx hb d_X3_init_13 rfl (lv_at hl 0 rfl) ?_
  refine lv_bipush (v := 96) hx hb d_X3_init_14 (by decide) ?_
  refine mm_newa (atype := .int) (ty := .int) (ti := 0) (a0 := (96, .inl (fun _ => 0))) hx hb (hg _ k_310) rfl hK hP hD hS hA rfl (fun _ => mm_arr0i _ _) (by decide) (N' := 96) (by decide) (by decide) (Nat.le_of_ble_eq_true rfl) (Nat.le_of_ble_eq_true rfl) d_X3_init_16 (fun q29 H hP hD hS => ?_)
  have hP : va_P (dC, dI) vwCl [(h0, .inr (3, [.ref q28, .null, .null, .int 0])), (q28, .inl (tc 1, 288, .inr (.inl (fun _ => 0)))), (q29, .inl (tc 0, 96, .inl (fun _ => 0)))] H := hP
  have hD : va_D A [(h0, .inr (3, [.ref q28, .null, .null, .int 0])), (q28, .inl (tc 1, 288, .inr (.inl (fun _ => 0)))), (q29, .inl (tc 0, 96, .inl (fun _ => 0)))] := hD
  refine W.widen (k := 2) (n := 384) (by omega) (by omega) ?_
  refine va_putF (D := (dC, dI)) (ci := 3) (v := .ref q29) (ty := .array .int) (C := RX3) (T := TX3) (N := 4) hx hb hg in_X3 tyX3 tyX3_ok nmX3 hown hK hP hD hS 0 rfl rfl 1 (by decide) (hg _ k_140) (fun _ h9 => h9) rfl hin rfl (by decide +kernel) rfl rfl (Nat.le_of_ble_eq_true rfl) d_X3_init_18 (fun H locs hP hD hS => ?_)
  have hP : va_P (dC, dI) vwCl [(h0, .inr (3, [.ref q28, .ref q29, .null, .int 0])), (q28, .inl (tc 1, 288, .inr (.inl (fun _ => 0)))), (q29, .inl (tc 0, 96, .inl (fun _ => 0)))] H := hP
  have hD : va_D A [(h0, .inr (3, [.ref q28, .ref q29, .null, .int 0])), (q28, .inl (tc 1, 288, .inr (.inl (fun _ => 0)))), (q29, .inl (tc 0, 96, .inl (fun _ => 0)))] := hD
  refine lv_aload_n hx hb d_X3_init_21 rfl (lv_at hl 0 rfl) ?_
  refine lv_bipush (v := 16) hx hb d_X3_init_22 (by decide) ?_
  refine mm_newa (atype := .boolean) (ty := .boolean) (ti := 2) (a0 := (16, .inl (fun _ => 0))) hx hb (hg _ k_326) rfl hK hP hD hS hA rfl (fun _ => mm_arr0z _ _) (by decide) (N' := 16) (by decide) (by decide) (Nat.le_of_ble_eq_true rfl) (Nat.le_of_ble_eq_true rfl) d_X3_init_24 (fun q30 H hP hD hS => ?_)
  have hP : va_P (dC, dI) vwCl [(h0, .inr (3, [.ref q28, .ref q29, .null, .int 0])), (q28, .inl (tc 1, 288, .inr (.inl (fun _ => 0)))), (q29, .inl (tc 0, 96, .inl (fun _ => 0))), (q30, .inl (tc 2, 16, .inl (fun _ => 0)))] H := hP
  have hD : va_D A [(h0, .inr (3, [.ref q28, .ref q29, .null, .int 0])), (q28, .inl (tc 1, 288, .inr (.inl (fun _ => 0)))), (q29, .inl (tc 0, 96, .inl (fun _ => 0))), (q30, .inl (tc 2, 16, .inl (fun _ => 0)))] := hD
  refine W.widen (k := 3) (n := 400) (by omega) (by omega) ?_
  refine va_putF (D := (dC, dI)) (ci := 3) (v := .ref q30) (ty := .array .boolean) (C := RX3) (T := TX3) (N := 4) hx hb hg in_X3 tyX3 tyX3_ok nmX3 hown hK hP hD hS 0 rfl rfl 2 (by decide) (hg _ k_173) (fun _ h9 => h9) rfl hin rfl (by decide +kernel) rfl rfl (Nat.le_of_ble_eq_true rfl) d_X3_init_26 (fun H locs hP hD hS => ?_)
  have hP : va_P (dC, dI) vwCl [(h0, .inr (3, [.ref q28, .ref q29, .ref q30, .int 0])), (q28, .inl (tc 1, 288, .inr (.inl (fun _ => 0)))), (q29, .inl (tc 0, 96, .inl (fun _ => 0))), (q30, .inl (tc 2, 16, .inl (fun _ => 0)))] H := hP
  have hD : va_D A [(h0, .inr (3, [.ref q28, .ref q29, .ref q30, .int 0])), (q28, .inl (tc 1, 288, .inr (.inl (fun _ => 0)))), (q29, .inl (tc 0, 96, .inl (fun _ => 0))), (q30, .inl (tc 2, 16, .inl (fun _ => 0)))] := hD
  have hP9 := hP.sub (ws' := [(h0, .inr (3, [.ref q28, .ref q29, .ref q30, .int 0])), (q28, .inl (tc 1, 288, .inr (.inl (fun _ => 0)))), (q29, .inl (tc 0, 96, .inl (fun _ => 0))), (q30, .inl (tc 2, 16, .inl (fun _ => 0)))]) [0, 1, 2, 3] rfl
  have hD9 := hD.sub (ws' := [(h0, .inr (3, [.ref q28, .ref q29, .ref q30, .int 0])), (q28, .inl (tc 1, 288, .inr (.inl (fun _ => 0)))), (q29, .inl (tc 0, 96, .inl (fun _ => 0))), (q30, .inl (tc 2, 16, .inl (fun _ => 0)))]) [0, 1, 2, 3] (by decide) rfl
  refine W.widen (k := 3) (n := 400) (by omega) (by omega) ?_
  exact W.vret hx hb hr (fun t ht hW => ⟨⟨(), rfl, trivial, q28, q29, q30, by rw [ht]; exact hP9, hD9⟩, hS.F ht⟩) hS.2.2 d_X3_init_29
