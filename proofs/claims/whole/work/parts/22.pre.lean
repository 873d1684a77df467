theorem mm_eqi {args : Array Value} {s : State} {tm : Term} {z : Int32} (h : (Cond.eq tm (.int z)).before args s = true) : tm.eval args s none [] s = some (.int z) := by
  cases hv : tm.eval args s none [] s with
  | none => simp [Cond.before, Cond.holds, Cond.value, hv] at h
  | some w =>
    have hz : (Term.int z).eval args s none [] s = some (.int z) := rfl
    simp only [Cond.before, Cond.holds, Cond.value, hv, hz] at h
    cases w <;> simp_all
theorem mm_ty_p {args : Array Value} {s : State} {ty : FieldType} (h : (Cond.arrayClass ty).before args s = true) (hty : ∀ C, ty ≠ .object C) : ∃ cA : ClassId, ArrOfT s cA ty ∧ va_RA s cA ty := by
  obtain ⟨c, k, comp, h1, h2, h3⟩ := Cond.arrayClass_spec h
  refine ⟨c, fun n z => ⟨fun k h => (by cases h), k, h2, comp, h3⟩, ?_⟩
  cases ty with
  | object C => exact absurd rfl (hty C)
  | _ => exact h1
theorem mm_ty_o {args : Array Value} {s : State} {C : String} (h : (Cond.arrayOver (.object C)).before args s = true) : ∃ cA : ClassId, ArrOfT s cA (.object C) ∧ va_RA s cA (.object C) := by
  obtain ⟨comp, c, k, h1, h2, h3, h4, h5⟩ := Cond.arrayOver_spec h
  exact ⟨c, fun N z => ⟨(fun k h => by cases h), k, h3, comp, h4⟩, k, comp, h3, h4, h1, h5⟩
theorem mm_cell_q {cA : ClassId} {n : Nat} {f f' : Nat → Option Nat} (h : ∀ j, j < n → f j = f' j) : vp_cell cA (n, .inr (.inr (.inr (.inr f)))) = vp_cell cA (n, .inr (.inr (.inr (.inr f')))) := by
  rw [vp_cell_q, vp_cell_q]
  simp only [arrV]
  congr 1
  apply Array.ext
  · simp
  · intro i h1 h2
    have hi : i < n := by simpa using h1
    simp [h i hi]
theorem mm_P_q {D : va_G} {cl : List vw_C} {A : Nat → Prop} {ws : va_W} {H : Heap} (hP : va_P D cl ws H) (hD : va_D A ws) (k : Nat) {a : Nat} {cA : ClassId} {n : Nat} {f : Nat → Option Nat} (f' : Nat → Option Nat) (hk : ws[k]? = some (a, .inl (cA, n, .inr (.inr (.inr (.inr f)))))) (h : ∀ j, j < n → f j = f' j) : va_P D cl (ws.set k (a, .inl (cA, n, .inr (.inr (.inr (.inr f')))))) H := by
  refine hP.set hD hk ?_ (fun _ _ => rfl)
  have h1 : H[a]? = some (vp_cell cA (n, .inr (.inr (.inr (.inr f))))) := hP k _ hk
  show H[a]? = some (vp_cell cA (n, .inr (.inr (.inr (.inr f')))))
  rw [h1, mm_cell_q h]
def mm_I0 : mm_I := fun t => if t = 10 then (upd (upd (upd (upd (upd (upd (upd (upd (fun _ => 0) (0 : Int32).toNatClampNeg (-1)) (1 : Int32).toNatClampNeg (-1)) (2 : Int32).toNatClampNeg (-1)) (3 : Int32).toNatClampNeg (-1)) (4 : Int32).toNatClampNeg (-1)) (5 : Int32).toNatClampNeg (-1)) (6 : Int32).toNatClampNeg (-1)) (7 : Int32).toNatClampNeg (-1)) else if t = 43 then (upd (upd (upd (upd (upd (upd (upd (upd (fun _ => 0) (0 : Int32).toNatClampNeg (-1)) (1 : Int32).toNatClampNeg (-1)) (2 : Int32).toNatClampNeg (-1)) (3 : Int32).toNatClampNeg (-1)) (4 : Int32).toNatClampNeg (-1)) (5 : Int32).toNatClampNeg (-1)) (6 : Int32).toNatClampNeg (-1)) (7 : Int32).toNatClampNeg (-1)) else (fun _ => 0)
def mm_L0 : mm_L := fun _ _ => 0
theorem mm_c0 : (0 : Int32).toNatClampNeg = 0 := by decide
theorem mm_c1 : (1 : Int32).toNatClampNeg = 1 := by decide
theorem mm_c2 : (2 : Int32).toNatClampNeg = 2 := by decide
theorem mm_c3 : (3 : Int32).toNatClampNeg = 3 := by decide
theorem mm_c4 : (4 : Int32).toNatClampNeg = 4 := by decide
theorem mm_c5 : (5 : Int32).toNatClampNeg = 5 := by decide
theorem ce_0 (tc : Nat → ClassId) (ad : Nat → Nat) : mm_cell tc ad (mm_I0 0) (mm_L0 0) (mm_lay 0) = .inr (5, [.ref (ad 1), .ref (ad 13), .ref (ad 14)]) := rfl
theorem ce_1 (tc : Nat → ClassId) (ad : Nat → Nat) : mm_cell tc ad (mm_I0 1) (mm_L0 1) (mm_lay 1) = .inr (2, [.ref (ad 2), .ref (ad 10), .ref (ad 11), .ref (ad 12)]) := rfl
theorem ce_2 (tc : Nat → ClassId) (ad : Nat → Nat) : mm_cell tc ad (mm_I0 2) (mm_L0 2) (mm_lay 2) = .inr (0, [.ref (ad 3), .ref (ad 4), .ref (ad 5), .ref (ad 6), .ref (ad 7), .ref (ad 8), .ref (ad 9), .int 0]) := rfl
theorem ce_3 (tc : Nat → ClassId) (ad : Nat → Nat) : mm_cell tc ad (mm_I0 3) (mm_L0 3) (mm_lay 3) = .inl (tc 0, 70, .inl (fun _ => 0)) := rfl
theorem ce_4 (tc : Nat → ClassId) (ad : Nat → Nat) : mm_cell tc ad (mm_I0 4) (mm_L0 4) (mm_lay 4) = .inl (tc 0, 70, .inl (fun _ => 0)) := rfl
theorem ce_5 (tc : Nat → ClassId) (ad : Nat → Nat) : mm_cell tc ad (mm_I0 5) (mm_L0 5) (mm_lay 5) = .inl (tc 0, 70, .inl (fun _ => 0)) := rfl
theorem ce_6 (tc : Nat → ClassId) (ad : Nat → Nat) : mm_cell tc ad (mm_I0 6) (mm_L0 6) (mm_lay 6) = .inl (tc 0, 70, .inl (fun _ => 0)) := rfl
theorem ce_7 (tc : Nat → ClassId) (ad : Nat → Nat) : mm_cell tc ad (mm_I0 7) (mm_L0 7) (mm_lay 7) = .inl (tc 0, 70, .inl (fun _ => 0)) := rfl
theorem ce_8 (tc : Nat → ClassId) (ad : Nat → Nat) : mm_cell tc ad (mm_I0 8) (mm_L0 8) (mm_lay 8) = .inl (tc 0, 70, .inl (fun _ => 0)) := rfl
theorem ce_9 (tc : Nat → ClassId) (ad : Nat → Nat) : mm_cell tc ad (mm_I0 9) (mm_L0 9) (mm_lay 9) = .inl (tc 0, 70, .inl (fun _ => 0)) := rfl
theorem ce_10 (tc : Nat → ClassId) (ad : Nat → Nat) : mm_cell tc ad (mm_I0 10) (mm_L0 10) (mm_lay 10) = .inl (tc 0, 8, .inl (upd (upd (upd (upd (upd (upd (upd (upd (fun _ => 0) (0 : Int32).toNatClampNeg (-1)) (1 : Int32).toNatClampNeg (-1)) (2 : Int32).toNatClampNeg (-1)) (3 : Int32).toNatClampNeg (-1)) (4 : Int32).toNatClampNeg (-1)) (5 : Int32).toNatClampNeg (-1)) (6 : Int32).toNatClampNeg (-1)) (7 : Int32).toNatClampNeg (-1))) := rfl
theorem ce_11 (tc : Nat → ClassId) (ad : Nat → Nat) : mm_cell tc ad (mm_I0 11) (mm_L0 11) (mm_lay 11) = .inl (tc 4, 2, .inr (.inr (.inr (.inr (fun j => (some (18 + j)).map ad))))) := rfl
theorem ce_12 (tc : Nat → ClassId) (ad : Nat → Nat) : mm_cell tc ad (mm_I0 12) (mm_L0 12) (mm_lay 12) = .inl (tc 1, 70, .inr (.inl (fun _ => 0))) := rfl
theorem ce_13 (tc : Nat → ClassId) (ad : Nat → Nat) : mm_cell tc ad (mm_I0 13) (mm_L0 13) (mm_lay 13) = .inl (tc 3, 6, .inr (.inr (.inr (.inr (fun j => (some (24 + j)).map ad))))) := rfl
theorem ce_14 (tc : Nat → ClassId) (ad : Nat → Nat) : mm_cell tc ad (mm_I0 14) (mm_L0 14) (mm_lay 14) = .inr (3, [.ref (ad 15), .ref (ad 16), .ref (ad 17), .int 0]) := rfl
theorem ce_15 (tc : Nat → ClassId) (ad : Nat → Nat) : mm_cell tc ad (mm_I0 15) (mm_L0 15) (mm_lay 15) = .inl (tc 1, 288, .inr (.inl (fun _ => 0))) := rfl
theorem ce_16 (tc : Nat → ClassId) (ad : Nat → Nat) : mm_cell tc ad (mm_I0 16) (mm_L0 16) (mm_lay 16) = .inl (tc 0, 96, .inl (fun _ => 0)) := rfl
theorem ce_17 (tc : Nat → ClassId) (ad : Nat → Nat) : mm_cell tc ad (mm_I0 17) (mm_L0 17) (mm_lay 17) = .inl (tc 2, 16, .inl (fun _ => 0)) := rfl
theorem ce_18 (tc : Nat → ClassId) (ad : Nat → Nat) : mm_cell tc ad (mm_I0 18) (mm_L0 18) (mm_lay 18) = .inr (4, [.ref (ad 20), .ref (ad 22), .int 0]) := rfl
theorem ce_19 (tc : Nat → ClassId) (ad : Nat → Nat) : mm_cell tc ad (mm_I0 19) (mm_L0 19) (mm_lay 19) = .inr (4, [.ref (ad 21), .ref (ad 23), .int 0]) := rfl
theorem ce_20 (tc : Nat → ClassId) (ad : Nat → Nat) : mm_cell tc ad (mm_I0 20) (mm_L0 20) (mm_lay 20) = .inl (tc 0, 5, .inl (fun _ => 0)) := rfl
theorem ce_21 (tc : Nat → ClassId) (ad : Nat → Nat) : mm_cell tc ad (mm_I0 21) (mm_L0 21) (mm_lay 21) = .inl (tc 0, 5, .inl (fun _ => 0)) := rfl
theorem ce_22 (tc : Nat → ClassId) (ad : Nat → Nat) : mm_cell tc ad (mm_I0 22) (mm_L0 22) (mm_lay 22) = .inl (tc 0, 5, .inl (fun _ => 0)) := rfl
theorem ce_23 (tc : Nat → ClassId) (ad : Nat → Nat) : mm_cell tc ad (mm_I0 23) (mm_L0 23) (mm_lay 23) = .inl (tc 0, 5, .inl (fun _ => 0)) := rfl
theorem ce_24 (tc : Nat → ClassId) (ad : Nat → Nat) : mm_cell tc ad (mm_I0 24) (mm_L0 24) (mm_lay 24) = .inr (1, [.ref (ad 30), .long 0, .long 0, .int 0]) := rfl
theorem ce_25 (tc : Nat → ClassId) (ad : Nat → Nat) : mm_cell tc ad (mm_I0 25) (mm_L0 25) (mm_lay 25) = .inr (1, [.ref (ad 31), .long 0, .long 0, .int 0]) := rfl
theorem ce_26 (tc : Nat → ClassId) (ad : Nat → Nat) : mm_cell tc ad (mm_I0 26) (mm_L0 26) (mm_lay 26) = .inr (1, [.ref (ad 32), .long 0, .long 0, .int 0]) := rfl
theorem ce_27 (tc : Nat → ClassId) (ad : Nat → Nat) : mm_cell tc ad (mm_I0 27) (mm_L0 27) (mm_lay 27) = .inr (1, [.ref (ad 33), .long 0, .long 0, .int 0]) := rfl
theorem ce_28 (tc : Nat → ClassId) (ad : Nat → Nat) : mm_cell tc ad (mm_I0 28) (mm_L0 28) (mm_lay 28) = .inr (1, [.ref (ad 34), .long 0, .long 0, .int 0]) := rfl
theorem ce_29 (tc : Nat → ClassId) (ad : Nat → Nat) : mm_cell tc ad (mm_I0 29) (mm_L0 29) (mm_lay 29) = .inr (1, [.ref (ad 35), .long 0, .long 0, .int 0]) := rfl
theorem ce_30 (tc : Nat → ClassId) (ad : Nat → Nat) : mm_cell tc ad (mm_I0 30) (mm_L0 30) (mm_lay 30) = .inl (tc 0, 8, .inl (fun _ => 0)) := rfl
theorem ce_31 (tc : Nat → ClassId) (ad : Nat → Nat) : mm_cell tc ad (mm_I0 31) (mm_L0 31) (mm_lay 31) = .inl (tc 0, 8, .inl (fun _ => 0)) := rfl
theorem ce_32 (tc : Nat → ClassId) (ad : Nat → Nat) : mm_cell tc ad (mm_I0 32) (mm_L0 32) (mm_lay 32) = .inl (tc 0, 8, .inl (fun _ => 0)) := rfl
theorem ce_33 (tc : Nat → ClassId) (ad : Nat → Nat) : mm_cell tc ad (mm_I0 33) (mm_L0 33) (mm_lay 33) = .inl (tc 0, 8, .inl (fun _ => 0)) := rfl
theorem ce_34 (tc : Nat → ClassId) (ad : Nat → Nat) : mm_cell tc ad (mm_I0 34) (mm_L0 34) (mm_lay 34) = .inl (tc 0, 8, .inl (fun _ => 0)) := rfl
theorem ce_35 (tc : Nat → ClassId) (ad : Nat → Nat) : mm_cell tc ad (mm_I0 35) (mm_L0 35) (mm_lay 35) = .inl (tc 0, 8, .inl (fun _ => 0)) := rfl
theorem ce_36 (tc : Nat → ClassId) (ad : Nat → Nat) : mm_cell tc ad (mm_I0 36) (mm_L0 36) (mm_lay 36) = .inr (6, [.int 0, .int 0, .ref (ad 37), .ref (ad 38), .ref (ad 39), .ref (ad 40), .ref (ad 41), .ref (ad 42), .ref (ad 43), .ref (ad 44), .ref (ad 45), .ref (ad 46), .ref (ad 47), .ref (ad 48), .ref (ad 49), .ref (ad 50), .ref (ad 51), .ref (ad 52), .ref (ad 53), .ref (ad 54), .ref (ad 55)]) := rfl
theorem ce_37 (tc : Nat → ClassId) (ad : Nat → Nat) : mm_cell tc ad (mm_I0 37) (mm_L0 37) (mm_lay 37) = .inl (tc 0, 70, .inl (fun _ => 0)) := rfl
theorem ce_38 (tc : Nat → ClassId) (ad : Nat → Nat) : mm_cell tc ad (mm_I0 38) (mm_L0 38) (mm_lay 38) = .inl (tc 0, 70, .inl (fun _ => 0)) := rfl
theorem ce_39 (tc : Nat → ClassId) (ad : Nat → Nat) : mm_cell tc ad (mm_I0 39) (mm_L0 39) (mm_lay 39) = .inl (tc 0, 70, .inl (fun _ => 0)) := rfl
theorem ce_40 (tc : Nat → ClassId) (ad : Nat → Nat) : mm_cell tc ad (mm_I0 40) (mm_L0 40) (mm_lay 40) = .inl (tc 0, 70, .inl (fun _ => 0)) := rfl
theorem ce_41 (tc : Nat → ClassId) (ad : Nat → Nat) : mm_cell tc ad (mm_I0 41) (mm_L0 41) (mm_lay 41) = .inl (tc 0, 70, .inl (fun _ => 0)) := rfl
theorem ce_42 (tc : Nat → ClassId) (ad : Nat → Nat) : mm_cell tc ad (mm_I0 42) (mm_L0 42) (mm_lay 42) = .inl (tc 0, 70, .inl (fun _ => 0)) := rfl
theorem ce_43 (tc : Nat → ClassId) (ad : Nat → Nat) : mm_cell tc ad (mm_I0 43) (mm_L0 43) (mm_lay 43) = .inl (tc 0, 8, .inl (upd (upd (upd (upd (upd (upd (upd (upd (fun _ => 0) (0 : Int32).toNatClampNeg (-1)) (1 : Int32).toNatClampNeg (-1)) (2 : Int32).toNatClampNeg (-1)) (3 : Int32).toNatClampNeg (-1)) (4 : Int32).toNatClampNeg (-1)) (5 : Int32).toNatClampNeg (-1)) (6 : Int32).toNatClampNeg (-1)) (7 : Int32).toNatClampNeg (-1))) := rfl
theorem ce_44 (tc : Nat → ClassId) (ad : Nat → Nat) : mm_cell tc ad (mm_I0 44) (mm_L0 44) (mm_lay 44) = .inl (tc 0, 2, .inl (fun _ => 0)) := rfl
theorem ce_45 (tc : Nat → ClassId) (ad : Nat → Nat) : mm_cell tc ad (mm_I0 45) (mm_L0 45) (mm_lay 45) = .inl (tc 0, 10, .inl (fun _ => 0)) := rfl
theorem ce_46 (tc : Nat → ClassId) (ad : Nat → Nat) : mm_cell tc ad (mm_I0 46) (mm_L0 46) (mm_lay 46) = .inl (tc 0, 10, .inl (fun _ => 0)) := rfl
theorem ce_47 (tc : Nat → ClassId) (ad : Nat → Nat) : mm_cell tc ad (mm_I0 47) (mm_L0 47) (mm_lay 47) = .inl (tc 0, 48, .inl (fun _ => 0)) := rfl
theorem ce_48 (tc : Nat → ClassId) (ad : Nat → Nat) : mm_cell tc ad (mm_I0 48) (mm_L0 48) (mm_lay 48) = .inl (tc 2, 6, .inl (fun _ => 0)) := rfl
theorem ce_49 (tc : Nat → ClassId) (ad : Nat → Nat) : mm_cell tc ad (mm_I0 49) (mm_L0 49) (mm_lay 49) = .inl (tc 2, 16, .inl (fun _ => 0)) := rfl
theorem ce_50 (tc : Nat → ClassId) (ad : Nat → Nat) : mm_cell tc ad (mm_I0 50) (mm_L0 50) (mm_lay 50) = .inl (tc 2, 96, .inl (fun _ => 0)) := rfl
theorem ce_51 (tc : Nat → ClassId) (ad : Nat → Nat) : mm_cell tc ad (mm_I0 51) (mm_L0 51) (mm_lay 51) = .inl (tc 0, 96, .inl (fun _ => 0)) := rfl
theorem ce_52 (tc : Nat → ClassId) (ad : Nat → Nat) : mm_cell tc ad (mm_I0 52) (mm_L0 52) (mm_lay 52) = .inl (tc 1, 288, .inr (.inl (fun _ => 0))) := rfl
theorem ce_53 (tc : Nat → ClassId) (ad : Nat → Nat) : mm_cell tc ad (mm_I0 53) (mm_L0 53) (mm_lay 53) = .inl (tc 1, 12, .inr (.inl (fun _ => 0))) := rfl
theorem ce_54 (tc : Nat → ClassId) (ad : Nat → Nat) : mm_cell tc ad (mm_I0 54) (mm_L0 54) (mm_lay 54) = .inl (tc 1, 70, .inr (.inl (fun _ => 0))) := rfl
theorem ce_55 (tc : Nat → ClassId) (ad : Nat → Nat) : mm_cell tc ad (mm_I0 55) (mm_L0 55) (mm_lay 55) = .inl (tc 1, 8, .inr (.inl (fun _ => 0))) := rfl
theorem mm_D_of {A : Nat → Prop} {ws : va_W} {N : Nat} {tc : Nat → ClassId} {ad : Nat → Nat} {lay : Nat → mm_Sh} {I : mm_I} {L : mm_L} (hD : va_D A ws) (pi : Nat → Nat) (h1 : ∀ t, t < N → ∃ x : va_E, ws[pi t]? = some (ad t, x)) (h2 : ∀ i, i < N → ∀ j, j < N → pi i = pi j → i = j) : va_D A (mm_wl N tc ad lay I L) := by
  have len : ∀ (i : Nat) (q : Nat × va_E), (mm_wl N tc ad lay I L)[i]? = some q → i < N ∧ q.1 = ad i := by
    intro i q hq
    have hi : i < N := by
      have := (List.getElem?_eq_some_iff.mp hq).1
      simpa [mm_wl] using this
    rw [mm_wl_at hi] at hq
    cases hq
    exact ⟨hi, rfl⟩
  refine ⟨fun i j p q hp hq e => ?_, fun k q hq => ?_⟩
  · obtain ⟨hi, e1⟩ := len _ _ hp
    obtain ⟨hj, e2⟩ := len _ _ hq
    obtain ⟨x, hx⟩ := h1 i hi
    obtain ⟨y, hy⟩ := h1 j hj
    exact h2 i hi j hj (hD.1 _ _ _ _ hx hy (by show ad i = ad j; rw [← e1, ← e2, e]))
  · obtain ⟨hi, e1⟩ := len _ _ hq
    obtain ⟨x, hx⟩ := h1 k hi
    rw [e1]
    exact hD.2 _ _ hx
def mm_perm (t : Nat) : Nat := ([0, 1, 2, 3, 4, 5, 6, 7, 8, 9, 12, 10, 11, 19, 32, 33, 34, 35, 13, 16, 14, 17, 15, 18, 20, 22, 24, 26, 28, 30, 21, 23, 25, 27, 29, 31, 36, 37, 38, 39, 40, 41, 42, 43, 44, 45, 46, 47, 48, 49, 50, 51, 52, 53, 54, 55] : List Nat).getD t 0
theorem mm_perm_inj : ∀ i, i < 56 → ∀ j, j < 56 → mm_perm i = mm_perm j → i = j := by decide +kernel
