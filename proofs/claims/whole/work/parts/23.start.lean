set_option maxHeartbeats 40000000 in
set_option maxRecDepth 100000 in
/-- THE LAW, from its entry, over its loop's own words -/
theorem start_of {p : Program} {e : Env} {s : State} {m : MethodId} {below : List Frame} {meth : Method} {c : Code} (l : Launch) {b LN : Nat} {xs : Nat → Int32} (hlaw : ∃ n, vc_L_law LN xs n 0 mm_I0 mm_L0) (C0 : lw_At p s m meth c b LN xs) : W p l e room_1 s m #[Value.ref b] below meth c s.heap [] 0 0 (lw_Z below #[Value.ref b] s) (entryFrame m ([Value.ref b] : List Value).toArray 4) := by
  obtain ⟨n9, hlaw⟩ := hlaw
  obtain ⟨hx, hb, hr, hml, hown, hts, hX, hbl, hlocks, hgv⟩ := id C0
  have hg : ∀ w ∈ mm_GW, w.before #[Value.ref b] s = true := fun w h => hts w (mm_GW_tbl w h)
  have hA : ∀ q : Nat, s.heap.size ≤ q → (fun q : Nat => s.heap.size ≤ q) q := fun _ h => h
  have hN : mm_nw s := ⟨va_Nw.of rfl (hts (.methodLinkNest "RulePayroll$Rules" 11 ⟨"RulePayroll$Nodes", "<init>", "()V"⟩ "RulePayroll") (by decide +kernel)), va_Nw.of rfl (hts (.methodLinkNest "RulePayroll$Rules" 38 ⟨"RulePayroll$Table", "<init>", "()V"⟩ "RulePayroll") (by decide +kernel)), va_Nw.of rfl (hts (.methodLinkNest "RulePayroll" 22 ⟨"RulePayroll$Person", "<init>", "()V"⟩ "RulePayroll") (by decide +kernel)), va_Nw.of rfl (hts (.methodLinkNest "RulePayroll" 25 ⟨"RulePayroll$Runs", "<init>", "()V"⟩ "RulePayroll") (by decide +kernel)), va_Nw.of rfl (hts (.methodLinkNest "RulePayroll$Nodes" 37 ⟨"RulePayroll", "within", "(II)Z"⟩ "RulePayroll") (by decide +kernel)), va_Nw.of rfl (hts (.fieldLinkNest "RulePayroll$Nodes" 65 "RulePayroll" "NODE_OPERANDS" "[I" "RulePayroll") (by decide +kernel)), va_Nw.of rfl (hts (.methodLinkNest "RulePayroll$Runs" 27 ⟨"RulePayroll", "within", "(II)Z"⟩ "RulePayroll") (by decide +kernel)), va_AO.of (hts (.arrayOver (.object "RulePayroll$Table")) (by decide +kernel)), va_AO.of (hts (.arrayOver (.object "RulePayroll$Person")) (by decide +kernel))⟩
  obtain ⟨c0, iS0, hKn0⟩ := u_known (C := RX0) (T := TX0) (N := 8) (n := 8) hg in_X0 (hg _ k_314)
  obtain ⟨c1, iS1, hKn1⟩ := u_known (C := RX1) (T := TX1) (N := 4) (n := 4) hg in_X1 (hg _ k_333)
  obtain ⟨c2, iS2, hKn2⟩ := u_known (C := RX2) (T := TX2) (N := 4) (n := 4) hg in_X2 (hg _ k_329)
  obtain ⟨c3, iS3, hKn3⟩ := u_known (C := RX3) (T := TX3) (N := 4) (n := 4) hg in_X3 (hg _ k_336)
  obtain ⟨c4, iS4, hKn4⟩ := u_known (C := RX4) (T := TX4) (N := 3) (n := 3) hg in_X4 (hg _ k_321)
  obtain ⟨c5, iS5, hKn5⟩ := u_known (C := RX6) (T := TX6) (N := 3) (n := 3) hg in_X6 (hg _ k_436)
  obtain ⟨c6, iS6, hKn6⟩ := u_known (C := RX7) (T := TX7) (N := 21) (n := 21) hg in_X7 (hg _ k_440)
  obtain ⟨dC, dI, hKc⟩ : ∃ (dC : Nat → ClassId) (dI : Nat → Nat → Nat), ∀ (k : Nat) (q : vw_C), vwCl[k]? = some q → u_Kn s q.1 q.2.1 q.2.2 (dC k) (dI k) := by
    refine ⟨fun k => ([c0, c1, c2, c3, c4, c5, c6] : List ClassId).getD k c0, fun k => ([iS0, iS1, iS2, iS3, iS4, iS5, iS6] : List (Nat → Nat)).getD k iS0, ?_⟩
    intro k q hq
    match k, hq with
    | 0, hq => cases hq; exact hKn0
    | 1, hq => cases hq; exact hKn1
    | 2, hq => cases hq; exact hKn2
    | 3, hq => cases hq; exact hKn3
    | 4, hq => cases hq; exact hKn4
    | 5, hq => cases hq; exact hKn5
    | 6, hq => cases hq; exact hKn6
    | k + 7, hq => simp at hq
  obtain ⟨t0, ha0, hr0⟩ := mm_ty_p (hg _ k_310) (fun _ h => by cases h)
  obtain ⟨t1, ha1, hr1⟩ := mm_ty_p (hg _ k_317) (fun _ h => by cases h)
  obtain ⟨t2, ha2, hr2⟩ := mm_ty_p (hg _ k_326) (fun _ h => by cases h)
  obtain ⟨t3, ha3, hr3⟩ := mm_ty_o (va_AO.use (A := #[]) (nw_8 hN))
  obtain ⟨t4, ha4, hr4⟩ := mm_ty_o (va_AO.use (A := #[]) (nw_7 hN))
  obtain ⟨tc, hK⟩ : ∃ tc : Nat → ClassId, va_K (dC, dI) vwCl (mtys tc) s := by
    refine ⟨fun k => ([t0, t1, t2, t3, t4] : List ClassId).getD k t0, hKc, ?_⟩
    intro k q hq
    match k, hq with
    | 0, hq => cases hq; exact ⟨ha0, hr0⟩
    | 1, hq => cases hq; exact ⟨ha1, hr1⟩
    | 2, hq => cases hq; exact ⟨ha2, hr2⟩
    | 3, hq => cases hq; exact ⟨ha3, hr3⟩
    | 4, hq => cases hq; exact ⟨ha4, hr4⟩
    | k + 5, hq => simp at hq
  have hs := flat_of_before _ hgv
  have hz0 : (Cond.arrayOf (.static "RulePayroll" "NODE_OPERANDS" "[I") .int).before #[Value.ref b] s = true := hs _ (by decide +kernel)
  have hz5 : (Cond.eq (.length (.static "RulePayroll" "NODE_OPERANDS" "[I")) (.int 20)).before #[Value.ref b] s = true := hs _ (by decide +kernel)
  have hy0 : (Cond.eq (.elem (.static "RulePayroll" "NODE_OPERANDS" "[I") (.int 0)) (.int 0)).before #[Value.ref b] s = true := hs _ (by decide +kernel)
  have hy1 : (Cond.eq (.elem (.static "RulePayroll" "NODE_OPERANDS" "[I") (.int 1)) (.int 0)).before #[Value.ref b] s = true := hs _ (by decide +kernel)
  have hy2 : (Cond.eq (.elem (.static "RulePayroll" "NODE_OPERANDS" "[I") (.int 2)) (.int 0)).before #[Value.ref b] s = true := hs _ (by decide +kernel)
  have hy3 : (Cond.eq (.elem (.static "RulePayroll" "NODE_OPERANDS" "[I") (.int 3)) (.int 0)).before #[Value.ref b] s = true := hs _ (by decide +kernel)
  have hy4 : (Cond.eq (.elem (.static "RulePayroll" "NODE_OPERANDS" "[I") (.int 4)) (.int 3)).before #[Value.ref b] s = true := hs _ (by decide +kernel)
  have hy5 : (Cond.eq (.elem (.static "RulePayroll" "NODE_OPERANDS" "[I") (.int 5)) (.int 3)).before #[Value.ref b] s = true := hs _ (by decide +kernel)
  have hy6 : (Cond.eq (.elem (.static "RulePayroll" "NODE_OPERANDS" "[I") (.int 6)) (.int 3)).before #[Value.ref b] s = true := hs _ (by decide +kernel)
  have hy7 : (Cond.eq (.elem (.static "RulePayroll" "NODE_OPERANDS" "[I") (.int 7)) (.int 3)).before #[Value.ref b] s = true := hs _ (by decide +kernel)
  have hy8 : (Cond.eq (.elem (.static "RulePayroll" "NODE_OPERANDS" "[I") (.int 8)) (.int 3)).before #[Value.ref b] s = true := hs _ (by decide +kernel)
  have hy9 : (Cond.eq (.elem (.static "RulePayroll" "NODE_OPERANDS" "[I") (.int 9)) (.int 3)).before #[Value.ref b] s = true := hs _ (by decide +kernel)
  have hy10 : (Cond.eq (.elem (.static "RulePayroll" "NODE_OPERANDS" "[I") (.int 10)) (.int 3)).before #[Value.ref b] s = true := hs _ (by decide +kernel)
  have hy11 : (Cond.eq (.elem (.static "RulePayroll" "NODE_OPERANDS" "[I") (.int 11)) (.int 7)).before #[Value.ref b] s = true := hs _ (by decide +kernel)
  have hy12 : (Cond.eq (.elem (.static "RulePayroll" "NODE_OPERANDS" "[I") (.int 12)) (.int 1)).before #[Value.ref b] s = true := hs _ (by decide +kernel)
  have hy13 : (Cond.eq (.elem (.static "RulePayroll" "NODE_OPERANDS" "[I") (.int 13)) (.int 3)).before #[Value.ref b] s = true := hs _ (by decide +kernel)
  have hy14 : (Cond.eq (.elem (.static "RulePayroll" "NODE_OPERANDS" "[I") (.int 14)) (.int 3)).before #[Value.ref b] s = true := hs _ (by decide +kernel)
  have hy15 : (Cond.eq (.elem (.static "RulePayroll" "NODE_OPERANDS" "[I") (.int 15)) (.int 7)).before #[Value.ref b] s = true := hs _ (by decide +kernel)
  have hy16 : (Cond.eq (.elem (.static "RulePayroll" "NODE_OPERANDS" "[I") (.int 16)) (.int 0)).before #[Value.ref b] s = true := hs _ (by decide +kernel)
  have hy17 : (Cond.eq (.elem (.static "RulePayroll" "NODE_OPERANDS" "[I") (.int 17)) (.int 7)).before #[Value.ref b] s = true := hs _ (by decide +kernel)
  have hy18 : (Cond.eq (.elem (.static "RulePayroll" "NODE_OPERANDS" "[I") (.int 18)) (.int 3)).before #[Value.ref b] s = true := hs _ (by decide +kernel)
  have hy19 : (Cond.eq (.elem (.static "RulePayroll" "NODE_OPERANDS" "[I") (.int 19)) (.int 2)).before #[Value.ref b] s = true := hs _ (by decide +kernel)
  have hel : ∀ j : Nat, j < 20 → (Term.elem (.static "RulePayroll" "NODE_OPERANDS" "[I") (.int (Int32.ofNat j))).eval #[Value.ref b] s none [] s = some (.int (tb_no j)) := by
    intro j hj
    obtain rfl | rfl | rfl | rfl | rfl | rfl | rfl | rfl | rfl | rfl | rfl | rfl | rfl | rfl | rfl | rfl | rfl | rfl | rfl | rfl : j = 0 ∨ j = 1 ∨ j = 2 ∨ j = 3 ∨ j = 4 ∨ j = 5 ∨ j = 6 ∨ j = 7 ∨ j = 8 ∨ j = 9 ∨ j = 10 ∨ j = 11 ∨ j = 12 ∨ j = 13 ∨ j = 14 ∨ j = 15 ∨ j = 16 ∨ j = 17 ∨ j = 18 ∨ j = 19 := by omega
    · exact mm_eqi hy0
    · exact mm_eqi hy1
    · exact mm_eqi hy2
    · exact mm_eqi hy3
    · exact mm_eqi hy4
    · exact mm_eqi hy5
    · exact mm_eqi hy6
    · exact mm_eqi hy7
    · exact mm_eqi hy8
    · exact mm_eqi hy9
    · exact mm_eqi hy10
    · exact mm_eqi hy11
    · exact mm_eqi hy12
    · exact mm_eqi hy13
    · exact mm_eqi hy14
    · exact mm_eqi hy15
    · exact mm_eqi hy16
    · exact mm_eqi hy17
    · exact mm_eqi hy18
    · exact mm_eqi hy19
  obtain ⟨tz, hz1, hz2⟩ := va_Tof (tm := (.static "RulePayroll" "NODE_OPERANDS" "[I")) (ty := .int) (N := 20) (f := fun j => .int (tb_no j)) (A := fun q : Nat => s.heap.size ≤ q) (by decide) hz0 (mm_eqi hz5) hel (fun a h q => absurd q (Nat.not_le.mpr h))
  have hz4 : (Cond.laysStatic "RulePayroll" "NODE_OPERANDS" "[I").before #[Value.ref b] s = true := hts _ (by decide +kernel)
  have hz3 : va_Z "RulePayroll" "NODE_OPERANDS" "[I" (.ref tz) (fun q : Nat => s.heap.size ≤ q) s s.heap := va_Zof hz4 (hg _ k_1) hz1 (fun a h q => absurd q (Nat.not_le.mpr h))
  have hS : va_S (fun q : Nat => s.heap.size ≤ q) s.heap s.heap [] := va_S.rf
  have hP : va_P (dC, dI) vwCl [] s.heap := fun k q h => by simp at h
  have hD : va_D (fun q : Nat => s.heap.size ≤ q) [] := ⟨fun i j p q h => by simp at h, fun k q h => by simp at h⟩
  have hl := lv_entry ([.ref b]) (n := 4) (Nat.le_of_ble_eq_true rfl)
  rw [lg_entry_eq]
  generalize (lg_sl ([.ref b]) ++ List.replicate (4 - (lg_sl ([.ref b])).length) Slot.unset).toArray = ls at hl ⊢
  have hl : lv_has ls 4 [(0, .ref b)] := hl
  refine va_new (ci := 5) (fs := [.null, .null, .null]) (C := RX6) (T := TX6) (N := 3) hx hb hg in_X6 tyX6 tyX6_ok hown (hg _ k_435) (hg _ k_436) (hg _ k_1) hK hP hD hS hA rfl (fun j hj => by rcases (show j = 0 ∨ j = 1 ∨ j = 2 by omega) with rfl | rfl | rfl <;> rfl) (Nat.le_of_ble_eq_true rfl) (Nat.le_of_ble_eq_true rfl) d_L_law_0 (fun q85 H hP hD hS => ?_)
  have hP : va_P (dC, dI) vwCl [(q85, .inr (5, [.null, .null, .null]))] H := hP
  have hD : va_D (fun q : Nat => s.heap.size ≤ q) [(q85, .inr (5, [.null, .null, .null]))] := hD
  refine W.widen (k := 1) (n := 3) (by omega) (by omega) ?_
  refine lv_dup hx hb d_L_law_3 rfl ?_
  have hPc := hP.sub (ws' := [(q85, .inr (5, [.null, .null, .null]))]) [0] rfl
  have hDc := hD.sub (ws' := [(q85, .inr (5, [.null, .null, .null]))]) [0] (by decide) rfl
  have hFc := va_free (wc := [(q85, .inr (5, [.null, .null, .null]))]) hD hS hA [0] rfl
  refine va_callv (va_runI (As := []) (rest := [.ref q85]) ⟨hx, hb, hml, hown, hg⟩ (mt_X6_init l dC dI tc q85 H.size ) (cwI 0 hg (mm_g1 kc_X6_init mm_GW_self) rfl rfl rfl (hg _ k_1) (hg _ k_437) (hg _ k_438) rfl (by decide +kernel) ⟨Nat.le_of_ble_eq_true rfl, Nat.le_of_ble_eq_true rfl⟩) ⟨mc_blind, fun U hU hW => ⟨rfl, by rw [hU], by rw [hU]; exact hPc, va_K.moved hW.alike hK, hDc.weaken (fun _ _ _ _ => trivial), mm_nw_warm hW hN⟩⟩ rfl rfl hl.1 rfl (lv_room (Nat.le_of_ble_eq_true rfl)) d_L_law_4 ⟨Nat.le_of_ble_eq_true rfl, Nat.le_of_ble_eq_true rfl⟩) hS (fun q _ h => hFc q h) hFc (fun u t H1 locs ht hvm hw hB hz1 hk1 hS => ?_)
  obtain ⟨q86, q87, q88, q89, q90, q91, q92, q93, q94, q95, q96, q97, q98, q99, q100, q101, q102, q103, q104, q105, q106, q107, q108, q109, q110, q111, q112, q113, q114, q115, q116, q117, q118, q119, q120, hP1, hD1⟩ := hB
  rw [ht] at hP1
  obtain ⟨hP, hD⟩ := va_join (wr := []) (w1 := [(q85, .inr (5, [.ref q86, .ref q104, .ref q117])), (q86, .inr (2, [.ref q87, .ref q95, .ref q96, .ref q97])), (q87, .inr (0, [.ref q88, .ref q89, .ref q90, .ref q91, .ref q92, .ref q93, .ref q94, .int 0])), (q88, .inl (tc 0, 70, .inl (fun _ => 0))), (q89, .inl (tc 0, 70, .inl (fun _ => 0))), (q90, .inl (tc 0, 70, .inl (fun _ => 0))), (q91, .inl (tc 0, 70, .inl (fun _ => 0))), (q92, .inl (tc 0, 70, .inl (fun _ => 0))), (q93, .inl (tc 0, 70, .inl (fun _ => 0))), (q94, .inl (tc 0, 70, .inl (fun _ => 0))), (q96, .inl (tc 4, 2, .inr (.inr (.inr (.inr (va_up (va_up (fun _ => none) (0 : Int32).toNatClampNeg (some q98)) (1 : Int32).toNatClampNeg (some q101))))))), (q97, .inl (tc 1, 70, .inr (.inl (fun _ => 0)))), (q95, .inl (tc 0, 8, .inl (upd (upd (upd (upd (upd (upd (upd (upd (fun _ => 0) (0 : Int32).toNatClampNeg (-1)) (1 : Int32).toNatClampNeg (-1)) (2 : Int32).toNatClampNeg (-1)) (3 : Int32).toNatClampNeg (-1)) (4 : Int32).toNatClampNeg (-1)) (5 : Int32).toNatClampNeg (-1)) (6 : Int32).toNatClampNeg (-1)) (7 : Int32).toNatClampNeg (-1)))), (q98, .inr (4, [.ref q99, .ref q100, .int 0])), (q99, .inl (tc 0, 5, .inl (fun _ => 0))), (q100, .inl (tc 0, 5, .inl (fun _ => 0))), (q101, .inr (4, [.ref q102, .ref q103, .int 0])), (q102, .inl (tc 0, 5, .inl (fun _ => 0))), (q103, .inl (tc 0, 5, .inl (fun _ => 0))), (q104, .inl (tc 3, 6, .inr (.inr (.inr (.inr (va_up (va_up (va_up (va_up (va_up (va_up (fun _ => none) (0 : Int32).toNatClampNeg (some q105)) (1 : Int32).toNatClampNeg (some q107)) (2 : Int32).toNatClampNeg (some q109)) (3 : Int32).toNatClampNeg (some q111)) (4 : Int32).toNatClampNeg (some q113)) (5 : Int32).toNatClampNeg (some q115))))))), (q105, .inr (1, [.ref q106, .long 0, .long 0, .int 0])), (q106, .inl (tc 0, 8, .inl (fun _ => 0))), (q107, .inr (1, [.ref q108, .long 0, .long 0, .int 0])), (q108, .inl (tc 0, 8, .inl (fun _ => 0))), (q109, .inr (1, [.ref q110, .long 0, .long 0, .int 0])), (q110, .inl (tc 0, 8, .inl (fun _ => 0))), (q111, .inr (1, [.ref q112, .long 0, .long 0, .int 0])), (q112, .inl (tc 0, 8, .inl (fun _ => 0))), (q113, .inr (1, [.ref q114, .long 0, .long 0, .int 0])), (q114, .inl (tc 0, 8, .inl (fun _ => 0))), (q115, .inr (1, [.ref q116, .long 0, .long 0, .int 0])), (q116, .inl (tc 0, 8, .inl (fun _ => 0))), (q117, .inr (3, [.ref q118, .ref q119, .ref q120, .int 0])), (q118, .inl (tc 1, 288, .inr (.inl (fun _ => 0)))), (q119, .inl (tc 0, 96, .inl (fun _ => 0))), (q120, .inl (tc 2, 16, .inl (fun _ => 0)))]) hP hD [0] [] rfl rfl (by decide) (by decide) hk1 hFc hP1 hD1
  generalize H1 = H at hP hS ⊢
  have hP : va_P (dC, dI) vwCl [(q85, .inr (5, [.ref q86, .ref q104, .ref q117])), (q86, .inr (2, [.ref q87, .ref q95, .ref q96, .ref q97])), (q87, .inr (0, [.ref q88, .ref q89, .ref q90, .ref q91, .ref q92, .ref q93, .ref q94, .int 0])), (q88, .inl (tc 0, 70, .inl (fun _ => 0))), (q89, .inl (tc 0, 70, .inl (fun _ => 0))), (q90, .inl (tc 0, 70, .inl (fun _ => 0))), (q91, .inl (tc 0, 70, .inl (fun _ => 0))), (q92, .inl (tc 0, 70, .inl (fun _ => 0))), (q93, .inl (tc 0, 70, .inl (fun _ => 0))), (q94, .inl (tc 0, 70, .inl (fun _ => 0))), (q96, .inl (tc 4, 2, .inr (.inr (.inr (.inr (va_up (va_up (fun _ => none) (0 : Int32).toNatClampNeg (some q98)) (1 : Int32).toNatClampNeg (some q101))))))), (q97, .inl (tc 1, 70, .inr (.inl (fun _ => 0)))), (q95, .inl (tc 0, 8, .inl (upd (upd (upd (upd (upd (upd (upd (upd (fun _ => 0) (0 : Int32).toNatClampNeg (-1)) (1 : Int32).toNatClampNeg (-1)) (2 : Int32).toNatClampNeg (-1)) (3 : Int32).toNatClampNeg (-1)) (4 : Int32).toNatClampNeg (-1)) (5 : Int32).toNatClampNeg (-1)) (6 : Int32).toNatClampNeg (-1)) (7 : Int32).toNatClampNeg (-1)))), (q98, .inr (4, [.ref q99, .ref q100, .int 0])), (q99, .inl (tc 0, 5, .inl (fun _ => 0))), (q100, .inl (tc 0, 5, .inl (fun _ => 0))), (q101, .inr (4, [.ref q102, .ref q103, .int 0])), (q102, .inl (tc 0, 5, .inl (fun _ => 0))), (q103, .inl (tc 0, 5, .inl (fun _ => 0))), (q104, .inl (tc 3, 6, .inr (.inr (.inr (.inr (va_up (va_up (va_up (va_up (va_up (va_up (fun _ => none) (0 : Int32).toNatClampNeg (some q105)) (1 : Int32).toNatClampNeg (some q107)) (2 : Int32).toNatClampNeg (some q109)) (3 : Int32).toNatClampNeg (some q111)) (4 : Int32).toNatClampNeg (some q113)) (5 : Int32).toNatClampNeg (some q115))))))), (q105, .inr (1, [.ref q106, .long 0, .long 0, .int 0])), (q106, .inl (tc 0, 8, .inl (fun _ => 0))), (q107, .inr (1, [.ref q108, .long 0, .long 0, .int 0])), (q108, .inl (tc 0, 8, .inl (fun _ => 0))), (q109, .inr (1, [.ref q110, .long 0, .long 0, .int 0])), (q110, .inl (tc 0, 8, .inl (fun _ => 0))), (q111, .inr (1, [.ref q112, .long 0, .long 0, .int 0])), (q112, .inl (tc 0, 8, .inl (fun _ => 0))), (q113, .inr (1, [.ref q114, .long 0, .long 0, .int 0])), (q114, .inl (tc 0, 8, .inl (fun _ => 0))), (q115, .inr (1, [.ref q116, .long 0, .long 0, .int 0])), (q116, .inl (tc 0, 8, .inl (fun _ => 0))), (q117, .inr (3, [.ref q118, .ref q119, .ref q120, .int 0])), (q118, .inl (tc 1, 288, .inr (.inl (fun _ => 0)))), (q119, .inl (tc 0, 96, .inl (fun _ => 0))), (q120, .inl (tc 2, 16, .inl (fun _ => 0)))] H := hP
  have hD : va_D (fun q : Nat => s.heap.size ≤ q) [(q85, .inr (5, [.ref q86, .ref q104, .ref q117])), (q86, .inr (2, [.ref q87, .ref q95, .ref q96, .ref q97])), (q87, .inr (0, [.ref q88, .ref q89, .ref q90, .ref q91, .ref q92, .ref q93, .ref q94, .int 0])), (q88, .inl (tc 0, 70, .inl (fun _ => 0))), (q89, .inl (tc 0, 70, .inl (fun _ => 0))), (q90, .inl (tc 0, 70, .inl (fun _ => 0))), (q91, .inl (tc 0, 70, .inl (fun _ => 0))), (q92, .inl (tc 0, 70, .inl (fun _ => 0))), (q93, .inl (tc 0, 70, .inl (fun _ => 0))), (q94, .inl (tc 0, 70, .inl (fun _ => 0))), (q96, .inl (tc 4, 2, .inr (.inr (.inr (.inr (va_up (va_up (fun _ => none) (0 : Int32).toNatClampNeg (some q98)) (1 : Int32).toNatClampNeg (some q101))))))), (q97, .inl (tc 1, 70, .inr (.inl (fun _ => 0)))), (q95, .inl (tc 0, 8, .inl (upd (upd (upd (upd (upd (upd (upd (upd (fun _ => 0) (0 : Int32).toNatClampNeg (-1)) (1 : Int32).toNatClampNeg (-1)) (2 : Int32).toNatClampNeg (-1)) (3 : Int32).toNatClampNeg (-1)) (4 : Int32).toNatClampNeg (-1)) (5 : Int32).toNatClampNeg (-1)) (6 : Int32).toNatClampNeg (-1)) (7 : Int32).toNatClampNeg (-1)))), (q98, .inr (4, [.ref q99, .ref q100, .int 0])), (q99, .inl (tc 0, 5, .inl (fun _ => 0))), (q100, .inl (tc 0, 5, .inl (fun _ => 0))), (q101, .inr (4, [.ref q102, .ref q103, .int 0])), (q102, .inl (tc 0, 5, .inl (fun _ => 0))), (q103, .inl (tc 0, 5, .inl (fun _ => 0))), (q104, .inl (tc 3, 6, .inr (.inr (.inr (.inr (va_up (va_up (va_up (va_up (va_up (va_up (fun _ => none) (0 : Int32).toNatClampNeg (some q105)) (1 : Int32).toNatClampNeg (some q107)) (2 : Int32).toNatClampNeg (some q109)) (3 : Int32).toNatClampNeg (some q111)) (4 : Int32).toNatClampNeg (some q113)) (5 : Int32).toNatClampNeg (some q115))))))), (q105, .inr (1, [.ref q106, .long 0, .long 0, .int 0])), (q106, .inl (tc 0, 8, .inl (fun _ => 0))), (q107, .inr (1, [.ref q108, .long 0, .long 0, .int 0])), (q108, .inl (tc 0, 8, .inl (fun _ => 0))), (q109, .inr (1, [.ref q110, .long 0, .long 0, .int 0])), (q110, .inl (tc 0, 8, .inl (fun _ => 0))), (q111, .inr (1, [.ref q112, .long 0, .long 0, .int 0])), (q112, .inl (tc 0, 8, .inl (fun _ => 0))), (q113, .inr (1, [.ref q114, .long 0, .long 0, .int 0])), (q114, .inl (tc 0, 8, .inl (fun _ => 0))), (q115, .inr (1, [.ref q116, .long 0, .long 0, .int 0])), (q116, .inl (tc 0, 8, .inl (fun _ => 0))), (q117, .inr (3, [.ref q118, .ref q119, .ref q120, .int 0])), (q118, .inl (tc 1, 288, .inr (.inl (fun _ => 0)))), (q119, .inl (tc 0, 96, .inl (fun _ => 0))), (q120, .inl (tc 2, 16, .inl (fun _ => 0)))] := hD
  refine W.widen (k := 36) (n := 1093) (by omega) (by omega) ?_
  refine lv_astore_n (lv' := [(1, .ref q85), (0, .ref b)]) hx hb d_L_law_7 rfl hl (by decide) rfl (fun ls hl => ?_)
  refine va_new (ci := 6) (fs := [.int 0, .int 0, .null, .null, .null, .null, .null, .null, .null, .null, .null, .null, .null, .null, .null, .null, .null, .null, .null, .null, .null]) (C := RX7) (T := TX7) (N := 21) hx hb hg in_X7 tyX7 tyX7_ok hown (hg _ k_439) (hg _ k_440) (hg _ k_223) hK hP hD hS hA rfl (fun j hj => by rcases (show j = 0 ∨ j = 1 ∨ j = 2 ∨ j = 3 ∨ j = 4 ∨ j = 5 ∨ j = 6 ∨ j = 7 ∨ j = 8 ∨ j = 9 ∨ j = 10 ∨ j = 11 ∨ j = 12 ∨ j = 13 ∨ j = 14 ∨ j = 15 ∨ j = 16 ∨ j = 17 ∨ j = 18 ∨ j = 19 ∨ j = 20 by omega) with rfl | rfl | rfl | rfl | rfl | rfl | rfl | rfl | rfl | rfl | rfl | rfl | rfl | rfl | rfl | rfl | rfl | rfl | rfl | rfl | rfl <;> rfl) (Nat.le_of_ble_eq_true rfl) (Nat.le_of_ble_eq_true rfl) d_L_law_8 (fun q121 H hP hD hS => ?_)
  have hP : va_P (dC, dI) vwCl [(q85, .inr (5, [.ref q86, .ref q104, .ref q117])), (q86, .inr (2, [.ref q87, .ref q95, .ref q96, .ref q97])), (q87, .inr (0, [.ref q88, .ref q89, .ref q90, .ref q91, .ref q92, .ref q93, .ref q94, .int 0])), (q88, .inl (tc 0, 70, .inl (fun _ => 0))), (q89, .inl (tc 0, 70, .inl (fun _ => 0))), (q90, .inl (tc 0, 70, .inl (fun _ => 0))), (q91, .inl (tc 0, 70, .inl (fun _ => 0))), (q92, .inl (tc 0, 70, .inl (fun _ => 0))), (q93, .inl (tc 0, 70, .inl (fun _ => 0))), (q94, .inl (tc 0, 70, .inl (fun _ => 0))), (q96, .inl (tc 4, 2, .inr (.inr (.inr (.inr (va_up (va_up (fun _ => none) (0 : Int32).toNatClampNeg (some q98)) (1 : Int32).toNatClampNeg (some q101))))))), (q97, .inl (tc 1, 70, .inr (.inl (fun _ => 0)))), (q95, .inl (tc 0, 8, .inl (upd (upd (upd (upd (upd (upd (upd (upd (fun _ => 0) (0 : Int32).toNatClampNeg (-1)) (1 : Int32).toNatClampNeg (-1)) (2 : Int32).toNatClampNeg (-1)) (3 : Int32).toNatClampNeg (-1)) (4 : Int32).toNatClampNeg (-1)) (5 : Int32).toNatClampNeg (-1)) (6 : Int32).toNatClampNeg (-1)) (7 : Int32).toNatClampNeg (-1)))), (q98, .inr (4, [.ref q99, .ref q100, .int 0])), (q99, .inl (tc 0, 5, .inl (fun _ => 0))), (q100, .inl (tc 0, 5, .inl (fun _ => 0))), (q101, .inr (4, [.ref q102, .ref q103, .int 0])), (q102, .inl (tc 0, 5, .inl (fun _ => 0))), (q103, .inl (tc 0, 5, .inl (fun _ => 0))), (q104, .inl (tc 3, 6, .inr (.inr (.inr (.inr (va_up (va_up (va_up (va_up (va_up (va_up (fun _ => none) (0 : Int32).toNatClampNeg (some q105)) (1 : Int32).toNatClampNeg (some q107)) (2 : Int32).toNatClampNeg (some q109)) (3 : Int32).toNatClampNeg (some q111)) (4 : Int32).toNatClampNeg (some q113)) (5 : Int32).toNatClampNeg (some q115))))))), (q105, .inr (1, [.ref q106, .long 0, .long 0, .int 0])), (q106, .inl (tc 0, 8, .inl (fun _ => 0))), (q107, .inr (1, [.ref q108, .long 0, .long 0, .int 0])), (q108, .inl (tc 0, 8, .inl (fun _ => 0))), (q109, .inr (1, [.ref q110, .long 0, .long 0, .int 0])), (q110, .inl (tc 0, 8, .inl (fun _ => 0))), (q111, .inr (1, [.ref q112, .long 0, .long 0, .int 0])), (q112, .inl (tc 0, 8, .inl (fun _ => 0))), (q113, .inr (1, [.ref q114, .long 0, .long 0, .int 0])), (q114, .inl (tc 0, 8, .inl (fun _ => 0))), (q115, .inr (1, [.ref q116, .long 0, .long 0, .int 0])), (q116, .inl (tc 0, 8, .inl (fun _ => 0))), (q117, .inr (3, [.ref q118, .ref q119, .ref q120, .int 0])), (q118, .inl (tc 1, 288, .inr (.inl (fun _ => 0)))), (q119, .inl (tc 0, 96, .inl (fun _ => 0))), (q120, .inl (tc 2, 16, .inl (fun _ => 0))), (q121, .inr (6, [.int 0, .int 0, .null, .null, .null, .null, .null, .null, .null, .null, .null, .null, .null, .null, .null, .null, .null, .null, .null, .null, .null]))] H := hP
  have hD : va_D (fun q : Nat => s.heap.size ≤ q) [(q85, .inr (5, [.ref q86, .ref q104, .ref q117])), (q86, .inr (2, [.ref q87, .ref q95, .ref q96, .ref q97])), (q87, .inr (0, [.ref q88, .ref q89, .ref q90, .ref q91, .ref q92, .ref q93, .ref q94, .int 0])), (q88, .inl (tc 0, 70, .inl (fun _ => 0))), (q89, .inl (tc 0, 70, .inl (fun _ => 0))), (q90, .inl (tc 0, 70, .inl (fun _ => 0))), (q91, .inl (tc 0, 70, .inl (fun _ => 0))), (q92, .inl (tc 0, 70, .inl (fun _ => 0))), (q93, .inl (tc 0, 70, .inl (fun _ => 0))), (q94, .inl (tc 0, 70, .inl (fun _ => 0))), (q96, .inl (tc 4, 2, .inr (.inr (.inr (.inr (va_up (va_up (fun _ => none) (0 : Int32).toNatClampNeg (some q98)) (1 : Int32).toNatClampNeg (some q101))))))), (q97, .inl (tc 1, 70, .inr (.inl (fun _ => 0)))), (q95, .inl (tc 0, 8, .inl (upd (upd (upd (upd (upd (upd (upd (upd (fun _ => 0) (0 : Int32).toNatClampNeg (-1)) (1 : Int32).toNatClampNeg (-1)) (2 : Int32).toNatClampNeg (-1)) (3 : Int32).toNatClampNeg (-1)) (4 : Int32).toNatClampNeg (-1)) (5 : Int32).toNatClampNeg (-1)) (6 : Int32).toNatClampNeg (-1)) (7 : Int32).toNatClampNeg (-1)))), (q98, .inr (4, [.ref q99, .ref q100, .int 0])), (q99, .inl (tc 0, 5, .inl (fun _ => 0))), (q100, .inl (tc 0, 5, .inl (fun _ => 0))), (q101, .inr (4, [.ref q102, .ref q103, .int 0])), (q102, .inl (tc 0, 5, .inl (fun _ => 0))), (q103, .inl (tc 0, 5, .inl (fun _ => 0))), (q104, .inl (tc 3, 6, .inr (.inr (.inr (.inr (va_up (va_up (va_up (va_up (va_up (va_up (fun _ => none) (0 : Int32).toNatClampNeg (some q105)) (1 : Int32).toNatClampNeg (some q107)) (2 : Int32).toNatClampNeg (some q109)) (3 : Int32).toNatClampNeg (some q111)) (4 : Int32).toNatClampNeg (some q113)) (5 : Int32).toNatClampNeg (some q115))))))), (q105, .inr (1, [.ref q106, .long 0, .long 0, .int 0])), (q106, .inl (tc 0, 8, .inl (fun _ => 0))), (q107, .inr (1, [.ref q108, .long 0, .long 0, .int 0])), (q108, .inl (tc 0, 8, .inl (fun _ => 0))), (q109, .inr (1, [.ref q110, .long 0, .long 0, .int 0])), (q110, .inl (tc 0, 8, .inl (fun _ => 0))), (q111, .inr (1, [.ref q112, .long 0, .long 0, .int 0])), (q112, .inl (tc 0, 8, .inl (fun _ => 0))), (q113, .inr (1, [.ref q114, .long 0, .long 0, .int 0])), (q114, .inl (tc 0, 8, .inl (fun _ => 0))), (q115, .inr (1, [.ref q116, .long 0, .long 0, .int 0])), (q116, .inl (tc 0, 8, .inl (fun _ => 0))), (q117, .inr (3, [.ref q118, .ref q119, .ref q120, .int 0])), (q118, .inl (tc 1, 288, .inr (.inl (fun _ => 0)))), (q119, .inl (tc 0, 96, .inl (fun _ => 0))), (q120, .inl (tc 2, 16, .inl (fun _ => 0))), (q121, .inr (6, [.int 0, .int 0, .null, .null, .null, .null, .null, .null, .null, .null, .null, .null, .null, .null, .null, .null, .null, .null, .null, .null, .null]))] := hD
  refine W.widen (k := 37) (n := 1114) (by omega) (by omega) ?_
  refine lv_dup hx hb d_L_law_11 rfl ?_
  have hPc := hP.sub (ws' := [(q121, .inr (6, [.int 0, .int 0, .null, .null, .null, .null, .null, .null, .null, .null, .null, .null, .null, .null, .null, .null, .null, .null, .null, .null, .null]))]) [36] rfl
  have hDc := hD.sub (ws' := [(q121, .inr (6, [.int 0, .int 0, .null, .null, .null, .null, .null, .null, .null, .null, .null, .null, .null, .null, .null, .null, .null, .null, .null, .null, .null]))]) [36] (by decide) rfl
  have hFc := va_free (wc := [(q121, .inr (6, [.int 0, .int 0, .null, .null, .null, .null, .null, .null, .null, .null, .null, .null, .null, .null, .null, .null, .null, .null, .null, .null, .null]))]) hD hS hA [36] rfl
  refine va_callv (va_runI (As := []) (rest := [.ref q121]) ⟨hx, hb, hml, hown, hg⟩ (mt_X7_init l dC dI tc q121 H.size ) (cwI 0 hg (mm_g1 kc_X7_init mm_GW_self) rfl rfl rfl (hg _ k_223) (hg _ k_441) (hg _ k_442) rfl (by decide +kernel) ⟨Nat.le_of_ble_eq_true rfl, Nat.le_of_ble_eq_true rfl⟩) ⟨mc_blind, fun U hU hW => ⟨rfl, by rw [hU], by rw [hU]; exact hPc, va_K.moved hW.alike hK, hDc.weaken (fun _ _ _ _ => trivial), mm_nw_warm hW hN⟩⟩ rfl rfl hl.1 rfl (lv_room (Nat.le_of_ble_eq_true rfl)) d_L_law_12 ⟨Nat.le_of_ble_eq_true rfl, Nat.le_of_ble_eq_true rfl⟩) hS (fun q _ h => hFc q h) hFc (fun u t H1 locs ht hvm hw hB hz1 hk1 hS => ?_)
  obtain ⟨q122, q123, q124, q125, q126, q127, q128, q129, q130, q131, q132, q133, q134, q135, q136, q137, q138, q139, q140, hP1, hD1⟩ := hB
  rw [ht] at hP1
  obtain ⟨hP, hD⟩ := va_join (wr := [(q85, .inr (5, [.ref q86, .ref q104, .ref q117])), (q86, .inr (2, [.ref q87, .ref q95, .ref q96, .ref q97])), (q87, .inr (0, [.ref q88, .ref q89, .ref q90, .ref q91, .ref q92, .ref q93, .ref q94, .int 0])), (q88, .inl (tc 0, 70, .inl (fun _ => 0))), (q89, .inl (tc 0, 70, .inl (fun _ => 0))), (q90, .inl (tc 0, 70, .inl (fun _ => 0))), (q91, .inl (tc 0, 70, .inl (fun _ => 0))), (q92, .inl (tc 0, 70, .inl (fun _ => 0))), (q93, .inl (tc 0, 70, .inl (fun _ => 0))), (q94, .inl (tc 0, 70, .inl (fun _ => 0))), (q96, .inl (tc 4, 2, .inr (.inr (.inr (.inr (va_up (va_up (fun _ => none) (0 : Int32).toNatClampNeg (some q98)) (1 : Int32).toNatClampNeg (some q101))))))), (q97, .inl (tc 1, 70, .inr (.inl (fun _ => 0)))), (q95, .inl (tc 0, 8, .inl (upd (upd (upd (upd (upd (upd (upd (upd (fun _ => 0) (0 : Int32).toNatClampNeg (-1)) (1 : Int32).toNatClampNeg (-1)) (2 : Int32).toNatClampNeg (-1)) (3 : Int32).toNatClampNeg (-1)) (4 : Int32).toNatClampNeg (-1)) (5 : Int32).toNatClampNeg (-1)) (6 : Int32).toNatClampNeg (-1)) (7 : Int32).toNatClampNeg (-1)))), (q98, .inr (4, [.ref q99, .ref q100, .int 0])), (q99, .inl (tc 0, 5, .inl (fun _ => 0))), (q100, .inl (tc 0, 5, .inl (fun _ => 0))), (q101, .inr (4, [.ref q102, .ref q103, .int 0])), (q102, .inl (tc 0, 5, .inl (fun _ => 0))), (q103, .inl (tc 0, 5, .inl (fun _ => 0))), (q104, .inl (tc 3, 6, .inr (.inr (.inr (.inr (va_up (va_up (va_up (va_up (va_up (va_up (fun _ => none) (0 : Int32).toNatClampNeg (some q105)) (1 : Int32).toNatClampNeg (some q107)) (2 : Int32).toNatClampNeg (some q109)) (3 : Int32).toNatClampNeg (some q111)) (4 : Int32).toNatClampNeg (some q113)) (5 : Int32).toNatClampNeg (some q115))))))), (q105, .inr (1, [.ref q106, .long 0, .long 0, .int 0])), (q106, .inl (tc 0, 8, .inl (fun _ => 0))), (q107, .inr (1, [.ref q108, .long 0, .long 0, .int 0])), (q108, .inl (tc 0, 8, .inl (fun _ => 0))), (q109, .inr (1, [.ref q110, .long 0, .long 0, .int 0])), (q110, .inl (tc 0, 8, .inl (fun _ => 0))), (q111, .inr (1, [.ref q112, .long 0, .long 0, .int 0])), (q112, .inl (tc 0, 8, .inl (fun _ => 0))), (q113, .inr (1, [.ref q114, .long 0, .long 0, .int 0])), (q114, .inl (tc 0, 8, .inl (fun _ => 0))), (q115, .inr (1, [.ref q116, .long 0, .long 0, .int 0])), (q116, .inl (tc 0, 8, .inl (fun _ => 0))), (q117, .inr (3, [.ref q118, .ref q119, .ref q120, .int 0])), (q118, .inl (tc 1, 288, .inr (.inl (fun _ => 0)))), (q119, .inl (tc 0, 96, .inl (fun _ => 0))), (q120, .inl (tc 2, 16, .inl (fun _ => 0)))]) (w1 := [(q121, .inr (6, [.int 0, .int 0, .ref q122, .ref q123, .ref q124, .ref q125, .ref q126, .ref q127, .ref q128, .ref q129, .ref q130, .ref q131, .ref q132, .ref q133, .ref q134, .ref q135, .ref q136, .ref q137, .ref q138, .ref q139, .ref q140])), (q122, .inl (tc 0, 70, .inl (fun _ => 0))), (q123, .inl (tc 0, 70, .inl (fun _ => 0))), (q124, .inl (tc 0, 70, .inl (fun _ => 0))), (q125, .inl (tc 0, 70, .inl (fun _ => 0))), (q126, .inl (tc 0, 70, .inl (fun _ => 0))), (q127, .inl (tc 0, 70, .inl (fun _ => 0))), (q128, .inl (tc 0, 8, .inl (upd (upd (upd (upd (upd (upd (upd (upd (fun _ => 0) (0 : Int32).toNatClampNeg (-1)) (1 : Int32).toNatClampNeg (-1)) (2 : Int32).toNatClampNeg (-1)) (3 : Int32).toNatClampNeg (-1)) (4 : Int32).toNatClampNeg (-1)) (5 : Int32).toNatClampNeg (-1)) (6 : Int32).toNatClampNeg (-1)) (7 : Int32).toNatClampNeg (-1)))), (q129, .inl (tc 0, 2, .inl (fun _ => 0))), (q130, .inl (tc 0, 10, .inl (fun _ => 0))), (q131, .inl (tc 0, 10, .inl (fun _ => 0))), (q132, .inl (tc 0, 48, .inl (fun _ => 0))), (q133, .inl (tc 2, 6, .inl (fun _ => 0))), (q134, .inl (tc 2, 16, .inl (fun _ => 0))), (q135, .inl (tc 2, 96, .inl (fun _ => 0))), (q136, .inl (tc 0, 96, .inl (fun _ => 0))), (q137, .inl (tc 1, 288, .inr (.inl (fun _ => 0)))), (q138, .inl (tc 1, 12, .inr (.inl (fun _ => 0)))), (q139, .inl (tc 1, 70, .inr (.inl (fun _ => 0)))), (q140, .inl (tc 1, 8, .inr (.inl (fun _ => 0))))]) hP hD [36] [0, 1, 2, 3, 4, 5, 6, 7, 8, 9, 10, 11, 12, 13, 14, 15, 16, 17, 18, 19, 20, 21, 22, 23, 24, 25, 26, 27, 28, 29, 30, 31, 32, 33, 34, 35] rfl rfl (by decide) (by decide) hk1 hFc hP1 hD1
  generalize H1 = H at hP hS ⊢
  have hP : va_P (dC, dI) vwCl [(q85, .inr (5, [.ref q86, .ref q104, .ref q117])), (q86, .inr (2, [.ref q87, .ref q95, .ref q96, .ref q97])), (q87, .inr (0, [.ref q88, .ref q89, .ref q90, .ref q91, .ref q92, .ref q93, .ref q94, .int 0])), (q88, .inl (tc 0, 70, .inl (fun _ => 0))), (q89, .inl (tc 0, 70, .inl (fun _ => 0))), (q90, .inl (tc 0, 70, .inl (fun _ => 0))), (q91, .inl (tc 0, 70, .inl (fun _ => 0))), (q92, .inl (tc 0, 70, .inl (fun _ => 0))), (q93, .inl (tc 0, 70, .inl (fun _ => 0))), (q94, .inl (tc 0, 70, .inl (fun _ => 0))), (q96, .inl (tc 4, 2, .inr (.inr (.inr (.inr (va_up (va_up (fun _ => none) (0 : Int32).toNatClampNeg (some q98)) (1 : Int32).toNatClampNeg (some q101))))))), (q97, .inl (tc 1, 70, .inr (.inl (fun _ => 0)))), (q95, .inl (tc 0, 8, .inl (upd (upd (upd (upd (upd (upd (upd (upd (fun _ => 0) (0 : Int32).toNatClampNeg (-1)) (1 : Int32).toNatClampNeg (-1)) (2 : Int32).toNatClampNeg (-1)) (3 : Int32).toNatClampNeg (-1)) (4 : Int32).toNatClampNeg (-1)) (5 : Int32).toNatClampNeg (-1)) (6 : Int32).toNatClampNeg (-1)) (7 : Int32).toNatClampNeg (-1)))), (q98, .inr (4, [.ref q99, .ref q100, .int 0])), (q99, .inl (tc 0, 5, .inl (fun _ => 0))), (q100, .inl (tc 0, 5, .inl (fun _ => 0))), (q101, .inr (4, [.ref q102, .ref q103, .int 0])), (q102, .inl (tc 0, 5, .inl (fun _ => 0))), (q103, .inl (tc 0, 5, .inl (fun _ => 0))), (q104, .inl (tc 3, 6, .inr (.inr (.inr (.inr (va_up (va_up (va_up (va_up (va_up (va_up (fun _ => none) (0 : Int32).toNatClampNeg (some q105)) (1 : Int32).toNatClampNeg (some q107)) (2 : Int32).toNatClampNeg (some q109)) (3 : Int32).toNatClampNeg (some q111)) (4 : Int32).toNatClampNeg (some q113)) (5 : Int32).toNatClampNeg (some q115))))))), (q105, .inr (1, [.ref q106, .long 0, .long 0, .int 0])), (q106, .inl (tc 0, 8, .inl (fun _ => 0))), (q107, .inr (1, [.ref q108, .long 0, .long 0, .int 0])), (q108, .inl (tc 0, 8, .inl (fun _ => 0))), (q109, .inr (1, [.ref q110, .long 0, .long 0, .int 0])), (q110, .inl (tc 0, 8, .inl (fun _ => 0))), (q111, .inr (1, [.ref q112, .long 0, .long 0, .int 0])), (q112, .inl (tc 0, 8, .inl (fun _ => 0))), (q113, .inr (1, [.ref q114, .long 0, .long 0, .int 0])), (q114, .inl (tc 0, 8, .inl (fun _ => 0))), (q115, .inr (1, [.ref q116, .long 0, .long 0, .int 0])), (q116, .inl (tc 0, 8, .inl (fun _ => 0))), (q117, .inr (3, [.ref q118, .ref q119, .ref q120, .int 0])), (q118, .inl (tc 1, 288, .inr (.inl (fun _ => 0)))), (q119, .inl (tc 0, 96, .inl (fun _ => 0))), (q120, .inl (tc 2, 16, .inl (fun _ => 0))), (q121, .inr (6, [.int 0, .int 0, .ref q122, .ref q123, .ref q124, .ref q125, .ref q126, .ref q127, .ref q128, .ref q129, .ref q130, .ref q131, .ref q132, .ref q133, .ref q134, .ref q135, .ref q136, .ref q137, .ref q138, .ref q139, .ref q140])), (q122, .inl (tc 0, 70, .inl (fun _ => 0))), (q123, .inl (tc 0, 70, .inl (fun _ => 0))), (q124, .inl (tc 0, 70, .inl (fun _ => 0))), (q125, .inl (tc 0, 70, .inl (fun _ => 0))), (q126, .inl (tc 0, 70, .inl (fun _ => 0))), (q127, .inl (tc 0, 70, .inl (fun _ => 0))), (q128, .inl (tc 0, 8, .inl (upd (upd (upd (upd (upd (upd (upd (upd (fun _ => 0) (0 : Int32).toNatClampNeg (-1)) (1 : Int32).toNatClampNeg (-1)) (2 : Int32).toNatClampNeg (-1)) (3 : Int32).toNatClampNeg (-1)) (4 : Int32).toNatClampNeg (-1)) (5 : Int32).toNatClampNeg (-1)) (6 : Int32).toNatClampNeg (-1)) (7 : Int32).toNatClampNeg (-1)))), (q129, .inl (tc 0, 2, .inl (fun _ => 0))), (q130, .inl (tc 0, 10, .inl (fun _ => 0))), (q131, .inl (tc 0, 10, .inl (fun _ => 0))), (q132, .inl (tc 0, 48, .inl (fun _ => 0))), (q133, .inl (tc 2, 6, .inl (fun _ => 0))), (q134, .inl (tc 2, 16, .inl (fun _ => 0))), (q135, .inl (tc 2, 96, .inl (fun _ => 0))), (q136, .inl (tc 0, 96, .inl (fun _ => 0))), (q137, .inl (tc 1, 288, .inr (.inl (fun _ => 0)))), (q138, .inl (tc 1, 12, .inr (.inl (fun _ => 0)))), (q139, .inl (tc 1, 70, .inr (.inl (fun _ => 0)))), (q140, .inl (tc 1, 8, .inr (.inl (fun _ => 0))))] H := hP
  have hD : va_D (fun q : Nat => s.heap.size ≤ q) [(q85, .inr (5, [.ref q86, .ref q104, .ref q117])), (q86, .inr (2, [.ref q87, .ref q95, .ref q96, .ref q97])), (q87, .inr (0, [.ref q88, .ref q89, .ref q90, .ref q91, .ref q92, .ref q93, .ref q94, .int 0])), (q88, .inl (tc 0, 70, .inl (fun _ => 0))), (q89, .inl (tc 0, 70, .inl (fun _ => 0))), (q90, .inl (tc 0, 70, .inl (fun _ => 0))), (q91, .inl (tc 0, 70, .inl (fun _ => 0))), (q92, .inl (tc 0, 70, .inl (fun _ => 0))), (q93, .inl (tc 0, 70, .inl (fun _ => 0))), (q94, .inl (tc 0, 70, .inl (fun _ => 0))), (q96, .inl (tc 4, 2, .inr (.inr (.inr (.inr (va_up (va_up (fun _ => none) (0 : Int32).toNatClampNeg (some q98)) (1 : Int32).toNatClampNeg (some q101))))))), (q97, .inl (tc 1, 70, .inr (.inl (fun _ => 0)))), (q95, .inl (tc 0, 8, .inl (upd (upd (upd (upd (upd (upd (upd (upd (fun _ => 0) (0 : Int32).toNatClampNeg (-1)) (1 : Int32).toNatClampNeg (-1)) (2 : Int32).toNatClampNeg (-1)) (3 : Int32).toNatClampNeg (-1)) (4 : Int32).toNatClampNeg (-1)) (5 : Int32).toNatClampNeg (-1)) (6 : Int32).toNatClampNeg (-1)) (7 : Int32).toNatClampNeg (-1)))), (q98, .inr (4, [.ref q99, .ref q100, .int 0])), (q99, .inl (tc 0, 5, .inl (fun _ => 0))), (q100, .inl (tc 0, 5, .inl (fun _ => 0))), (q101, .inr (4, [.ref q102, .ref q103, .int 0])), (q102, .inl (tc 0, 5, .inl (fun _ => 0))), (q103, .inl (tc 0, 5, .inl (fun _ => 0))), (q104, .inl (tc 3, 6, .inr (.inr (.inr (.inr (va_up (va_up (va_up (va_up (va_up (va_up (fun _ => none) (0 : Int32).toNatClampNeg (some q105)) (1 : Int32).toNatClampNeg (some q107)) (2 : Int32).toNatClampNeg (some q109)) (3 : Int32).toNatClampNeg (some q111)) (4 : Int32).toNatClampNeg (some q113)) (5 : Int32).toNatClampNeg (some q115))))))), (q105, .inr (1, [.ref q106, .long 0, .long 0, .int 0])), (q106, .inl (tc 0, 8, .inl (fun _ => 0))), (q107, .inr (1, [.ref q108, .long 0, .long 0, .int 0])), (q108, .inl (tc 0, 8, .inl (fun _ => 0))), (q109, .inr (1, [.ref q110, .long 0, .long 0, .int 0])), (q110, .inl (tc 0, 8, .inl (fun _ => 0))), (q111, .inr (1, [.ref q112, .long 0, .long 0, .int 0])), (q112, .inl (tc 0, 8, .inl (fun _ => 0))), (q113, .inr (1, [.ref q114, .long 0, .long 0, .int 0])), (q114, .inl (tc 0, 8, .inl (fun _ => 0))), (q115, .inr (1, [.ref q116, .long 0, .long 0, .int 0])), (q116, .inl (tc 0, 8, .inl (fun _ => 0))), (q117, .inr (3, [.ref q118, .ref q119, .ref q120, .int 0])), (q118, .inl (tc 1, 288, .inr (.inl (fun _ => 0)))), (q119, .inl (tc 0, 96, .inl (fun _ => 0))), (q120, .inl (tc 2, 16, .inl (fun _ => 0))), (q121, .inr (6, [.int 0, .int 0, .ref q122, .ref q123, .ref q124, .ref q125, .ref q126, .ref q127, .ref q128, .ref q129, .ref q130, .ref q131, .ref q132, .ref q133, .ref q134, .ref q135, .ref q136, .ref q137, .ref q138, .ref q139, .ref q140])), (q122, .inl (tc 0, 70, .inl (fun _ => 0))), (q123, .inl (tc 0, 70, .inl (fun _ => 0))), (q124, .inl (tc 0, 70, .inl (fun _ => 0))), (q125, .inl (tc 0, 70, .inl (fun _ => 0))), (q126, .inl (tc 0, 70, .inl (fun _ => 0))), (q127, .inl (tc 0, 70, .inl (fun _ => 0))), (q128, .inl (tc 0, 8, .inl (upd (upd (upd (upd (upd (upd (upd (upd (fun _ => 0) (0 : Int32).toNatClampNeg (-1)) (1 : Int32).toNatClampNeg (-1)) (2 : Int32).toNatClampNeg (-1)) (3 : Int32).toNatClampNeg (-1)) (4 : Int32).toNatClampNeg (-1)) (5 : Int32).toNatClampNeg (-1)) (6 : Int32).toNatClampNeg (-1)) (7 : Int32).toNatClampNeg (-1)))), (q129, .inl (tc 0, 2, .inl (fun _ => 0))), (q130, .inl (tc 0, 10, .inl (fun _ => 0))), (q131, .inl (tc 0, 10, .inl (fun _ => 0))), (q132, .inl (tc 0, 48, .inl (fun _ => 0))), (q133, .inl (tc 2, 6, .inl (fun _ => 0))), (q134, .inl (tc 2, 16, .inl (fun _ => 0))), (q135, .inl (tc 2, 96, .inl (fun _ => 0))), (q136, .inl (tc 0, 96, .inl (fun _ => 0))), (q137, .inl (tc 1, 288, .inr (.inl (fun _ => 0)))), (q138, .inl (tc 1, 12, .inr (.inl (fun _ => 0)))), (q139, .inl (tc 1, 70, .inr (.inl (fun _ => 0)))), (q140, .inl (tc 1, 8, .inr (.inl (fun _ => 0))))] := hD
  refine W.widen (k := 56) (n := 2204) (by omega) (by omega) ?_
  refine lv_astore_n (lv' := [(2, .ref q121), (1, .ref q85), (0, .ref b)]) hx hb d_L_law_15 rfl hl (by decide) rfl (fun ls hl => ?_)
  refine lv_iconst (v := 0) hx hb d_L_law_16 (by decide) ?_
  refine lv_istore_n (lv' := [(3, .int 0), (2, .ref q121), (1, .ref q85), (0, .ref b)]) hx hb d_L_law_17 rfl hl (by decide) rfl (fun ls hl => ?_)
  obtain ⟨ad, had⟩ : ∃ ad : Nat → Nat, ∀ t : Nat, ad t = ([q85, q86, q87, q88, q89, q90, q91, q92, q93, q94, q95, q96, q97, q104, q117, q118, q119, q120, q98, q101, q99, q102, q100, q103, q105, q107, q109, q111, q113, q115, q106, q108, q110, q112, q114, q116, q121, q122, q123, q124, q125, q126, q127, q128, q129, q130, q131, q132, q133, q134, q135, q136, q137, q138, q139, q140] : List Nat).getD t 0 := ⟨_, fun _ => rfl⟩
  have a_0 : ad 0 = q85 := had 0
  have a_1 : ad 1 = q86 := had 1
  have a_2 : ad 2 = q87 := had 2
  have a_3 : ad 3 = q88 := had 3
  have a_4 : ad 4 = q89 := had 4
  have a_5 : ad 5 = q90 := had 5
  have a_6 : ad 6 = q91 := had 6
  have a_7 : ad 7 = q92 := had 7
  have a_8 : ad 8 = q93 := had 8
  have a_9 : ad 9 = q94 := had 9
  have a_10 : ad 10 = q95 := had 10
  have a_11 : ad 11 = q96 := had 11
  have a_12 : ad 12 = q97 := had 12
  have a_13 : ad 13 = q104 := had 13
  have a_14 : ad 14 = q117 := had 14
  have a_15 : ad 15 = q118 := had 15
  have a_16 : ad 16 = q119 := had 16
  have a_17 : ad 17 = q120 := had 17
  have a_18 : ad 18 = q98 := had 18
  have a_19 : ad 19 = q101 := had 19
  have a_20 : ad 20 = q99 := had 20
  have a_21 : ad 21 = q102 := had 21
  have a_22 : ad 22 = q100 := had 22
  have a_23 : ad 23 = q103 := had 23
  have a_24 : ad 24 = q105 := had 24
  have a_25 : ad 25 = q107 := had 25
  have a_26 : ad 26 = q109 := had 26
  have a_27 : ad 27 = q111 := had 27
  have a_28 : ad 28 = q113 := had 28
  have a_29 : ad 29 = q115 := had 29
  have a_30 : ad 30 = q106 := had 30
  have a_31 : ad 31 = q108 := had 31
  have a_32 : ad 32 = q110 := had 32
  have a_33 : ad 33 = q112 := had 33
  have a_34 : ad 34 = q114 := had 34
  have a_35 : ad 35 = q116 := had 35
  have a_36 : ad 36 = q121 := had 36
  have a_37 : ad 37 = q122 := had 37
  have a_38 : ad 38 = q123 := had 38
  have a_39 : ad 39 = q124 := had 39
  have a_40 : ad 40 = q125 := had 40
  have a_41 : ad 41 = q126 := had 41
  have a_42 : ad 42 = q127 := had 42
  have a_43 : ad 43 = q128 := had 43
  have a_44 : ad 44 = q129 := had 44
  have a_45 : ad 45 = q130 := had 45
  have a_46 : ad 46 = q131 := had 46
  have a_47 : ad 47 = q132 := had 47
  have a_48 : ad 48 = q133 := had 48
  have a_49 : ad 49 = q134 := had 49
  have a_50 : ad 50 = q135 := had 50
  have a_51 : ad 51 = q136 := had 51
  have a_52 : ad 52 = q137 := had 52
  have a_53 : ad 53 = q138 := had 53
  have a_54 : ad 54 = q139 := had 54
  have a_55 : ad 55 = q140 := had 55
  have hQ := mm_P_q hP hD 10 (fun j => (some (18 + j)).map ad) rfl (fun j hj => by
    obtain rfl | rfl : j = 0 ∨ j = 1 := by omega
    · simp [va_up, mm_c0, mm_c1, mm_c2, mm_c3, mm_c4, mm_c5, a_18]
    · simp [va_up, mm_c0, mm_c1, mm_c2, mm_c3, mm_c4, mm_c5, a_19]
    )
  have hP : va_P (dC, dI) vwCl [(q85, .inr (5, [.ref q86, .ref q104, .ref q117])), (q86, .inr (2, [.ref q87, .ref q95, .ref q96, .ref q97])), (q87, .inr (0, [.ref q88, .ref q89, .ref q90, .ref q91, .ref q92, .ref q93, .ref q94, .int 0])), (q88, .inl (tc 0, 70, .inl (fun _ => 0))), (q89, .inl (tc 0, 70, .inl (fun _ => 0))), (q90, .inl (tc 0, 70, .inl (fun _ => 0))), (q91, .inl (tc 0, 70, .inl (fun _ => 0))), (q92, .inl (tc 0, 70, .inl (fun _ => 0))), (q93, .inl (tc 0, 70, .inl (fun _ => 0))), (q94, .inl (tc 0, 70, .inl (fun _ => 0))), (q96, .inl (tc 4, 2, .inr (.inr (.inr (.inr (fun j => (some (18 + j)).map ad)))))), (q97, .inl (tc 1, 70, .inr (.inl (fun _ => 0)))), (q95, .inl (tc 0, 8, .inl (upd (upd (upd (upd (upd (upd (upd (upd (fun _ => 0) (0 : Int32).toNatClampNeg (-1)) (1 : Int32).toNatClampNeg (-1)) (2 : Int32).toNatClampNeg (-1)) (3 : Int32).toNatClampNeg (-1)) (4 : Int32).toNatClampNeg (-1)) (5 : Int32).toNatClampNeg (-1)) (6 : Int32).toNatClampNeg (-1)) (7 : Int32).toNatClampNeg (-1)))), (q98, .inr (4, [.ref q99, .ref q100, .int 0])), (q99, .inl (tc 0, 5, .inl (fun _ => 0))), (q100, .inl (tc 0, 5, .inl (fun _ => 0))), (q101, .inr (4, [.ref q102, .ref q103, .int 0])), (q102, .inl (tc 0, 5, .inl (fun _ => 0))), (q103, .inl (tc 0, 5, .inl (fun _ => 0))), (q104, .inl (tc 3, 6, .inr (.inr (.inr (.inr (va_up (va_up (va_up (va_up (va_up (va_up (fun _ => none) (0 : Int32).toNatClampNeg (some q105)) (1 : Int32).toNatClampNeg (some q107)) (2 : Int32).toNatClampNeg (some q109)) (3 : Int32).toNatClampNeg (some q111)) (4 : Int32).toNatClampNeg (some q113)) (5 : Int32).toNatClampNeg (some q115))))))), (q105, .inr (1, [.ref q106, .long 0, .long 0, .int 0])), (q106, .inl (tc 0, 8, .inl (fun _ => 0))), (q107, .inr (1, [.ref q108, .long 0, .long 0, .int 0])), (q108, .inl (tc 0, 8, .inl (fun _ => 0))), (q109, .inr (1, [.ref q110, .long 0, .long 0, .int 0])), (q110, .inl (tc 0, 8, .inl (fun _ => 0))), (q111, .inr (1, [.ref q112, .long 0, .long 0, .int 0])), (q112, .inl (tc 0, 8, .inl (fun _ => 0))), (q113, .inr (1, [.ref q114, .long 0, .long 0, .int 0])), (q114, .inl (tc 0, 8, .inl (fun _ => 0))), (q115, .inr (1, [.ref q116, .long 0, .long 0, .int 0])), (q116, .inl (tc 0, 8, .inl (fun _ => 0))), (q117, .inr (3, [.ref q118, .ref q119, .ref q120, .int 0])), (q118, .inl (tc 1, 288, .inr (.inl (fun _ => 0)))), (q119, .inl (tc 0, 96, .inl (fun _ => 0))), (q120, .inl (tc 2, 16, .inl (fun _ => 0))), (q121, .inr (6, [.int 0, .int 0, .ref q122, .ref q123, .ref q124, .ref q125, .ref q126, .ref q127, .ref q128, .ref q129, .ref q130, .ref q131, .ref q132, .ref q133, .ref q134, .ref q135, .ref q136, .ref q137, .ref q138, .ref q139, .ref q140])), (q122, .inl (tc 0, 70, .inl (fun _ => 0))), (q123, .inl (tc 0, 70, .inl (fun _ => 0))), (q124, .inl (tc 0, 70, .inl (fun _ => 0))), (q125, .inl (tc 0, 70, .inl (fun _ => 0))), (q126, .inl (tc 0, 70, .inl (fun _ => 0))), (q127, .inl (tc 0, 70, .inl (fun _ => 0))), (q128, .inl (tc 0, 8, .inl (upd (upd (upd (upd (upd (upd (upd (upd (fun _ => 0) (0 : Int32).toNatClampNeg (-1)) (1 : Int32).toNatClampNeg (-1)) (2 : Int32).toNatClampNeg (-1)) (3 : Int32).toNatClampNeg (-1)) (4 : Int32).toNatClampNeg (-1)) (5 : Int32).toNatClampNeg (-1)) (6 : Int32).toNatClampNeg (-1)) (7 : Int32).toNatClampNeg (-1)))), (q129, .inl (tc 0, 2, .inl (fun _ => 0))), (q130, .inl (tc 0, 10, .inl (fun _ => 0))), (q131, .inl (tc 0, 10, .inl (fun _ => 0))), (q132, .inl (tc 0, 48, .inl (fun _ => 0))), (q133, .inl (tc 2, 6, .inl (fun _ => 0))), (q134, .inl (tc 2, 16, .inl (fun _ => 0))), (q135, .inl (tc 2, 96, .inl (fun _ => 0))), (q136, .inl (tc 0, 96, .inl (fun _ => 0))), (q137, .inl (tc 1, 288, .inr (.inl (fun _ => 0)))), (q138, .inl (tc 1, 12, .inr (.inl (fun _ => 0)))), (q139, .inl (tc 1, 70, .inr (.inl (fun _ => 0)))), (q140, .inl (tc 1, 8, .inr (.inl (fun _ => 0))))] H := hQ
  have hR := hD.set (p := 10) (e := .inl (tc 4, 2, .inr (.inr (.inr (.inr (fun j => (some (18 + j)).map ad)))))) rfl
  have hD : va_D (fun q : Nat => s.heap.size ≤ q) [(q85, .inr (5, [.ref q86, .ref q104, .ref q117])), (q86, .inr (2, [.ref q87, .ref q95, .ref q96, .ref q97])), (q87, .inr (0, [.ref q88, .ref q89, .ref q90, .ref q91, .ref q92, .ref q93, .ref q94, .int 0])), (q88, .inl (tc 0, 70, .inl (fun _ => 0))), (q89, .inl (tc 0, 70, .inl (fun _ => 0))), (q90, .inl (tc 0, 70, .inl (fun _ => 0))), (q91, .inl (tc 0, 70, .inl (fun _ => 0))), (q92, .inl (tc 0, 70, .inl (fun _ => 0))), (q93, .inl (tc 0, 70, .inl (fun _ => 0))), (q94, .inl (tc 0, 70, .inl (fun _ => 0))), (q96, .inl (tc 4, 2, .inr (.inr (.inr (.inr (fun j => (some (18 + j)).map ad)))))), (q97, .inl (tc 1, 70, .inr (.inl (fun _ => 0)))), (q95, .inl (tc 0, 8, .inl (upd (upd (upd (upd (upd (upd (upd (upd (fun _ => 0) (0 : Int32).toNatClampNeg (-1)) (1 : Int32).toNatClampNeg (-1)) (2 : Int32).toNatClampNeg (-1)) (3 : Int32).toNatClampNeg (-1)) (4 : Int32).toNatClampNeg (-1)) (5 : Int32).toNatClampNeg (-1)) (6 : Int32).toNatClampNeg (-1)) (7 : Int32).toNatClampNeg (-1)))), (q98, .inr (4, [.ref q99, .ref q100, .int 0])), (q99, .inl (tc 0, 5, .inl (fun _ => 0))), (q100, .inl (tc 0, 5, .inl (fun _ => 0))), (q101, .inr (4, [.ref q102, .ref q103, .int 0])), (q102, .inl (tc 0, 5, .inl (fun _ => 0))), (q103, .inl (tc 0, 5, .inl (fun _ => 0))), (q104, .inl (tc 3, 6, .inr (.inr (.inr (.inr (va_up (va_up (va_up (va_up (va_up (va_up (fun _ => none) (0 : Int32).toNatClampNeg (some q105)) (1 : Int32).toNatClampNeg (some q107)) (2 : Int32).toNatClampNeg (some q109)) (3 : Int32).toNatClampNeg (some q111)) (4 : Int32).toNatClampNeg (some q113)) (5 : Int32).toNatClampNeg (some q115))))))), (q105, .inr (1, [.ref q106, .long 0, .long 0, .int 0])), (q106, .inl (tc 0, 8, .inl (fun _ => 0))), (q107, .inr (1, [.ref q108, .long 0, .long 0, .int 0])), (q108, .inl (tc 0, 8, .inl (fun _ => 0))), (q109, .inr (1, [.ref q110, .long 0, .long 0, .int 0])), (q110, .inl (tc 0, 8, .inl (fun _ => 0))), (q111, .inr (1, [.ref q112, .long 0, .long 0, .int 0])), (q112, .inl (tc 0, 8, .inl (fun _ => 0))), (q113, .inr (1, [.ref q114, .long 0, .long 0, .int 0])), (q114, .inl (tc 0, 8, .inl (fun _ => 0))), (q115, .inr (1, [.ref q116, .long 0, .long 0, .int 0])), (q116, .inl (tc 0, 8, .inl (fun _ => 0))), (q117, .inr (3, [.ref q118, .ref q119, .ref q120, .int 0])), (q118, .inl (tc 1, 288, .inr (.inl (fun _ => 0)))), (q119, .inl (tc 0, 96, .inl (fun _ => 0))), (q120, .inl (tc 2, 16, .inl (fun _ => 0))), (q121, .inr (6, [.int 0, .int 0, .ref q122, .ref q123, .ref q124, .ref q125, .ref q126, .ref q127, .ref q128, .ref q129, .ref q130, .ref q131, .ref q132, .ref q133, .ref q134, .ref q135, .ref q136, .ref q137, .ref q138, .ref q139, .ref q140])), (q122, .inl (tc 0, 70, .inl (fun _ => 0))), (q123, .inl (tc 0, 70, .inl (fun _ => 0))), (q124, .inl (tc 0, 70, .inl (fun _ => 0))), (q125, .inl (tc 0, 70, .inl (fun _ => 0))), (q126, .inl (tc 0, 70, .inl (fun _ => 0))), (q127, .inl (tc 0, 70, .inl (fun _ => 0))), (q128, .inl (tc 0, 8, .inl (upd (upd (upd (upd (upd (upd (upd (upd (fun _ => 0) (0 : Int32).toNatClampNeg (-1)) (1 : Int32).toNatClampNeg (-1)) (2 : Int32).toNatClampNeg (-1)) (3 : Int32).toNatClampNeg (-1)) (4 : Int32).toNatClampNeg (-1)) (5 : Int32).toNatClampNeg (-1)) (6 : Int32).toNatClampNeg (-1)) (7 : Int32).toNatClampNeg (-1)))), (q129, .inl (tc 0, 2, .inl (fun _ => 0))), (q130, .inl (tc 0, 10, .inl (fun _ => 0))), (q131, .inl (tc 0, 10, .inl (fun _ => 0))), (q132, .inl (tc 0, 48, .inl (fun _ => 0))), (q133, .inl (tc 2, 6, .inl (fun _ => 0))), (q134, .inl (tc 2, 16, .inl (fun _ => 0))), (q135, .inl (tc 2, 96, .inl (fun _ => 0))), (q136, .inl (tc 0, 96, .inl (fun _ => 0))), (q137, .inl (tc 1, 288, .inr (.inl (fun _ => 0)))), (q138, .inl (tc 1, 12, .inr (.inl (fun _ => 0)))), (q139, .inl (tc 1, 70, .inr (.inl (fun _ => 0)))), (q140, .inl (tc 1, 8, .inr (.inl (fun _ => 0))))] := hR
  have hQ := mm_P_q hP hD 19 (fun j => (some (24 + j)).map ad) rfl (fun j hj => by
    obtain rfl | rfl | rfl | rfl | rfl | rfl : j = 0 ∨ j = 1 ∨ j = 2 ∨ j = 3 ∨ j = 4 ∨ j = 5 := by omega
    · simp [va_up, mm_c0, mm_c1, mm_c2, mm_c3, mm_c4, mm_c5, a_24]
    · simp [va_up, mm_c0, mm_c1, mm_c2, mm_c3, mm_c4, mm_c5, a_25]
    · simp [va_up, mm_c0, mm_c1, mm_c2, mm_c3, mm_c4, mm_c5, a_26]
    · simp [va_up, mm_c0, mm_c1, mm_c2, mm_c3, mm_c4, mm_c5, a_27]
    · simp [va_up, mm_c0, mm_c1, mm_c2, mm_c3, mm_c4, mm_c5, a_28]
    · simp [va_up, mm_c0, mm_c1, mm_c2, mm_c3, mm_c4, mm_c5, a_29]
    )
  have hP : va_P (dC, dI) vwCl [(q85, .inr (5, [.ref q86, .ref q104, .ref q117])), (q86, .inr (2, [.ref q87, .ref q95, .ref q96, .ref q97])), (q87, .inr (0, [.ref q88, .ref q89, .ref q90, .ref q91, .ref q92, .ref q93, .ref q94, .int 0])), (q88, .inl (tc 0, 70, .inl (fun _ => 0))), (q89, .inl (tc 0, 70, .inl (fun _ => 0))), (q90, .inl (tc 0, 70, .inl (fun _ => 0))), (q91, .inl (tc 0, 70, .inl (fun _ => 0))), (q92, .inl (tc 0, 70, .inl (fun _ => 0))), (q93, .inl (tc 0, 70, .inl (fun _ => 0))), (q94, .inl (tc 0, 70, .inl (fun _ => 0))), (q96, .inl (tc 4, 2, .inr (.inr (.inr (.inr (fun j => (some (18 + j)).map ad)))))), (q97, .inl (tc 1, 70, .inr (.inl (fun _ => 0)))), (q95, .inl (tc 0, 8, .inl (upd (upd (upd (upd (upd (upd (upd (upd (fun _ => 0) (0 : Int32).toNatClampNeg (-1)) (1 : Int32).toNatClampNeg (-1)) (2 : Int32).toNatClampNeg (-1)) (3 : Int32).toNatClampNeg (-1)) (4 : Int32).toNatClampNeg (-1)) (5 : Int32).toNatClampNeg (-1)) (6 : Int32).toNatClampNeg (-1)) (7 : Int32).toNatClampNeg (-1)))), (q98, .inr (4, [.ref q99, .ref q100, .int 0])), (q99, .inl (tc 0, 5, .inl (fun _ => 0))), (q100, .inl (tc 0, 5, .inl (fun _ => 0))), (q101, .inr (4, [.ref q102, .ref q103, .int 0])), (q102, .inl (tc 0, 5, .inl (fun _ => 0))), (q103, .inl (tc 0, 5, .inl (fun _ => 0))), (q104, .inl (tc 3, 6, .inr (.inr (.inr (.inr (fun j => (some (24 + j)).map ad)))))), (q105, .inr (1, [.ref q106, .long 0, .long 0, .int 0])), (q106, .inl (tc 0, 8, .inl (fun _ => 0))), (q107, .inr (1, [.ref q108, .long 0, .long 0, .int 0])), (q108, .inl (tc 0, 8, .inl (fun _ => 0))), (q109, .inr (1, [.ref q110, .long 0, .long 0, .int 0])), (q110, .inl (tc 0, 8, .inl (fun _ => 0))), (q111, .inr (1, [.ref q112, .long 0, .long 0, .int 0])), (q112, .inl (tc 0, 8, .inl (fun _ => 0))), (q113, .inr (1, [.ref q114, .long 0, .long 0, .int 0])), (q114, .inl (tc 0, 8, .inl (fun _ => 0))), (q115, .inr (1, [.ref q116, .long 0, .long 0, .int 0])), (q116, .inl (tc 0, 8, .inl (fun _ => 0))), (q117, .inr (3, [.ref q118, .ref q119, .ref q120, .int 0])), (q118, .inl (tc 1, 288, .inr (.inl (fun _ => 0)))), (q119, .inl (tc 0, 96, .inl (fun _ => 0))), (q120, .inl (tc 2, 16, .inl (fun _ => 0))), (q121, .inr (6, [.int 0, .int 0, .ref q122, .ref q123, .ref q124, .ref q125, .ref q126, .ref q127, .ref q128, .ref q129, .ref q130, .ref q131, .ref q132, .ref q133, .ref q134, .ref q135, .ref q136, .ref q137, .ref q138, .ref q139, .ref q140])), (q122, .inl (tc 0, 70, .inl (fun _ => 0))), (q123, .inl (tc 0, 70, .inl (fun _ => 0))), (q124, .inl (tc 0, 70, .inl (fun _ => 0))), (q125, .inl (tc 0, 70, .inl (fun _ => 0))), (q126, .inl (tc 0, 70, .inl (fun _ => 0))), (q127, .inl (tc 0, 70, .inl (fun _ => 0))), (q128, .inl (tc 0, 8, .inl (upd (upd (upd (upd (upd (upd (upd (upd (fun _ => 0) (0 : Int32).toNatClampNeg (-1)) (1 : Int32).toNatClampNeg (-1)) (2 : Int32).toNatClampNeg (-1)) (3 : Int32).toNatClampNeg (-1)) (4 : Int32).toNatClampNeg (-1)) (5 : Int32).toNatClampNeg (-1)) (6 : Int32).toNatClampNeg (-1)) (7 : Int32).toNatClampNeg (-1)))), (q129, .inl (tc 0, 2, .inl (fun _ => 0))), (q130, .inl (tc 0, 10, .inl (fun _ => 0))), (q131, .inl (tc 0, 10, .inl (fun _ => 0))), (q132, .inl (tc 0, 48, .inl (fun _ => 0))), (q133, .inl (tc 2, 6, .inl (fun _ => 0))), (q134, .inl (tc 2, 16, .inl (fun _ => 0))), (q135, .inl (tc 2, 96, .inl (fun _ => 0))), (q136, .inl (tc 0, 96, .inl (fun _ => 0))), (q137, .inl (tc 1, 288, .inr (.inl (fun _ => 0)))), (q138, .inl (tc 1, 12, .inr (.inl (fun _ => 0)))), (q139, .inl (tc 1, 70, .inr (.inl (fun _ => 0)))), (q140, .inl (tc 1, 8, .inr (.inl (fun _ => 0))))] H := hQ
  have hR := hD.set (p := 19) (e := .inl (tc 3, 6, .inr (.inr (.inr (.inr (fun j => (some (24 + j)).map ad)))))) rfl
  have hD : va_D (fun q : Nat => s.heap.size ≤ q) [(q85, .inr (5, [.ref q86, .ref q104, .ref q117])), (q86, .inr (2, [.ref q87, .ref q95, .ref q96, .ref q97])), (q87, .inr (0, [.ref q88, .ref q89, .ref q90, .ref q91, .ref q92, .ref q93, .ref q94, .int 0])), (q88, .inl (tc 0, 70, .inl (fun _ => 0))), (q89, .inl (tc 0, 70, .inl (fun _ => 0))), (q90, .inl (tc 0, 70, .inl (fun _ => 0))), (q91, .inl (tc 0, 70, .inl (fun _ => 0))), (q92, .inl (tc 0, 70, .inl (fun _ => 0))), (q93, .inl (tc 0, 70, .inl (fun _ => 0))), (q94, .inl (tc 0, 70, .inl (fun _ => 0))), (q96, .inl (tc 4, 2, .inr (.inr (.inr (.inr (fun j => (some (18 + j)).map ad)))))), (q97, .inl (tc 1, 70, .inr (.inl (fun _ => 0)))), (q95, .inl (tc 0, 8, .inl (upd (upd (upd (upd (upd (upd (upd (upd (fun _ => 0) (0 : Int32).toNatClampNeg (-1)) (1 : Int32).toNatClampNeg (-1)) (2 : Int32).toNatClampNeg (-1)) (3 : Int32).toNatClampNeg (-1)) (4 : Int32).toNatClampNeg (-1)) (5 : Int32).toNatClampNeg (-1)) (6 : Int32).toNatClampNeg (-1)) (7 : Int32).toNatClampNeg (-1)))), (q98, .inr (4, [.ref q99, .ref q100, .int 0])), (q99, .inl (tc 0, 5, .inl (fun _ => 0))), (q100, .inl (tc 0, 5, .inl (fun _ => 0))), (q101, .inr (4, [.ref q102, .ref q103, .int 0])), (q102, .inl (tc 0, 5, .inl (fun _ => 0))), (q103, .inl (tc 0, 5, .inl (fun _ => 0))), (q104, .inl (tc 3, 6, .inr (.inr (.inr (.inr (fun j => (some (24 + j)).map ad)))))), (q105, .inr (1, [.ref q106, .long 0, .long 0, .int 0])), (q106, .inl (tc 0, 8, .inl (fun _ => 0))), (q107, .inr (1, [.ref q108, .long 0, .long 0, .int 0])), (q108, .inl (tc 0, 8, .inl (fun _ => 0))), (q109, .inr (1, [.ref q110, .long 0, .long 0, .int 0])), (q110, .inl (tc 0, 8, .inl (fun _ => 0))), (q111, .inr (1, [.ref q112, .long 0, .long 0, .int 0])), (q112, .inl (tc 0, 8, .inl (fun _ => 0))), (q113, .inr (1, [.ref q114, .long 0, .long 0, .int 0])), (q114, .inl (tc 0, 8, .inl (fun _ => 0))), (q115, .inr (1, [.ref q116, .long 0, .long 0, .int 0])), (q116, .inl (tc 0, 8, .inl (fun _ => 0))), (q117, .inr (3, [.ref q118, .ref q119, .ref q120, .int 0])), (q118, .inl (tc 1, 288, .inr (.inl (fun _ => 0)))), (q119, .inl (tc 0, 96, .inl (fun _ => 0))), (q120, .inl (tc 2, 16, .inl (fun _ => 0))), (q121, .inr (6, [.int 0, .int 0, .ref q122, .ref q123, .ref q124, .ref q125, .ref q126, .ref q127, .ref q128, .ref q129, .ref q130, .ref q131, .ref q132, .ref q133, .ref q134, .ref q135, .ref q136, .ref q137, .ref q138, .ref q139, .ref q140])), (q122, .inl (tc 0, 70, .inl (fun _ => 0))), (q123, .inl (tc 0, 70, .inl (fun _ => 0))), (q124, .inl (tc 0, 70, .inl (fun _ => 0))), (q125, .inl (tc 0, 70, .inl (fun _ => 0))), (q126, .inl (tc 0, 70, .inl (fun _ => 0))), (q127, .inl (tc 0, 70, .inl (fun _ => 0))), (q128, .inl (tc 0, 8, .inl (upd (upd (upd (upd (upd (upd (upd (upd (fun _ => 0) (0 : Int32).toNatClampNeg (-1)) (1 : Int32).toNatClampNeg (-1)) (2 : Int32).toNatClampNeg (-1)) (3 : Int32).toNatClampNeg (-1)) (4 : Int32).toNatClampNeg (-1)) (5 : Int32).toNatClampNeg (-1)) (6 : Int32).toNatClampNeg (-1)) (7 : Int32).toNatClampNeg (-1)))), (q129, .inl (tc 0, 2, .inl (fun _ => 0))), (q130, .inl (tc 0, 10, .inl (fun _ => 0))), (q131, .inl (tc 0, 10, .inl (fun _ => 0))), (q132, .inl (tc 0, 48, .inl (fun _ => 0))), (q133, .inl (tc 2, 6, .inl (fun _ => 0))), (q134, .inl (tc 2, 16, .inl (fun _ => 0))), (q135, .inl (tc 2, 96, .inl (fun _ => 0))), (q136, .inl (tc 0, 96, .inl (fun _ => 0))), (q137, .inl (tc 1, 288, .inr (.inl (fun _ => 0)))), (q138, .inl (tc 1, 12, .inr (.inl (fun _ => 0)))), (q139, .inl (tc 1, 70, .inr (.inl (fun _ => 0)))), (q140, .inl (tc 1, 8, .inr (.inl (fun _ => 0))))] := hR
  have hP9 : va_P (dC, dI) vwCl (mm_wl mm_N tc ad mm_lay mm_I0 mm_L0) H := by
    intro t q hq
    have ht : t < 56 := by
      have h9 := (List.getElem?_eq_some_iff.mp hq).1
      simpa [mm_wl] using h9
    rw [mm_wl_at ht] at hq
    cases hq
    obtain rfl | rfl | rfl | rfl | rfl | rfl | rfl | rfl | rfl | rfl | rfl | rfl | rfl | rfl | rfl | rfl | rfl | rfl | rfl | rfl | rfl | rfl | rfl | rfl | rfl | rfl | rfl | rfl | rfl | rfl | rfl | rfl | rfl | rfl | rfl | rfl | rfl | rfl | rfl | rfl | rfl | rfl | rfl | rfl | rfl | rfl | rfl | rfl | rfl | rfl | rfl | rfl | rfl | rfl | rfl | rfl : t = 0 ∨ t = 1 ∨ t = 2 ∨ t = 3 ∨ t = 4 ∨ t = 5 ∨ t = 6 ∨ t = 7 ∨ t = 8 ∨ t = 9 ∨ t = 10 ∨ t = 11 ∨ t = 12 ∨ t = 13 ∨ t = 14 ∨ t = 15 ∨ t = 16 ∨ t = 17 ∨ t = 18 ∨ t = 19 ∨ t = 20 ∨ t = 21 ∨ t = 22 ∨ t = 23 ∨ t = 24 ∨ t = 25 ∨ t = 26 ∨ t = 27 ∨ t = 28 ∨ t = 29 ∨ t = 30 ∨ t = 31 ∨ t = 32 ∨ t = 33 ∨ t = 34 ∨ t = 35 ∨ t = 36 ∨ t = 37 ∨ t = 38 ∨ t = 39 ∨ t = 40 ∨ t = 41 ∨ t = 42 ∨ t = 43 ∨ t = 44 ∨ t = 45 ∨ t = 46 ∨ t = 47 ∨ t = 48 ∨ t = 49 ∨ t = 50 ∨ t = 51 ∨ t = 52 ∨ t = 53 ∨ t = 54 ∨ t = 55 := by omega
    · rw [ce_0, a_0, a_1, a_13, a_14]; exact hP 0 _ rfl
    · rw [ce_1, a_1, a_2, a_10, a_11, a_12]; exact hP 1 _ rfl
    · rw [ce_2, a_2, a_3, a_4, a_5, a_6, a_7, a_8, a_9]; exact hP 2 _ rfl
    · rw [ce_3, a_3]; exact hP 3 _ rfl
    · rw [ce_4, a_4]; exact hP 4 _ rfl
    · rw [ce_5, a_5]; exact hP 5 _ rfl
    · rw [ce_6, a_6]; exact hP 6 _ rfl
    · rw [ce_7, a_7]; exact hP 7 _ rfl
    · rw [ce_8, a_8]; exact hP 8 _ rfl
    · rw [ce_9, a_9]; exact hP 9 _ rfl
    · rw [ce_10, a_10]; exact hP 12 _ rfl
    · rw [ce_11, a_11]; exact hP 10 _ rfl
    · rw [ce_12, a_12]; exact hP 11 _ rfl
    · rw [ce_13, a_13]; exact hP 19 _ rfl
    · rw [ce_14, a_14, a_15, a_16, a_17]; exact hP 32 _ rfl
    · rw [ce_15, a_15]; exact hP 33 _ rfl
    · rw [ce_16, a_16]; exact hP 34 _ rfl
    · rw [ce_17, a_17]; exact hP 35 _ rfl
    · rw [ce_18, a_18, a_20, a_22]; exact hP 13 _ rfl
    · rw [ce_19, a_19, a_21, a_23]; exact hP 16 _ rfl
    · rw [ce_20, a_20]; exact hP 14 _ rfl
    · rw [ce_21, a_21]; exact hP 17 _ rfl
    · rw [ce_22, a_22]; exact hP 15 _ rfl
    · rw [ce_23, a_23]; exact hP 18 _ rfl
    · rw [ce_24, a_24, a_30]; exact hP 20 _ rfl
    · rw [ce_25, a_25, a_31]; exact hP 22 _ rfl
    · rw [ce_26, a_26, a_32]; exact hP 24 _ rfl
    · rw [ce_27, a_27, a_33]; exact hP 26 _ rfl
    · rw [ce_28, a_28, a_34]; exact hP 28 _ rfl
    · rw [ce_29, a_29, a_35]; exact hP 30 _ rfl
    · rw [ce_30, a_30]; exact hP 21 _ rfl
    · rw [ce_31, a_31]; exact hP 23 _ rfl
    · rw [ce_32, a_32]; exact hP 25 _ rfl
    · rw [ce_33, a_33]; exact hP 27 _ rfl
    · rw [ce_34, a_34]; exact hP 29 _ rfl
    · rw [ce_35, a_35]; exact hP 31 _ rfl
    · rw [ce_36, a_36, a_37, a_38, a_39, a_40, a_41, a_42, a_43, a_44, a_45, a_46, a_47, a_48, a_49, a_50, a_51, a_52, a_53, a_54, a_55]; exact hP 36 _ rfl
    · rw [ce_37, a_37]; exact hP 37 _ rfl
    · rw [ce_38, a_38]; exact hP 38 _ rfl
    · rw [ce_39, a_39]; exact hP 39 _ rfl
    · rw [ce_40, a_40]; exact hP 40 _ rfl
    · rw [ce_41, a_41]; exact hP 41 _ rfl
    · rw [ce_42, a_42]; exact hP 42 _ rfl
    · rw [ce_43, a_43]; exact hP 43 _ rfl
    · rw [ce_44, a_44]; exact hP 44 _ rfl
    · rw [ce_45, a_45]; exact hP 45 _ rfl
    · rw [ce_46, a_46]; exact hP 46 _ rfl
    · rw [ce_47, a_47]; exact hP 47 _ rfl
    · rw [ce_48, a_48]; exact hP 48 _ rfl
    · rw [ce_49, a_49]; exact hP 49 _ rfl
    · rw [ce_50, a_50]; exact hP 50 _ rfl
    · rw [ce_51, a_51]; exact hP 51 _ rfl
    · rw [ce_52, a_52]; exact hP 52 _ rfl
    · rw [ce_53, a_53]; exact hP 53 _ rfl
    · rw [ce_54, a_54]; exact hP 54 _ rfl
    · rw [ce_55, a_55]; exact hP 55 _ rfl
  have hD9 : va_D (fun q : Nat => s.heap.size ≤ q) (mm_wl mm_N tc ad mm_lay mm_I0 mm_L0) := by
    refine mm_D_of hD mm_perm (fun t ht => ?_) mm_perm_inj
    obtain rfl | rfl | rfl | rfl | rfl | rfl | rfl | rfl | rfl | rfl | rfl | rfl | rfl | rfl | rfl | rfl | rfl | rfl | rfl | rfl | rfl | rfl | rfl | rfl | rfl | rfl | rfl | rfl | rfl | rfl | rfl | rfl | rfl | rfl | rfl | rfl | rfl | rfl | rfl | rfl | rfl | rfl | rfl | rfl | rfl | rfl | rfl | rfl | rfl | rfl | rfl | rfl | rfl | rfl | rfl | rfl : t = 0 ∨ t = 1 ∨ t = 2 ∨ t = 3 ∨ t = 4 ∨ t = 5 ∨ t = 6 ∨ t = 7 ∨ t = 8 ∨ t = 9 ∨ t = 10 ∨ t = 11 ∨ t = 12 ∨ t = 13 ∨ t = 14 ∨ t = 15 ∨ t = 16 ∨ t = 17 ∨ t = 18 ∨ t = 19 ∨ t = 20 ∨ t = 21 ∨ t = 22 ∨ t = 23 ∨ t = 24 ∨ t = 25 ∨ t = 26 ∨ t = 27 ∨ t = 28 ∨ t = 29 ∨ t = 30 ∨ t = 31 ∨ t = 32 ∨ t = 33 ∨ t = 34 ∨ t = 35 ∨ t = 36 ∨ t = 37 ∨ t = 38 ∨ t = 39 ∨ t = 40 ∨ t = 41 ∨ t = 42 ∨ t = 43 ∨ t = 44 ∨ t = 45 ∨ t = 46 ∨ t = 47 ∨ t = 48 ∨ t = 49 ∨ t = 50 ∨ t = 51 ∨ t = 52 ∨ t = 53 ∨ t = 54 ∨ t = 55 := by have : t < 56 := ht; omega
    · exact ⟨_, by rw [a_0]; rfl⟩
    · exact ⟨_, by rw [a_1]; rfl⟩
    · exact ⟨_, by rw [a_2]; rfl⟩
    · exact ⟨_, by rw [a_3]; rfl⟩
    · exact ⟨_, by rw [a_4]; rfl⟩
    · exact ⟨_, by rw [a_5]; rfl⟩
    · exact ⟨_, by rw [a_6]; rfl⟩
    · exact ⟨_, by rw [a_7]; rfl⟩
    · exact ⟨_, by rw [a_8]; rfl⟩
    · exact ⟨_, by rw [a_9]; rfl⟩
    · exact ⟨_, by rw [a_10]; rfl⟩
    · exact ⟨_, by rw [a_11]; rfl⟩
    · exact ⟨_, by rw [a_12]; rfl⟩
    · exact ⟨_, by rw [a_13]; rfl⟩
    · exact ⟨_, by rw [a_14]; rfl⟩
    · exact ⟨_, by rw [a_15]; rfl⟩
    · exact ⟨_, by rw [a_16]; rfl⟩
    · exact ⟨_, by rw [a_17]; rfl⟩
    · exact ⟨_, by rw [a_18]; rfl⟩
    · exact ⟨_, by rw [a_19]; rfl⟩
    · exact ⟨_, by rw [a_20]; rfl⟩
    · exact ⟨_, by rw [a_21]; rfl⟩
    · exact ⟨_, by rw [a_22]; rfl⟩
    · exact ⟨_, by rw [a_23]; rfl⟩
    · exact ⟨_, by rw [a_24]; rfl⟩
    · exact ⟨_, by rw [a_25]; rfl⟩
    · exact ⟨_, by rw [a_26]; rfl⟩
    · exact ⟨_, by rw [a_27]; rfl⟩
    · exact ⟨_, by rw [a_28]; rfl⟩
    · exact ⟨_, by rw [a_29]; rfl⟩
    · exact ⟨_, by rw [a_30]; rfl⟩
    · exact ⟨_, by rw [a_31]; rfl⟩
    · exact ⟨_, by rw [a_32]; rfl⟩
    · exact ⟨_, by rw [a_33]; rfl⟩
    · exact ⟨_, by rw [a_34]; rfl⟩
    · exact ⟨_, by rw [a_35]; rfl⟩
    · exact ⟨_, by rw [a_36]; rfl⟩
    · exact ⟨_, by rw [a_37]; rfl⟩
    · exact ⟨_, by rw [a_38]; rfl⟩
    · exact ⟨_, by rw [a_39]; rfl⟩
    · exact ⟨_, by rw [a_40]; rfl⟩
    · exact ⟨_, by rw [a_41]; rfl⟩
    · exact ⟨_, by rw [a_42]; rfl⟩
    · exact ⟨_, by rw [a_43]; rfl⟩
    · exact ⟨_, by rw [a_44]; rfl⟩
    · exact ⟨_, by rw [a_45]; rfl⟩
    · exact ⟨_, by rw [a_46]; rfl⟩
    · exact ⟨_, by rw [a_47]; rfl⟩
    · exact ⟨_, by rw [a_48]; rfl⟩
    · exact ⟨_, by rw [a_49]; rfl⟩
    · exact ⟨_, by rw [a_50]; rfl⟩
    · exact ⟨_, by rw [a_51]; rfl⟩
    · exact ⟨_, by rw [a_52]; rfl⟩
    · exact ⟨_, by rw [a_53]; rfl⟩
    · exact ⟨_, by rw [a_54]; rfl⟩
    · exact ⟨_, by rw [a_55]; rfl⟩
  have e1 : q85 = ad 0 := a_0.symm
  have e2 : q121 = ad 36 := a_36.symm
  have hl : lv_has ls 4 [(3, .int 0), (2, .ref (ad 36)), (1, .ref (ad 0)), (0, .ref b)] := by rw [← e1, ← e2]; exact hl
  exact w_L_law (G := ((dC, dI), tc, ad, (fun q : Nat => s.heap.size ≤ q), fun _ => tz)) ⟨hx, hb, hr, hlocks, hml, hown, hg, hK, hz3, hz2, hN⟩ hX hbl rfl n9 0 mm_I0 mm_L0 H _ ls hlaw hP9 hD9 hS (lv_sub hl [3, 2, 1, 0] rfl)
