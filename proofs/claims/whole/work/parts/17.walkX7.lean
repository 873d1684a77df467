abbrev rm_X7_paid : Room := { frames := 1, cells := 0, slots := 0, locals := 23 }
def vc_X7_paid_0 (x1 : Int32) (x2 : Int32) (I : mm_I) (L : mm_L) (Q : Int64 → mm_I → mm_L → Prop) : Prop :=
  vc_X7_out x1 0 5 I L (fun r847 I845 L846 => (¬ r847 = 0 → Q 1000000000000 I845 L846) ∧ (r847 = 0 → vc_X7_out x2 0 1 I845 L846 (fun r850 I848 L849 => (r850 = 0 → vp_in ((x1 * 2) + x2) 12 ∧ Q (L849 53 (((x1 * 2) + x2)).toNatClampNeg) I848 L849) ∧ (¬ r850 = 0 → Q 1000000000000 I848 L849))))
set_option maxHeartbeats 4000000 in
set_option maxRecDepth 100000 in
theorem w_X7_paid_0 {p : Program} {l : Launch} {e : Env} {s : State} {m : MethodId} {args : Array Value} {below : List Frame} {meth : Method} {c : Code} {G : mm_G} (hcx : mm_cx c_X7_paid (some .long) 3 RX7 G p s m args meth c) (x1 : Int32) (x2 : Int32) (I : mm_I) (L : mm_L) (Q : Int64 → mm_I → mm_L → Prop)  (hv : vc_X7_paid_0 x1 x2 I L Q) {H : Heap} {locs : List Loc} (hP : mm_PW G I L H) (hD : mm_DW G I L) (hS : va_S G.2.2.2.1 s.heap H locs) {ls : Array Slot} (hl : lv_has ls 3 [(0, .ref (G.2.2.1 36)), (1, .int x1), (2, .int x2)]) : W p l e (headSpec w_X7_paid rm_X7_paid).room s m args below meth c H locs 0 0 (MQ below (mm_ql G Q) args s 0 0 G.2.2.2.1) (F0 m 0 ls []) := by
  obtain ⟨hx, hb, hr, hlocks, hml, hown, hg, hK, hC⟩ := id hcx
  unfold vc_X7_paid_0 at hv
  refine lv_aload_n hx hb d_X7_paid_0 rfl (lv_at hl 0 rfl) ?_
  refine lv_iload_n hx hb d_X7_paid_1 rfl (lv_at hl 1 rfl) ?_
  refine lv_iconst (v := 0) hx hb d_X7_paid_2 (by decide) ?_
  refine lv_iconst (v := 5) hx hb d_X7_paid_3 (by decide) ?_
  refine va_calli (va_runV (As := [.int x1, .int 0, .int 5]) (rest := []) ⟨hx, hb, hml, hown, hg⟩ (m_X7_out l G x1 0 5 I L _  hv) (cwV 3 hg (mm_gV k_220 k_221 k_222 k_223 kc_X7_out) rfl rfl rfl (by decide +kernel) ⟨Nat.le_of_ble_eq_true rfl, Nat.le_of_ble_eq_true rfl⟩) ⟨mm_blind, mm_recv hK hP (t := 36) (by decide) rfl rfl, fun U hU hW => mm_call hP hK hD hC hU hS hW⟩ rfl rfl hl.1 rfl (lv_room (Nat.le_of_ble_eq_true rfl)) d_X7_paid_4 ⟨Nat.zero_le _, Nat.zero_le _⟩) hS (fun q _ h => h) (fun q h => h) (fun r847 u t H locs ht hvm hv hP hz1 hk1 hS => ?_)
  obtain ⟨I845, L846⟩ := u
  dsimp only at hv hP
  rw [ht] at hP
  have hD : mm_DW G I845 L846 := mm_D_any hD
  refine lv_if_ne (tgt := 20) hx hb d_X7_paid_7 (by decide) (fun hc => ?_) (fun hc => ?_)
  · have hv := hv.1 hc
    refine lv_ldc2 (v := 1000000000000) hx hb hown (hg _ k_284) d_X7_paid_20 ?_
    refine lv_goto (tgt := 36) hx hb d_X7_paid_23 (by decide) ?_
    exact W.lret (v := 1000000000000) hx hb hr (fun t ht hW => ⟨⟨1000000000000, (I845, L846), rfl, hv, mm_mv ht hP⟩, hS.F ht⟩) hS.2.2 d_X7_paid_36
  · have hv := hv.2 hc
    refine lv_aload_n hx hb d_X7_paid_10 rfl (lv_at hl 0 rfl) ?_
    refine lv_iload_n hx hb d_X7_paid_11 rfl (lv_at hl 2 rfl) ?_
    refine lv_iconst (v := 0) hx hb d_X7_paid_12 (by decide) ?_
    refine lv_iconst (v := 1) hx hb d_X7_paid_13 (by decide) ?_
    refine va_calli (va_runV (As := [.int x2, .int 0, .int 1]) (rest := []) ⟨hx, hb, hml, hown, hg⟩ (m_X7_out l G x2 0 1 I845 L846 _  hv) (cwV 3 hg (mm_gV k_220 k_221 k_222 k_223 kc_X7_out) rfl rfl rfl (by decide +kernel) ⟨Nat.le_of_ble_eq_true rfl, Nat.le_of_ble_eq_true rfl⟩) ⟨mm_blind, mm_recv hK hP (t := 36) (by decide) rfl rfl, fun U hU hW => mm_call hP hK hD hC hU hS hW⟩ rfl rfl hl.1 rfl (lv_room (Nat.le_of_ble_eq_true rfl)) d_X7_paid_14 ⟨Nat.zero_le _, Nat.zero_le _⟩) hS (fun q _ h => h) (fun q h => h) (fun r850 u t H locs ht hvm hv hP hz1 hk1 hS => ?_)
    obtain ⟨I848, L849⟩ := u
    dsimp only at hv hP
    rw [ht] at hP
    have hD : mm_DW G I848 L849 := mm_D_any hD
    refine lv_if_eq (tgt := 26) hx hb d_X7_paid_17 (by decide) (fun hc => ?_) (fun hc => ?_)
    · have hv := hv.1 hc
      refine lv_aload_n hx hb d_X7_paid_26 rfl (lv_at hl 0 rfl) ?_
      refine mm_gr (D := G.1) (C := RX7) (T := TX7) (N0 := 21) (r := 53) hx hb hg in_X7 hown hK hP (t := 36) (by decide) rfl rfl 18 (by decide) (hg _ k_272) (fun _ h9 => h9) rfl d_X7_paid_27 ?_
      refine lv_iload_n hx hb d_X7_paid_30 rfl (lv_at hl 1 rfl) ?_
      refine lv_iconst (v := 2) hx hb d_X7_paid_31 (by decide) ?_
      refine lv_imul hx hb d_X7_paid_32 ?_
      refine lv_iload_n hx hb d_X7_paid_33 rfl (lv_at hl 2 rfl) ?_
      refine lv_iadd hx hb d_X7_paid_34 ?_
      obtain ⟨h851, hv⟩ := hv
      refine mm_lald (D := G.1) hx hb hK hP (t := 53) (by decide) rfl rfl h851 d_X7_paid_35 ?_
      exact W.lret (v := (L849 53 (((x1 * 2) + x2)).toNatClampNeg)) hx hb hr (fun t ht hW => ⟨⟨(L849 53 (((x1 * 2) + x2)).toNatClampNeg), (I848, L849), rfl, hv, mm_mv ht hP⟩, hS.F ht⟩) hS.2.2 d_X7_paid_36
    · have hv := hv.2 hc
      refine lv_ldc2 (v := 1000000000000) hx hb hown (hg _ k_284) d_X7_paid_20 ?_
      refine lv_goto (tgt := 36) hx hb d_X7_paid_23 (by decide) ?_
      exact W.lret (v := 1000000000000) hx hb hr (fun t ht hW => ⟨⟨1000000000000, (I848, L849), rfl, hv, mm_mv ht hP⟩, hS.F ht⟩) hS.2.2 d_X7_paid_36
abbrev vc_X7_paid (x1 : Int32) (x2 : Int32) (I : mm_I) (L : mm_L) (Q : Int64 → mm_I → mm_L → Prop) : Prop := vc_X7_paid_0 x1 x2 I L Q
set_option maxHeartbeats 4000000 in
set_option maxRecDepth 100000 in
theorem m_X7_paid (l : Launch) (G : mm_G) (x1 : Int32) (x2 : Int32) (I : mm_I) (L : mm_L) (Q : Int64 → mm_I → mm_L → Prop)  (hv : vc_X7_paid x1 x2 I L Q) : Met l y_X7_paid w_X7_paid rm_X7_paid (mm_pre G [.ref (G.2.2.1 36), .int x1, .int x2] I L) (mm_ql G Q) 0 0 G.2.2.2.1 := by
  refine Met.ofW (cc := c_X7_paid) (maxL := 3) (ret := (some .long)) (by decide) rfl ?_
  intro p e s m args below meth c s₁ B hml hw
  obtain ⟨rfl, hP, hK, hD, hC⟩ := hw
  have hts := atoms_spec (ws := w_X7_paid) B.pre
  have hown : s.vm.findClass RX7 = some m.cls := findClass_of_methodNamed B.named
  have hl := lv_entry ([.ref (G.2.2.1 36), .int x1, .int x2]) (n := 3) (Nat.le_of_ble_eq_true rfl)
  rw [lg_entry_eq]
  generalize (lg_sl ([.ref (G.2.2.1 36), .int x1, .int x2]) ++ List.replicate (3 - (lg_sl ([.ref (G.2.2.1 36), .int x1, .int x2])).length) Slot.unset).toArray = ls at hl ⊢
  have hl : lv_has ls 3 [(0, .ref (G.2.2.1 36)), (1, .int x1), (2, .int x2)] := hl
  exact w_X7_paid_0 ⟨B.exec, B.bytes, B.returns, B.notSynchronized, hml, hown, fun w h => hts w (List.mem_cons_of_mem _ h), hK, hC⟩ x1 x2 I L Q  hv hP hD va_S.rf hl
abbrev rm_X7_count : Room := { frames := 1, cells := 0, slots := 0, locals := 23 }
def vc_X7_count_179 (x1 : Int32) (I : mm_I) (L : mm_L) (Q : Int32 → mm_I → mm_L → Prop) : Prop :=
  vp_in (x1 - 5) 2 ∧ Q (I 44 ((x1 - 5)).toNatClampNeg) I L
def vc_X7_count_85 : Nat → Int32 → Int32 → Int32 → Int32 → Int32 → Int32 → mm_I → mm_L → (Int32 → mm_I → mm_L → Prop) → Prop
  | 0, _, _, _, _, _, _, _, _, _ => False
  | n9 + 1, x1, x2, x3, x4, x5, x6, I, L, Q => (8 ≤ x6 → (¬ x1 = 0 → (¬ x1 = 1 → (¬ x1 = 2 → (¬ x1 = 3 → (¬ x1 = 4 → (x1 = 5 → vc_X7_count_179 x1 I L Q) ∧ (¬ x1 = 5 → (¬ x1 = 6 → (¬ x1 = 7 → Q (-1) I L) ∧ (x1 = 7 → Q x5 I L)) ∧ (x1 = 6 → vc_X7_count_179 x1 I L Q))) ∧ (x1 = 4 → Q x4 I L)) ∧ (x1 = 3 → Q x3 I L)) ∧ (x1 = 2 → Q x2 I L)) ∧ (x1 = 1 → Q (I 36 1) I L)) ∧ (x1 = 0 → Q (I 36 0) I L)) ∧ (¬ 8 ≤ x6 → vp_in x6 8 ∧ ((I 43 x6.toNatClampNeg) < 0 → vc_X7_count_85 n9 x1 x2 x3 x4 x5 (x6 + 1) I L Q) ∧ (¬ (I 43 x6.toNatClampNeg) < 0 → vc_X7_count_85 n9 x1 x2 x3 x4 (x5 ||| (1 <<< (x6 &&& 31))) (x6 + 1) I L Q))
def vc_X7_count_56 : Nat → Int32 → Int32 → Int32 → Int32 → Int32 → Int32 → mm_I → mm_L → (Int32 → mm_I → mm_L → Prop) → Prop
  | 0, _, _, _, _, _, _, _, _, _ => False
  | n9 + 1, x1, x2, x3, x4, x5, x6, I, L, Q => (6 ≤ x6 → ∃ n, vc_X7_count_85 n x1 x2 x3 x4 x5 0 I L Q) ∧ (¬ 6 ≤ x6 → vp_in x6 6 ∧ ((I 48 x6.toNatClampNeg) = 0 → vc_X7_count_56 n9 x1 x2 x3 x4 x5 (x6 + 1) I L Q) ∧ (¬ (I 48 x6.toNatClampNeg) = 0 → vc_X7_count_56 n9 x1 x2 x3 (x4 + 1) x5 (x6 + 1) I L Q))
def vc_X7_count_13 : Nat → Int32 → Int32 → Int32 → Int32 → Int32 → Int32 → mm_I → mm_L → (Int32 → mm_I → mm_L → Prop) → Prop
  | 0, _, _, _, _, _, _, _, _, _ => False
  | n9 + 1, x1, x2, x3, x4, x5, x6, I, L, Q => ((I 36 1) ≤ x6 → ∃ n, vc_X7_count_56 n x1 x2 x3 x4 x5 0 I L Q) ∧ (¬ (I 36 1) ≤ x6 → vp_in x6 16 ∧ ((I 49 x6.toNatClampNeg) = 0 → vc_X7_slips x6 I L (fun r855 I853 L854 => vc_X7_count_13 n9 x1 x2 (x3 + r855) x4 x5 (x6 + 1) I853 L854 Q)) ∧ (¬ (I 49 x6.toNatClampNeg) = 0 → vc_X7_count_13 n9 x1 (x2 + 1) x3 x4 x5 (x6 + 1) I L Q))
def vc_X7_count_0 (x1 : Int32) (I : mm_I) (L : mm_L) (Q : Int32 → mm_I → mm_L → Prop) : Prop :=
  ∃ n, vc_X7_count_13 n x1 0 0 0 0 0 I L Q
set_option maxHeartbeats 4000000 in
set_option maxRecDepth 100000 in
theorem w_X7_count_179 {p : Program} {l : Launch} {e : Env} {s : State} {m : MethodId} {args : Array Value} {below : List Frame} {meth : Method} {c : Code} {G : mm_G} (hcx : mm_cx c_X7_count (some .int) 7 RX7 G p s m args meth c) (x1 : Int32) (I : mm_I) (L : mm_L) (Q : Int32 → mm_I → mm_L → Prop)  (hv : vc_X7_count_179 x1 I L Q) {H : Heap} {locs : List Loc} (hP : mm_PW G I L H) (hD : mm_DW G I L) (hS : va_S G.2.2.2.1 s.heap H locs) {ls : Array Slot} (hl : lv_has ls 7 [(0, .ref (G.2.2.1 36)), (1, .int x1)]) : W p l e (headSpec w_X7_count rm_X7_count).room s m args below meth c H locs 0 0 (MQ below (mm_qi G Q) args s 0 0 G.2.2.2.1) (F0 m 179 ls []) := by
  obtain ⟨hx, hb, hr, hlocks, hml, hown, hg, hK, hC⟩ := id hcx
  unfold vc_X7_count_179 at hv
  refine lv_aload_n hx hb d_X7_count_179 rfl (lv_at hl 0 rfl) ?_
  refine mm_gr (D := G.1) (C := RX7) (T := TX7) (N0 := 21) (r := 44) hx hb hg in_X7 hown hK hP (t := 36) (by decide) rfl rfl 9 (by decide) (hg _ k_243) (fun _ h9 => h9) rfl d_X7_count_180 ?_
  refine lv_iload_n hx hb d_X7_count_183 rfl (lv_at hl 1 rfl) ?_
  refine lv_iconst (v := 5) hx hb d_X7_count_184 (by decide) ?_
  refine lv_isub hx hb d_X7_count_185 ?_
  obtain ⟨h858, hv⟩ := hv
  refine mm_iald (D := G.1) hx hb hK hP (t := 44) (by decide) rfl rfl h858 d_X7_count_186 ?_
  refine lv_goto (tgt := 202) hx hb d_X7_count_187 (by decide) ?_
  exact W.iret (v := (I 44 ((x1 - 5)).toNatClampNeg)) hx hb hr (fun t ht hW => ⟨⟨(I 44 ((x1 - 5)).toNatClampNeg), (I, L), rfl, hv, mm_mv ht hP⟩, hS.F ht⟩) hS.2.2 d_X7_count_202
set_option maxHeartbeats 4000000 in
set_option maxRecDepth 100000 in
theorem w_X7_count_85 {p : Program} {l : Launch} {e : Env} {s : State} {m : MethodId} {args : Array Value} {below : List Frame} {meth : Method} {c : Code} {G : mm_G} (hcx : mm_cx c_X7_count (some .int) 7 RX7 G p s m args meth c) (Q : Int32 → mm_I → mm_L → Prop) : ∀ (n9 : Nat) (x1 : Int32) (x2 : Int32) (x3 : Int32) (x4 : Int32) (x5 : Int32) (x6 : Int32) (I : mm_I) (L : mm_L)  (H : Heap) (locs : List Loc) (ls : Array Slot), vc_X7_count_85 n9 x1 x2 x3 x4 x5 x6 I L Q → mm_PW G I L H → mm_DW G I L → va_S G.2.2.2.1 s.heap H locs → lv_has ls 7 [(0, .ref (G.2.2.1 36)), (1, .int x1), (2, .int x2), (3, .int x3), (4, .int x4), (5, .int x5), (6, .int x6)] → W p l e (headSpec w_X7_count rm_X7_count).room s m args below meth c H locs 0 0 (MQ below (mm_qi G Q) args s 0 0 G.2.2.2.1) (F0 m 85 ls []) := by
  obtain ⟨hx, hb, hr, hlocks, hml, hown, hg, hK, hC⟩ := id hcx
  intro n9
  induction n9 with
  | zero => intro x1 x2 x3 x4 x5 x6 I L H locs ls hv hP hD hS hl; exact hv.elim
  | succ n9 ih =>
    intro x1 x2 x3 x4 x5 x6 I L H locs ls hv hP hD hS hl
    rw [vc_X7_count_85] at hv
    refine lv_iload hx hb d_X7_count_85 (lv_at hl 6 rfl) ?_
    refine lv_bipush (v := 8) hx hb d_X7_count_87 (by decide) ?_
    refine lv_icmp_ge (tgt := 117) hx hb d_X7_count_89 (by decide) (fun hc => ?_) (fun hc => ?_)
    · have hv := hv.1 hc
      refine lv_iload_n hx hb d_X7_count_117 rfl (lv_at hl 1 rfl) ?_
      refine lv_if_ne (tgt := 128) hx hb d_X7_count_118 (by decide) (fun hc => ?_) (fun hc => ?_)
      · have hv := hv.1 hc
        refine lv_iload_n hx hb d_X7_count_128 rfl (lv_at hl 1 rfl) ?_
        refine lv_iconst (v := 1) hx hb d_X7_count_129 (by decide) ?_
        refine lv_icmp_ne (tgt := 140) hx hb d_X7_count_130 (by decide) (fun hc => ?_) (fun hc => ?_)
        · have hv := hv.1 hc
          refine lv_iload_n hx hb d_X7_count_140 rfl (lv_at hl 1 rfl) ?_
          refine lv_iconst (v := 2) hx hb d_X7_count_141 (by decide) ?_
          refine lv_icmp_ne (tgt := 149) hx hb d_X7_count_142 (by decide) (fun hc => ?_) (fun hc => ?_)
          · have hv := hv.1 hc
            refine lv_iload_n hx hb d_X7_count_149 rfl (lv_at hl 1 rfl) ?_
            refine lv_iconst (v := 3) hx hb d_X7_count_150 (by decide) ?_
            refine lv_icmp_ne (tgt := 158) hx hb d_X7_count_151 (by decide) (fun hc => ?_) (fun hc => ?_)
            · have hv := hv.1 hc
              refine lv_iload_n hx hb d_X7_count_158 rfl (lv_at hl 1 rfl) ?_
              refine lv_iconst (v := 4) hx hb d_X7_count_159 (by decide) ?_
              refine lv_icmp_ne (tgt := 168) hx hb d_X7_count_160 (by decide) (fun hc => ?_) (fun hc => ?_)
              · have hv := hv.1 hc
                refine lv_iload_n hx hb d_X7_count_168 rfl (lv_at hl 1 rfl) ?_
                refine lv_iconst (v := 5) hx hb d_X7_count_169 (by decide) ?_
                refine lv_icmp_eq (tgt := 179) hx hb d_X7_count_170 (by decide) (fun hc => ?_) (fun hc => ?_)
                · have hv := hv.1 hc
                  exact w_X7_count_179 hcx x1 I L Q  hv hP hD hS (lv_sub hl [0, 1] rfl)
                · have hv := hv.2 hc
                  refine lv_iload_n hx hb d_X7_count_173 rfl (lv_at hl 1 rfl) ?_
                  refine lv_bipush (v := 6) hx hb d_X7_count_174 (by decide) ?_
                  refine lv_icmp_ne (tgt := 190) hx hb d_X7_count_176 (by decide) (fun hc => ?_) (fun hc => ?_)
                  · have hv := hv.1 hc
                    refine lv_iload_n hx hb d_X7_count_190 rfl (lv_at hl 1 rfl) ?_
                    refine lv_bipush (v := 7) hx hb d_X7_count_191 (by decide) ?_
                    refine lv_icmp_ne (tgt := 201) hx hb d_X7_count_193 (by decide) (fun hc => ?_) (fun hc => ?_)
                    · have hv := hv.1 hc
                      refine lv_iconst (v := (-1)) hx hb d_X7_count_201 (by decide) ?_
                      exact W.iret (v := (-1)) hx hb hr (fun t ht hW => ⟨⟨(-1), (I, L), rfl, hv, mm_mv ht hP⟩, hS.F ht⟩) hS.2.2 d_X7_count_202
                    · have hv := hv.2 hc
                      refine lv_iload hx hb d_X7_count_196 (lv_at hl 5 rfl) ?_
                      refine lv_goto (tgt := 202) hx hb d_X7_count_198 (by decide) ?_
                      exact W.iret (v := x5) hx hb hr (fun t ht hW => ⟨⟨x5, (I, L), rfl, hv, mm_mv ht hP⟩, hS.F ht⟩) hS.2.2 d_X7_count_202
                  · have hv := hv.2 hc
                    exact w_X7_count_179 hcx x1 I L Q  hv hP hD hS (lv_sub hl [0, 1] rfl)
              · have hv := hv.2 hc
                refine lv_iload hx hb d_X7_count_163 (lv_at hl 4 rfl) ?_
                refine lv_goto (tgt := 202) hx hb d_X7_count_165 (by decide) ?_
                exact W.iret (v := x4) hx hb hr (fun t ht hW => ⟨⟨x4, (I, L), rfl, hv, mm_mv ht hP⟩, hS.F ht⟩) hS.2.2 d_X7_count_202
            · have hv := hv.2 hc
              refine lv_iload_n hx hb d_X7_count_154 rfl (lv_at hl 3 rfl) ?_
              refine lv_goto (tgt := 202) hx hb d_X7_count_155 (by decide) ?_
              exact W.iret (v := x3) hx hb hr (fun t ht hW => ⟨⟨x3, (I, L), rfl, hv, mm_mv ht hP⟩, hS.F ht⟩) hS.2.2 d_X7_count_202
          · have hv := hv.2 hc
            refine lv_iload_n hx hb d_X7_count_145 rfl (lv_at hl 2 rfl) ?_
            refine lv_goto (tgt := 202) hx hb d_X7_count_146 (by decide) ?_
            exact W.iret (v := x2) hx hb hr (fun t ht hW => ⟨⟨x2, (I, L), rfl, hv, mm_mv ht hP⟩, hS.F ht⟩) hS.2.2 d_X7_count_202
        · have hv := hv.2 hc
          refine lv_aload_n hx hb d_X7_count_133 rfl (lv_at hl 0 rfl) ?_
          refine mm_gi (D := G.1) (C := RX7) (T := TX7) (N0 := 21) hx hb hg in_X7 hown hK hP (t := 36) (by decide) rfl rfl 1 (by decide) (hg _ k_298) (fun _ h9 => h9) rfl d_X7_count_134 ?_
          refine lv_goto (tgt := 202) hx hb d_X7_count_137 (by decide) ?_
          exact W.iret (v := (I 36 1)) hx hb hr (fun t ht hW => ⟨⟨(I 36 1), (I, L), rfl, hv, mm_mv ht hP⟩, hS.F ht⟩) hS.2.2 d_X7_count_202
      · have hv := hv.2 hc
        refine lv_aload_n hx hb d_X7_count_121 rfl (lv_at hl 0 rfl) ?_
        refine mm_gi (D := G.1) (C := RX7) (T := TX7) (N0 := 21) hx hb hg in_X7 hown hK hP (t := 36) (by decide) rfl rfl 0 (by decide) (hg _ k_219) (fun _ h9 => h9) rfl d_X7_count_122 ?_
        refine lv_goto (tgt := 202) hx hb d_X7_count_125 (by decide) ?_
        exact W.iret (v := (I 36 0)) hx hb hr (fun t ht hW => ⟨⟨(I 36 0), (I, L), rfl, hv, mm_mv ht hP⟩, hS.F ht⟩) hS.2.2 d_X7_count_202
    · have hv := hv.2 hc
      refine lv_aload_n hx hb d_X7_count_92 rfl (lv_at hl 0 rfl) ?_
      refine mm_gr (D := G.1) (C := RX7) (T := TX7) (N0 := 21) (r := 43) hx hb hg in_X7 hown hK hP (t := 36) (by decide) rfl rfl 8 (by decide) (hg _ k_242) (fun _ h9 => h9) rfl d_X7_count_93 ?_
      refine lv_iload hx hb d_X7_count_96 (lv_at hl 6 rfl) ?_
      obtain ⟨h857, hv⟩ := hv
      refine mm_iald (D := G.1) hx hb hK hP (t := 43) (by decide) rfl rfl h857 d_X7_count_98 ?_
      refine lv_if_lt (tgt := 111) hx hb d_X7_count_99 (by decide) (fun hc => ?_) (fun hc => ?_)
      · have hv := hv.1 hc
        refine lv_iinc (v := (x6 + 1)) (lv' := [(6, .int (x6 + 1)), (0, .ref (G.2.2.1 36)), (1, .int x1), (2, .int x2), (3, .int x3), (4, .int x4), (5, .int x5)]) hx hb d_X7_count_111 hl (k := 6) rfl (by rfl) (by decide) rfl (fun ls hl => ?_)
        refine lv_goto (tgt := 85) hx hb d_X7_count_114 (by decide) ?_
        exact ih x1 x2 x3 x4 x5 (x6 + 1) I L  H locs ls hv hP hD hS (lv_sub hl [1, 2, 3, 4, 5, 6, 0] rfl)
      · have hv := hv.2 hc
        refine lv_iload hx hb d_X7_count_102 (lv_at hl 5 rfl) ?_
        refine lv_iconst (v := 1) hx hb d_X7_count_104 (by decide) ?_
        refine lv_iload hx hb d_X7_count_105 (lv_at hl 6 rfl) ?_
        refine lv_ishl hx hb d_X7_count_107 ?_
        refine lv_ior hx hb d_X7_count_108 ?_
        refine lv_istore (lv' := [(5, .int (x5 ||| (1 <<< (x6 &&& 31)))), (0, .ref (G.2.2.1 36)), (1, .int x1), (2, .int x2), (3, .int x3), (4, .int x4), (6, .int x6)]) hx hb d_X7_count_109 hl (by decide) rfl (fun ls hl => ?_)
        refine lv_iinc (v := (x6 + 1)) (lv' := [(6, .int (x6 + 1)), (5, .int (x5 ||| (1 <<< (x6 &&& 31)))), (0, .ref (G.2.2.1 36)), (1, .int x1), (2, .int x2), (3, .int x3), (4, .int x4)]) hx hb d_X7_count_111 hl (k := 6) rfl (by rfl) (by decide) rfl (fun ls hl => ?_)
        refine lv_goto (tgt := 85) hx hb d_X7_count_114 (by decide) ?_
        exact ih x1 x2 x3 x4 (x5 ||| (1 <<< (x6 &&& 31))) (x6 + 1) I L  H locs ls hv hP hD hS (lv_sub hl [2, 3, 4, 5, 6, 1, 0] rfl)
set_option maxHeartbeats 4000000 in
set_option maxRecDepth 100000 in
theorem w_X7_count_56 {p : Program} {l : Launch} {e : Env} {s : State} {m : MethodId} {args : Array Value} {below : List Frame} {meth : Method} {c : Code} {G : mm_G} (hcx : mm_cx c_X7_count (some .int) 7 RX7 G p s m args meth c) (Q : Int32 → mm_I → mm_L → Prop) : ∀ (n9 : Nat) (x1 : Int32) (x2 : Int32) (x3 : Int32) (x4 : Int32) (x5 : Int32) (x6 : Int32) (I : mm_I) (L : mm_L)  (H : Heap) (locs : List Loc) (ls : Array Slot), vc_X7_count_56 n9 x1 x2 x3 x4 x5 x6 I L Q → mm_PW G I L H → mm_DW G I L → va_S G.2.2.2.1 s.heap H locs → lv_has ls 7 [(0, .ref (G.2.2.1 36)), (1, .int x1), (2, .int x2), (3, .int x3), (4, .int x4), (5, .int x5), (6, .int x6)] → W p l e (headSpec w_X7_count rm_X7_count).room s m args below meth c H locs 0 0 (MQ below (mm_qi G Q) args s 0 0 G.2.2.2.1) (F0 m 56 ls []) := by
  obtain ⟨hx, hb, hr, hlocks, hml, hown, hg, hK, hC⟩ := id hcx
  intro n9
  induction n9 with
  | zero => intro x1 x2 x3 x4 x5 x6 I L H locs ls hv hP hD hS hl; exact hv.elim
  | succ n9 ih =>
    intro x1 x2 x3 x4 x5 x6 I L H locs ls hv hP hD hS hl
    rw [vc_X7_count_56] at hv
    refine lv_iload hx hb d_X7_count_56 (lv_at hl 6 rfl) ?_
    refine lv_bipush (v := 6) hx hb d_X7_count_58 (by decide) ?_
    refine lv_icmp_ge (tgt := 82) hx hb d_X7_count_60 (by decide) (fun hc => ?_) (fun hc => ?_)
    · have hv := hv.1 hc
      refine lv_iconst (v := 0) hx hb d_X7_count_82 (by decide) ?_
      refine lv_istore (lv' := [(6, .int 0), (0, .ref (G.2.2.1 36)), (1, .int x1), (2, .int x2), (3, .int x3), (4, .int x4), (5, .int x5)]) hx hb d_X7_count_83 hl (by decide) rfl (fun ls hl => ?_)
      obtain ⟨n, hv⟩ := hv
      exact w_X7_count_85 hcx Q n x1 x2 x3 x4 x5 0 I L  H locs ls hv hP hD hS (lv_sub hl [1, 2, 3, 4, 5, 6, 0] rfl)
    · have hv := hv.2 hc
      refine lv_aload_n hx hb d_X7_count_63 rfl (lv_at hl 0 rfl) ?_
      refine mm_gr (D := G.1) (C := RX7) (T := TX7) (N0 := 21) (r := 48) hx hb hg in_X7 hown hK hP (t := 36) (by decide) rfl rfl 13 (by decide) (hg _ k_247) (fun _ h9 => h9) rfl d_X7_count_64 ?_
      refine lv_iload hx hb d_X7_count_67 (lv_at hl 6 rfl) ?_
      obtain ⟨h856, hv⟩ := hv
      refine mm_zald (D := G.1) hx hb hK hP (t := 48) (by decide) rfl rfl h856 d_X7_count_69 ?_
      refine lv_if_eq (tgt := 76) hx hb d_X7_count_70 (by decide) (fun hc => ?_) (fun hc => ?_)
      · have hv := hv.1 hc
        refine lv_iinc (v := (x6 + 1)) (lv' := [(6, .int (x6 + 1)), (0, .ref (G.2.2.1 36)), (1, .int x1), (2, .int x2), (3, .int x3), (4, .int x4), (5, .int x5)]) hx hb d_X7_count_76 hl (k := 6) rfl (by rfl) (by decide) rfl (fun ls hl => ?_)
        refine lv_goto (tgt := 56) hx hb d_X7_count_79 (by decide) ?_
        exact ih x1 x2 x3 x4 x5 (x6 + 1) I L  H locs ls hv hP hD hS (lv_sub hl [1, 2, 3, 4, 5, 6, 0] rfl)
      · have hv := hv.2 hc
        refine lv_iinc (v := (x4 + 1)) (lv' := [(4, .int (x4 + 1)), (0, .ref (G.2.2.1 36)), (1, .int x1), (2, .int x2), (3, .int x3), (5, .int x5), (6, .int x6)]) hx hb d_X7_count_73 hl (k := 4) rfl (by rfl) (by decide) rfl (fun ls hl => ?_)
        refine lv_iinc (v := (x6 + 1)) (lv' := [(6, .int (x6 + 1)), (4, .int (x4 + 1)), (0, .ref (G.2.2.1 36)), (1, .int x1), (2, .int x2), (3, .int x3), (5, .int x5)]) hx hb d_X7_count_76 hl (k := 6) rfl (by rfl) (by decide) rfl (fun ls hl => ?_)
        refine lv_goto (tgt := 56) hx hb d_X7_count_79 (by decide) ?_
        exact ih x1 x2 x3 (x4 + 1) x5 (x6 + 1) I L  H locs ls hv hP hD hS (lv_sub hl [2, 3, 4, 5, 1, 6, 0] rfl)
set_option maxHeartbeats 4000000 in
set_option maxRecDepth 100000 in
theorem w_X7_count_13 {p : Program} {l : Launch} {e : Env} {s : State} {m : MethodId} {args : Array Value} {below : List Frame} {meth : Method} {c : Code} {G : mm_G} (hcx : mm_cx c_X7_count (some .int) 7 RX7 G p s m args meth c) (Q : Int32 → mm_I → mm_L → Prop) : ∀ (n9 : Nat) (x1 : Int32) (x2 : Int32) (x3 : Int32) (x4 : Int32) (x5 : Int32) (x6 : Int32) (I : mm_I) (L : mm_L)  (H : Heap) (locs : List Loc) (ls : Array Slot), vc_X7_count_13 n9 x1 x2 x3 x4 x5 x6 I L Q → mm_PW G I L H → mm_DW G I L → va_S G.2.2.2.1 s.heap H locs → lv_has ls 7 [(0, .ref (G.2.2.1 36)), (1, .int x1), (2, .int x2), (3, .int x3), (4, .int x4), (5, .int x5), (6, .int x6)] → W p l e (headSpec w_X7_count rm_X7_count).room s m args below meth c H locs 0 0 (MQ below (mm_qi G Q) args s 0 0 G.2.2.2.1) (F0 m 13 ls []) := by
  obtain ⟨hx, hb, hr, hlocks, hml, hown, hg, hK, hC⟩ := id hcx
  intro n9
  induction n9 with
  | zero => intro x1 x2 x3 x4 x5 x6 I L H locs ls hv hP hD hS hl; exact hv.elim
  | succ n9 ih =>
    intro x1 x2 x3 x4 x5 x6 I L H locs ls hv hP hD hS hl
    rw [vc_X7_count_13] at hv
    refine lv_iload hx hb d_X7_count_13 (lv_at hl 6 rfl) ?_
    refine lv_aload_n hx hb d_X7_count_15 rfl (lv_at hl 0 rfl) ?_
    refine mm_gi (D := G.1) (C := RX7) (T := TX7) (N0 := 21) hx hb hg in_X7 hown hK hP (t := 36) (by decide) rfl rfl 1 (by decide) (hg _ k_298) (fun _ h9 => h9) rfl d_X7_count_16 ?_
    refine lv_icmp_ge (tgt := 53) hx hb d_X7_count_19 (by decide) (fun hc => ?_) (fun hc => ?_)
    · have hv := hv.1 hc
      refine lv_iconst (v := 0) hx hb d_X7_count_53 (by decide) ?_
      refine lv_istore (lv' := [(6, .int 0), (0, .ref (G.2.2.1 36)), (1, .int x1), (2, .int x2), (3, .int x3), (4, .int x4), (5, .int x5)]) hx hb d_X7_count_54 hl (by decide) rfl (fun ls hl => ?_)
      obtain ⟨n, hv⟩ := hv
      exact w_X7_count_56 hcx Q n x1 x2 x3 x4 x5 0 I L  H locs ls hv hP hD hS (lv_sub hl [1, 2, 3, 4, 5, 6, 0] rfl)
    · have hv := hv.2 hc
      refine lv_aload_n hx hb d_X7_count_22 rfl (lv_at hl 0 rfl) ?_
      refine mm_gr (D := G.1) (C := RX7) (T := TX7) (N0 := 21) (r := 49) hx hb hg in_X7 hown hK hP (t := 36) (by decide) rfl rfl 14 (by decide) (hg _ k_293) (fun _ h9 => h9) rfl d_X7_count_23 ?_
      refine lv_iload hx hb d_X7_count_26 (lv_at hl 6 rfl) ?_
      obtain ⟨h852, hv⟩ := hv
      refine mm_zald (D := G.1) hx hb hK hP (t := 49) (by decide) rfl rfl h852 d_X7_count_28 ?_
      refine lv_if_eq (tgt := 38) hx hb d_X7_count_29 (by decide) (fun hc => ?_) (fun hc => ?_)
      · have hv := hv.1 hc
        refine lv_iload_n hx hb d_X7_count_38 rfl (lv_at hl 3 rfl) ?_
        refine lv_aload_n hx hb d_X7_count_39 rfl (lv_at hl 0 rfl) ?_
        refine lv_iload hx hb d_X7_count_40 (lv_at hl 6 rfl) ?_
        refine va_calli (va_runV (As := [.int x6]) (rest := [.int x3]) ⟨hx, hb, hml, hown, hg⟩ (m_X7_slips l G x6 I L _  hv) (cwV 1 hg (mm_gV k_305 k_306 k_307 k_223 kc_X7_slips) rfl rfl rfl (by decide +kernel) ⟨Nat.le_of_ble_eq_true rfl, Nat.le_of_ble_eq_true rfl⟩) ⟨mm_blind, mm_recv hK hP (t := 36) (by decide) rfl rfl, fun U hU hW => mm_call hP hK hD hC hU hS hW⟩ rfl rfl hl.1 rfl (lv_room (Nat.le_of_ble_eq_true rfl)) d_X7_count_42 ⟨Nat.zero_le _, Nat.zero_le _⟩) hS (fun q _ h => h) (fun q h => h) (fun r855 u t H locs ht hvm hv hP hz1 hk1 hS => ?_)
        obtain ⟨I853, L854⟩ := u
        dsimp only at hv hP
        rw [ht] at hP
        have hD : mm_DW G I853 L854 := mm_D_any hD
        refine lv_iadd hx hb d_X7_count_45 ?_
        refine lv_istore_n (lv' := [(3, .int (x3 + r855)), (0, .ref (G.2.2.1 36)), (1, .int x1), (2, .int x2), (4, .int x4), (5, .int x5), (6, .int x6)]) hx hb d_X7_count_46 rfl hl (by decide) rfl (fun ls hl => ?_)
        refine lv_iinc (v := (x6 + 1)) (lv' := [(6, .int (x6 + 1)), (3, .int (x3 + r855)), (0, .ref (G.2.2.1 36)), (1, .int x1), (2, .int x2), (4, .int x4), (5, .int x5)]) hx hb d_X7_count_47 hl (k := 6) rfl (by rfl) (by decide) rfl (fun ls hl => ?_)
        refine lv_goto (tgt := 13) hx hb d_X7_count_50 (by decide) ?_
        exact ih x1 x2 (x3 + r855) x4 x5 (x6 + 1) I853 L854  H locs ls hv hP hD hS (lv_sub hl [2, 3, 4, 1, 5, 6, 0] rfl)
      · have hv := hv.2 hc
        refine lv_iinc (v := (x2 + 1)) (lv' := [(2, .int (x2 + 1)), (0, .ref (G.2.2.1 36)), (1, .int x1), (3, .int x3), (4, .int x4), (5, .int x5), (6, .int x6)]) hx hb d_X7_count_32 hl (k := 2) rfl (by rfl) (by decide) rfl (fun ls hl => ?_)
        refine lv_goto (tgt := 47) hx hb d_X7_count_35 (by decide) ?_
        refine lv_iinc (v := (x6 + 1)) (lv' := [(6, .int (x6 + 1)), (2, .int (x2 + 1)), (0, .ref (G.2.2.1 36)), (1, .int x1), (3, .int x3), (4, .int x4), (5, .int x5)]) hx hb d_X7_count_47 hl (k := 6) rfl (by rfl) (by decide) rfl (fun ls hl => ?_)
        refine lv_goto (tgt := 13) hx hb d_X7_count_50 (by decide) ?_
        exact ih x1 (x2 + 1) x3 x4 x5 (x6 + 1) I L  H locs ls hv hP hD hS (lv_sub hl [2, 3, 1, 4, 5, 6, 0] rfl)
set_option maxHeartbeats 4000000 in
set_option maxRecDepth 100000 in
theorem w_X7_count_0 {p : Program} {l : Launch} {e : Env} {s : State} {m : MethodId} {args : Array Value} {below : List Frame} {meth : Method} {c : Code} {G : mm_G} (hcx : mm_cx c_X7_count (some .int) 7 RX7 G p s m args meth c) (x1 : Int32) (I : mm_I) (L : mm_L) (Q : Int32 → mm_I → mm_L → Prop)  (hv : vc_X7_count_0 x1 I L Q) {H : Heap} {locs : List Loc} (hP : mm_PW G I L H) (hD : mm_DW G I L) (hS : va_S G.2.2.2.1 s.heap H locs) {ls : Array Slot} (hl : lv_has ls 7 [(0, .ref (G.2.2.1 36)), (1, .int x1)]) : W p l e (headSpec w_X7_count rm_X7_count).room s m args below meth c H locs 0 0 (MQ below (mm_qi G Q) args s 0 0 G.2.2.2.1) (F0 m 0 ls []) := by
  obtain ⟨hx, hb, hr, hlocks, hml, hown, hg, hK, hC⟩ := id hcx
  unfold vc_X7_count_0 at hv
  refine lv_iconst (v := 0) hx hb d_X7_count_0 (by decide) ?_
  refine lv_istore_n (lv' := [(2, .int 0), (0, .ref (G.2.2.1 36)), (1, .int x1)]) hx hb d_X7_count_1 rfl hl (by decide) rfl (fun ls hl => ?_)
  refine lv_iconst (v := 0) hx hb d_X7_count_2 (by decide) ?_
  refine lv_istore_n (lv' := [(3, .int 0), (2, .int 0), (0, .ref (G.2.2.1 36)), (1, .int x1)]) hx hb d_X7_count_3 rfl hl (by decide) rfl (fun ls hl => ?_)
  refine lv_iconst (v := 0) hx hb d_X7_count_4 (by decide) ?_
  refine lv_istore (lv' := [(4, .int 0), (3, .int 0), (2, .int 0), (0, .ref (G.2.2.1 36)), (1, .int x1)]) hx hb d_X7_count_5 hl (by decide) rfl (fun ls hl => ?_)
  refine lv_iconst (v := 0) hx hb d_X7_count_7 (by decide) ?_
  refine lv_istore (lv' := [(5, .int 0), (4, .int 0), (3, .int 0), (2, .int 0), (0, .ref (G.2.2.1 36)), (1, .int x1)]) hx hb d_X7_count_8 hl (by decide) rfl (fun ls hl => ?_)
  refine lv_iconst (v := 0) hx hb d_X7_count_10 (by decide) ?_
  refine lv_istore (lv' := [(6, .int 0), (5, .int 0), (4, .int 0), (3, .int 0), (2, .int 0), (0, .ref (G.2.2.1 36)), (1, .int x1)]) hx hb d_X7_count_11 hl (by decide) rfl (fun ls hl => ?_)
  obtain ⟨n, hv⟩ := hv
  exact w_X7_count_13 hcx Q n x1 0 0 0 0 0 I L  H locs ls hv hP hD hS (lv_sub hl [5, 6, 4, 3, 2, 1, 0] rfl)
abbrev vc_X7_count (x1 : Int32) (I : mm_I) (L : mm_L) (Q : Int32 → mm_I → mm_L → Prop) : Prop := vc_X7_count_0 x1 I L Q
set_option maxHeartbeats 4000000 in
set_option maxRecDepth 100000 in
theorem m_X7_count (l : Launch) (G : mm_G) (x1 : Int32) (I : mm_I) (L : mm_L) (Q : Int32 → mm_I → mm_L → Prop)  (hv : vc_X7_count x1 I L Q) : Met l y_X7_count w_X7_count rm_X7_count (mm_pre G [.ref (G.2.2.1 36), .int x1] I L) (mm_qi G Q) 0 0 G.2.2.2.1 := by
  refine Met.ofW (cc := c_X7_count) (maxL := 7) (ret := (some .int)) (by decide) rfl ?_
  intro p e s m args below meth c s₁ B hml hw
  obtain ⟨rfl, hP, hK, hD, hC⟩ := hw
  have hts := atoms_spec (ws := w_X7_count) B.pre
  have hown : s.vm.findClass RX7 = some m.cls := findClass_of_methodNamed B.named
  have hl := lv_entry ([.ref (G.2.2.1 36), .int x1]) (n := 7) (Nat.le_of_ble_eq_true rfl)
  rw [lg_entry_eq]
  generalize (lg_sl ([.ref (G.2.2.1 36), .int x1]) ++ List.replicate (7 - (lg_sl ([.ref (G.2.2.1 36), .int x1])).length) Slot.unset).toArray = ls at hl ⊢
  have hl : lv_has ls 7 [(0, .ref (G.2.2.1 36)), (1, .int x1)] := hl
  exact w_X7_count_0 ⟨B.exec, B.bytes, B.returns, B.notSynchronized, hml, hown, fun w h => hts w (List.mem_cons_of_mem _ h), hK, hC⟩ x1 I L Q  hv hP hD va_S.rf hl
