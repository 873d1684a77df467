def vc_L_law (LN : Nat) (xs : Nat → Int32) : Nat → Int32 → mm_I → mm_L → Prop
  | 0, _, _, _ => False
  | n9 + 1, x3, I, L => (((Int32.ofNat LN) - 5) < x3 → True) ∧ (¬ ((Int32.ofNat LN) - 5) < x3 → vp_in x3 LN ∧ ((((xs x3.toNatClampNeg) &&& 15).toInt < 0 ∨ 16 ≤ ((xs x3.toNatClampNeg) &&& 15).toInt) → vc_L_law LN xs n9 (x3 + 5) I L) ∧ (((xs x3.toNatClampNeg) &&& 15) = 0 → vp_in (x3 + 1) LN ∧ vp_in (x3 + 2) LN ∧ vp_in (x3 + 3) LN ∧ vp_in (x3 + 4) LN ∧ vc_X6_node (xs ((x3 + 1)).toNatClampNeg) (xs ((x3 + 2)).toNatClampNeg) (xs ((x3 + 3)).toNatClampNeg) (xs ((x3 + 4)).toNatClampNeg) I L (fun r866 I864 L865 => vp_in (x3 + 1) LN ∧ vp_in (x3 + 2) LN ∧ vp_in (x3 + 3) LN ∧ vp_in (x3 + 4) LN ∧ vc_X7_node (xs ((x3 + 1)).toNatClampNeg) (xs ((x3 + 2)).toNatClampNeg) (xs ((x3 + 3)).toNatClampNeg) (xs ((x3 + 4)).toNatClampNeg) I864 L865 (fun r873 I871 L872 => (r866 = r873 → vc_L_law LN xs n9 (x3 + 5) I871 L872) ∧ (¬ r866 = r873 → False)))) ∧ (((xs x3.toNatClampNeg) &&& 15) = 1 → vp_in (x3 + 1) LN ∧ vp_in (x3 + 2) LN ∧ vc_X6_define (xs ((x3 + 1)).toNatClampNeg) (xs ((x3 + 2)).toNatClampNeg) I L (fun r878 I876 L877 => vp_in (x3 + 1) LN ∧ vp_in (x3 + 2) LN ∧ vc_X7_define (xs ((x3 + 1)).toNatClampNeg) (xs ((x3 + 2)).toNatClampNeg) I876 L877 (fun r883 I881 L882 => (r878 = r883 → vc_L_law LN xs n9 (x3 + 5) I881 L882) ∧ (¬ r878 = r883 → False)))) ∧ (((xs x3.toNatClampNeg) &&& 15) = 2 → vp_in (x3 + 1) LN ∧ vc_X6_undefine (xs ((x3 + 1)).toNatClampNeg) I L (fun r887 I885 L886 => vp_in (x3 + 1) LN ∧ vc_X7_undefine (xs ((x3 + 1)).toNatClampNeg) I885 L886 (fun r891 I889 L890 => (r887 = r891 → vc_L_law LN xs n9 (x3 + 5) I889 L890) ∧ (¬ r887 = r891 → False)))) ∧ (((xs x3.toNatClampNeg) &&& 15) = 3 → vp_in (x3 + 1) LN ∧ vp_in (x3 + 2) LN ∧ vp_in (x3 + 3) LN ∧ vc_X6_step (xs ((x3 + 1)).toNatClampNeg) (xs ((x3 + 2)).toNatClampNeg) (xs ((x3 + 3)).toNatClampNeg) I L (fun r897 I895 L896 => vp_in (x3 + 1) LN ∧ vp_in (x3 + 2) LN ∧ vp_in (x3 + 3) LN ∧ vc_X7_step (xs ((x3 + 1)).toNatClampNeg) (xs ((x3 + 2)).toNatClampNeg) (xs ((x3 + 3)).toNatClampNeg) I895 L896 (fun r903 I901 L902 => (r897 = r903 → vc_L_law LN xs n9 (x3 + 5) I901 L902) ∧ (¬ r897 = r903 → False)))) ∧ (((xs x3.toNatClampNeg) &&& 15) = 4 → vp_in (x3 + 1) LN ∧ vc_X6_clear (xs ((x3 + 1)).toNatClampNeg) I L (fun r907 I905 L906 => vp_in (x3 + 1) LN ∧ vc_X7_clear (xs ((x3 + 1)).toNatClampNeg) I905 L906 (fun r911 I909 L910 => (r907 = r911 → vc_L_law LN xs n9 (x3 + 5) I909 L910) ∧ (¬ r907 = r911 → False)))) ∧ (((xs x3.toNatClampNeg) &&& 15) = 5 → vp_in (x3 + 1) LN ∧ vp_in (x3 + 2) LN ∧ vp_in (x3 + 3) LN ∧ vc_X6_input (xs ((x3 + 1)).toNatClampNeg) (xs ((x3 + 2)).toNatClampNeg) (xs ((x3 + 3)).toNatClampNeg) I L (fun r917 I915 L916 => vp_in (x3 + 1) LN ∧ vp_in (x3 + 2) LN ∧ vp_in (x3 + 3) LN ∧ vc_X7_input (xs ((x3 + 1)).toNatClampNeg) (xs ((x3 + 2)).toNatClampNeg) (xs ((x3 + 3)).toNatClampNeg) I915 L916 (fun r923 I921 L922 => (r917 = r923 → vc_L_law LN xs n9 (x3 + 5) I921 L922) ∧ (¬ r917 = r923 → False)))) ∧ (((xs x3.toNatClampNeg) &&& 15) = 6 → vp_in (x3 + 1) LN ∧ vp_in (x3 + 2) LN ∧ ((xs ((x3 + 2)).toNatClampNeg) = 0 → vc_X6_activate (xs ((x3 + 1)).toNatClampNeg) 0 I L (fun r928 I926 L927 => vp_in (x3 + 1) LN ∧ vp_in (x3 + 2) LN ∧ ((xs ((x3 + 2)).toNatClampNeg) = 0 → vc_X7_activate (xs ((x3 + 1)).toNatClampNeg) 0 I926 L927 (fun r933 I931 L932 => (r928 = r933 → vc_L_law LN xs n9 (x3 + 5) I931 L932) ∧ (¬ r928 = r933 → False))) ∧ (¬ (xs ((x3 + 2)).toNatClampNeg) = 0 → vc_X7_activate (xs ((x3 + 1)).toNatClampNeg) 1 I926 L927 (fun r936 I934 L935 => (r928 = r936 → vc_L_law LN xs n9 (x3 + 5) I934 L935) ∧ (¬ r928 = r936 → False))))) ∧ (¬ (xs ((x3 + 2)).toNatClampNeg) = 0 → vc_X6_activate (xs ((x3 + 1)).toNatClampNeg) 1 I L (fun r939 I937 L938 => vp_in (x3 + 1) LN ∧ vp_in (x3 + 2) LN ∧ ((xs ((x3 + 2)).toNatClampNeg) = 0 → vc_X7_activate (xs ((x3 + 1)).toNatClampNeg) 0 I937 L938 (fun r944 I942 L943 => (r939 = r944 → vc_L_law LN xs n9 (x3 + 5) I942 L943) ∧ (¬ r939 = r944 → False))) ∧ (¬ (xs ((x3 + 2)).toNatClampNeg) = 0 → vc_X7_activate (xs ((x3 + 1)).toNatClampNeg) 1 I937 L938 (fun r947 I945 L946 => (r939 = r947 → vc_L_law LN xs n9 (x3 + 5) I945 L946) ∧ (¬ r939 = r947 → False)))))) ∧ (((xs x3.toNatClampNeg) &&& 15) = 7 → vp_in (x3 + 1) LN ∧ vp_in (x3 + 2) LN ∧ vc_X6_value (xs ((x3 + 1)).toNatClampNeg) (xs ((x3 + 2)).toNatClampNeg) I L (fun r952 I950 L951 => vp_in (x3 + 1) LN ∧ vp_in (x3 + 2) LN ∧ vc_X7_value (xs ((x3 + 1)).toNatClampNeg) (xs ((x3 + 2)).toNatClampNeg) I950 L951 (fun r957 I955 L956 => (r952 = r957 → vc_L_law LN xs n9 (x3 + 5) I955 L956) ∧ (¬ r952 = r957 → False)))) ∧ (((xs x3.toNatClampNeg) &&& 15) = 8 → vc_X6_pay  I L (fun r960 I958 L959 => vc_X7_pay  I958 L959 (fun r963 I961 L962 => (r960 = r963 → vc_L_law LN xs n9 (x3 + 5) I961 L962) ∧ (¬ r960 = r963 → False)))) ∧ (((xs x3.toNatClampNeg) &&& 15) = 9 → vp_in (x3 + 1) LN ∧ vc_X6_back (xs ((x3 + 1)).toNatClampNeg) I L (fun r967 I965 L966 => vp_in (x3 + 1) LN ∧ vc_X7_back (xs ((x3 + 1)).toNatClampNeg) I965 L966 (fun r971 I969 L970 => (r967 = r971 → vc_L_law LN xs n9 (x3 + 5) I969 L970) ∧ (¬ r967 = r971 → False)))) ∧ (((xs x3.toNatClampNeg) &&& 15) = 10 → vp_in (x3 + 1) LN ∧ vc_X6_again (xs ((x3 + 1)).toNatClampNeg) I L (fun r975 I973 L974 => vp_in (x3 + 1) LN ∧ vc_X7_again (xs ((x3 + 1)).toNatClampNeg) I973 L974 (fun r979 I977 L978 => (r975 = r979 → vc_L_law LN xs n9 (x3 + 5) I977 L978) ∧ (¬ r975 = r979 → False)))) ∧ (((xs x3.toNatClampNeg) &&& 15) = 11 → vp_in (x3 + 1) LN ∧ vp_in (x3 + 2) LN ∧ vp_in (x3 + 3) LN ∧ vc_X6_slip (xs ((x3 + 1)).toNatClampNeg) (xs ((x3 + 2)).toNatClampNeg) (xs ((x3 + 3)).toNatClampNeg) I L (fun r985 I983 L984 => vp_in (x3 + 1) LN ∧ vp_in (x3 + 2) LN ∧ vp_in (x3 + 3) LN ∧ vc_X7_slip (xs ((x3 + 1)).toNatClampNeg) (xs ((x3 + 2)).toNatClampNeg) (xs ((x3 + 3)).toNatClampNeg) I983 L984 (fun r991 I989 L990 => (r985 = r991 → vc_L_law LN xs n9 (x3 + 5) I989 L990) ∧ (¬ r985 = r991 → False)))) ∧ (((xs x3.toNatClampNeg) &&& 15) = 12 → vp_in (x3 + 1) LN ∧ vp_in (x3 + 2) LN ∧ vc_X6_held (xs ((x3 + 1)).toNatClampNeg) (xs ((x3 + 2)).toNatClampNeg) I L (fun r996 I994 L995 => vp_in (x3 + 1) LN ∧ vp_in (x3 + 2) LN ∧ vc_X7_held (xs ((x3 + 1)).toNatClampNeg) (xs ((x3 + 2)).toNatClampNeg) I994 L995 (fun r1001 I999 L1000 => (r996 = r1001 → vc_L_law LN xs n9 (x3 + 5) I999 L1000) ∧ (¬ r996 = r1001 → False)))) ∧ (((xs x3.toNatClampNeg) &&& 15) = 13 → vp_in (x3 + 1) LN ∧ vc_X6_account (xs ((x3 + 1)).toNatClampNeg) I L (fun r1005 I1003 L1004 => vp_in (x3 + 1) LN ∧ vc_X7_account (xs ((x3 + 1)).toNatClampNeg) I1003 L1004 (fun r1009 I1007 L1008 => (r1005 = r1009 → vc_L_law LN xs n9 (x3 + 5) I1007 L1008) ∧ (¬ r1005 = r1009 → False)))) ∧ (((xs x3.toNatClampNeg) &&& 15) = 14 → vp_in (x3 + 1) LN ∧ vp_in (x3 + 2) LN ∧ vc_X6_paid (xs ((x3 + 1)).toNatClampNeg) (xs ((x3 + 2)).toNatClampNeg) I L (fun r1014 I1012 L1013 => vp_in (x3 + 1) LN ∧ vp_in (x3 + 2) LN ∧ vc_X7_paid (xs ((x3 + 1)).toNatClampNeg) (xs ((x3 + 2)).toNatClampNeg) I1012 L1013 (fun r1019 I1017 L1018 => (r1014 = r1019 → vc_L_law LN xs n9 (x3 + 5) I1017 L1018) ∧ (¬ r1014 = r1019 → False)))) ∧ (((xs x3.toNatClampNeg) &&& 15) = 15 → vp_in (x3 + 1) LN ∧ vc_X6_count (xs ((x3 + 1)).toNatClampNeg) I L (fun r1023 I1021 L1022 => vp_in (x3 + 1) LN ∧ vc_X7_count (xs ((x3 + 1)).toNatClampNeg) I1021 L1022 (fun r1027 I1025 L1026 => (r1023 = r1027 → vc_L_law LN xs n9 (x3 + 5) I1025 L1026) ∧ (¬ r1023 = r1027 → False)))))
set_option maxHeartbeats 40000000 in
set_option maxRecDepth 100000 in
theorem w_L_law {p : Program} {l : Launch} {e : Env} {s : State} {m : MethodId} {below : List Frame} {meth : Method} {c : Code} {G : mm_G} {b LN : Nat} {xs : Nat → Int32} (hcx : mm_cx c_L_law ret 4 RL G p s m #[Value.ref b] meth c) (hX : va_X b LN xs s s.heap) (hbl : b < s.heap.size) (hGA : G.2.2.2.1 = fun q => s.heap.size ≤ q) : ∀ (n9 : Nat) (x3 : Int32) (I : mm_I) (L : mm_L) (H : Heap) (locs : List Loc) (ls : Array Slot), vc_L_law LN xs n9 x3 I L → mm_PW G I L H → mm_DW G I L → va_S G.2.2.2.1 s.heap H locs → lv_has ls 4 [(0, .ref b), (1, .ref (G.2.2.1 0)), (2, .ref (G.2.2.1 36)), (3, .int x3)] → W p l e room_1 s m #[Value.ref b] below meth c H locs 56 2204 (lw_Z below #[Value.ref b] s) (F0 m 18 ls []) := by
  obtain ⟨hx, hb, hr, hlocks, hml, hown, hg, hK, hC⟩ := id hcx
  have hbA : ¬ G.2.2.2.1 b := by rw [hGA]; exact Nat.not_le.mpr hbl
  intro n9
  induction n9 with
  | zero => intro x3 I L H locs ls hv hP hD hS hl; exact hv.elim
  | succ n9 ih =>
    intro x3 I L H locs ls hv hP hD hS hl
    rw [vc_L_law] at hv
    refine lv_iload_n hx hb d_L_law_18 rfl (lv_at hl 3 rfl) ?_
    refine lv_aload_n hx hb d_L_law_19 rfl (lv_at hl 0 rfl) ?_
    refine va_slen hx hb hX hbl hbA hS d_L_law_20 ?_
    refine lv_iconst (v := 5) hx hb d_L_law_21 (by decide) ?_
    refine lv_isub hx hb d_L_law_22 ?_
    refine lv_icmp_gt (tgt := 636) hx hb d_L_law_23 (by decide) (fun hc => ?_) (fun hc => ?_)
    · have hv := hv.1 hc
      refine lv_iconst (v := 1) hx hb d_L_law_636 (by decide) ?_
      refine va_forget (fun q hq => by have h9 := hS.2.2 q hq; rw [hGA] at h9; exact h9) ?_
      refine W.widen (k := 600000) (n := 7302250) (Nat.le_of_ble_eq_true rfl) (Nat.le_of_ble_eq_true rfl) ?_
      exact lw_ret hx hb hr hlocks d_L_law_637
    · have hv := hv.2 hc
      refine lv_aload_n hx hb d_L_law_26 rfl (lv_at hl 0 rfl) ?_
      refine lv_iload_n hx hb d_L_law_27 rfl (lv_at hl 3 rfl) ?_
      obtain ⟨h859, hv⟩ := hv
      refine va_sld hx hb hX hbl hbA hS h859 d_L_law_28 ?_
      refine lv_bipush (v := 15) hx hb d_L_law_29 (by decide) ?_
      refine lv_iand hx hb d_L_law_31 ?_
      obtain h0 | ⟨k9, hk9, he⟩ := mm_sw ((xs x3.toNatClampNeg) &&& 15) 0 16
      · have hv := hv.1 h0
        refine lv_tableOut (tgt := 630) hx hb d_L_law_32 (by omega) (by decide) ?_
        refine lv_iinc (v := (x3 + 5)) (lv' := [(3, .int (x3 + 5)), (0, .ref b), (1, .ref (G.2.2.1 0)), (2, .ref (G.2.2.1 36))]) hx hb d_L_law_630 hl (k := 3) rfl (by rfl) (by decide) rfl (fun ls hl => ?_)
        refine lv_goto (tgt := 18) hx hb d_L_law_633 (by decide) ?_
        exact ih (x3 + 5) I L H locs ls hv hP hD hS (lv_sub hl [1, 2, 3, 0] rfl)
      obtain rfl | rfl | rfl | rfl | rfl | rfl | rfl | rfl | rfl | rfl | rfl | rfl | rfl | rfl | rfl | rfl : k9 = 0 ∨ k9 = 1 ∨ k9 = 2 ∨ k9 = 3 ∨ k9 = 4 ∨ k9 = 5 ∨ k9 = 6 ∨ k9 = 7 ∨ k9 = 8 ∨ k9 = 9 ∨ k9 = 10 ∨ k9 = 11 ∨ k9 = 12 ∨ k9 = 13 ∨ k9 = 14 ∨ k9 = 15 := by omega
      · have he : ((xs x3.toNatClampNeg) &&& 15) = 0 := he
        have hv := hv.2.1 he
        refine lv_tableIn (tgt := 112) hx hb d_L_law_32 (by rw [he]; decide) (by rw [he]; decide) (by rw [he]; rfl) (by decide) ?_
        refine lv_aload_n hx hb d_L_law_112 rfl (lv_at hl 1 rfl) ?_
        refine lv_aload_n hx hb d_L_law_113 rfl (lv_at hl 0 rfl) ?_
        refine lv_iload_n hx hb d_L_law_114 rfl (lv_at hl 3 rfl) ?_
        refine lv_iconst (v := 1) hx hb d_L_law_115 (by decide) ?_
        refine lv_iadd hx hb d_L_law_116 ?_
        obtain ⟨h860, hv⟩ := hv
        refine va_sld hx hb hX hbl hbA hS h860 d_L_law_117 ?_
        refine lv_aload_n hx hb d_L_law_118 rfl (lv_at hl 0 rfl) ?_
        refine lv_iload_n hx hb d_L_law_119 rfl (lv_at hl 3 rfl) ?_
        refine lv_iconst (v := 2) hx hb d_L_law_120 (by decide) ?_
        refine lv_iadd hx hb d_L_law_121 ?_
        obtain ⟨h861, hv⟩ := hv
        refine va_sld hx hb hX hbl hbA hS h861 d_L_law_122 ?_
        refine lv_aload_n hx hb d_L_law_123 rfl (lv_at hl 0 rfl) ?_
        refine lv_iload_n hx hb d_L_law_124 rfl (lv_at hl 3 rfl) ?_
        refine lv_iconst (v := 3) hx hb d_L_law_125 (by decide) ?_
        refine lv_iadd hx hb d_L_law_126 ?_
        obtain ⟨h862, hv⟩ := hv
        refine va_sld hx hb hX hbl hbA hS h862 d_L_law_127 ?_
        refine lv_aload_n hx hb d_L_law_128 rfl (lv_at hl 0 rfl) ?_
        refine lv_iload_n hx hb d_L_law_129 rfl (lv_at hl 3 rfl) ?_
        refine lv_iconst (v := 4) hx hb d_L_law_130 (by decide) ?_
        refine lv_iadd hx hb d_L_law_131 ?_
        obtain ⟨h863, hv⟩ := hv
        refine va_sld hx hb hX hbl hbA hS h863 d_L_law_132 ?_
        refine va_calli (va_runV (As := [.int (xs ((x3 + 1)).toNatClampNeg), .int (xs ((x3 + 2)).toNatClampNeg), .int (xs ((x3 + 3)).toNatClampNeg), .int (xs ((x3 + 4)).toNatClampNeg)]) (rest := []) ⟨hx, hb, hml, hown, hg⟩ (m_X6_node l G (xs ((x3 + 1)).toNatClampNeg) (xs ((x3 + 2)).toNatClampNeg) (xs ((x3 + 3)).toNatClampNeg) (xs ((x3 + 4)).toNatClampNeg) I L _  hv) (cwV 4 hg (mm_gV k_342 k_343 k_344 k_1 kc_X6_node) rfl rfl rfl (by decide +kernel) ⟨Nat.le_of_ble_eq_true rfl, Nat.le_of_ble_eq_true rfl⟩) ⟨mm_blind, mm_recv hK hP (t := 0) (by decide) rfl rfl, fun U hU hW => mm_call hP hK hD hC hU hS hW⟩ rfl rfl hl.1 rfl (lv_room (Nat.le_of_ble_eq_true rfl)) d_L_law_133 ⟨Nat.le_of_ble_eq_true rfl, Nat.le_of_ble_eq_true rfl⟩) hS (fun q _ h => h) (fun q h => h) (fun r866 u t H locs ht hvm hv hP hz1 hk1 hS => ?_)
        obtain ⟨I864, L865⟩ := u
        dsimp only at hv hP
        rw [ht] at hP
        have hD : mm_DW G I864 L865 := mm_D_any hD
        refine lv_aload_n hx hb d_L_law_136 rfl (lv_at hl 2 rfl) ?_
        refine lv_aload_n hx hb d_L_law_137 rfl (lv_at hl 0 rfl) ?_
        refine lv_iload_n hx hb d_L_law_138 rfl (lv_at hl 3 rfl) ?_
        refine lv_iconst (v := 1) hx hb d_L_law_139 (by decide) ?_
        refine lv_iadd hx hb d_L_law_140 ?_
        obtain ⟨h867, hv⟩ := hv
        refine va_sld hx hb hX hbl hbA hS h867 d_L_law_141 ?_
        refine lv_aload_n hx hb d_L_law_142 rfl (lv_at hl 0 rfl) ?_
        refine lv_iload_n hx hb d_L_law_143 rfl (lv_at hl 3 rfl) ?_
        refine lv_iconst (v := 2) hx hb d_L_law_144 (by decide) ?_
        refine lv_iadd hx hb d_L_law_145 ?_
        obtain ⟨h868, hv⟩ := hv
        refine va_sld hx hb hX hbl hbA hS h868 d_L_law_146 ?_
        refine lv_aload_n hx hb d_L_law_147 rfl (lv_at hl 0 rfl) ?_
        refine lv_iload_n hx hb d_L_law_148 rfl (lv_at hl 3 rfl) ?_
        refine lv_iconst (v := 3) hx hb d_L_law_149 (by decide) ?_
        refine lv_iadd hx hb d_L_law_150 ?_
        obtain ⟨h869, hv⟩ := hv
        refine va_sld hx hb hX hbl hbA hS h869 d_L_law_151 ?_
        refine lv_aload_n hx hb d_L_law_152 rfl (lv_at hl 0 rfl) ?_
        refine lv_iload_n hx hb d_L_law_153 rfl (lv_at hl 3 rfl) ?_
        refine lv_iconst (v := 4) hx hb d_L_law_154 (by decide) ?_
        refine lv_iadd hx hb d_L_law_155 ?_
        obtain ⟨h870, hv⟩ := hv
        refine va_sld hx hb hX hbl hbA hS h870 d_L_law_156 ?_
        refine va_calli (va_runV (As := [.int (xs ((x3 + 1)).toNatClampNeg), .int (xs ((x3 + 2)).toNatClampNeg), .int (xs ((x3 + 3)).toNatClampNeg), .int (xs ((x3 + 4)).toNatClampNeg)]) (rest := [.int r866]) ⟨hx, hb, hml, hown, hg⟩ (m_X7_node l G (xs ((x3 + 1)).toNatClampNeg) (xs ((x3 + 2)).toNatClampNeg) (xs ((x3 + 3)).toNatClampNeg) (xs ((x3 + 4)).toNatClampNeg) I864 L865 _  hv) (cwV 4 hg (mm_gV k_339 k_340 k_341 k_223 kc_X7_node) rfl rfl rfl (by decide +kernel) ⟨Nat.le_of_ble_eq_true rfl, Nat.le_of_ble_eq_true rfl⟩) ⟨mm_blind, mm_recv hK hP (t := 36) (by decide) rfl rfl, fun U hU hW => mm_call hP hK hD hC hU hS hW⟩ rfl rfl hl.1 rfl (lv_room (Nat.le_of_ble_eq_true rfl)) d_L_law_157 ⟨Nat.le_of_ble_eq_true rfl, Nat.le_of_ble_eq_true rfl⟩) hS (fun q _ h => h) (fun q h => h) (fun r873 u t H locs ht hvm hv hP hz1 hk1 hS => ?_)
        obtain ⟨I871, L872⟩ := u
        dsimp only at hv hP
        rw [ht] at hP
        have hD : mm_DW G I871 L872 := mm_D_any hD
        refine lv_icmp_eq (tgt := 630) hx hb d_L_law_160 (by decide) (fun hc => ?_) (fun hc => ?_)
        · have hv := hv.1 hc
          refine lv_iinc (v := (x3 + 5)) (lv' := [(3, .int (x3 + 5)), (0, .ref b), (1, .ref (G.2.2.1 0)), (2, .ref (G.2.2.1 36))]) hx hb d_L_law_630 hl (k := 3) rfl (by rfl) (by decide) rfl (fun ls hl => ?_)
          refine lv_goto (tgt := 18) hx hb d_L_law_633 (by decide) ?_
          exact ih (x3 + 5) I871 L872 H locs ls hv hP hD hS (lv_sub hl [1, 2, 3, 0] rfl)
        · have hv := hv.2 hc
          refine lv_iconst (v := 0) hx hb d_L_law_163 (by decide) ?_
          exact hv.elim
      · have he : ((xs x3.toNatClampNeg) &&& 15) = 1 := he
        have hv := hv.2.2.1 he
        refine lv_tableIn (tgt := 165) hx hb d_L_law_32 (by rw [he]; decide) (by rw [he]; decide) (by rw [he]; rfl) (by decide) ?_
        refine lv_aload_n hx hb d_L_law_165 rfl (lv_at hl 1 rfl) ?_
        refine lv_aload_n hx hb d_L_law_166 rfl (lv_at hl 0 rfl) ?_
        refine lv_iload_n hx hb d_L_law_167 rfl (lv_at hl 3 rfl) ?_
        refine lv_iconst (v := 1) hx hb d_L_law_168 (by decide) ?_
        refine lv_iadd hx hb d_L_law_169 ?_
        obtain ⟨h874, hv⟩ := hv
        refine va_sld hx hb hX hbl hbA hS h874 d_L_law_170 ?_
        refine lv_aload_n hx hb d_L_law_171 rfl (lv_at hl 0 rfl) ?_
        refine lv_iload_n hx hb d_L_law_172 rfl (lv_at hl 3 rfl) ?_
        refine lv_iconst (v := 2) hx hb d_L_law_173 (by decide) ?_
        refine lv_iadd hx hb d_L_law_174 ?_
        obtain ⟨h875, hv⟩ := hv
        refine va_sld hx hb hX hbl hbA hS h875 d_L_law_175 ?_
        refine va_calli (va_runV (As := [.int (xs ((x3 + 1)).toNatClampNeg), .int (xs ((x3 + 2)).toNatClampNeg)]) (rest := []) ⟨hx, hb, hml, hown, hg⟩ (m_X6_define l G (xs ((x3 + 1)).toNatClampNeg) (xs ((x3 + 2)).toNatClampNeg) I L _  hv) (cwV 2 hg (mm_gV k_348 k_349 k_350 k_1 kc_X6_define) rfl rfl rfl (by decide +kernel) ⟨Nat.le_of_ble_eq_true rfl, Nat.le_of_ble_eq_true rfl⟩) ⟨mm_blind, mm_recv hK hP (t := 0) (by decide) rfl rfl, fun U hU hW => mm_call hP hK hD hC hU hS hW⟩ rfl rfl hl.1 rfl (lv_room (Nat.le_of_ble_eq_true rfl)) d_L_law_176 ⟨Nat.le_of_ble_eq_true rfl, Nat.le_of_ble_eq_true rfl⟩) hS (fun q _ h => h) (fun q h => h) (fun r878 u t H locs ht hvm hv hP hz1 hk1 hS => ?_)
        obtain ⟨I876, L877⟩ := u
        dsimp only at hv hP
        rw [ht] at hP
        have hD : mm_DW G I876 L877 := mm_D_any hD
        refine lv_aload_n hx hb d_L_law_179 rfl (lv_at hl 2 rfl) ?_
        refine lv_aload_n hx hb d_L_law_180 rfl (lv_at hl 0 rfl) ?_
        refine lv_iload_n hx hb d_L_law_181 rfl (lv_at hl 3 rfl) ?_
        refine lv_iconst (v := 1) hx hb d_L_law_182 (by decide) ?_
        refine lv_iadd hx hb d_L_law_183 ?_
        obtain ⟨h879, hv⟩ := hv
        refine va_sld hx hb hX hbl hbA hS h879 d_L_law_184 ?_
        refine lv_aload_n hx hb d_L_law_185 rfl (lv_at hl 0 rfl) ?_
        refine lv_iload_n hx hb d_L_law_186 rfl (lv_at hl 3 rfl) ?_
        refine lv_iconst (v := 2) hx hb d_L_law_187 (by decide) ?_
        refine lv_iadd hx hb d_L_law_188 ?_
        obtain ⟨h880, hv⟩ := hv
        refine va_sld hx hb hX hbl hbA hS h880 d_L_law_189 ?_
        refine va_calli (va_runV (As := [.int (xs ((x3 + 1)).toNatClampNeg), .int (xs ((x3 + 2)).toNatClampNeg)]) (rest := [.int r878]) ⟨hx, hb, hml, hown, hg⟩ (m_X7_define l G (xs ((x3 + 1)).toNatClampNeg) (xs ((x3 + 2)).toNatClampNeg) I876 L877 _  hv) (cwV 2 hg (mm_gV k_345 k_346 k_347 k_223 kc_X7_define) rfl rfl rfl (by decide +kernel) ⟨Nat.le_of_ble_eq_true rfl, Nat.le_of_ble_eq_true rfl⟩) ⟨mm_blind, mm_recv hK hP (t := 36) (by decide) rfl rfl, fun U hU hW => mm_call hP hK hD hC hU hS hW⟩ rfl rfl hl.1 rfl (lv_room (Nat.le_of_ble_eq_true rfl)) d_L_law_190 ⟨Nat.le_of_ble_eq_true rfl, Nat.le_of_ble_eq_true rfl⟩) hS (fun q _ h => h) (fun q h => h) (fun r883 u t H locs ht hvm hv hP hz1 hk1 hS => ?_)
        obtain ⟨I881, L882⟩ := u
        dsimp only at hv hP
        rw [ht] at hP
        have hD : mm_DW G I881 L882 := mm_D_any hD
        refine lv_icmp_eq (tgt := 630) hx hb d_L_law_193 (by decide) (fun hc => ?_) (fun hc => ?_)
        · have hv := hv.1 hc
          refine lv_iinc (v := (x3 + 5)) (lv' := [(3, .int (x3 + 5)), (0, .ref b), (1, .ref (G.2.2.1 0)), (2, .ref (G.2.2.1 36))]) hx hb d_L_law_630 hl (k := 3) rfl (by rfl) (by decide) rfl (fun ls hl => ?_)
          refine lv_goto (tgt := 18) hx hb d_L_law_633 (by decide) ?_
          exact ih (x3 + 5) I881 L882 H locs ls hv hP hD hS (lv_sub hl [1, 2, 3, 0] rfl)
        · have hv := hv.2 hc
          refine lv_iconst (v := 0) hx hb d_L_law_196 (by decide) ?_
          exact hv.elim
      · have he : ((xs x3.toNatClampNeg) &&& 15) = 2 := he
        have hv := hv.2.2.2.1 he
        refine lv_tableIn (tgt := 198) hx hb d_L_law_32 (by rw [he]; decide) (by rw [he]; decide) (by rw [he]; rfl) (by decide) ?_
        refine lv_aload_n hx hb d_L_law_198 rfl (lv_at hl 1 rfl) ?_
        refine lv_aload_n hx hb d_L_law_199 rfl (lv_at hl 0 rfl) ?_
        refine lv_iload_n hx hb d_L_law_200 rfl (lv_at hl 3 rfl) ?_
        refine lv_iconst (v := 1) hx hb d_L_law_201 (by decide) ?_
        refine lv_iadd hx hb d_L_law_202 ?_
        obtain ⟨h884, hv⟩ := hv
        refine va_sld hx hb hX hbl hbA hS h884 d_L_law_203 ?_
        refine va_calli (va_runV (As := [.int (xs ((x3 + 1)).toNatClampNeg)]) (rest := []) ⟨hx, hb, hml, hown, hg⟩ (m_X6_undefine l G (xs ((x3 + 1)).toNatClampNeg) I L _  hv) (cwV 1 hg (mm_gV k_354 k_355 k_356 k_1 kc_X6_undefine) rfl rfl rfl (by decide +kernel) ⟨Nat.le_of_ble_eq_true rfl, Nat.le_of_ble_eq_true rfl⟩) ⟨mm_blind, mm_recv hK hP (t := 0) (by decide) rfl rfl, fun U hU hW => mm_call hP hK hD hC hU hS hW⟩ rfl rfl hl.1 rfl (lv_room (Nat.le_of_ble_eq_true rfl)) d_L_law_204 ⟨Nat.le_of_ble_eq_true rfl, Nat.le_of_ble_eq_true rfl⟩) hS (fun q _ h => h) (fun q h => h) (fun r887 u t H locs ht hvm hv hP hz1 hk1 hS => ?_)
        obtain ⟨I885, L886⟩ := u
        dsimp only at hv hP
        rw [ht] at hP
        have hD : mm_DW G I885 L886 := mm_D_any hD
        refine lv_aload_n hx hb d_L_law_207 rfl (lv_at hl 2 rfl) ?_
        refine lv_aload_n hx hb d_L_law_208 rfl (lv_at hl 0 rfl) ?_
        refine lv_iload_n hx hb d_L_law_209 rfl (lv_at hl 3 rfl) ?_
        refine lv_iconst (v := 1) hx hb d_L_law_210 (by decide) ?_
        refine lv_iadd hx hb d_L_law_211 ?_
        obtain ⟨h888, hv⟩ := hv
        refine va_sld hx hb hX hbl hbA hS h888 d_L_law_212 ?_
        refine va_calli (va_runV (As := [.int (xs ((x3 + 1)).toNatClampNeg)]) (rest := [.int r887]) ⟨hx, hb, hml, hown, hg⟩ (m_X7_undefine l G (xs ((x3 + 1)).toNatClampNeg) I885 L886 _  hv) (cwV 1 hg (mm_gV k_351 k_352 k_353 k_223 kc_X7_undefine) rfl rfl rfl (by decide +kernel) ⟨Nat.le_of_ble_eq_true rfl, Nat.le_of_ble_eq_true rfl⟩) ⟨mm_blind, mm_recv hK hP (t := 36) (by decide) rfl rfl, fun U hU hW => mm_call hP hK hD hC hU hS hW⟩ rfl rfl hl.1 rfl (lv_room (Nat.le_of_ble_eq_true rfl)) d_L_law_213 ⟨Nat.le_of_ble_eq_true rfl, Nat.le_of_ble_eq_true rfl⟩) hS (fun q _ h => h) (fun q h => h) (fun r891 u t H locs ht hvm hv hP hz1 hk1 hS => ?_)
        obtain ⟨I889, L890⟩ := u
        dsimp only at hv hP
        rw [ht] at hP
        have hD : mm_DW G I889 L890 := mm_D_any hD
        refine lv_icmp_eq (tgt := 630) hx hb d_L_law_216 (by decide) (fun hc => ?_) (fun hc => ?_)
        · have hv := hv.1 hc
          refine lv_iinc (v := (x3 + 5)) (lv' := [(3, .int (x3 + 5)), (0, .ref b), (1, .ref (G.2.2.1 0)), (2, .ref (G.2.2.1 36))]) hx hb d_L_law_630 hl (k := 3) rfl (by rfl) (by decide) rfl (fun ls hl => ?_)
          refine lv_goto (tgt := 18) hx hb d_L_law_633 (by decide) ?_
          exact ih (x3 + 5) I889 L890 H locs ls hv hP hD hS (lv_sub hl [1, 2, 3, 0] rfl)
        · have hv := hv.2 hc
          refine lv_iconst (v := 0) hx hb d_L_law_219 (by decide) ?_
          exact hv.elim
      · have he : ((xs x3.toNatClampNeg) &&& 15) = 3 := he
        have hv := hv.2.2.2.2.1 he
        refine lv_tableIn (tgt := 221) hx hb d_L_law_32 (by rw [he]; decide) (by rw [he]; decide) (by rw [he]; rfl) (by decide) ?_
        refine lv_aload_n hx hb d_L_law_221 rfl (lv_at hl 1 rfl) ?_
        refine lv_aload_n hx hb d_L_law_222 rfl (lv_at hl 0 rfl) ?_
        refine lv_iload_n hx hb d_L_law_223 rfl (lv_at hl 3 rfl) ?_
        refine lv_iconst (v := 1) hx hb d_L_law_224 (by decide) ?_
        refine lv_iadd hx hb d_L_law_225 ?_
        obtain ⟨h892, hv⟩ := hv
        refine va_sld hx hb hX hbl hbA hS h892 d_L_law_226 ?_
        refine lv_aload_n hx hb d_L_law_227 rfl (lv_at hl 0 rfl) ?_
        refine lv_iload_n hx hb d_L_law_228 rfl (lv_at hl 3 rfl) ?_
        refine lv_iconst (v := 2) hx hb d_L_law_229 (by decide) ?_
        refine lv_iadd hx hb d_L_law_230 ?_
        obtain ⟨h893, hv⟩ := hv
        refine va_sld hx hb hX hbl hbA hS h893 d_L_law_231 ?_
        refine lv_aload_n hx hb d_L_law_232 rfl (lv_at hl 0 rfl) ?_
        refine lv_iload_n hx hb d_L_law_233 rfl (lv_at hl 3 rfl) ?_
        refine lv_iconst (v := 3) hx hb d_L_law_234 (by decide) ?_
        refine lv_iadd hx hb d_L_law_235 ?_
        obtain ⟨h894, hv⟩ := hv
        refine va_sld hx hb hX hbl hbA hS h894 d_L_law_236 ?_
        refine va_calli (va_runV (As := [.int (xs ((x3 + 1)).toNatClampNeg), .int (xs ((x3 + 2)).toNatClampNeg), .int (xs ((x3 + 3)).toNatClampNeg)]) (rest := []) ⟨hx, hb, hml, hown, hg⟩ (m_X6_step l G (xs ((x3 + 1)).toNatClampNeg) (xs ((x3 + 2)).toNatClampNeg) (xs ((x3 + 3)).toNatClampNeg) I L _  hv) (cwV 3 hg (mm_gV k_360 k_361 k_362 k_1 kc_X6_step) rfl rfl rfl (by decide +kernel) ⟨Nat.le_of_ble_eq_true rfl, Nat.le_of_ble_eq_true rfl⟩) ⟨mm_blind, mm_recv hK hP (t := 0) (by decide) rfl rfl, fun U hU hW => mm_call hP hK hD hC hU hS hW⟩ rfl rfl hl.1 rfl (lv_room (Nat.le_of_ble_eq_true rfl)) d_L_law_237 ⟨Nat.le_of_ble_eq_true rfl, Nat.le_of_ble_eq_true rfl⟩) hS (fun q _ h => h) (fun q h => h) (fun r897 u t H locs ht hvm hv hP hz1 hk1 hS => ?_)
        obtain ⟨I895, L896⟩ := u
        dsimp only at hv hP
        rw [ht] at hP
        have hD : mm_DW G I895 L896 := mm_D_any hD
        refine lv_aload_n hx hb d_L_law_240 rfl (lv_at hl 2 rfl) ?_
        refine lv_aload_n hx hb d_L_law_241 rfl (lv_at hl 0 rfl) ?_
        refine lv_iload_n hx hb d_L_law_242 rfl (lv_at hl 3 rfl) ?_
        refine lv_iconst (v := 1) hx hb d_L_law_243 (by decide) ?_
        refine lv_iadd hx hb d_L_law_244 ?_
        obtain ⟨h898, hv⟩ := hv
        refine va_sld hx hb hX hbl hbA hS h898 d_L_law_245 ?_
        refine lv_aload_n hx hb d_L_law_246 rfl (lv_at hl 0 rfl) ?_
        refine lv_iload_n hx hb d_L_law_247 rfl (lv_at hl 3 rfl) ?_
        refine lv_iconst (v := 2) hx hb d_L_law_248 (by decide) ?_
        refine lv_iadd hx hb d_L_law_249 ?_
        obtain ⟨h899, hv⟩ := hv
        refine va_sld hx hb hX hbl hbA hS h899 d_L_law_250 ?_
        refine lv_aload_n hx hb d_L_law_251 rfl (lv_at hl 0 rfl) ?_
        refine lv_iload_n hx hb d_L_law_252 rfl (lv_at hl 3 rfl) ?_
        refine lv_iconst (v := 3) hx hb d_L_law_253 (by decide) ?_
        refine lv_iadd hx hb d_L_law_254 ?_
        obtain ⟨h900, hv⟩ := hv
        refine va_sld hx hb hX hbl hbA hS h900 d_L_law_255 ?_
        refine va_calli (va_runV (As := [.int (xs ((x3 + 1)).toNatClampNeg), .int (xs ((x3 + 2)).toNatClampNeg), .int (xs ((x3 + 3)).toNatClampNeg)]) (rest := [.int r897]) ⟨hx, hb, hml, hown, hg⟩ (m_X7_step l G (xs ((x3 + 1)).toNatClampNeg) (xs ((x3 + 2)).toNatClampNeg) (xs ((x3 + 3)).toNatClampNeg) I895 L896 _  hv) (cwV 3 hg (mm_gV k_357 k_358 k_359 k_223 kc_X7_step) rfl rfl rfl (by decide +kernel) ⟨Nat.le_of_ble_eq_true rfl, Nat.le_of_ble_eq_true rfl⟩) ⟨mm_blind, mm_recv hK hP (t := 36) (by decide) rfl rfl, fun U hU hW => mm_call hP hK hD hC hU hS hW⟩ rfl rfl hl.1 rfl (lv_room (Nat.le_of_ble_eq_true rfl)) d_L_law_256 ⟨Nat.le_of_ble_eq_true rfl, Nat.le_of_ble_eq_true rfl⟩) hS (fun q _ h => h) (fun q h => h) (fun r903 u t H locs ht hvm hv hP hz1 hk1 hS => ?_)
        obtain ⟨I901, L902⟩ := u
        dsimp only at hv hP
        rw [ht] at hP
        have hD : mm_DW G I901 L902 := mm_D_any hD
        refine lv_icmp_eq (tgt := 630) hx hb d_L_law_259 (by decide) (fun hc => ?_) (fun hc => ?_)
        · have hv := hv.1 hc
          refine lv_iinc (v := (x3 + 5)) (lv' := [(3, .int (x3 + 5)), (0, .ref b), (1, .ref (G.2.2.1 0)), (2, .ref (G.2.2.1 36))]) hx hb d_L_law_630 hl (k := 3) rfl (by rfl) (by decide) rfl (fun ls hl => ?_)
          refine lv_goto (tgt := 18) hx hb d_L_law_633 (by decide) ?_
          exact ih (x3 + 5) I901 L902 H locs ls hv hP hD hS (lv_sub hl [1, 2, 3, 0] rfl)
        · have hv := hv.2 hc
          refine lv_iconst (v := 0) hx hb d_L_law_262 (by decide) ?_
          exact hv.elim
      · have he : ((xs x3.toNatClampNeg) &&& 15) = 4 := he
        have hv := hv.2.2.2.2.2.1 he
        refine lv_tableIn (tgt := 264) hx hb d_L_law_32 (by rw [he]; decide) (by rw [he]; decide) (by rw [he]; rfl) (by decide) ?_
        refine lv_aload_n hx hb d_L_law_264 rfl (lv_at hl 1 rfl) ?_
        refine lv_aload_n hx hb d_L_law_265 rfl (lv_at hl 0 rfl) ?_
        refine lv_iload_n hx hb d_L_law_266 rfl (lv_at hl 3 rfl) ?_
        refine lv_iconst (v := 1) hx hb d_L_law_267 (by decide) ?_
        refine lv_iadd hx hb d_L_law_268 ?_
        obtain ⟨h904, hv⟩ := hv
        refine va_sld hx hb hX hbl hbA hS h904 d_L_law_269 ?_
        refine va_calli (va_runV (As := [.int (xs ((x3 + 1)).toNatClampNeg)]) (rest := []) ⟨hx, hb, hml, hown, hg⟩ (m_X6_clear l G (xs ((x3 + 1)).toNatClampNeg) I L _  hv) (cwV 1 hg (mm_gV k_366 k_367 k_368 k_1 kc_X6_clear) rfl rfl rfl (by decide +kernel) ⟨Nat.le_of_ble_eq_true rfl, Nat.le_of_ble_eq_true rfl⟩) ⟨mm_blind, mm_recv hK hP (t := 0) (by decide) rfl rfl, fun U hU hW => mm_call hP hK hD hC hU hS hW⟩ rfl rfl hl.1 rfl (lv_room (Nat.le_of_ble_eq_true rfl)) d_L_law_270 ⟨Nat.le_of_ble_eq_true rfl, Nat.le_of_ble_eq_true rfl⟩) hS (fun q _ h => h) (fun q h => h) (fun r907 u t H locs ht hvm hv hP hz1 hk1 hS => ?_)
        obtain ⟨I905, L906⟩ := u
        dsimp only at hv hP
        rw [ht] at hP
        have hD : mm_DW G I905 L906 := mm_D_any hD
        refine lv_aload_n hx hb d_L_law_273 rfl (lv_at hl 2 rfl) ?_
        refine lv_aload_n hx hb d_L_law_274 rfl (lv_at hl 0 rfl) ?_
        refine lv_iload_n hx hb d_L_law_275 rfl (lv_at hl 3 rfl) ?_
        refine lv_iconst (v := 1) hx hb d_L_law_276 (by decide) ?_
        refine lv_iadd hx hb d_L_law_277 ?_
        obtain ⟨h908, hv⟩ := hv
        refine va_sld hx hb hX hbl hbA hS h908 d_L_law_278 ?_
        refine va_calli (va_runV (As := [.int (xs ((x3 + 1)).toNatClampNeg)]) (rest := [.int r907]) ⟨hx, hb, hml, hown, hg⟩ (m_X7_clear l G (xs ((x3 + 1)).toNatClampNeg) I905 L906 _  hv) (cwV 1 hg (mm_gV k_363 k_364 k_365 k_223 kc_X7_clear) rfl rfl rfl (by decide +kernel) ⟨Nat.le_of_ble_eq_true rfl, Nat.le_of_ble_eq_true rfl⟩) ⟨mm_blind, mm_recv hK hP (t := 36) (by decide) rfl rfl, fun U hU hW => mm_call hP hK hD hC hU hS hW⟩ rfl rfl hl.1 rfl (lv_room (Nat.le_of_ble_eq_true rfl)) d_L_law_279 ⟨Nat.le_of_ble_eq_true rfl, Nat.le_of_ble_eq_true rfl⟩) hS (fun q _ h => h) (fun q h => h) (fun r911 u t H locs ht hvm hv hP hz1 hk1 hS => ?_)
        obtain ⟨I909, L910⟩ := u
        dsimp only at hv hP
        rw [ht] at hP
        have hD : mm_DW G I909 L910 := mm_D_any hD
        refine lv_icmp_eq (tgt := 630) hx hb d_L_law_282 (by decide) (fun hc => ?_) (fun hc => ?_)
        · have hv := hv.1 hc
          refine lv_iinc (v := (x3 + 5)) (lv' := [(3, .int (x3 + 5)), (0, .ref b), (1, .ref (G.2.2.1 0)), (2, .ref (G.2.2.1 36))]) hx hb d_L_law_630 hl (k := 3) rfl (by rfl) (by decide) rfl (fun ls hl => ?_)
          refine lv_goto (tgt := 18) hx hb d_L_law_633 (by decide) ?_
          exact ih (x3 + 5) I909 L910 H locs ls hv hP hD hS (lv_sub hl [1, 2, 3, 0] rfl)
        · have hv := hv.2 hc
          refine lv_iconst (v := 0) hx hb d_L_law_285 (by decide) ?_
          exact hv.elim
      · have he : ((xs x3.toNatClampNeg) &&& 15) = 5 := he
        have hv := hv.2.2.2.2.2.2.1 he
        refine lv_tableIn (tgt := 287) hx hb d_L_law_32 (by rw [he]; decide) (by rw [he]; decide) (by rw [he]; rfl) (by decide) ?_
        refine lv_aload_n hx hb d_L_law_287 rfl (lv_at hl 1 rfl) ?_
        refine lv_aload_n hx hb d_L_law_288 rfl (lv_at hl 0 rfl) ?_
        refine lv_iload_n hx hb d_L_law_289 rfl (lv_at hl 3 rfl) ?_
        refine lv_iconst (v := 1) hx hb d_L_law_290 (by decide) ?_
        refine lv_iadd hx hb d_L_law_291 ?_
        obtain ⟨h912, hv⟩ := hv
        refine va_sld hx hb hX hbl hbA hS h912 d_L_law_292 ?_
        refine lv_aload_n hx hb d_L_law_293 rfl (lv_at hl 0 rfl) ?_
        refine lv_iload_n hx hb d_L_law_294 rfl (lv_at hl 3 rfl) ?_
        refine lv_iconst (v := 2) hx hb d_L_law_295 (by decide) ?_
        refine lv_iadd hx hb d_L_law_296 ?_
        obtain ⟨h913, hv⟩ := hv
        refine va_sld hx hb hX hbl hbA hS h913 d_L_law_297 ?_
        refine lv_aload_n hx hb d_L_law_298 rfl (lv_at hl 0 rfl) ?_
        refine lv_iload_n hx hb d_L_law_299 rfl (lv_at hl 3 rfl) ?_
        refine lv_iconst (v := 3) hx hb d_L_law_300 (by decide) ?_
        refine lv_iadd hx hb d_L_law_301 ?_
        obtain ⟨h914, hv⟩ := hv
        refine va_sld hx hb hX hbl hbA hS h914 d_L_law_302 ?_
        refine va_calli (va_runV (As := [.int (xs ((x3 + 1)).toNatClampNeg), .int (xs ((x3 + 2)).toNatClampNeg), .int (xs ((x3 + 3)).toNatClampNeg)]) (rest := []) ⟨hx, hb, hml, hown, hg⟩ (m_X6_input l G (xs ((x3 + 1)).toNatClampNeg) (xs ((x3 + 2)).toNatClampNeg) (xs ((x3 + 3)).toNatClampNeg) I L _  hv) (cwV 3 hg (mm_gV k_372 k_373 k_374 k_1 kc_X6_input) rfl rfl rfl (by decide +kernel) ⟨Nat.le_of_ble_eq_true rfl, Nat.le_of_ble_eq_true rfl⟩) ⟨mm_blind, mm_recv hK hP (t := 0) (by decide) rfl rfl, fun U hU hW => mm_call hP hK hD hC hU hS hW⟩ rfl rfl hl.1 rfl (lv_room (Nat.le_of_ble_eq_true rfl)) d_L_law_303 ⟨Nat.le_of_ble_eq_true rfl, Nat.le_of_ble_eq_true rfl⟩) hS (fun q _ h => h) (fun q h => h) (fun r917 u t H locs ht hvm hv hP hz1 hk1 hS => ?_)
        obtain ⟨I915, L916⟩ := u
        dsimp only at hv hP
        rw [ht] at hP
        have hD : mm_DW G I915 L916 := mm_D_any hD
        refine lv_aload_n hx hb d_L_law_306 rfl (lv_at hl 2 rfl) ?_
        refine lv_aload_n hx hb d_L_law_307 rfl (lv_at hl 0 rfl) ?_
        refine lv_iload_n hx hb d_L_law_308 rfl (lv_at hl 3 rfl) ?_
        refine lv_iconst (v := 1) hx hb d_L_law_309 (by decide) ?_
        refine lv_iadd hx hb d_L_law_310 ?_
        obtain ⟨h918, hv⟩ := hv
        refine va_sld hx hb hX hbl hbA hS h918 d_L_law_311 ?_
        refine lv_aload_n hx hb d_L_law_312 rfl (lv_at hl 0 rfl) ?_
        refine lv_iload_n hx hb d_L_law_313 rfl (lv_at hl 3 rfl) ?_
        refine lv_iconst (v := 2) hx hb d_L_law_314 (by decide) ?_
        refine lv_iadd hx hb d_L_law_315 ?_
        obtain ⟨h919, hv⟩ := hv
        refine va_sld hx hb hX hbl hbA hS h919 d_L_law_316 ?_
        refine lv_aload_n hx hb d_L_law_317 rfl (lv_at hl 0 rfl) ?_
        refine lv_iload_n hx hb d_L_law_318 rfl (lv_at hl 3 rfl) ?_
        refine lv_iconst (v := 3) hx hb d_L_law_319 (by decide) ?_
        refine lv_iadd hx hb d_L_law_320 ?_
        obtain ⟨h920, hv⟩ := hv
        refine va_sld hx hb hX hbl hbA hS h920 d_L_law_321 ?_
        refine va_calli (va_runV (As := [.int (xs ((x3 + 1)).toNatClampNeg), .int (xs ((x3 + 2)).toNatClampNeg), .int (xs ((x3 + 3)).toNatClampNeg)]) (rest := [.int r917]) ⟨hx, hb, hml, hown, hg⟩ (m_X7_input l G (xs ((x3 + 1)).toNatClampNeg) (xs ((x3 + 2)).toNatClampNeg) (xs ((x3 + 3)).toNatClampNeg) I915 L916 _  hv) (cwV 3 hg (mm_gV k_369 k_370 k_371 k_223 kc_X7_input) rfl rfl rfl (by decide +kernel) ⟨Nat.le_of_ble_eq_true rfl, Nat.le_of_ble_eq_true rfl⟩) ⟨mm_blind, mm_recv hK hP (t := 36) (by decide) rfl rfl, fun U hU hW => mm_call hP hK hD hC hU hS hW⟩ rfl rfl hl.1 rfl (lv_room (Nat.le_of_ble_eq_true rfl)) d_L_law_322 ⟨Nat.le_of_ble_eq_true rfl, Nat.le_of_ble_eq_true rfl⟩) hS (fun q _ h => h) (fun q h => h) (fun r923 u t H locs ht hvm hv hP hz1 hk1 hS => ?_)
        obtain ⟨I921, L922⟩ := u
        dsimp only at hv hP
        rw [ht] at hP
        have hD : mm_DW G I921 L922 := mm_D_any hD
        refine lv_icmp_eq (tgt := 630) hx hb d_L_law_325 (by decide) (fun hc => ?_) (fun hc => ?_)
        · have hv := hv.1 hc
          refine lv_iinc (v := (x3 + 5)) (lv' := [(3, .int (x3 + 5)), (0, .ref b), (1, .ref (G.2.2.1 0)), (2, .ref (G.2.2.1 36))]) hx hb d_L_law_630 hl (k := 3) rfl (by rfl) (by decide) rfl (fun ls hl => ?_)
          refine lv_goto (tgt := 18) hx hb d_L_law_633 (by decide) ?_
          exact ih (x3 + 5) I921 L922 H locs ls hv hP hD hS (lv_sub hl [1, 2, 3, 0] rfl)
        · have hv := hv.2 hc
          refine lv_iconst (v := 0) hx hb d_L_law_328 (by decide) ?_
          exact hv.elim
      · have he : ((xs x3.toNatClampNeg) &&& 15) = 6 := he
        have hv := hv.2.2.2.2.2.2.2.1 he
        refine lv_tableIn (tgt := 330) hx hb d_L_law_32 (by rw [he]; decide) (by rw [he]; decide) (by rw [he]; rfl) (by decide) ?_
        refine lv_aload_n hx hb d_L_law_330 rfl (lv_at hl 1 rfl) ?_
        refine lv_aload_n hx hb d_L_law_331 rfl (lv_at hl 0 rfl) ?_
        refine lv_iload_n hx hb d_L_law_332 rfl (lv_at hl 3 rfl) ?_
        refine lv_iconst (v := 1) hx hb d_L_law_333 (by decide) ?_
        refine lv_iadd hx hb d_L_law_334 ?_
        obtain ⟨h924, hv⟩ := hv
        refine va_sld hx hb hX hbl hbA hS h924 d_L_law_335 ?_
        refine lv_aload_n hx hb d_L_law_336 rfl (lv_at hl 0 rfl) ?_
        refine lv_iload_n hx hb d_L_law_337 rfl (lv_at hl 3 rfl) ?_
        refine lv_iconst (v := 2) hx hb d_L_law_338 (by decide) ?_
        refine lv_iadd hx hb d_L_law_339 ?_
        obtain ⟨h925, hv⟩ := hv
        refine va_sld hx hb hX hbl hbA hS h925 d_L_law_340 ?_
        refine lv_if_eq (tgt := 348) hx hb d_L_law_341 (by decide) (fun hc => ?_) (fun hc => ?_)
        · have hv := hv.1 hc
          refine lv_iconst (v := 0) hx hb d_L_law_348 (by decide) ?_
          refine va_calli (va_runV (As := [.int (xs ((x3 + 1)).toNatClampNeg), .int 0]) (rest := []) ⟨hx, hb, hml, hown, hg⟩ (m_X6_activate l G (xs ((x3 + 1)).toNatClampNeg) 0 I L _  hv) (cwV 2 hg (mm_gV k_378 k_379 k_380 k_1 kc_X6_activate) rfl rfl rfl (by decide +kernel) ⟨Nat.le_of_ble_eq_true rfl, Nat.le_of_ble_eq_true rfl⟩) ⟨mm_blind, mm_recv hK hP (t := 0) (by decide) rfl rfl, fun U hU hW => mm_call hP hK hD hC hU hS hW⟩ rfl rfl hl.1 rfl (lv_room (Nat.le_of_ble_eq_true rfl)) d_L_law_349 ⟨Nat.le_of_ble_eq_true rfl, Nat.le_of_ble_eq_true rfl⟩) hS (fun q _ h => h) (fun q h => h) (fun r928 u t H locs ht hvm hv hP hz1 hk1 hS => ?_)
          obtain ⟨I926, L927⟩ := u
          dsimp only at hv hP
          rw [ht] at hP
          have hD : mm_DW G I926 L927 := mm_D_any hD
          refine lv_aload_n hx hb d_L_law_352 rfl (lv_at hl 2 rfl) ?_
          refine lv_aload_n hx hb d_L_law_353 rfl (lv_at hl 0 rfl) ?_
          refine lv_iload_n hx hb d_L_law_354 rfl (lv_at hl 3 rfl) ?_
          refine lv_iconst (v := 1) hx hb d_L_law_355 (by decide) ?_
          refine lv_iadd hx hb d_L_law_356 ?_
          obtain ⟨h929, hv⟩ := hv
          refine va_sld hx hb hX hbl hbA hS h929 d_L_law_357 ?_
          refine lv_aload_n hx hb d_L_law_358 rfl (lv_at hl 0 rfl) ?_
          refine lv_iload_n hx hb d_L_law_359 rfl (lv_at hl 3 rfl) ?_
          refine lv_iconst (v := 2) hx hb d_L_law_360 (by decide) ?_
          refine lv_iadd hx hb d_L_law_361 ?_
          obtain ⟨h930, hv⟩ := hv
          refine va_sld hx hb hX hbl hbA hS h930 d_L_law_362 ?_
          refine lv_if_eq (tgt := 370) hx hb d_L_law_363 (by decide) (fun hc => ?_) (fun hc => ?_)
          · have hv := hv.1 hc
            refine lv_iconst (v := 0) hx hb d_L_law_370 (by decide) ?_
            refine va_calli (va_runV (As := [.int (xs ((x3 + 1)).toNatClampNeg), .int 0]) (rest := [.int r928]) ⟨hx, hb, hml, hown, hg⟩ (m_X7_activate l G (xs ((x3 + 1)).toNatClampNeg) 0 I926 L927 _  hv) (cwV 2 hg (mm_gV k_375 k_376 k_377 k_223 kc_X7_activate) rfl rfl rfl (by decide +kernel) ⟨Nat.le_of_ble_eq_true rfl, Nat.le_of_ble_eq_true rfl⟩) ⟨mm_blind, mm_recv hK hP (t := 36) (by decide) rfl rfl, fun U hU hW => mm_call hP hK hD hC hU hS hW⟩ rfl rfl hl.1 rfl (lv_room (Nat.le_of_ble_eq_true rfl)) d_L_law_371 ⟨Nat.le_of_ble_eq_true rfl, Nat.le_of_ble_eq_true rfl⟩) hS (fun q _ h => h) (fun q h => h) (fun r933 u t H locs ht hvm hv hP hz1 hk1 hS => ?_)
            obtain ⟨I931, L932⟩ := u
            dsimp only at hv hP
            rw [ht] at hP
            have hD : mm_DW G I931 L932 := mm_D_any hD
            refine lv_icmp_eq (tgt := 630) hx hb d_L_law_374 (by decide) (fun hc => ?_) (fun hc => ?_)
            · have hv := hv.1 hc
              refine lv_iinc (v := (x3 + 5)) (lv' := [(3, .int (x3 + 5)), (0, .ref b), (1, .ref (G.2.2.1 0)), (2, .ref (G.2.2.1 36))]) hx hb d_L_law_630 hl (k := 3) rfl (by rfl) (by decide) rfl (fun ls hl => ?_)
              refine lv_goto (tgt := 18) hx hb d_L_law_633 (by decide) ?_
              exact ih (x3 + 5) I931 L932 H locs ls hv hP hD hS (lv_sub hl [1, 2, 3, 0] rfl)
            · have hv := hv.2 hc
              refine lv_iconst (v := 0) hx hb d_L_law_377 (by decide) ?_
              exact hv.elim
          · have hv := hv.2 hc
            refine lv_iconst (v := 1) hx hb d_L_law_366 (by decide) ?_
            refine lv_goto (tgt := 371) hx hb d_L_law_367 (by decide) ?_
            refine va_calli (va_runV (As := [.int (xs ((x3 + 1)).toNatClampNeg), .int 1]) (rest := [.int r928]) ⟨hx, hb, hml, hown, hg⟩ (m_X7_activate l G (xs ((x3 + 1)).toNatClampNeg) 1 I926 L927 _  hv) (cwV 2 hg (mm_gV k_375 k_376 k_377 k_223 kc_X7_activate) rfl rfl rfl (by decide +kernel) ⟨Nat.le_of_ble_eq_true rfl, Nat.le_of_ble_eq_true rfl⟩) ⟨mm_blind, mm_recv hK hP (t := 36) (by decide) rfl rfl, fun U hU hW => mm_call hP hK hD hC hU hS hW⟩ rfl rfl hl.1 rfl (lv_room (Nat.le_of_ble_eq_true rfl)) d_L_law_371 ⟨Nat.le_of_ble_eq_true rfl, Nat.le_of_ble_eq_true rfl⟩) hS (fun q _ h => h) (fun q h => h) (fun r936 u t H locs ht hvm hv hP hz1 hk1 hS => ?_)
            obtain ⟨I934, L935⟩ := u
            dsimp only at hv hP
            rw [ht] at hP
            have hD : mm_DW G I934 L935 := mm_D_any hD
            refine lv_icmp_eq (tgt := 630) hx hb d_L_law_374 (by decide) (fun hc => ?_) (fun hc => ?_)
            · have hv := hv.1 hc
              refine lv_iinc (v := (x3 + 5)) (lv' := [(3, .int (x3 + 5)), (0, .ref b), (1, .ref (G.2.2.1 0)), (2, .ref (G.2.2.1 36))]) hx hb d_L_law_630 hl (k := 3) rfl (by rfl) (by decide) rfl (fun ls hl => ?_)
              refine lv_goto (tgt := 18) hx hb d_L_law_633 (by decide) ?_
              exact ih (x3 + 5) I934 L935 H locs ls hv hP hD hS (lv_sub hl [1, 2, 3, 0] rfl)
            · have hv := hv.2 hc
              refine lv_iconst (v := 0) hx hb d_L_law_377 (by decide) ?_
              exact hv.elim
        · have hv := hv.2 hc
          refine lv_iconst (v := 1) hx hb d_L_law_344 (by decide) ?_
          refine lv_goto (tgt := 349) hx hb d_L_law_345 (by decide) ?_
          refine va_calli (va_runV (As := [.int (xs ((x3 + 1)).toNatClampNeg), .int 1]) (rest := []) ⟨hx, hb, hml, hown, hg⟩ (m_X6_activate l G (xs ((x3 + 1)).toNatClampNeg) 1 I L _  hv) (cwV 2 hg (mm_gV k_378 k_379 k_380 k_1 kc_X6_activate) rfl rfl rfl (by decide +kernel) ⟨Nat.le_of_ble_eq_true rfl, Nat.le_of_ble_eq_true rfl⟩) ⟨mm_blind, mm_recv hK hP (t := 0) (by decide) rfl rfl, fun U hU hW => mm_call hP hK hD hC hU hS hW⟩ rfl rfl hl.1 rfl (lv_room (Nat.le_of_ble_eq_true rfl)) d_L_law_349 ⟨Nat.le_of_ble_eq_true rfl, Nat.le_of_ble_eq_true rfl⟩) hS (fun q _ h => h) (fun q h => h) (fun r939 u t H locs ht hvm hv hP hz1 hk1 hS => ?_)
          obtain ⟨I937, L938⟩ := u
          dsimp only at hv hP
          rw [ht] at hP
          have hD : mm_DW G I937 L938 := mm_D_any hD
          refine lv_aload_n hx hb d_L_law_352 rfl (lv_at hl 2 rfl) ?_
          refine lv_aload_n hx hb d_L_law_353 rfl (lv_at hl 0 rfl) ?_
          refine lv_iload_n hx hb d_L_law_354 rfl (lv_at hl 3 rfl) ?_
          refine lv_iconst (v := 1) hx hb d_L_law_355 (by decide) ?_
          refine lv_iadd hx hb d_L_law_356 ?_
          obtain ⟨h940, hv⟩ := hv
          refine va_sld hx hb hX hbl hbA hS h940 d_L_law_357 ?_
          refine lv_aload_n hx hb d_L_law_358 rfl (lv_at hl 0 rfl) ?_
          refine lv_iload_n hx hb d_L_law_359 rfl (lv_at hl 3 rfl) ?_
          refine lv_iconst (v := 2) hx hb d_L_law_360 (by decide) ?_
          refine lv_iadd hx hb d_L_law_361 ?_
          obtain ⟨h941, hv⟩ := hv
          refine va_sld hx hb hX hbl hbA hS h941 d_L_law_362 ?_
          refine lv_if_eq (tgt := 370) hx hb d_L_law_363 (by decide) (fun hc => ?_) (fun hc => ?_)
          · have hv := hv.1 hc
            refine lv_iconst (v := 0) hx hb d_L_law_370 (by decide) ?_
            refine va_calli (va_runV (As := [.int (xs ((x3 + 1)).toNatClampNeg), .int 0]) (rest := [.int r939]) ⟨hx, hb, hml, hown, hg⟩ (m_X7_activate l G (xs ((x3 + 1)).toNatClampNeg) 0 I937 L938 _  hv) (cwV 2 hg (mm_gV k_375 k_376 k_377 k_223 kc_X7_activate) rfl rfl rfl (by decide +kernel) ⟨Nat.le_of_ble_eq_true rfl, Nat.le_of_ble_eq_true rfl⟩) ⟨mm_blind, mm_recv hK hP (t := 36) (by decide) rfl rfl, fun U hU hW => mm_call hP hK hD hC hU hS hW⟩ rfl rfl hl.1 rfl (lv_room (Nat.le_of_ble_eq_true rfl)) d_L_law_371 ⟨Nat.le_of_ble_eq_true rfl, Nat.le_of_ble_eq_true rfl⟩) hS (fun q _ h => h) (fun q h => h) (fun r944 u t H locs ht hvm hv hP hz1 hk1 hS => ?_)
            obtain ⟨I942, L943⟩ := u
            dsimp only at hv hP
            rw [ht] at hP
            have hD : mm_DW G I942 L943 := mm_D_any hD
            refine lv_icmp_eq (tgt := 630) hx hb d_L_law_374 (by decide) (fun hc => ?_) (fun hc => ?_)
            · have hv := hv.1 hc
              refine lv_iinc (v := (x3 + 5)) (lv' := [(3, .int (x3 + 5)), (0, .ref b), (1, .ref (G.2.2.1 0)), (2, .ref (G.2.2.1 36))]) hx hb d_L_law_630 hl (k := 3) rfl (by rfl) (by decide) rfl (fun ls hl => ?_)
              refine lv_goto (tgt := 18) hx hb d_L_law_633 (by decide) ?_
              exact ih (x3 + 5) I942 L943 H locs ls hv hP hD hS (lv_sub hl [1, 2, 3, 0] rfl)
            · have hv := hv.2 hc
              refine lv_iconst (v := 0) hx hb d_L_law_377 (by decide) ?_
              exact hv.elim
          · have hv := hv.2 hc
            refine lv_iconst (v := 1) hx hb d_L_law_366 (by decide) ?_
            refine lv_goto (tgt := 371) hx hb d_L_law_367 (by decide) ?_
            refine va_calli (va_runV (As := [.int (xs ((x3 + 1)).toNatClampNeg), .int 1]) (rest := [.int r939]) ⟨hx, hb, hml, hown, hg⟩ (m_X7_activate l G (xs ((x3 + 1)).toNatClampNeg) 1 I937 L938 _  hv) (cwV 2 hg (mm_gV k_375 k_376 k_377 k_223 kc_X7_activate) rfl rfl rfl (by decide +kernel) ⟨Nat.le_of_ble_eq_true rfl, Nat.le_of_ble_eq_true rfl⟩) ⟨mm_blind, mm_recv hK hP (t := 36) (by decide) rfl rfl, fun U hU hW => mm_call hP hK hD hC hU hS hW⟩ rfl rfl hl.1 rfl (lv_room (Nat.le_of_ble_eq_true rfl)) d_L_law_371 ⟨Nat.le_of_ble_eq_true rfl, Nat.le_of_ble_eq_true rfl⟩) hS (fun q _ h => h) (fun q h => h) (fun r947 u t H locs ht hvm hv hP hz1 hk1 hS => ?_)
            obtain ⟨I945, L946⟩ := u
            dsimp only at hv hP
            rw [ht] at hP
            have hD : mm_DW G I945 L946 := mm_D_any hD
            refine lv_icmp_eq (tgt := 630) hx hb d_L_law_374 (by decide) (fun hc => ?_) (fun hc => ?_)
            · have hv := hv.1 hc
              refine lv_iinc (v := (x3 + 5)) (lv' := [(3, .int (x3 + 5)), (0, .ref b), (1, .ref (G.2.2.1 0)), (2, .ref (G.2.2.1 36))]) hx hb d_L_law_630 hl (k := 3) rfl (by rfl) (by decide) rfl (fun ls hl => ?_)
              refine lv_goto (tgt := 18) hx hb d_L_law_633 (by decide) ?_
              exact ih (x3 + 5) I945 L946 H locs ls hv hP hD hS (lv_sub hl [1, 2, 3, 0] rfl)
            · have hv := hv.2 hc
              refine lv_iconst (v := 0) hx hb d_L_law_377 (by decide) ?_
              exact hv.elim
      · have he : ((xs x3.toNatClampNeg) &&& 15) = 7 := he
        have hv := hv.2.2.2.2.2.2.2.2.1 he
        refine lv_tableIn (tgt := 379) hx hb d_L_law_32 (by rw [he]; decide) (by rw [he]; decide) (by rw [he]; rfl) (by decide) ?_
        refine lv_aload_n hx hb d_L_law_379 rfl (lv_at hl 1 rfl) ?_
        refine lv_aload_n hx hb d_L_law_380 rfl (lv_at hl 0 rfl) ?_
        refine lv_iload_n hx hb d_L_law_381 rfl (lv_at hl 3 rfl) ?_
        refine lv_iconst (v := 1) hx hb d_L_law_382 (by decide) ?_
        refine lv_iadd hx hb d_L_law_383 ?_
        obtain ⟨h948, hv⟩ := hv
        refine va_sld hx hb hX hbl hbA hS h948 d_L_law_384 ?_
        refine lv_aload_n hx hb d_L_law_385 rfl (lv_at hl 0 rfl) ?_
        refine lv_iload_n hx hb d_L_law_386 rfl (lv_at hl 3 rfl) ?_
        refine lv_iconst (v := 2) hx hb d_L_law_387 (by decide) ?_
        refine lv_iadd hx hb d_L_law_388 ?_
        obtain ⟨h949, hv⟩ := hv
        refine va_sld hx hb hX hbl hbA hS h949 d_L_law_389 ?_
        refine va_calll (va_runV (As := [.int (xs ((x3 + 1)).toNatClampNeg), .int (xs ((x3 + 2)).toNatClampNeg)]) (rest := []) ⟨hx, hb, hml, hown, hg⟩ (m_X6_value l G (xs ((x3 + 1)).toNatClampNeg) (xs ((x3 + 2)).toNatClampNeg) I L _  hv) (cwV 2 hg (mm_gV k_384 k_385 k_386 k_1 kc_X6_value) rfl rfl rfl (by decide +kernel) ⟨Nat.le_of_ble_eq_true rfl, Nat.le_of_ble_eq_true rfl⟩) ⟨mm_blind, mm_recv hK hP (t := 0) (by decide) rfl rfl, fun U hU hW => mm_call hP hK hD hC hU hS hW⟩ rfl rfl hl.1 rfl (lv_room (Nat.le_of_ble_eq_true rfl)) d_L_law_390 ⟨Nat.le_of_ble_eq_true rfl, Nat.le_of_ble_eq_true rfl⟩) hS (fun q _ h => h) (fun q h => h) (fun r952 u t H locs ht hvm hv hP hz1 hk1 hS => ?_)
        obtain ⟨I950, L951⟩ := u
        dsimp only at hv hP
        rw [ht] at hP
        have hD : mm_DW G I950 L951 := mm_D_any hD
        refine lv_aload_n hx hb d_L_law_393 rfl (lv_at hl 2 rfl) ?_
        refine lv_aload_n hx hb d_L_law_394 rfl (lv_at hl 0 rfl) ?_
        refine lv_iload_n hx hb d_L_law_395 rfl (lv_at hl 3 rfl) ?_
        refine lv_iconst (v := 1) hx hb d_L_law_396 (by decide) ?_
        refine lv_iadd hx hb d_L_law_397 ?_
        obtain ⟨h953, hv⟩ := hv
        refine va_sld hx hb hX hbl hbA hS h953 d_L_law_398 ?_
        refine lv_aload_n hx hb d_L_law_399 rfl (lv_at hl 0 rfl) ?_
        refine lv_iload_n hx hb d_L_law_400 rfl (lv_at hl 3 rfl) ?_
        refine lv_iconst (v := 2) hx hb d_L_law_401 (by decide) ?_
        refine lv_iadd hx hb d_L_law_402 ?_
        obtain ⟨h954, hv⟩ := hv
        refine va_sld hx hb hX hbl hbA hS h954 d_L_law_403 ?_
        refine va_calll (va_runV (As := [.int (xs ((x3 + 1)).toNatClampNeg), .int (xs ((x3 + 2)).toNatClampNeg)]) (rest := [.long r952]) ⟨hx, hb, hml, hown, hg⟩ (m_X7_value l G (xs ((x3 + 1)).toNatClampNeg) (xs ((x3 + 2)).toNatClampNeg) I950 L951 _  hv) (cwV 2 hg (mm_gV k_381 k_382 k_383 k_223 kc_X7_value) rfl rfl rfl (by decide +kernel) ⟨Nat.le_of_ble_eq_true rfl, Nat.le_of_ble_eq_true rfl⟩) ⟨mm_blind, mm_recv hK hP (t := 36) (by decide) rfl rfl, fun U hU hW => mm_call hP hK hD hC hU hS hW⟩ rfl rfl hl.1 rfl (lv_room (Nat.le_of_ble_eq_true rfl)) d_L_law_404 ⟨Nat.le_of_ble_eq_true rfl, Nat.le_of_ble_eq_true rfl⟩) hS (fun q _ h => h) (fun q h => h) (fun r957 u t H locs ht hvm hv hP hz1 hk1 hS => ?_)
        obtain ⟨I955, L956⟩ := u
        dsimp only at hv hP
        rw [ht] at hP
        have hD : mm_DW G I955 L956 := mm_D_any hD
        refine W.lcmp hx hb d_L_law_407 ?_
        refine lv_if_eq (tgt := 630) hx hb d_L_law_408 (by decide) (fun hc => ?_) (fun hc => ?_)
        · have hv := hv.1 ((lg_cmp_eq _ _).mp hc)
          refine lv_iinc (v := (x3 + 5)) (lv' := [(3, .int (x3 + 5)), (0, .ref b), (1, .ref (G.2.2.1 0)), (2, .ref (G.2.2.1 36))]) hx hb d_L_law_630 hl (k := 3) rfl (by rfl) (by decide) rfl (fun ls hl => ?_)
          refine lv_goto (tgt := 18) hx hb d_L_law_633 (by decide) ?_
          exact ih (x3 + 5) I955 L956 H locs ls hv hP hD hS (lv_sub hl [1, 2, 3, 0] rfl)
        · have hv := hv.2 (fun q => hc ((lg_cmp_eq _ _).mpr q))
          refine lv_iconst (v := 0) hx hb d_L_law_411 (by decide) ?_
          exact hv.elim
      · have he : ((xs x3.toNatClampNeg) &&& 15) = 8 := he
        have hv := hv.2.2.2.2.2.2.2.2.2.1 he
        refine lv_tableIn (tgt := 413) hx hb d_L_law_32 (by rw [he]; decide) (by rw [he]; decide) (by rw [he]; rfl) (by decide) ?_
        refine lv_aload_n hx hb d_L_law_413 rfl (lv_at hl 1 rfl) ?_
        refine va_calli (va_runV (As := []) (rest := []) ⟨hx, hb, hml, hown, hg⟩ (m_X6_pay l G  I L _  hv) (cwV 0 hg (mm_gV k_390 k_391 k_392 k_1 kc_X6_pay) rfl rfl rfl (by decide +kernel) ⟨Nat.le_of_ble_eq_true rfl, Nat.le_of_ble_eq_true rfl⟩) ⟨mm_blind, mm_recv hK hP (t := 0) (by decide) rfl rfl, fun U hU hW => mm_call hP hK hD hC hU hS hW⟩ rfl rfl hl.1 rfl (lv_room (Nat.le_of_ble_eq_true rfl)) d_L_law_414 ⟨Nat.le_of_ble_eq_true rfl, Nat.le_of_ble_eq_true rfl⟩) hS (fun q _ h => h) (fun q h => h) (fun r960 u t H locs ht hvm hv hP hz1 hk1 hS => ?_)
        obtain ⟨I958, L959⟩ := u
        dsimp only at hv hP
        rw [ht] at hP
        have hD : mm_DW G I958 L959 := mm_D_any hD
        refine lv_aload_n hx hb d_L_law_417 rfl (lv_at hl 2 rfl) ?_
        refine va_calli (va_runV (As := []) (rest := [.int r960]) ⟨hx, hb, hml, hown, hg⟩ (m_X7_pay l G  I958 L959 _  hv) (cwV 0 hg (mm_gV k_387 k_388 k_389 k_223 kc_X7_pay) rfl rfl rfl (by decide +kernel) ⟨Nat.le_of_ble_eq_true rfl, Nat.le_of_ble_eq_true rfl⟩) ⟨mm_blind, mm_recv hK hP (t := 36) (by decide) rfl rfl, fun U hU hW => mm_call hP hK hD hC hU hS hW⟩ rfl rfl hl.1 rfl (lv_room (Nat.le_of_ble_eq_true rfl)) d_L_law_418 ⟨Nat.le_of_ble_eq_true rfl, Nat.le_of_ble_eq_true rfl⟩) hS (fun q _ h => h) (fun q h => h) (fun r963 u t H locs ht hvm hv hP hz1 hk1 hS => ?_)
        obtain ⟨I961, L962⟩ := u
        dsimp only at hv hP
        rw [ht] at hP
        have hD : mm_DW G I961 L962 := mm_D_any hD
        refine lv_icmp_eq (tgt := 630) hx hb d_L_law_421 (by decide) (fun hc => ?_) (fun hc => ?_)
        · have hv := hv.1 hc
          refine lv_iinc (v := (x3 + 5)) (lv' := [(3, .int (x3 + 5)), (0, .ref b), (1, .ref (G.2.2.1 0)), (2, .ref (G.2.2.1 36))]) hx hb d_L_law_630 hl (k := 3) rfl (by rfl) (by decide) rfl (fun ls hl => ?_)
          refine lv_goto (tgt := 18) hx hb d_L_law_633 (by decide) ?_
          exact ih (x3 + 5) I961 L962 H locs ls hv hP hD hS (lv_sub hl [1, 2, 3, 0] rfl)
        · have hv := hv.2 hc
          refine lv_iconst (v := 0) hx hb d_L_law_424 (by decide) ?_
          exact hv.elim
      · have he : ((xs x3.toNatClampNeg) &&& 15) = 9 := he
        have hv := hv.2.2.2.2.2.2.2.2.2.2.1 he
        refine lv_tableIn (tgt := 426) hx hb d_L_law_32 (by rw [he]; decide) (by rw [he]; decide) (by rw [he]; rfl) (by decide) ?_
        refine lv_aload_n hx hb d_L_law_426 rfl (lv_at hl 1 rfl) ?_
        refine lv_aload_n hx hb d_L_law_427 rfl (lv_at hl 0 rfl) ?_
        refine lv_iload_n hx hb d_L_law_428 rfl (lv_at hl 3 rfl) ?_
        refine lv_iconst (v := 1) hx hb d_L_law_429 (by decide) ?_
        refine lv_iadd hx hb d_L_law_430 ?_
        obtain ⟨h964, hv⟩ := hv
        refine va_sld hx hb hX hbl hbA hS h964 d_L_law_431 ?_
        refine va_calli (va_runV (As := [.int (xs ((x3 + 1)).toNatClampNeg)]) (rest := []) ⟨hx, hb, hml, hown, hg⟩ (m_X6_back l G (xs ((x3 + 1)).toNatClampNeg) I L _  hv) (cwV 1 hg (mm_gV k_396 k_397 k_398 k_1 kc_X6_back) rfl rfl rfl (by decide +kernel) ⟨Nat.le_of_ble_eq_true rfl, Nat.le_of_ble_eq_true rfl⟩) ⟨mm_blind, mm_recv hK hP (t := 0) (by decide) rfl rfl, fun U hU hW => mm_call hP hK hD hC hU hS hW⟩ rfl rfl hl.1 rfl (lv_room (Nat.le_of_ble_eq_true rfl)) d_L_law_432 ⟨Nat.le_of_ble_eq_true rfl, Nat.le_of_ble_eq_true rfl⟩) hS (fun q _ h => h) (fun q h => h) (fun r967 u t H locs ht hvm hv hP hz1 hk1 hS => ?_)
        obtain ⟨I965, L966⟩ := u
        dsimp only at hv hP
        rw [ht] at hP
        have hD : mm_DW G I965 L966 := mm_D_any hD
        refine lv_aload_n hx hb d_L_law_435 rfl (lv_at hl 2 rfl) ?_
        refine lv_aload_n hx hb d_L_law_436 rfl (lv_at hl 0 rfl) ?_
        refine lv_iload_n hx hb d_L_law_437 rfl (lv_at hl 3 rfl) ?_
        refine lv_iconst (v := 1) hx hb d_L_law_438 (by decide) ?_
        refine lv_iadd hx hb d_L_law_439 ?_
        obtain ⟨h968, hv⟩ := hv
        refine va_sld hx hb hX hbl hbA hS h968 d_L_law_440 ?_
        refine va_calli (va_runV (As := [.int (xs ((x3 + 1)).toNatClampNeg)]) (rest := [.int r967]) ⟨hx, hb, hml, hown, hg⟩ (m_X7_back l G (xs ((x3 + 1)).toNatClampNeg) I965 L966 _  hv) (cwV 1 hg (mm_gV k_393 k_394 k_395 k_223 kc_X7_back) rfl rfl rfl (by decide +kernel) ⟨Nat.le_of_ble_eq_true rfl, Nat.le_of_ble_eq_true rfl⟩) ⟨mm_blind, mm_recv hK hP (t := 36) (by decide) rfl rfl, fun U hU hW => mm_call hP hK hD hC hU hS hW⟩ rfl rfl hl.1 rfl (lv_room (Nat.le_of_ble_eq_true rfl)) d_L_law_441 ⟨Nat.le_of_ble_eq_true rfl, Nat.le_of_ble_eq_true rfl⟩) hS (fun q _ h => h) (fun q h => h) (fun r971 u t H locs ht hvm hv hP hz1 hk1 hS => ?_)
        obtain ⟨I969, L970⟩ := u
        dsimp only at hv hP
        rw [ht] at hP
        have hD : mm_DW G I969 L970 := mm_D_any hD
        refine lv_icmp_eq (tgt := 630) hx hb d_L_law_444 (by decide) (fun hc => ?_) (fun hc => ?_)
        · have hv := hv.1 hc
          refine lv_iinc (v := (x3 + 5)) (lv' := [(3, .int (x3 + 5)), (0, .ref b), (1, .ref (G.2.2.1 0)), (2, .ref (G.2.2.1 36))]) hx hb d_L_law_630 hl (k := 3) rfl (by rfl) (by decide) rfl (fun ls hl => ?_)
          refine lv_goto (tgt := 18) hx hb d_L_law_633 (by decide) ?_
          exact ih (x3 + 5) I969 L970 H locs ls hv hP hD hS (lv_sub hl [1, 2, 3, 0] rfl)
        · have hv := hv.2 hc
          refine lv_iconst (v := 0) hx hb d_L_law_447 (by decide) ?_
          exact hv.elim
      · have he : ((xs x3.toNatClampNeg) &&& 15) = 10 := he
        have hv := hv.2.2.2.2.2.2.2.2.2.2.2.1 he
        refine lv_tableIn (tgt := 449) hx hb d_L_law_32 (by rw [he]; decide) (by rw [he]; decide) (by rw [he]; rfl) (by decide) ?_
        refine lv_aload_n hx hb d_L_law_449 rfl (lv_at hl 1 rfl) ?_
        refine lv_aload_n hx hb d_L_law_450 rfl (lv_at hl 0 rfl) ?_
        refine lv_iload_n hx hb d_L_law_451 rfl (lv_at hl 3 rfl) ?_
        refine lv_iconst (v := 1) hx hb d_L_law_452 (by decide) ?_
        refine lv_iadd hx hb d_L_law_453 ?_
        obtain ⟨h972, hv⟩ := hv
        refine va_sld hx hb hX hbl hbA hS h972 d_L_law_454 ?_
        refine va_calli (va_runV (As := [.int (xs ((x3 + 1)).toNatClampNeg)]) (rest := []) ⟨hx, hb, hml, hown, hg⟩ (m_X6_again l G (xs ((x3 + 1)).toNatClampNeg) I L _  hv) (cwV 1 hg (mm_gV k_402 k_403 k_404 k_1 kc_X6_again) rfl rfl rfl (by decide +kernel) ⟨Nat.le_of_ble_eq_true rfl, Nat.le_of_ble_eq_true rfl⟩) ⟨mm_blind, mm_recv hK hP (t := 0) (by decide) rfl rfl, fun U hU hW => mm_call hP hK hD hC hU hS hW⟩ rfl rfl hl.1 rfl (lv_room (Nat.le_of_ble_eq_true rfl)) d_L_law_455 ⟨Nat.le_of_ble_eq_true rfl, Nat.le_of_ble_eq_true rfl⟩) hS (fun q _ h => h) (fun q h => h) (fun r975 u t H locs ht hvm hv hP hz1 hk1 hS => ?_)
        obtain ⟨I973, L974⟩ := u
        dsimp only at hv hP
        rw [ht] at hP
        have hD : mm_DW G I973 L974 := mm_D_any hD
        refine lv_aload_n hx hb d_L_law_458 rfl (lv_at hl 2 rfl) ?_
        refine lv_aload_n hx hb d_L_law_459 rfl (lv_at hl 0 rfl) ?_
        refine lv_iload_n hx hb d_L_law_460 rfl (lv_at hl 3 rfl) ?_
        refine lv_iconst (v := 1) hx hb d_L_law_461 (by decide) ?_
        refine lv_iadd hx hb d_L_law_462 ?_
        obtain ⟨h976, hv⟩ := hv
        refine va_sld hx hb hX hbl hbA hS h976 d_L_law_463 ?_
        refine va_calli (va_runV (As := [.int (xs ((x3 + 1)).toNatClampNeg)]) (rest := [.int r975]) ⟨hx, hb, hml, hown, hg⟩ (m_X7_again l G (xs ((x3 + 1)).toNatClampNeg) I973 L974 _  hv) (cwV 1 hg (mm_gV k_399 k_400 k_401 k_223 kc_X7_again) rfl rfl rfl (by decide +kernel) ⟨Nat.le_of_ble_eq_true rfl, Nat.le_of_ble_eq_true rfl⟩) ⟨mm_blind, mm_recv hK hP (t := 36) (by decide) rfl rfl, fun U hU hW => mm_call hP hK hD hC hU hS hW⟩ rfl rfl hl.1 rfl (lv_room (Nat.le_of_ble_eq_true rfl)) d_L_law_464 ⟨Nat.le_of_ble_eq_true rfl, Nat.le_of_ble_eq_true rfl⟩) hS (fun q _ h => h) (fun q h => h) (fun r979 u t H locs ht hvm hv hP hz1 hk1 hS => ?_)
        obtain ⟨I977, L978⟩ := u
        dsimp only at hv hP
        rw [ht] at hP
        have hD : mm_DW G I977 L978 := mm_D_any hD
        refine lv_icmp_eq (tgt := 630) hx hb d_L_law_467 (by decide) (fun hc => ?_) (fun hc => ?_)
        · have hv := hv.1 hc
          refine lv_iinc (v := (x3 + 5)) (lv' := [(3, .int (x3 + 5)), (0, .ref b), (1, .ref (G.2.2.1 0)), (2, .ref (G.2.2.1 36))]) hx hb d_L_law_630 hl (k := 3) rfl (by rfl) (by decide) rfl (fun ls hl => ?_)
          refine lv_goto (tgt := 18) hx hb d_L_law_633 (by decide) ?_
          exact ih (x3 + 5) I977 L978 H locs ls hv hP hD hS (lv_sub hl [1, 2, 3, 0] rfl)
        · have hv := hv.2 hc
          refine lv_iconst (v := 0) hx hb d_L_law_470 (by decide) ?_
          exact hv.elim
      · have he : ((xs x3.toNatClampNeg) &&& 15) = 11 := he
        have hv := hv.2.2.2.2.2.2.2.2.2.2.2.2.1 he
        refine lv_tableIn (tgt := 472) hx hb d_L_law_32 (by rw [he]; decide) (by rw [he]; decide) (by rw [he]; rfl) (by decide) ?_
        refine lv_aload_n hx hb d_L_law_472 rfl (lv_at hl 1 rfl) ?_
        refine lv_aload_n hx hb d_L_law_473 rfl (lv_at hl 0 rfl) ?_
        refine lv_iload_n hx hb d_L_law_474 rfl (lv_at hl 3 rfl) ?_
        refine lv_iconst (v := 1) hx hb d_L_law_475 (by decide) ?_
        refine lv_iadd hx hb d_L_law_476 ?_
        obtain ⟨h980, hv⟩ := hv
        refine va_sld hx hb hX hbl hbA hS h980 d_L_law_477 ?_
        refine lv_aload_n hx hb d_L_law_478 rfl (lv_at hl 0 rfl) ?_
        refine lv_iload_n hx hb d_L_law_479 rfl (lv_at hl 3 rfl) ?_
        refine lv_iconst (v := 2) hx hb d_L_law_480 (by decide) ?_
        refine lv_iadd hx hb d_L_law_481 ?_
        obtain ⟨h981, hv⟩ := hv
        refine va_sld hx hb hX hbl hbA hS h981 d_L_law_482 ?_
        refine lv_aload_n hx hb d_L_law_483 rfl (lv_at hl 0 rfl) ?_
        refine lv_iload_n hx hb d_L_law_484 rfl (lv_at hl 3 rfl) ?_
        refine lv_iconst (v := 3) hx hb d_L_law_485 (by decide) ?_
        refine lv_iadd hx hb d_L_law_486 ?_
        obtain ⟨h982, hv⟩ := hv
        refine va_sld hx hb hX hbl hbA hS h982 d_L_law_487 ?_
        refine va_calll (va_runV (As := [.int (xs ((x3 + 1)).toNatClampNeg), .int (xs ((x3 + 2)).toNatClampNeg), .int (xs ((x3 + 3)).toNatClampNeg)]) (rest := []) ⟨hx, hb, hml, hown, hg⟩ (m_X6_slip l G (xs ((x3 + 1)).toNatClampNeg) (xs ((x3 + 2)).toNatClampNeg) (xs ((x3 + 3)).toNatClampNeg) I L _  hv) (cwV 3 hg (mm_gV k_408 k_409 k_410 k_1 kc_X6_slip) rfl rfl rfl (by decide +kernel) ⟨Nat.le_of_ble_eq_true rfl, Nat.le_of_ble_eq_true rfl⟩) ⟨mm_blind, mm_recv hK hP (t := 0) (by decide) rfl rfl, fun U hU hW => mm_call hP hK hD hC hU hS hW⟩ rfl rfl hl.1 rfl (lv_room (Nat.le_of_ble_eq_true rfl)) d_L_law_488 ⟨Nat.le_of_ble_eq_true rfl, Nat.le_of_ble_eq_true rfl⟩) hS (fun q _ h => h) (fun q h => h) (fun r985 u t H locs ht hvm hv hP hz1 hk1 hS => ?_)
        obtain ⟨I983, L984⟩ := u
        dsimp only at hv hP
        rw [ht] at hP
        have hD : mm_DW G I983 L984 := mm_D_any hD
        refine lv_aload_n hx hb d_L_law_491 rfl (lv_at hl 2 rfl) ?_
        refine lv_aload_n hx hb d_L_law_492 rfl (lv_at hl 0 rfl) ?_
        refine lv_iload_n hx hb d_L_law_493 rfl (lv_at hl 3 rfl) ?_
        refine lv_iconst (v := 1) hx hb d_L_law_494 (by decide) ?_
        refine lv_iadd hx hb d_L_law_495 ?_
        obtain ⟨h986, hv⟩ := hv
        refine va_sld hx hb hX hbl hbA hS h986 d_L_law_496 ?_
        refine lv_aload_n hx hb d_L_law_497 rfl (lv_at hl 0 rfl) ?_
        refine lv_iload_n hx hb d_L_law_498 rfl (lv_at hl 3 rfl) ?_
        refine lv_iconst (v := 2) hx hb d_L_law_499 (by decide) ?_
        refine lv_iadd hx hb d_L_law_500 ?_
        obtain ⟨h987, hv⟩ := hv
        refine va_sld hx hb hX hbl hbA hS h987 d_L_law_501 ?_
        refine lv_aload_n hx hb d_L_law_502 rfl (lv_at hl 0 rfl) ?_
        refine lv_iload_n hx hb d_L_law_503 rfl (lv_at hl 3 rfl) ?_
        refine lv_iconst (v := 3) hx hb d_L_law_504 (by decide) ?_
        refine lv_iadd hx hb d_L_law_505 ?_
        obtain ⟨h988, hv⟩ := hv
        refine va_sld hx hb hX hbl hbA hS h988 d_L_law_506 ?_
        refine va_calll (va_runV (As := [.int (xs ((x3 + 1)).toNatClampNeg), .int (xs ((x3 + 2)).toNatClampNeg), .int (xs ((x3 + 3)).toNatClampNeg)]) (rest := [.long r985]) ⟨hx, hb, hml, hown, hg⟩ (m_X7_slip l G (xs ((x3 + 1)).toNatClampNeg) (xs ((x3 + 2)).toNatClampNeg) (xs ((x3 + 3)).toNatClampNeg) I983 L984 _  hv) (cwV 3 hg (mm_gV k_405 k_406 k_407 k_223 kc_X7_slip) rfl rfl rfl (by decide +kernel) ⟨Nat.le_of_ble_eq_true rfl, Nat.le_of_ble_eq_true rfl⟩) ⟨mm_blind, mm_recv hK hP (t := 36) (by decide) rfl rfl, fun U hU hW => mm_call hP hK hD hC hU hS hW⟩ rfl rfl hl.1 rfl (lv_room (Nat.le_of_ble_eq_true rfl)) d_L_law_507 ⟨Nat.le_of_ble_eq_true rfl, Nat.le_of_ble_eq_true rfl⟩) hS (fun q _ h => h) (fun q h => h) (fun r991 u t H locs ht hvm hv hP hz1 hk1 hS => ?_)
        obtain ⟨I989, L990⟩ := u
        dsimp only at hv hP
        rw [ht] at hP
        have hD : mm_DW G I989 L990 := mm_D_any hD
        refine W.lcmp hx hb d_L_law_510 ?_
        refine lv_if_eq (tgt := 630) hx hb d_L_law_511 (by decide) (fun hc => ?_) (fun hc => ?_)
        · have hv := hv.1 ((lg_cmp_eq _ _).mp hc)
          refine lv_iinc (v := (x3 + 5)) (lv' := [(3, .int (x3 + 5)), (0, .ref b), (1, .ref (G.2.2.1 0)), (2, .ref (G.2.2.1 36))]) hx hb d_L_law_630 hl (k := 3) rfl (by rfl) (by decide) rfl (fun ls hl => ?_)
          refine lv_goto (tgt := 18) hx hb d_L_law_633 (by decide) ?_
          exact ih (x3 + 5) I989 L990 H locs ls hv hP hD hS (lv_sub hl [1, 2, 3, 0] rfl)
        · have hv := hv.2 (fun q => hc ((lg_cmp_eq _ _).mpr q))
          refine lv_iconst (v := 0) hx hb d_L_law_514 (by decide) ?_
          exact hv.elim
      · have he : ((xs x3.toNatClampNeg) &&& 15) = 12 := he
        have hv := hv.2.2.2.2.2.2.2.2.2.2.2.2.2.1 he
        refine lv_tableIn (tgt := 516) hx hb d_L_law_32 (by rw [he]; decide) (by rw [he]; decide) (by rw [he]; rfl) (by decide) ?_
        refine lv_aload_n hx hb d_L_law_516 rfl (lv_at hl 1 rfl) ?_
        refine lv_aload_n hx hb d_L_law_517 rfl (lv_at hl 0 rfl) ?_
        refine lv_iload_n hx hb d_L_law_518 rfl (lv_at hl 3 rfl) ?_
        refine lv_iconst (v := 1) hx hb d_L_law_519 (by decide) ?_
        refine lv_iadd hx hb d_L_law_520 ?_
        obtain ⟨h992, hv⟩ := hv
        refine va_sld hx hb hX hbl hbA hS h992 d_L_law_521 ?_
        refine lv_aload_n hx hb d_L_law_522 rfl (lv_at hl 0 rfl) ?_
        refine lv_iload_n hx hb d_L_law_523 rfl (lv_at hl 3 rfl) ?_
        refine lv_iconst (v := 2) hx hb d_L_law_524 (by decide) ?_
        refine lv_iadd hx hb d_L_law_525 ?_
        obtain ⟨h993, hv⟩ := hv
        refine va_sld hx hb hX hbl hbA hS h993 d_L_law_526 ?_
        refine va_calli (va_runV (As := [.int (xs ((x3 + 1)).toNatClampNeg), .int (xs ((x3 + 2)).toNatClampNeg)]) (rest := []) ⟨hx, hb, hml, hown, hg⟩ (m_X6_held l G (xs ((x3 + 1)).toNatClampNeg) (xs ((x3 + 2)).toNatClampNeg) I L _  hv) (cwV 2 hg (mm_gV k_414 k_415 k_416 k_1 kc_X6_held) rfl rfl rfl (by decide +kernel) ⟨Nat.le_of_ble_eq_true rfl, Nat.le_of_ble_eq_true rfl⟩) ⟨mm_blind, mm_recv hK hP (t := 0) (by decide) rfl rfl, fun U hU hW => mm_call hP hK hD hC hU hS hW⟩ rfl rfl hl.1 rfl (lv_room (Nat.le_of_ble_eq_true rfl)) d_L_law_527 ⟨Nat.le_of_ble_eq_true rfl, Nat.le_of_ble_eq_true rfl⟩) hS (fun q _ h => h) (fun q h => h) (fun r996 u t H locs ht hvm hv hP hz1 hk1 hS => ?_)
        obtain ⟨I994, L995⟩ := u
        dsimp only at hv hP
        rw [ht] at hP
        have hD : mm_DW G I994 L995 := mm_D_any hD
        refine lv_aload_n hx hb d_L_law_530 rfl (lv_at hl 2 rfl) ?_
        refine lv_aload_n hx hb d_L_law_531 rfl (lv_at hl 0 rfl) ?_
        refine lv_iload_n hx hb d_L_law_532 rfl (lv_at hl 3 rfl) ?_
        refine lv_iconst (v := 1) hx hb d_L_law_533 (by decide) ?_
        refine lv_iadd hx hb d_L_law_534 ?_
        obtain ⟨h997, hv⟩ := hv
        refine va_sld hx hb hX hbl hbA hS h997 d_L_law_535 ?_
        refine lv_aload_n hx hb d_L_law_536 rfl (lv_at hl 0 rfl) ?_
        refine lv_iload_n hx hb d_L_law_537 rfl (lv_at hl 3 rfl) ?_
        refine lv_iconst (v := 2) hx hb d_L_law_538 (by decide) ?_
        refine lv_iadd hx hb d_L_law_539 ?_
        obtain ⟨h998, hv⟩ := hv
        refine va_sld hx hb hX hbl hbA hS h998 d_L_law_540 ?_
        refine va_calli (va_runV (As := [.int (xs ((x3 + 1)).toNatClampNeg), .int (xs ((x3 + 2)).toNatClampNeg)]) (rest := [.int r996]) ⟨hx, hb, hml, hown, hg⟩ (m_X7_held l G (xs ((x3 + 1)).toNatClampNeg) (xs ((x3 + 2)).toNatClampNeg) I994 L995 _  hv) (cwV 2 hg (mm_gV k_411 k_412 k_413 k_223 kc_X7_held) rfl rfl rfl (by decide +kernel) ⟨Nat.le_of_ble_eq_true rfl, Nat.le_of_ble_eq_true rfl⟩) ⟨mm_blind, mm_recv hK hP (t := 36) (by decide) rfl rfl, fun U hU hW => mm_call hP hK hD hC hU hS hW⟩ rfl rfl hl.1 rfl (lv_room (Nat.le_of_ble_eq_true rfl)) d_L_law_541 ⟨Nat.le_of_ble_eq_true rfl, Nat.le_of_ble_eq_true rfl⟩) hS (fun q _ h => h) (fun q h => h) (fun r1001 u t H locs ht hvm hv hP hz1 hk1 hS => ?_)
        obtain ⟨I999, L1000⟩ := u
        dsimp only at hv hP
        rw [ht] at hP
        have hD : mm_DW G I999 L1000 := mm_D_any hD
        refine lv_icmp_eq (tgt := 630) hx hb d_L_law_544 (by decide) (fun hc => ?_) (fun hc => ?_)
        · have hv := hv.1 hc
          refine lv_iinc (v := (x3 + 5)) (lv' := [(3, .int (x3 + 5)), (0, .ref b), (1, .ref (G.2.2.1 0)), (2, .ref (G.2.2.1 36))]) hx hb d_L_law_630 hl (k := 3) rfl (by rfl) (by decide) rfl (fun ls hl => ?_)
          refine lv_goto (tgt := 18) hx hb d_L_law_633 (by decide) ?_
          exact ih (x3 + 5) I999 L1000 H locs ls hv hP hD hS (lv_sub hl [1, 2, 3, 0] rfl)
        · have hv := hv.2 hc
          refine lv_iconst (v := 0) hx hb d_L_law_547 (by decide) ?_
          exact hv.elim
      · have he : ((xs x3.toNatClampNeg) &&& 15) = 13 := he
        have hv := hv.2.2.2.2.2.2.2.2.2.2.2.2.2.2.1 he
        refine lv_tableIn (tgt := 549) hx hb d_L_law_32 (by rw [he]; decide) (by rw [he]; decide) (by rw [he]; rfl) (by decide) ?_
        refine lv_aload_n hx hb d_L_law_549 rfl (lv_at hl 1 rfl) ?_
        refine lv_aload_n hx hb d_L_law_550 rfl (lv_at hl 0 rfl) ?_
        refine lv_iload_n hx hb d_L_law_551 rfl (lv_at hl 3 rfl) ?_
        refine lv_iconst (v := 1) hx hb d_L_law_552 (by decide) ?_
        refine lv_iadd hx hb d_L_law_553 ?_
        obtain ⟨h1002, hv⟩ := hv
        refine va_sld hx hb hX hbl hbA hS h1002 d_L_law_554 ?_
        refine va_calll (va_runV (As := [.int (xs ((x3 + 1)).toNatClampNeg)]) (rest := []) ⟨hx, hb, hml, hown, hg⟩ (m_X6_account l G (xs ((x3 + 1)).toNatClampNeg) I L _  hv) (cwV 1 hg (mm_gV k_420 k_421 k_422 k_1 kc_X6_account) rfl rfl rfl (by decide +kernel) ⟨Nat.le_of_ble_eq_true rfl, Nat.le_of_ble_eq_true rfl⟩) ⟨mm_blind, mm_recv hK hP (t := 0) (by decide) rfl rfl, fun U hU hW => mm_call hP hK hD hC hU hS hW⟩ rfl rfl hl.1 rfl (lv_room (Nat.le_of_ble_eq_true rfl)) d_L_law_555 ⟨Nat.le_of_ble_eq_true rfl, Nat.le_of_ble_eq_true rfl⟩) hS (fun q _ h => h) (fun q h => h) (fun r1005 u t H locs ht hvm hv hP hz1 hk1 hS => ?_)
        obtain ⟨I1003, L1004⟩ := u
        dsimp only at hv hP
        rw [ht] at hP
        have hD : mm_DW G I1003 L1004 := mm_D_any hD
        refine lv_aload_n hx hb d_L_law_558 rfl (lv_at hl 2 rfl) ?_
        refine lv_aload_n hx hb d_L_law_559 rfl (lv_at hl 0 rfl) ?_
        refine lv_iload_n hx hb d_L_law_560 rfl (lv_at hl 3 rfl) ?_
        refine lv_iconst (v := 1) hx hb d_L_law_561 (by decide) ?_
        refine lv_iadd hx hb d_L_law_562 ?_
        obtain ⟨h1006, hv⟩ := hv
        refine va_sld hx hb hX hbl hbA hS h1006 d_L_law_563 ?_
        refine va_calll (va_runV (As := [.int (xs ((x3 + 1)).toNatClampNeg)]) (rest := [.long r1005]) ⟨hx, hb, hml, hown, hg⟩ (m_X7_account l G (xs ((x3 + 1)).toNatClampNeg) I1003 L1004 _  hv) (cwV 1 hg (mm_gV k_417 k_418 k_419 k_223 kc_X7_account) rfl rfl rfl (by decide +kernel) ⟨Nat.le_of_ble_eq_true rfl, Nat.le_of_ble_eq_true rfl⟩) ⟨mm_blind, mm_recv hK hP (t := 36) (by decide) rfl rfl, fun U hU hW => mm_call hP hK hD hC hU hS hW⟩ rfl rfl hl.1 rfl (lv_room (Nat.le_of_ble_eq_true rfl)) d_L_law_564 ⟨Nat.le_of_ble_eq_true rfl, Nat.le_of_ble_eq_true rfl⟩) hS (fun q _ h => h) (fun q h => h) (fun r1009 u t H locs ht hvm hv hP hz1 hk1 hS => ?_)
        obtain ⟨I1007, L1008⟩ := u
        dsimp only at hv hP
        rw [ht] at hP
        have hD : mm_DW G I1007 L1008 := mm_D_any hD
        refine W.lcmp hx hb d_L_law_567 ?_
        refine lv_if_eq (tgt := 630) hx hb d_L_law_568 (by decide) (fun hc => ?_) (fun hc => ?_)
        · have hv := hv.1 ((lg_cmp_eq _ _).mp hc)
          refine lv_iinc (v := (x3 + 5)) (lv' := [(3, .int (x3 + 5)), (0, .ref b), (1, .ref (G.2.2.1 0)), (2, .ref (G.2.2.1 36))]) hx hb d_L_law_630 hl (k := 3) rfl (by rfl) (by decide) rfl (fun ls hl => ?_)
          refine lv_goto (tgt := 18) hx hb d_L_law_633 (by decide) ?_
          exact ih (x3 + 5) I1007 L1008 H locs ls hv hP hD hS (lv_sub hl [1, 2, 3, 0] rfl)
        · have hv := hv.2 (fun q => hc ((lg_cmp_eq _ _).mpr q))
          refine lv_iconst (v := 0) hx hb d_L_law_571 (by decide) ?_
          exact hv.elim
      · have he : ((xs x3.toNatClampNeg) &&& 15) = 14 := he
        have hv := hv.2.2.2.2.2.2.2.2.2.2.2.2.2.2.2.1 he
        refine lv_tableIn (tgt := 573) hx hb d_L_law_32 (by rw [he]; decide) (by rw [he]; decide) (by rw [he]; rfl) (by decide) ?_
        refine lv_aload_n hx hb d_L_law_573 rfl (lv_at hl 1 rfl) ?_
        refine lv_aload_n hx hb d_L_law_574 rfl (lv_at hl 0 rfl) ?_
        refine lv_iload_n hx hb d_L_law_575 rfl (lv_at hl 3 rfl) ?_
        refine lv_iconst (v := 1) hx hb d_L_law_576 (by decide) ?_
        refine lv_iadd hx hb d_L_law_577 ?_
        obtain ⟨h1010, hv⟩ := hv
        refine va_sld hx hb hX hbl hbA hS h1010 d_L_law_578 ?_
        refine lv_aload_n hx hb d_L_law_579 rfl (lv_at hl 0 rfl) ?_
        refine lv_iload_n hx hb d_L_law_580 rfl (lv_at hl 3 rfl) ?_
        refine lv_iconst (v := 2) hx hb d_L_law_581 (by decide) ?_
        refine lv_iadd hx hb d_L_law_582 ?_
        obtain ⟨h1011, hv⟩ := hv
        refine va_sld hx hb hX hbl hbA hS h1011 d_L_law_583 ?_
        refine va_calll (va_runV (As := [.int (xs ((x3 + 1)).toNatClampNeg), .int (xs ((x3 + 2)).toNatClampNeg)]) (rest := []) ⟨hx, hb, hml, hown, hg⟩ (m_X6_paid l G (xs ((x3 + 1)).toNatClampNeg) (xs ((x3 + 2)).toNatClampNeg) I L _  hv) (cwV 2 hg (mm_gV k_426 k_427 k_428 k_1 kc_X6_paid) rfl rfl rfl (by decide +kernel) ⟨Nat.le_of_ble_eq_true rfl, Nat.le_of_ble_eq_true rfl⟩) ⟨mm_blind, mm_recv hK hP (t := 0) (by decide) rfl rfl, fun U hU hW => mm_call hP hK hD hC hU hS hW⟩ rfl rfl hl.1 rfl (lv_room (Nat.le_of_ble_eq_true rfl)) d_L_law_584 ⟨Nat.le_of_ble_eq_true rfl, Nat.le_of_ble_eq_true rfl⟩) hS (fun q _ h => h) (fun q h => h) (fun r1014 u t H locs ht hvm hv hP hz1 hk1 hS => ?_)
        obtain ⟨I1012, L1013⟩ := u
        dsimp only at hv hP
        rw [ht] at hP
        have hD : mm_DW G I1012 L1013 := mm_D_any hD
        refine lv_aload_n hx hb d_L_law_587 rfl (lv_at hl 2 rfl) ?_
        refine lv_aload_n hx hb d_L_law_588 rfl (lv_at hl 0 rfl) ?_
        refine lv_iload_n hx hb d_L_law_589 rfl (lv_at hl 3 rfl) ?_
        refine lv_iconst (v := 1) hx hb d_L_law_590 (by decide) ?_
        refine lv_iadd hx hb d_L_law_591 ?_
        obtain ⟨h1015, hv⟩ := hv
        refine va_sld hx hb hX hbl hbA hS h1015 d_L_law_592 ?_
        refine lv_aload_n hx hb d_L_law_593 rfl (lv_at hl 0 rfl) ?_
        refine lv_iload_n hx hb d_L_law_594 rfl (lv_at hl 3 rfl) ?_
        refine lv_iconst (v := 2) hx hb d_L_law_595 (by decide) ?_
        refine lv_iadd hx hb d_L_law_596 ?_
        obtain ⟨h1016, hv⟩ := hv
        refine va_sld hx hb hX hbl hbA hS h1016 d_L_law_597 ?_
        refine va_calll (va_runV (As := [.int (xs ((x3 + 1)).toNatClampNeg), .int (xs ((x3 + 2)).toNatClampNeg)]) (rest := [.long r1014]) ⟨hx, hb, hml, hown, hg⟩ (m_X7_paid l G (xs ((x3 + 1)).toNatClampNeg) (xs ((x3 + 2)).toNatClampNeg) I1012 L1013 _  hv) (cwV 2 hg (mm_gV k_423 k_424 k_425 k_223 kc_X7_paid) rfl rfl rfl (by decide +kernel) ⟨Nat.le_of_ble_eq_true rfl, Nat.le_of_ble_eq_true rfl⟩) ⟨mm_blind, mm_recv hK hP (t := 36) (by decide) rfl rfl, fun U hU hW => mm_call hP hK hD hC hU hS hW⟩ rfl rfl hl.1 rfl (lv_room (Nat.le_of_ble_eq_true rfl)) d_L_law_598 ⟨Nat.le_of_ble_eq_true rfl, Nat.le_of_ble_eq_true rfl⟩) hS (fun q _ h => h) (fun q h => h) (fun r1019 u t H locs ht hvm hv hP hz1 hk1 hS => ?_)
        obtain ⟨I1017, L1018⟩ := u
        dsimp only at hv hP
        rw [ht] at hP
        have hD : mm_DW G I1017 L1018 := mm_D_any hD
        refine W.lcmp hx hb d_L_law_601 ?_
        refine lv_if_eq (tgt := 630) hx hb d_L_law_602 (by decide) (fun hc => ?_) (fun hc => ?_)
        · have hv := hv.1 ((lg_cmp_eq _ _).mp hc)
          refine lv_iinc (v := (x3 + 5)) (lv' := [(3, .int (x3 + 5)), (0, .ref b), (1, .ref (G.2.2.1 0)), (2, .ref (G.2.2.1 36))]) hx hb d_L_law_630 hl (k := 3) rfl (by rfl) (by decide) rfl (fun ls hl => ?_)
          refine lv_goto (tgt := 18) hx hb d_L_law_633 (by decide) ?_
          exact ih (x3 + 5) I1017 L1018 H locs ls hv hP hD hS (lv_sub hl [1, 2, 3, 0] rfl)
        · have hv := hv.2 (fun q => hc ((lg_cmp_eq _ _).mpr q))
          refine lv_iconst (v := 0) hx hb d_L_law_605 (by decide) ?_
          exact hv.elim
      · have he : ((xs x3.toNatClampNeg) &&& 15) = 15 := he
        have hv := hv.2.2.2.2.2.2.2.2.2.2.2.2.2.2.2.2 he
        refine lv_tableIn (tgt := 607) hx hb d_L_law_32 (by rw [he]; decide) (by rw [he]; decide) (by rw [he]; rfl) (by decide) ?_
        refine lv_aload_n hx hb d_L_law_607 rfl (lv_at hl 1 rfl) ?_
        refine lv_aload_n hx hb d_L_law_608 rfl (lv_at hl 0 rfl) ?_
        refine lv_iload_n hx hb d_L_law_609 rfl (lv_at hl 3 rfl) ?_
        refine lv_iconst (v := 1) hx hb d_L_law_610 (by decide) ?_
        refine lv_iadd hx hb d_L_law_611 ?_
        obtain ⟨h1020, hv⟩ := hv
        refine va_sld hx hb hX hbl hbA hS h1020 d_L_law_612 ?_
        refine va_calli (va_runV (As := [.int (xs ((x3 + 1)).toNatClampNeg)]) (rest := []) ⟨hx, hb, hml, hown, hg⟩ (m_X6_count l G (xs ((x3 + 1)).toNatClampNeg) I L _  hv) (cwV 1 hg (mm_gV k_432 k_433 k_434 k_1 kc_X6_count) rfl rfl rfl (by decide +kernel) ⟨Nat.le_of_ble_eq_true rfl, Nat.le_of_ble_eq_true rfl⟩) ⟨mm_blind, mm_recv hK hP (t := 0) (by decide) rfl rfl, fun U hU hW => mm_call hP hK hD hC hU hS hW⟩ rfl rfl hl.1 rfl (lv_room (Nat.le_of_ble_eq_true rfl)) d_L_law_613 ⟨Nat.le_of_ble_eq_true rfl, Nat.le_of_ble_eq_true rfl⟩) hS (fun q _ h => h) (fun q h => h) (fun r1023 u t H locs ht hvm hv hP hz1 hk1 hS => ?_)
        obtain ⟨I1021, L1022⟩ := u
        dsimp only at hv hP
        rw [ht] at hP
        have hD : mm_DW G I1021 L1022 := mm_D_any hD
        refine lv_aload_n hx hb d_L_law_616 rfl (lv_at hl 2 rfl) ?_
        refine lv_aload_n hx hb d_L_law_617 rfl (lv_at hl 0 rfl) ?_
        refine lv_iload_n hx hb d_L_law_618 rfl (lv_at hl 3 rfl) ?_
        refine lv_iconst (v := 1) hx hb d_L_law_619 (by decide) ?_
        refine lv_iadd hx hb d_L_law_620 ?_
        obtain ⟨h1024, hv⟩ := hv
        refine va_sld hx hb hX hbl hbA hS h1024 d_L_law_621 ?_
        refine va_calli (va_runV (As := [.int (xs ((x3 + 1)).toNatClampNeg)]) (rest := [.int r1023]) ⟨hx, hb, hml, hown, hg⟩ (m_X7_count l G (xs ((x3 + 1)).toNatClampNeg) I1021 L1022 _  hv) (cwV 1 hg (mm_gV k_429 k_430 k_431 k_223 kc_X7_count) rfl rfl rfl (by decide +kernel) ⟨Nat.le_of_ble_eq_true rfl, Nat.le_of_ble_eq_true rfl⟩) ⟨mm_blind, mm_recv hK hP (t := 36) (by decide) rfl rfl, fun U hU hW => mm_call hP hK hD hC hU hS hW⟩ rfl rfl hl.1 rfl (lv_room (Nat.le_of_ble_eq_true rfl)) d_L_law_622 ⟨Nat.le_of_ble_eq_true rfl, Nat.le_of_ble_eq_true rfl⟩) hS (fun q _ h => h) (fun q h => h) (fun r1027 u t H locs ht hvm hv hP hz1 hk1 hS => ?_)
        obtain ⟨I1025, L1026⟩ := u
        dsimp only at hv hP
        rw [ht] at hP
        have hD : mm_DW G I1025 L1026 := mm_D_any hD
        refine lv_icmp_eq (tgt := 630) hx hb d_L_law_625 (by decide) (fun hc => ?_) (fun hc => ?_)
        · have hv := hv.1 hc
          refine lv_iinc (v := (x3 + 5)) (lv' := [(3, .int (x3 + 5)), (0, .ref b), (1, .ref (G.2.2.1 0)), (2, .ref (G.2.2.1 36))]) hx hb d_L_law_630 hl (k := 3) rfl (by rfl) (by decide) rfl (fun ls hl => ?_)
          refine lv_goto (tgt := 18) hx hb d_L_law_633 (by decide) ?_
          exact ih (x3 + 5) I1025 L1026 H locs ls hv hP hD hS (lv_sub hl [1, 2, 3, 0] rfl)
        · have hv := hv.2 hc
          refine lv_iconst (v := 0) hx hb d_L_law_628 (by decide) ?_
          exact hv.elim
