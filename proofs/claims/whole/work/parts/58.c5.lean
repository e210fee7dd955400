set_option maxRecDepth 100000 in
set_option maxHeartbeats 4000000 in
theorem v_putBack (l : Launch) (Γ : zT) (G : zG) (sz : Nat) (v gr qu re tp bt : Nat) (T U : Nat → Nat) (hv : G v = some (.inr (3, [.ref gr, .ref qu, .ref re, .ref tp, .ref bt]))) (htp : G tp = some (zI Γ 49 T)) (hbt : G bt = some (zI Γ 48 U)) (htb : tp ≠ bt) (at_ len : Nat) (hal : at_ + len ≤ 48) (hT : dg (fun j => T (at_ + j)) len) (hU : dg U len) : zMv l yX1_putBack wsX1_putBack (zR 1) Γ G sz [.ref v, .int (nI at_), .int (nI len)] (fun G' => ∃ T' c2, G' = zup G tp (zI Γ 49 T') ∧ (∀ j, (j < at_ ∨ at_ + len ≤ j) → T' j = T j) ∧ dg (fun j => T' (at_ + j)) len ∧ c2 ≤ 1 ∧ vl (fun j => T' (at_ + j)) len + c2 * bp len = vl (fun j => T (at_ + j)) len + vl U len) 0 0 := by
  refine z_start (cc := cX1_putBack) (maxL := 6) (ret := none) (by decide) rfl (Nat.le_of_ble_eq_true rfl) ?_
  intro p e s m args below meth c ls Q hQ hsz hx hb hr hml hown hts hlocks hnm hK hM hl
  obtain ⟨A, hAe⟩ : ∃ A, A = zA G s.heap.size := ⟨_, rfl⟩
  rw [← hAe] at hM
  have hl : lv_has ls 6 [(0, .ref v), (1, .int (nI at_)), (2, .int (nI len))] := hl
  have hinX1 : ∀ w ∈ wsX10, w ∈ wsX1_putBack := by decide +kernel
  have hf_26 := hts (.fieldLink RX1 26 "CutRows$Divider" "top" "[I") (by decide +kernel)
  have hf_30 := hts (.fieldLink RX1 30 "CutRows$Divider" "bottom" "[I") (by decide +kernel)
  refine lv_lconst (v := lN 0) hx hb dX1_putBack_0 rfl ?_
  refine lv_lstore_n (lv' := [(3, .long (lN 0)), (0, .ref v), (1, .int (nI at_)), (2, .int (nI len))]) hx hb dX1_putBack_1 rfl hl (by decide) rfl (fun ls hl => ?_)
  refine lv_iconst (v := nI 0) hx hb dX1_putBack_2 rfl ?_
  refine lv_istore (lv' := [(5, .int (nI 0)), (3, .long (lN 0)), (0, .ref v), (1, .int (nI at_)), (2, .int (nI len))]) hx hb dX1_putBack_3 hl (by decide) rfl (fun ls hl => ?_)
  have lp : ∀ (μ : Nat) (i : Nat) (cy : Nat) (T1 : Nat → Nat), len - i = μ → (i ≤ len) → (cy ≤ 1) → (∀ j, (j < at_ ∨ at_ + i ≤ j) → T1 j = T j) → (dg (fun j => T1 (at_ + j)) i) → (vl (fun j => T1 (at_ + j)) i + cy * bp i = vl (fun j => T (at_ + j)) i + vl U i) → ∀ (ls : Array Slot) (H : Heap) (locs : List Loc), lv_has ls 6 [(5, .int (nI i)), (3, .long (lN cy)), (0, .ref v), (1, .int (nI at_)), (2, .int (nI len))] → zM Γ A s.heap (zup G tp (zI Γ 49 T1)) H locs → W p l e (zR 1) s m args below meth c H locs 0 0 Q (F0 m 5 ls []) := by
    intro μ
    induction μ using Nat.strongRecOn with
    | _ μ ihlp =>
      intro i cy T1 hμ hi hcy h1 h2 h3 ls H locs hl hM
      refine lv_iload hx hb dX1_putBack_5 (lv_at hl 0 rfl) ?_
      refine lv_iload_n hx hb dX1_putBack_7 rfl (lv_at hl 4 rfl) ?_
      refine z_icmp_ge (tgt := 58) hx hb (by omega) (by omega) dX1_putBack_8 (by decide) (fun hc8 => ?_) (fun hc8 => ?_)
      · rw [hQ]
        rw [hAe] at hM
        exact z_vret hsz hx hb hr hlocks hK hM dX1_putBack_58 (⟨T1, cy, rfl, by rw [show len = i by omega]; exact h1, by rw [show len = i by omega]; exact h2, hcy, by rw [show len = i by omega]; exact h3⟩)
      · have he : T1 (at_ + i) = T (at_ + i) := h1 _ (by omega)
        have hx1 : T (at_ + i) < 2147483648 := hT i (by omega)
        have hy1 : U i < 2147483648 := hU i (by omega)
        refine lv_lload_n hx hb dX1_putBack_11 rfl (lv_at hl 1 rfl) ?_
        refine lv_aload_n hx hb dX1_putBack_12 rfl (lv_at hl 2 rfl) ?_
        refine z_get (C := RX1) (T := TX1) (N := 5) (v := .ref tp) hx hb hts hinX1 hown hK hM ((zup_n _ _ (zne hv htp (by intro h; cases h))).trans hv) 3 hf_26 rfl rfl (by decide) rfl dX1_putBack_13 ?_
        refine lv_iload_n hx hb dX1_putBack_16 rfl (lv_at hl 3 rfl) ?_
        refine lv_iload hx hb dX1_putBack_17 (lv_at hl 0 rfl) ?_
        refine z_iadd hx hb dX1_putBack_19 ?_
        refine z_ild hx hb hK hM (zup_s _ _ _) (by omega) (by omega) dX1_putBack_20 ?_
        refine z_i2l hx hb (by omega) dX1_putBack_21 ?_
        refine lv_aload_n hx hb dX1_putBack_22 rfl (lv_at hl 2 rfl) ?_
        refine z_get (C := RX1) (T := TX1) (N := 5) (v := .ref bt) hx hb hts hinX1 hown hK hM ((zup_n _ _ (zne hv htp (by intro h; cases h))).trans hv) 4 hf_30 rfl rfl (by decide) rfl dX1_putBack_23 ?_
        refine lv_iload hx hb dX1_putBack_26 (lv_at hl 0 rfl) ?_
        refine z_ild hx hb hK hM ((zup_n _ _ (Ne.symm htb)).trans hbt) (by omega) (by omega) dX1_putBack_28 ?_
        refine z_i2l hx hb (by omega) dX1_putBack_29 ?_
        refine z_ladd hx hb dX1_putBack_30 ?_
        refine z_ladd hx hb dX1_putBack_31 ?_
        refine lv_lstore_n (lv' := [(3, .long (lN (cy + (T1 (at_ + i) + (U i))))), (5, .int (nI i)), (0, .ref v), (1, .int (nI at_)), (2, .int (nI len))]) hx hb dX1_putBack_32 rfl hl (by decide) rfl (fun ls hl => ?_)
        refine lv_aload_n hx hb dX1_putBack_33 rfl (lv_at hl 2 rfl) ?_
        refine z_get (C := RX1) (T := TX1) (N := 5) (v := .ref tp) hx hb hts hinX1 hown hK hM ((zup_n _ _ (zne hv htp (by intro h; cases h))).trans hv) 3 hf_26 rfl rfl (by decide) rfl dX1_putBack_34 ?_
        refine lv_iload_n hx hb dX1_putBack_37 rfl (lv_at hl 3 rfl) ?_
        refine lv_iload hx hb dX1_putBack_38 (lv_at hl 1 rfl) ?_
        refine z_iadd hx hb dX1_putBack_40 ?_
        refine lv_lload_n hx hb dX1_putBack_41 rfl (lv_at hl 0 rfl) ?_
        refine z_l2i hx hb dX1_putBack_42 ?_
        refine lv_ldc hx hb hown (hts (.constant RX1 91 (2147483647)) (by decide +kernel)) dX1_putBack_43 ?_
        refine z_asi (y := nI 2147483647) (rfl) ?_
        refine z_iandU hx hb dX1_putBack_45 ?_
        refine z_ist hx hb hK hM (zup_s _ _ _) (by omega) (by omega) dX1_putBack_46 (fun H locs hM => ?_)
        have hM : zM Γ A s.heap (zup G tp (zI Γ 49 (va_up T1 (at_ + i) ((cy + (T1 (at_ + i) + (U i))) % 2147483648)))) H locs := by
          rw [zup_zup] at hM; exact hM
        refine lv_lload_n hx hb dX1_putBack_47 rfl (lv_at hl 0 rfl) ?_
        refine lv_bipush (v := nI 31) hx hb dX1_putBack_48 rfl ?_
        refine z_lushr31 hx hb (by omega) dX1_putBack_50 ?_
        refine lv_lstore_n (lv' := [(3, .long (lN ((cy + (T1 (at_ + i) + (U i))) / 2147483648))), (5, .int (nI i)), (0, .ref v), (1, .int (nI at_)), (2, .int (nI len))]) hx hb dX1_putBack_51 rfl hl (by decide) rfl (fun ls hl => ?_)
        refine z_iinc (v := (i + 1)) (lv' := [(5, .int (nI (i + 1))), (3, .long (lN ((cy + (T1 (at_ + i) + (U i))) / 2147483648))), (0, .ref v), (1, .int (nI at_)), (2, .int (nI len))]) hx hb dX1_putBack_52 hl (k := 1) rfl (nI_p1 _) (by decide) rfl (fun ls hl => ?_)
        refine lv_goto (tgt := 5) hx hb dX1_putBack_55 (by decide) ?_
        exact ihlp _ (by omega) (i + 1) ((cy + (T1 (at_ + i) + U i)) / 2147483648) (va_up T1 (at_ + i) ((cy + (T1 (at_ + i) + U i)) % 2147483648)) rfl (by omega) (by omega) (fun j hj => by rw [va_up_ne _ _ (by omega)]; exact h1 j (by omega)) (fun j hj => by show va_up T1 _ _ _ < _; by_cases hc : j = i; subst hc; rw [va_up_self]; omega; rw [va_up_ne _ _ (by omega)]; exact h2 j (by omega)) (by rw [vl_s, va_up_self, vl_congr (d' := fun j => T1 (at_ + j)) (fun j hj => va_up_ne _ _ (by omega)), vl_s, vl_s, he, show cy + (T (at_ + i) + U i) = T (at_ + i) + U i + cy by omega]; exact add_step h3) ls _ _ (lv_sub hl [0, 1, 2, 3, 4] rfl) hM
  exact lp _ 0 0 T rfl (by omega) (by omega) (fun _ _ => rfl) (fun _ h => by omega) (by simp [vl_0]) ls _ _ (lv_sub hl [0, 1, 2, 3, 4] rfl) (by rw [zup_self _ htp]; exact hM)

set_option maxRecDepth 100000 in
set_option maxHeartbeats 4000000 in
theorem v_takeOut (l : Launch) (Γ : zT) (G : zG) (sz : Nat) (v gr qu re tp bt : Nat) (T U : Nat → Nat) (hv : G v = some (.inr (3, [.ref gr, .ref qu, .ref re, .ref tp, .ref bt]))) (htp : G tp = some (zI Γ 49 T)) (hbt : G bt = some (zI Γ 48 U)) (htb : tp ≠ bt) (q at_ len : Nat) (hal : at_ + len ≤ 48) (hT : dg (fun j => T (at_ + j)) (len + 1)) (hU : dg U len) (hq31 : q < 2147483648) (hV : 0 < vl U len) (hq : q = (vl (fun j => T (at_ + j)) (len + 1)) / (vl U len) ∨ q = (vl (fun j => T (at_ + j)) (len + 1)) / (vl U len) + 1) : zMi l yX1_takeOut wsX1_takeOut (zR 2) Γ G sz [.ref v, .long (lN q), .int (nI at_), .int (nI len)] (fun r G' => r = nI ((vl (fun j => T (at_ + j)) (len + 1)) / (vl U len)) ∧ ∃ T', G' = zup G tp (zI Γ 49 T') ∧ (∀ j, (j < at_ ∨ at_ + len < j) → T' j = T j) ∧ T' (at_ + len) = 0 ∧ dg (fun j => T' (at_ + j)) len ∧ vl (fun j => T' (at_ + j)) len = (vl (fun j => T (at_ + j)) (len + 1)) % (vl U len)) 0 0 := by
  refine z_start (cc := cX1_takeOut) (maxL := 9) (ret := (some .int)) (by decide) rfl (Nat.le_of_ble_eq_true rfl) ?_
  intro p e s m args below meth c ls Q hQ hsz hx hb hr hml hown hts hlocks hnm hK hM hl
  obtain ⟨A, hAe⟩ : ∃ A, A = zA G s.heap.size := ⟨_, rfl⟩
  rw [← hAe] at hM
  have hl : lv_has ls 9 [(0, .ref v), (1, .long (lN q)), (3, .int (nI at_)), (4, .int (nI len))] := hl
  have hinX1 : ∀ w ∈ wsX10, w ∈ wsX1_takeOut := by decide +kernel
  have hf_26 := hts (.fieldLink RX1 26 "CutRows$Divider" "top" "[I") (by decide +kernel)
  have hf_30 := hts (.fieldLink RX1 30 "CutRows$Divider" "bottom" "[I") (by decide +kernel)
  refine lv_lconst (v := lN 0) hx hb dX1_takeOut_0 rfl ?_
  refine lv_lstore (lv' := [(5, .long (lN 0)), (0, .ref v), (1, .long (lN q)), (3, .int (nI at_)), (4, .int (nI len))]) hx hb dX1_takeOut_1 hl (by decide) rfl (fun ls hl => ?_)
  refine lv_iconst (v := nI 0) hx hb dX1_takeOut_3 rfl ?_
  refine lv_istore (lv' := [(7, .int (nI 0)), (5, .long (lN 0)), (0, .ref v), (1, .long (lN q)), (3, .int (nI at_)), (4, .int (nI len))]) hx hb dX1_takeOut_4 hl (by decide) rfl (fun ls hl => ?_)
  have lp : ∀ (μ : Nat) (i : Nat) (cy : Nat) (T1 : Nat → Nat), len - i = μ → (i ≤ len) → (cy ≤ 2147483648) → (∀ j, (j < at_ ∨ at_ + i ≤ j) → T1 j = T j) → (dg (fun j => T1 (at_ + j)) i) → (vl (fun j => T1 (at_ + j)) i + q * vl U i = vl (fun j => T (at_ + j)) i + cy * bp i) → ∀ (ls : Array Slot) (H : Heap) (locs : List Loc), lv_has ls 9 [(7, .int (nI i)), (5, .long (lN cy)), (0, .ref v), (1, .long (lN q)), (3, .int (nI at_)), (4, .int (nI len))] → zM Γ A s.heap (zup G tp (zI Γ 49 T1)) H locs → W p l e (zR 2) s m args below meth c H locs 0 0 Q (F0 m 6 ls []) := by
    intro μ
    induction μ using Nat.strongRecOn with
    | _ μ ihlp =>
      intro i cy T1 hμ hi hcy h1 h2 h3 ls H locs hl hM
      refine lv_iload hx hb dX1_takeOut_6 (lv_at hl 0 rfl) ?_
      refine lv_iload hx hb dX1_takeOut_8 (lv_at hl 5 rfl) ?_
      refine z_icmp_ge (tgt := 80) hx hb (by omega) (by omega) dX1_takeOut_10 (by decide) (fun hc10 => ?_) (fun hc10 => ?_)
      · have hin : i = len := by omega
        rw [hin] at h1 h2 h3
        have htop : T1 (at_ + len) = T (at_ + len) := h1 _ (by omega)
        have htl : T (at_ + len) < 2147483648 := hT len (by omega)
        have hXs : (vl (fun j => T (at_ + j)) (len + 1)) = vl (fun j => T (at_ + j)) len + T (at_ + len) * bp len := vl_s _ _
        have hw := vl_lt h2
        have hVl := vl_lt hU
        have hX1 : T (at_ + len) * bp len ≤ (vl (fun j => T (at_ + j)) (len + 1)) := by omega
        have h9 : vl (fun j => T1 (at_ + j)) len + q * vl U len = (vl (fun j => T (at_ + j)) (len + 1)) - T (at_ + len) * bp len + cy * bp len := by omega
        refine lv_aload_n hx hb dX1_takeOut_80 rfl (lv_at hl 2 rfl) ?_
        refine z_get (C := RX1) (T := TX1) (N := 5) (v := .ref tp) hx hb hts hinX1 hown hK hM ((zup_n _ _ (zne hv htp (by intro h; cases h))).trans hv) 3 hf_26 rfl rfl (by decide) rfl dX1_takeOut_81 ?_
        refine lv_iload_n hx hb dX1_takeOut_84 rfl (lv_at hl 4 rfl) ?_
        refine lv_iload hx hb dX1_takeOut_85 (lv_at hl 5 rfl) ?_
        refine z_iadd hx hb dX1_takeOut_87 ?_
        refine z_ild hx hb hK hM (zup_s _ _ _) (by omega) (by omega) dX1_takeOut_88 ?_
        refine z_i2l hx hb (by omega) dX1_takeOut_89 ?_
        refine lv_lload hx hb dX1_takeOut_90 (lv_at hl 1 rfl) ?_
        refine W.lcmp hx hb dX1_takeOut_92 ?_
        refine lv_if_ge (tgt := 100) hx hb dX1_takeOut_93 (by decide) (fun hc93 => ?_) (fun hc93 => ?_)
        · have hct : cy ≤ T (at_ + len) := by rw [← htop]; exact (cmp_geN (by omega) (by omega)).mp hc93
          refine lv_iconst (v := nI 0) hx hb dX1_takeOut_100 rfl ?_
          refine lv_istore (lv' := [(7, .int (nI 0)), (5, .long (lN cy)), (0, .ref v), (1, .long (lN q)), (3, .int (nI at_)), (4, .int (nI len))]) hx hb dX1_takeOut_101 hl (by decide) rfl (fun ls hl => ?_)
          refine lv_aload_n hx hb dX1_takeOut_103 rfl (lv_at hl 2 rfl) ?_
          refine z_get (C := RX1) (T := TX1) (N := 5) (v := .ref tp) hx hb hts hinX1 hown hK hM ((zup_n _ _ (zne hv htp (by intro h; cases h))).trans hv) 3 hf_26 rfl rfl (by decide) rfl dX1_takeOut_104 ?_
          refine lv_iload_n hx hb dX1_takeOut_107 rfl (lv_at hl 4 rfl) ?_
          refine lv_iload hx hb dX1_takeOut_108 (lv_at hl 5 rfl) ?_
          refine z_iadd hx hb dX1_takeOut_110 ?_
          refine lv_iconst (v := nI 0) hx hb dX1_takeOut_111 rfl ?_
          refine z_ist hx hb hK hM (zup_s _ _ _) (by omega) (by omega) dX1_takeOut_112 (fun H locs hM => ?_)
          have hM : zM Γ A s.heap (zup G tp (zI Γ 49 (va_up T1 (at_ + len) 0))) H locs := by
            rw [zup_zup] at hM; exact hM
          refine lv_iload hx hb dX1_takeOut_113 (lv_at hl 0 rfl) ?_
          refine z_if_eq (tgt := 130) hx hb (by omega) dX1_takeOut_115 (by decide) (fun hc115 => ?_) (fun hc115 => ?_)
          · refine lv_lload_n hx hb dX1_takeOut_130 rfl (lv_at hl 3 rfl) ?_
            refine z_l2i hx hb dX1_takeOut_131 ?_
            rw [hQ]
            rw [hAe] at hM
            exact z_iret hsz hx hb hr hlocks hK hM dX1_takeOut_132 (by
                  obtain ⟨z1, z2, z3⟩ := to_lo hq hV (by omega) hw (by rw [h9]; omega) h9 hX1 hct
                  exact ⟨congrArg nI z1, _, rfl, fun j hj => by rw [va_up_ne _ _ (by omega)]; exact h1 j (by omega), va_up_self _ _ _, fun j hj => by show va_up T1 _ _ _ < _; rw [va_up_ne _ _ (by omega)]; exact h2 j hj, by rw [vl_congr (d' := fun j => T1 (at_ + j)) (fun j hj => va_up_ne _ _ (by omega))]; exact z2⟩)
          · exact absurd rfl hc115
        · have hct : T (at_ + len) < cy := by have g := mt (cmp_geN (show T1 (at_ + len) < 2 ^ 63 by omega) (show cy < 2 ^ 63 by omega)).mpr hc93; rw [htop] at g; omega
          refine lv_iconst (v := nI 1) hx hb dX1_takeOut_96 rfl ?_
          refine lv_goto (tgt := 101) hx hb dX1_takeOut_97 (by decide) ?_
          refine lv_istore (lv' := [(7, .int (nI 1)), (5, .long (lN cy)), (0, .ref v), (1, .long (lN q)), (3, .int (nI at_)), (4, .int (nI len))]) hx hb dX1_takeOut_101 hl (by decide) rfl (fun ls hl => ?_)
          refine lv_aload_n hx hb dX1_takeOut_103 rfl (lv_at hl 2 rfl) ?_
          refine z_get (C := RX1) (T := TX1) (N := 5) (v := .ref tp) hx hb hts hinX1 hown hK hM ((zup_n _ _ (zne hv htp (by intro h; cases h))).trans hv) 3 hf_26 rfl rfl (by decide) rfl dX1_takeOut_104 ?_
          refine lv_iload_n hx hb dX1_takeOut_107 rfl (lv_at hl 4 rfl) ?_
          refine lv_iload hx hb dX1_takeOut_108 (lv_at hl 5 rfl) ?_
          refine z_iadd hx hb dX1_takeOut_110 ?_
          refine lv_iconst (v := nI 0) hx hb dX1_takeOut_111 rfl ?_
          refine z_ist hx hb hK hM (zup_s _ _ _) (by omega) (by omega) dX1_takeOut_112 (fun H locs hM => ?_)
          have hM : zM Γ A s.heap (zup G tp (zI Γ 49 (va_up T1 (at_ + len) 0))) H locs := by
            rw [zup_zup] at hM; exact hM
          refine lv_iload hx hb dX1_takeOut_113 (lv_at hl 0 rfl) ?_
          refine z_if_eq (tgt := 130) hx hb (by omega) dX1_takeOut_115 (by decide) (fun hc115 => ?_) (fun hc115 => ?_)
          · exact absurd hc115 (by omega)
          · refine lv_aload_n hx hb dX1_takeOut_118 rfl (lv_at hl 2 rfl) ?_
            refine lv_iload_n hx hb dX1_takeOut_119 rfl (lv_at hl 4 rfl) ?_
            refine lv_iload hx hb dX1_takeOut_120 (lv_at hl 5 rfl) ?_
            have hT2 : dg (fun j => va_up T1 (at_ + len) 0 (at_ + j)) len := fun j hj => by show va_up T1 _ _ _ < _; rw [va_up_ne _ _ (by omega)]; exact h2 j hj
            have hv2 : vl (fun j => va_up T1 (at_ + len) 0 (at_ + j)) len = vl (fun j => T1 (at_ + j)) len := vl_congr (fun j hj => va_up_ne _ _ (by omega))
            refine z_callv0 (va_runV (As := [.int (nI at_), .int (nI len)]) (rest := []) ⟨hx, hb, hml, hown, hts⟩ (v_putBack l Γ (zup G tp (zI Γ 49 (va_up T1 (at_ + len) 0))) _ v gr qu re tp bt _ U ((zup_n _ _ (zne hv htp (by intro h; cases h))).trans hv) (zup_s _ _ _) ((zup_n _ _ (Ne.symm htb)).trans hbt) htb at_ len hal hT2 hU) (cwV 2 hts gX1_takeOut_X1_putBack rfl rfl rfl (by decide +kernel) ⟨Nat.le_of_ble_eq_true rfl, Nat.le_of_ble_eq_true rfl⟩) (zM.preV hK hM ((zup_n _ _ (zne hv htp (by intro h; cases h))).trans hv) rfl rfl) rfl rfl hl.1 rfl (lv_room (Nat.le_of_ble_eq_true rfl)) dX1_takeOut_122 ⟨Nat.le_of_ble_eq_true rfl, Nat.le_of_ble_eq_true rfl⟩) hM (fun G122 H locs hp122 hM => ?_)
            obtain ⟨T2, c2, rfl, p1, p2, p3, p4⟩ := hp122
            rw [zup_zup] at hM
            rw [hv2] at p4
            obtain ⟨z1, z2⟩ := to_hi hq hV (by omega) hw h9 hX1 hct (vl_lt p2) p4 p3
            refine lv_lload_n hx hb dX1_takeOut_125 rfl (lv_at hl 3 rfl) ?_
            refine z_l2i hx hb dX1_takeOut_126 ?_
            refine lv_iconst (v := nI 1) hx hb dX1_takeOut_127 rfl ?_
            refine z_isub hx hb (by rw [z1]; exact Nat.le_add_left 1 _) dX1_takeOut_128 ?_
            rw [hQ]
            rw [hAe] at hM
            exact z_iret hsz hx hb hr hlocks hK hM dX1_takeOut_129 (⟨congrArg nI (by rw [z1]; exact Nat.add_sub_cancel _ _), T2, rfl, fun j hj => by rw [p1 j (by omega), va_up_ne _ _ (by omega)]; exact h1 j (by omega), by rw [p1 _ (by omega), va_up_self], p2, z2⟩)
      · have he : T1 (at_ + i) = T (at_ + i) := h1 _ (by omega)
        have hx1 : T1 (at_ + i) < 2147483648 := by rw [he]; exact hT i (by omega)
        have hy1 : U i < 2147483648 := hU i (by omega)
        have hqu : q * U i ≤ 2147483647 * 2147483647 := Nat.mul_le_mul (by omega) (by omega)
        refine lv_lload hx hb dX1_takeOut_13 (lv_at hl 1 rfl) ?_
        refine lv_lload_n hx hb dX1_takeOut_15 rfl (lv_at hl 3 rfl) ?_
        refine lv_aload_n hx hb dX1_takeOut_16 rfl (lv_at hl 2 rfl) ?_
        refine z_get (C := RX1) (T := TX1) (N := 5) (v := .ref bt) hx hb hts hinX1 hown hK hM ((zup_n _ _ (zne hv htp (by intro h; cases h))).trans hv) 4 hf_30 rfl rfl (by decide) rfl dX1_takeOut_17 ?_
        refine lv_iload hx hb dX1_takeOut_20 (lv_at hl 0 rfl) ?_
        refine z_ild hx hb hK hM ((zup_n _ _ (Ne.symm htb)).trans hbt) (by omega) (by omega) dX1_takeOut_22 ?_
        refine z_i2l hx hb (by omega) dX1_takeOut_23 ?_
        refine z_lmul hx hb dX1_takeOut_24 ?_
        refine z_ladd hx hb dX1_takeOut_25 ?_
        refine lv_lstore (lv' := [(5, .long (lN (cy + (q * (U i))))), (7, .int (nI i)), (0, .ref v), (1, .long (lN q)), (3, .int (nI at_)), (4, .int (nI len))]) hx hb dX1_takeOut_26 hl (by decide) rfl (fun ls hl => ?_)
        refine lv_aload_n hx hb dX1_takeOut_28 rfl (lv_at hl 2 rfl) ?_
        refine z_get (C := RX1) (T := TX1) (N := 5) (v := .ref tp) hx hb hts hinX1 hown hK hM ((zup_n _ _ (zne hv htp (by intro h; cases h))).trans hv) 3 hf_26 rfl rfl (by decide) rfl dX1_takeOut_29 ?_
        refine lv_iload_n hx hb dX1_takeOut_32 rfl (lv_at hl 4 rfl) ?_
        refine lv_iload hx hb dX1_takeOut_33 (lv_at hl 1 rfl) ?_
        refine z_iadd hx hb dX1_takeOut_35 ?_
        refine z_ild hx hb hK hM (zup_s _ _ _) (by omega) (by omega) dX1_takeOut_36 ?_
        refine lv_lload hx hb dX1_takeOut_37 (lv_at hl 0 rfl) ?_
        refine z_l2i hx hb dX1_takeOut_39 ?_
        refine lv_ldc hx hb hown (hts (.constant RX1 91 (2147483647)) (by decide +kernel)) dX1_takeOut_40 ?_
        refine z_asi (y := nI 2147483647) (rfl) ?_
        refine z_iandU hx hb dX1_takeOut_42 ?_
        refine lv_isub hx hb dX1_takeOut_43 ?_
        refine z_asi (y := nI ((T1 (at_ + i) + 4294967296 - (cy + q * U i) % 2147483648) % 4294967296)) (nI_sub2 hx1 (by omega)) ?_
        refine lv_istore (lv' := [(8, .int (nI ((T1 (at_ + i) + 4294967296 - (cy + q * U i) % 2147483648) % 4294967296))), (5, .long (lN (cy + (q * (U i))))), (7, .int (nI i)), (0, .ref v), (1, .long (lN q)), (3, .int (nI at_)), (4, .int (nI len))]) hx hb dX1_takeOut_44 hl (by decide) rfl (fun ls hl => ?_)
        refine lv_aload_n hx hb dX1_takeOut_46 rfl (lv_at hl 3 rfl) ?_
        refine z_get (C := RX1) (T := TX1) (N := 5) (v := .ref tp) hx hb hts hinX1 hown hK hM ((zup_n _ _ (zne hv htp (by intro h; cases h))).trans hv) 3 hf_26 rfl rfl (by decide) rfl dX1_takeOut_47 ?_
        refine lv_iload_n hx hb dX1_takeOut_50 rfl (lv_at hl 5 rfl) ?_
        refine lv_iload hx hb dX1_takeOut_51 (lv_at hl 2 rfl) ?_
        refine z_iadd hx hb dX1_takeOut_53 ?_
        refine lv_iload hx hb dX1_takeOut_54 (lv_at hl 0 rfl) ?_
        refine lv_ldc hx hb hown (hts (.constant RX1 91 (2147483647)) (by decide +kernel)) dX1_takeOut_56 ?_
        refine z_asi (y := nI 2147483647) (rfl) ?_
        refine z_iandU hx hb dX1_takeOut_58 ?_
        refine z_asi (y := nI ((T1 (at_ + i) + 2147483648 - (cy + q * U i) % 2147483648) % 2147483648)) (congrArg nI (by omega)) ?_
        refine z_ist hx hb hK hM (zup_s _ _ _) (by omega) (by omega) dX1_takeOut_59 (fun H locs hM => ?_)
        have hM : zM Γ A s.heap (zup G tp (zI Γ 49 (va_up T1 (at_ + i) ((T1 (at_ + i) + 2147483648 - (cy + q * U i) % 2147483648) % 2147483648)))) H locs := by
          rw [zup_zup] at hM; exact hM
        refine lv_lload hx hb dX1_takeOut_60 (lv_at hl 1 rfl) ?_
        refine lv_bipush (v := nI 31) hx hb dX1_takeOut_62 rfl ?_
        refine z_lushr31 hx hb (by omega) dX1_takeOut_64 ?_
        refine lv_iload hx hb dX1_takeOut_65 (lv_at hl 0 rfl) ?_
        refine lv_bipush (v := nI 31) hx hb dX1_takeOut_67 rfl ?_
        refine z_iushr31 hx hb (by omega) dX1_takeOut_69 ?_
        refine z_asi (y := nI (if T1 (at_ + i) < (cy + q * U i) % 2147483648 then 1 else 0)) (congrArg nI (by split <;> omega)) ?_
        refine z_i2l hx hb (by split <;> omega) dX1_takeOut_70 ?_
        refine z_ladd hx hb dX1_takeOut_71 ?_
        refine lv_lstore (lv' := [(5, .long (lN ((cy + (q * (U i))) / 2147483648 + (if T1 (at_ + i) < (cy + q * U i) % 2147483648 then 1 else 0)))), (8, .int (nI ((T1 (at_ + i) + 4294967296 - (cy + q * U i) % 2147483648) % 4294967296))), (7, .int (nI i)), (0, .ref v), (1, .long (lN q)), (3, .int (nI at_)), (4, .int (nI len))]) hx hb dX1_takeOut_72 hl (by decide) rfl (fun ls hl => ?_)
        refine z_iinc (v := (i + 1)) (lv' := [(7, .int (nI (i + 1))), (5, .long (lN ((cy + (q * (U i))) / 2147483648 + (if T1 (at_ + i) < (cy + q * U i) % 2147483648 then 1 else 0)))), (8, .int (nI ((T1 (at_ + i) + 4294967296 - (cy + q * U i) % 2147483648) % 4294967296))), (0, .ref v), (1, .long (lN q)), (3, .int (nI at_)), (4, .int (nI len))]) hx hb dX1_takeOut_74 hl (k := 2) rfl (nI_p1 _) (by decide) rfl (fun ls hl => ?_)
        refine lv_goto (tgt := 6) hx hb dX1_takeOut_77 (by decide) ?_
        exact ihlp _ (by omega) (i + 1) ((cy + q * U i) / 2147483648 + (if T1 (at_ + i) < (cy + q * U i) % 2147483648 then 1 else 0)) (va_up T1 (at_ + i) ((T1 (at_ + i) + 2147483648 - (cy + q * U i) % 2147483648) % 2147483648)) rfl (by omega) (by split <;> omega) (fun j hj => by rw [va_up_ne _ _ (by omega)]; exact h1 j (by omega)) (fun j hj => by show va_up T1 _ _ _ < _; by_cases hc : j = i; subst hc; rw [va_up_self]; omega; rw [va_up_ne _ _ (by omega)]; exact h2 j (by omega)) (to_step h3 he (by rw [← he]; exact hx1)) ls _ _ (lv_sub hl [0, 1, 3, 4, 5, 6] rfl) hM
  exact lp _ 0 0 T rfl (by omega) (by omega) (fun _ _ => rfl) (fun _ h => by omega) (by simp [vl_0]) ls _ _ (lv_sub hl [0, 1, 2, 3, 4, 5] rfl) (by rw [zup_self _ htp]; exact hM)
