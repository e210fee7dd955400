set_option maxRecDepth 100000 in
set_option maxHeartbeats 4000000 in
theorem v_divideByMany (l : Launch) (Γ : zT) (G : zG) (sz : Nat) (v gr qu re tp bt : Nat) (T U : Nat → Nat) (hv : G v = some (.inr (3, [.ref gr, .ref qu, .ref re, .ref tp, .ref bt]))) (htp : G tp = some (zI Γ 49 T)) (hbt : G bt = some (zI Γ 48 U)) (lqu n0 : Nat) (s0 : Int32) (q0 : Nat → Nat) (hqu : G qu = some (wh lqu n0 s0)) (hlqu : G lqu = some (zI Γ 48 q0)) (lre n1 : Nat) (s1 : Int32) (r0 : Nat → Nat) (hre : G re = some (wh lre n1 s1)) (hlre : G lre = some (zI Γ 48 r0)) (a la ra na : Nat) (sga : Int32) (da : Nat → Nat) (ha : G a = some (wh la na sga)) (hla : G la = some (zI Γ ra da)) (b lb rb nb : Nat) (sgb : Int32) (db : Nat → Nat) (hbw : G b = some (wh lb nb sgb)) (hlb : G lb = some (zI Γ rb db)) (hap : ap6 la lb lqu lre tp bt) (hap4 : ap4 a b qu re) (hna : na ≤ 48) (hra : na ≤ ra) (hra31 : ra < 2 ^ 31) (hda : dg da na) (hb2 : 2 ≤ nb) (hnab : nb ≤ na) (hrb : nb ≤ rb) (hrb31 : rb < 2 ^ 31) (fb : sf db nb) : zMv l yX1_divideByMany wsX1_divideByMany (zR 3) Γ G sz [.ref v, .ref a, .ref b] (fun G' => (∀ x, x ≠ qu → x ≠ lqu → x ≠ re → x ≠ lre → x ≠ tp → x ≠ bt → G' x = G x) ∧ (∃ T', G' tp = some (zI Γ 49 T')) ∧ (∃ U', G' bt = some (zI Γ 48 U')) ∧ NUM Γ G' qu lqu 48 ((vl da na / vl db nb : Nat) : Int) ∧ NUM Γ G' re lre 48 ((vl da na % vl db nb : Nat) : Int)) 0 0 := by
  obtain ⟨⟨ne1, ne2, ne3, ne4⟩, ⟨ne5, ne6, ne7, ne8⟩, ⟨ne9, ne10, ne11, ne12, ne13, ne14⟩⟩ := hap
  obtain ⟨nf1, nf2, nf3, nf4, nf5⟩ := hap4
  refine z_start (cc := cX1_divideByMany) (maxL := 8) (ret := none) (by decide) rfl (Nat.le_of_ble_eq_true rfl) ?_
  intro p e s m args below meth c ls Q hQ hsz hx hb hr hml hown hts hlocks hnm hK hM hl
  obtain ⟨A, hAe⟩ : ∃ A, A = zA G s.heap.size := ⟨_, rfl⟩
  rw [← hAe] at hM
  have hl : lv_has ls 8 [(0, .ref v), (1, .ref a), (2, .ref b)] := hl
  have hinX1 : ∀ w ∈ wsX10, w ∈ wsX1_divideByMany := by decide +kernel
  have hinX3 : ∀ w ∈ wsX30, w ∈ wsX1_divideByMany := by decide +kernel
  have hf_20 := hts (.fieldLink RX1 20 "CutRows$Divider" "quotient" "LCutRows$Whole;") (by decide +kernel)
  have hf_23 := hts (.fieldLink RX1 23 "CutRows$Divider" "remainder" "LCutRows$Whole;") (by decide +kernel)
  have hf_26 := hts (.fieldLink RX1 26 "CutRows$Divider" "top" "[I") (by decide +kernel)
  have hf_30 := hts (.fieldLink RX1 30 "CutRows$Divider" "bottom" "[I") (by decide +kernel)
  have hf_34 := hts (.fieldLink RX1 34 "CutRows$Whole" "size" "I") (by decide +kernel)
  have hf_59 := hts (.fieldLink RX1 59 "CutRows$Whole" "limbs" "[I") (by decide +kernel)
  have ht0 : 0 < db (nb - 1) := by have := fb.2 (by omega); omega
  have ht1 : db (nb - 1) < 2147483648 := fb.1 _ (by omega)
  refine lv_aload_n hx hb dX1_divideByMany_0 rfl (lv_at hl 2 rfl) ?_
  refine z_get (C := RX3) (T := TX3) (N := 3) (v := .int (nI nb)) hx hb hts hinX3 hown hK hM hbw 1 hf_34 rfl rfl (by decide) rfl dX1_divideByMany_1 ?_
  refine lv_istore_n (lv' := [(3, .int (nI nb)), (0, .ref v), (1, .ref a), (2, .ref b)]) hx hb dX1_divideByMany_4 rfl hl (by decide) rfl (fun ls hl => ?_)
  refine lv_aload_n hx hb dX1_divideByMany_5 rfl (lv_at hl 3 rfl) ?_
  refine z_get (C := RX3) (T := TX3) (N := 3) (v := .ref lb) hx hb hts hinX3 hown hK hM hbw 0 hf_59 rfl rfl (by decide) rfl dX1_divideByMany_6 ?_
  refine lv_iload_n hx hb dX1_divideByMany_9 rfl (lv_at hl 0 rfl) ?_
  refine lv_iconst (v := nI 1) hx hb dX1_divideByMany_10 rfl ?_
  refine z_isub hx hb (by omega) dX1_divideByMany_11 ?_
  refine z_ild hx hb hK hM hlb (by omega) (by omega) dX1_divideByMany_12 ?_
  refine z_calli0 (va_runS (As := [.int (nI (db (nb - 1)))]) (rest := []) ⟨hx, hb, hml, hown, hts⟩ (j_numberOfLeadingZeros_0f7a4 l Γ G _ (db (nb - 1)) ht0 ht1) (va_cwS 1 hts gX1_divideByMany_J6_numberOfLeadingZeros_0f7a4 rfl rfl rfl (by decide +kernel) ⟨Nat.le_of_ble_eq_true rfl, Nat.le_of_ble_eq_true rfl⟩) (zM.pre hK hM) rfl rfl hl.1 rfl (lv_room (Nat.le_of_ble_eq_true rfl)) dX1_divideByMany_13 ⟨Nat.le_of_ble_eq_true rfl, Nat.le_of_ble_eq_true rfl⟩) hM (fun r13 G13 H locs hp13 hM => ?_)
  obtain ⟨⟨sh, rfl, hsh, hs1, hs2⟩, hGe⟩ := hp13
  rw [hGe] at hM
  refine lv_iconst (v := nI 1) hx hb dX1_divideByMany_16 rfl ?_
  refine z_isub hx hb (by omega) dX1_divideByMany_17 ?_
  refine z_asi (y := nI sh) (congrArg nI (by omega)) ?_
  refine lv_istore (lv' := [(4, .int (nI sh)), (3, .int (nI nb)), (0, .ref v), (1, .ref a), (2, .ref b)]) hx hb dX1_divideByMany_18 hl (by decide) rfl (fun ls hl => ?_)
  refine lv_aload_n hx hb dX1_divideByMany_20 rfl (lv_at hl 4 rfl) ?_
  refine lv_iload hx hb dX1_divideByMany_21 (lv_at hl 0 rfl) ?_
  refine lv_aload_n hx hb dX1_divideByMany_23 rfl (lv_at hl 2 rfl) ?_
  refine z_get (C := RX1) (T := TX1) (N := 5) (v := .ref bt) hx hb hts hinX1 hown hK hM hv 4 hf_30 rfl rfl (by decide) rfl dX1_divideByMany_24 ?_
  refine z_calli0 (va_runS (As := [.ref b, .int (nI sh), .ref bt]) (rest := []) ⟨hx, hb, hml, hown, hts⟩ (v_shiftUp l Γ G _ b lb rb nb sgb db hbw hlb bt 48 sh U hbt ne8 hrb hrb31 (by omega) (by decide) hsh fb.1) (va_cwS 3 hts gX1_divideByMany_X1_shiftUp rfl rfl rfl (by decide +kernel) ⟨Nat.le_of_ble_eq_true rfl, Nat.le_of_ble_eq_true rfl⟩) (zM.pre hK hM) rfl rfl hl.1 rfl (lv_room (Nat.le_of_ble_eq_true rfl)) dX1_divideByMany_27 ⟨Nat.le_of_ble_eq_true rfl, Nat.le_of_ble_eq_true rfl⟩) hM (fun r27 G27 H locs hp27 hM => ?_)
  obtain ⟨U1, cb, rfl, rfl, hcb, dU, vU, -⟩ := hp27
  refine lv_pop hx hb dX1_divideByMany_30 rfl ?_
  have hsp : vl db nb = vl db (nb - 1) + db (nb - 1) * bp (nb - 1) := by
    obtain ⟨r9, hr9⟩ : ∃ r9, nb = r9 + 1 := ⟨nb - 1, by omega⟩
    rw [hr9]; exact vl_s _ _
  have hlow : vl db (nb - 1) < bp (nb - 1) := vl_lt (fb.1.le (by omega))
  have hbn : bp nb = 2147483648 * bp (nb - 1) := by have := bp_s (nb - 1); rw [show nb - 1 + 1 = nb by omega] at this; exact this
  have hfit : vl db nb * 2 ^ sh < bp nb := by rw [hsp, hbn]; exact sh_fit hlow hs2 hsh
  have hcb0 : cb = 0 := by rcases Nat.eq_zero_or_pos cb with g | g; exact g; have := mul_le_r (bp nb) (show 1 ≤ cb by omega); omega
  have vU1 : vl U1 nb = vl db nb * 2 ^ sh := by rw [hcb0] at vU; omega
  obtain ⟨VV, hVV⟩ : ∃ VV, VV = vl U1 nb := ⟨_, rfl⟩
  have hp2 : 0 < 2 ^ sh := Nat.pow_pos (by decide)
  have hVb : 0 < vl db nb := by rw [hsp]; have := mul_le_r (bp (nb - 1)) (show 1 ≤ db (nb - 1) by omega); have := bp_pos (nb - 1); omega
  have hVp : 0 < VV := by rw [hVV, vU1]; exact Nat.mul_pos hVb hp2
  have hU30 : 1073741824 ≤ U1 (nb - 1) := by
    have g1 : vl U1 nb = vl U1 (nb - 1) + U1 (nb - 1) * bp (nb - 1) := by
      obtain ⟨r9, hr9⟩ : ∃ r9, nb = r9 + 1 := ⟨nb - 1, by omega⟩
      rw [hr9]; exact vl_s _ _
    have g2 : vl U1 (nb - 1) < bp (nb - 1) := vl_lt (dU.le (by omega))
    have g3 : 1073741824 * bp (nb - 1) ≤ vl U1 nb := by
      rw [vU1, hsp, Nat.add_mul]
      have g4 := mul_le_r (bp (nb - 1)) hs1
      have g5 : db (nb - 1) * bp (nb - 1) * 2 ^ sh = db (nb - 1) * 2 ^ sh * bp (nb - 1) := by rw [Nat.mul_assoc, Nat.mul_comm (bp (nb - 1)), ← Nat.mul_assoc]
      omega
    rcases Nat.lt_or_ge (U1 (nb - 1)) 1073741824 with g | g
    · have g6 := mul_le_r (bp (nb - 1)) (show U1 (nb - 1) + 1 ≤ 1073741824 by omega); rw [Nat.add_mul] at g6; omega
    · exact g
  refine lv_aload_n hx hb dX1_divideByMany_31 rfl (lv_at hl 2 rfl) ?_
  refine z_get (C := RX1) (T := TX1) (N := 5) (v := .ref tp) hx hb hts hinX1 hown hK hM ((zup_n _ _ (zne hv hbt (by intro h; cases h))).trans hv) 3 hf_26 rfl rfl (by decide) rfl dX1_divideByMany_32 ?_
  refine lv_aload_n hx hb dX1_divideByMany_35 rfl (lv_at hl 3 rfl) ?_
  refine z_get (C := RX3) (T := TX3) (N := 3) (v := .int (nI na)) hx hb hts hinX3 hown hK hM ((zup_n _ _ (zne ha hbt (by intro h; cases h))).trans ha) 1 hf_34 rfl rfl (by decide) rfl dX1_divideByMany_36 ?_
  refine lv_aload_n hx hb dX1_divideByMany_39 rfl (lv_at hl 3 rfl) ?_
  refine lv_iload hx hb dX1_divideByMany_40 (lv_at hl 0 rfl) ?_
  refine lv_aload_n hx hb dX1_divideByMany_42 rfl (lv_at hl 2 rfl) ?_
  refine z_get (C := RX1) (T := TX1) (N := 5) (v := .ref tp) hx hb hts hinX1 hown hK hM ((zup_n _ _ (zne hv hbt (by intro h; cases h))).trans hv) 3 hf_26 rfl rfl (by decide) rfl dX1_divideByMany_43 ?_
  refine z_calli0 (va_runS (As := [.ref a, .int (nI sh), .ref tp]) (rest := [.int (nI na), .ref tp]) ⟨hx, hb, hml, hown, hts⟩ (v_shiftUp l Γ (zup G bt (zI Γ 48 U1)) _ a la ra na sga da ((zup_n _ _ (zne ha hbt (by intro h; cases h))).trans ha) ((zup_n _ _ ne4).trans hla) tp 49 sh T ((zup_n _ _ ne14).trans htp) ne3 hra hra31 (by omega) (by decide) hsh hda) (va_cwS 3 hts gX1_divideByMany_X1_shiftUp rfl rfl rfl (by decide +kernel) ⟨Nat.le_of_ble_eq_true rfl, Nat.le_of_ble_eq_true rfl⟩) (zM.pre hK hM) rfl rfl hl.1 rfl (lv_room (Nat.le_of_ble_eq_true rfl)) dX1_divideByMany_46 ⟨Nat.le_of_ble_eq_true rfl, Nat.le_of_ble_eq_true rfl⟩) hM (fun r46 G46 H locs hp46 hM => ?_)
  obtain ⟨T1, ct, rfl, rfl, hct, dT, vT, -⟩ := hp46
  refine z_ist hx hb hK hM (zup_s _ _ _) (by omega) (by omega) dX1_divideByMany_49 (fun H locs hM => ?_)
  have hM : zM Γ A s.heap (zup (zup G bt (zI Γ 48 U1)) tp (zI Γ 49 (va_up T1 na ct))) H locs := by
    rw [zup_zup] at hM; exact hM
  obtain ⟨T2, hT2⟩ : ∃ T2, T2 = va_up T1 na ct := ⟨_, rfl⟩
  rw [← hT2] at hM
  have hp30 : 2 ^ sh ≤ 2 ^ 30 := Nat.pow_le_pow_right (by decide) hsh
  have dT2 : dg T2 (na + 1) := by rw [hT2]; exact up_dg0 dT (by omega)
  have vT2 : vl T2 (na + 1) = vl da na * 2 ^ sh := by rw [hT2, up_vl0]; exact vT
  refine lv_aload_n hx hb dX1_divideByMany_50 rfl (lv_at hl 3 rfl) ?_
  refine z_get (C := RX3) (T := TX3) (N := 3) (v := .int (nI na)) hx hb hts hinX3 hown hK hM ((zup_n _ _ (zne ha htp (by intro h; cases h))).trans ((zup_n _ _ (zne ha hbt (by intro h; cases h))).trans ha)) 1 hf_34 rfl rfl (by decide) rfl dX1_divideByMany_51 ?_
  refine lv_iload_n hx hb dX1_divideByMany_54 rfl (lv_at hl 1 rfl) ?_
  refine z_isub hx hb (by omega) dX1_divideByMany_55 ?_
  refine lv_istore (lv' := [(5, .int (nI (na - nb))), (4, .int (nI sh)), (3, .int (nI nb)), (0, .ref v), (1, .ref a), (2, .ref b)]) hx hb dX1_divideByMany_56 hl (by decide) rfl (fun ls hl => ?_)
  obtain ⟨nn, hnn⟩ : ∃ nn, nn = na - nb + 1 := ⟨_, rfl⟩
  have lp : ∀ (μ : Nat) (k : Nat) (T3 : Nat → Nat) (Q1 : Nat → Nat), k = μ → (k ≤ nn) → (dg T3 (nb + k)) → (vl T3 (nb + k) < VV * bp k) → (vl da na * 2 ^ sh = vl (fun j => Q1 (k + j)) (nn - k) * (VV * bp k) + vl T3 (nb + k)) → (∀ j, k ≤ j → j < nn → Q1 j < 2147483648) → (k < nn → T3 (nb + k) = 0) → ∀ (ls : Array Slot) (H : Heap) (locs : List Loc), lv_has ls 8 [(5, .int (nI k - 1)), (4, .int (nI sh)), (3, .int (nI nb)), (0, .ref v), (1, .ref a), (2, .ref b)] → zM Γ A s.heap (zup (zup (zup G bt (zI Γ 48 U1)) tp (zI Γ 49 T3)) lqu (zI Γ 48 Q1)) H locs → W p l e (zR 3) s m args below meth c H locs 0 0 Q (F0 m 58 ls []) := by
    intro μ
    induction μ using Nat.strongRecOn with
    | _ μ ihlp =>
      intro k T3 Q1 hμ hk t1 t2 t3 t4 t5 ls H locs hl hM
      rcases Nat.eq_zero_or_pos k with hk0 | hk0
      · subst hk0
        rw [show nI 0 - 1 = (-1 : Int32) from rfl] at hl
        refine lv_iload hx hb dX1_divideByMany_58 (lv_at hl 0 rfl) ?_
        refine lv_if_lt (tgt := 93) hx hb dX1_divideByMany_60 (by decide) (fun hc60 => ?_) (fun hc60 => ?_)
        · simp only [Nat.zero_add, Nat.sub_zero, Nat.add_zero, bp_0, Nat.mul_one] at t1 t2 t3 t5
          have dQ : dg Q1 nn := fun j hj => t4 j (Nat.zero_le _) hj
          have vQ : vl Q1 nn = vl da na / vl db nb := by
            have g1 : vl da na * 2 ^ sh / VV = vl Q1 nn := by rw [t3, Nat.mul_comm, Nat.mul_add_div hVp, Nat.div_eq_of_lt t2, Nat.add_zero]
            rw [← g1, hVV, vU1, Nat.mul_div_mul_right _ _ hp2]
          obtain ⟨RR, hRR⟩ : ∃ RR, RR = vl da na % vl db nb := ⟨_, rfl⟩
          have vR : vl T3 nb = RR * 2 ^ sh := by
            have g1 : vl da na * 2 ^ sh % VV = vl T3 nb := by rw [t3, Nat.mul_comm, Nat.mul_add_mod, Nat.mod_eq_of_lt t2]
            rw [← g1, hVV, vU1, Nat.mul_mod_mul_right, hRR]
          have hT0 : T3 nb = 0 := t5 (by omega)
          have dT3 : dg T3 (nb + 1) := fun j hj => by by_cases hc : j = nb; rw [hc, hT0]; decide; exact t1 j (by omega)
          have vT3 : vl T3 (nb + 1) = RR * 2 ^ sh := by rw [vl_s, hT0, vR]; omega
          have hRl : RR < bp nb := by rw [hRR]; exact Nat.lt_trans (Nat.mod_lt _ hVb) (vl_lt fb.1)
          refine lv_aload_n hx hb dX1_divideByMany_93 rfl (lv_at hl 3 rfl) ?_
          refine z_get (C := RX1) (T := TX1) (N := 5) (v := .ref qu) hx hb hts hinX1 hown hK hM ((zup_n _ _ (zne hv hlqu (by intro h; cases h))).trans ((zup_n _ _ (zne hv htp (by intro h; cases h))).trans ((zup_n _ _ (zne hv hbt (by intro h; cases h))).trans hv))) 1 hf_20 rfl rfl (by decide) rfl dX1_divideByMany_94 ?_
          refine lv_aload_n hx hb dX1_divideByMany_97 rfl (lv_at hl 4 rfl) ?_
          refine z_get (C := RX3) (T := TX3) (N := 3) (v := .int (nI na)) hx hb hts hinX3 hown hK hM ((zup_n _ _ (zne ha hlqu (by intro h; cases h))).trans ((zup_n _ _ (zne ha htp (by intro h; cases h))).trans ((zup_n _ _ (zne ha hbt (by intro h; cases h))).trans ha))) 1 hf_34 rfl rfl (by decide) rfl dX1_divideByMany_98 ?_
          refine lv_iload_n hx hb dX1_divideByMany_101 rfl (lv_at hl 2 rfl) ?_
          refine z_isub hx hb (by omega) dX1_divideByMany_102 ?_
          refine lv_iconst (v := nI 1) hx hb dX1_divideByMany_103 rfl ?_
          refine z_iadd hx hb dX1_divideByMany_104 ?_
          refine z_asi (y := nI nn) (congrArg nI (by omega)) ?_
          refine lv_iconst (v := nI 1) hx hb dX1_divideByMany_105 rfl ?_
          refine z_callv0 (va_runV (As := [.int (nI nn), .int (nI 1)]) (rest := []) ⟨hx, hb, hml, hown, hts⟩ (w_settle l Γ (zup (zup (zup G bt (zI Γ 48 U1)) tp (zI Γ 49 T3)) lqu (zI Γ 48 Q1)) _ qu lqu 48 n0 s0 Q1 ((zup_n _ _ (zne hqu hlqu (by intro h; cases h))).trans ((zup_n _ _ (zne hqu htp (by intro h; cases h))).trans ((zup_n _ _ (zne hqu hbt (by intro h; cases h))).trans hqu))) (zup_s _ _ _) nn (nI 1) (by omega) (by decide) dQ) (cwV 2 hts gX1_divideByMany_X3_settle rfl rfl rfl (by decide +kernel) ⟨Nat.le_of_ble_eq_true rfl, Nat.le_of_ble_eq_true rfl⟩) (zM.preV hK hM ((zup_n _ _ (zne hqu hlqu (by intro h; cases h))).trans ((zup_n _ _ (zne hqu htp (by intro h; cases h))).trans ((zup_n _ _ (zne hqu hbt (by intro h; cases h))).trans hqu))) rfl rfl) rfl rfl hl.1 rfl (lv_room (Nat.le_of_ble_eq_true rfl)) dX1_divideByMany_106 ⟨Nat.le_of_ble_eq_true rfl, Nat.le_of_ble_eq_true rfl⟩) hM (fun G106 H locs hp106 hM => ?_)
          obtain rfl := hp106
          refine lv_iconst (v := nI 0) hx hb dX1_divideByMany_109 rfl ?_
          refine lv_istore (lv' := [(5, .int (nI 0)), (4, .int (nI sh)), (3, .int (nI nb)), (0, .ref v), (1, .ref a), (2, .ref b)]) hx hb dX1_divideByMany_110 hl (by decide) rfl (fun ls hl => ?_)
          have lr : ∀ (μ : Nat) (i : Nat) (r1 : Nat → Nat), nb - i = μ → (i ≤ nb) → (∀ j, j < i → r1 j = RR / bp j % 2147483648) → ∀ (ls : Array Slot) (H : Heap) (locs : List Loc), lv_has ls 8 [(5, .int (nI i)), (4, .int (nI sh)), (3, .int (nI nb)), (0, .ref v), (1, .ref a), (2, .ref b)] → zM Γ A s.heap (zup (zup (zup (zup (zup G bt (zI Γ 48 U1)) tp (zI Γ 49 T3)) lqu (zI Γ 48 Q1)) qu (.inr (5, [.ref lqu, .int (nI (tr Q1 nn)), .int (if tr Q1 nn = 0 then nI 0 else nI 1)]))) lre (zI Γ 48 r1)) H locs → W p l e (zR 3) s m args below meth c H locs 0 0 Q (F0 m 112 ls []) := by
            intro μ
            induction μ using Nat.strongRecOn with
            | _ μ ihlr =>
              intro i r1 hμ hi g3 ls H locs hl hM
              refine lv_iload hx hb dX1_divideByMany_112 (lv_at hl 0 rfl) ?_
              refine lv_iload_n hx hb dX1_divideByMany_114 rfl (lv_at hl 2 rfl) ?_
              refine z_icmp_ge (tgt := 167) hx hb (by omega) (by omega) dX1_divideByMany_115 (by decide) (fun hc115 => ?_) (fun hc115 => ?_)
              · have hin : i = nb := by omega
                rw [hin] at g3
                have d4 : dg r1 nb := fun j hj => by rw [g3 j hj]; exact Nat.mod_lt _ (by decide)
                have v4 : vl r1 nb = RR := by rw [vl_digits g3, Nat.mod_eq_of_lt hRl]
                refine lv_aload_n hx hb dX1_divideByMany_167 rfl (lv_at hl 3 rfl) ?_
                refine z_get (C := RX1) (T := TX1) (N := 5) (v := .ref re) hx hb hts hinX1 hown hK hM ((zup_n _ _ (zne hv hlre (by intro h; cases h))).trans ((zup_n _ _ (zne hv hqu (by intro h; cases h))).trans ((zup_n _ _ (zne hv hlqu (by intro h; cases h))).trans ((zup_n _ _ (zne hv htp (by intro h; cases h))).trans ((zup_n _ _ (zne hv hbt (by intro h; cases h))).trans hv))))) 2 hf_23 rfl rfl (by decide) rfl dX1_divideByMany_168 ?_
                refine lv_iload_n hx hb dX1_divideByMany_171 rfl (lv_at hl 2 rfl) ?_
                refine lv_iconst (v := nI 1) hx hb dX1_divideByMany_172 rfl ?_
                refine z_callv0 (va_runV (As := [.int (nI nb), .int (nI 1)]) (rest := []) ⟨hx, hb, hml, hown, hts⟩ (w_settle l Γ (zup (zup (zup (zup (zup G bt (zI Γ 48 U1)) tp (zI Γ 49 T3)) lqu (zI Γ 48 Q1)) qu (.inr (5, [.ref lqu, .int (nI (tr Q1 nn)), .int (if tr Q1 nn = 0 then nI 0 else nI 1)]))) lre (zI Γ 48 r1)) _ re lre 48 n1 s1 r1 ((zup_n _ _ (zne hre hlre (by intro h; cases h))).trans ((zup_n _ _ (Ne.symm nf5)).trans ((zup_n _ _ (zne hre hlqu (by intro h; cases h))).trans ((zup_n _ _ (zne hre htp (by intro h; cases h))).trans ((zup_n _ _ (zne hre hbt (by intro h; cases h))).trans hre))))) (zup_s _ _ _) nb (nI 1) (by omega) (by decide) d4) (cwV 2 hts gX1_divideByMany_X3_settle rfl rfl rfl (by decide +kernel) ⟨Nat.le_of_ble_eq_true rfl, Nat.le_of_ble_eq_true rfl⟩) (zM.preV hK hM ((zup_n _ _ (zne hre hlre (by intro h; cases h))).trans ((zup_n _ _ (Ne.symm nf5)).trans ((zup_n _ _ (zne hre hlqu (by intro h; cases h))).trans ((zup_n _ _ (zne hre htp (by intro h; cases h))).trans ((zup_n _ _ (zne hre hbt (by intro h; cases h))).trans hre))))) rfl rfl) rfl rfl hl.1 rfl (lv_room (Nat.le_of_ble_eq_true rfl)) dX1_divideByMany_173 ⟨Nat.le_of_ble_eq_true rfl, Nat.le_of_ble_eq_true rfl⟩) hM (fun G173 H locs hp173 hM => ?_)
                obtain rfl := hp173
                rw [hQ]
                rw [hAe] at hM
                exact z_vret hsz hx hb hr hlocks hK hM dX1_divideByMany_176 (by
                      rw [hRR] at v4
                      exact ⟨fun x g1 g2 g3 g4 g5 g6 => by rw [zup_n _ _ g3, zup_n _ _ g4, zup_n _ _ g1, zup_n _ _ g2, zup_n _ _ g5, zup_n _ _ g6], ⟨T3, ((zup_n _ _ (zne htp hre (by intro h; cases h))).trans ((zup_n _ _ (Ne.symm ne12)).trans ((zup_n _ _ (zne htp hqu (by intro h; cases h))).trans ((zup_n _ _ (Ne.symm ne10)).trans (zup_s _ _ _)))))⟩, ⟨U1, ((zup_n _ _ (zne hbt hre (by intro h; cases h))).trans ((zup_n _ _ (Ne.symm ne13)).trans ((zup_n _ _ (zne hbt hqu (by intro h; cases h))).trans ((zup_n _ _ (Ne.symm ne11)).trans ((zup_n _ _ (Ne.symm ne14)).trans (zup_s _ _ _))))))⟩, ⟨Q1, ((zup_n _ _ nf5).trans ((zup_n _ _ (zne hqu hlre (by intro h; cases h))).trans (zup_s _ _ _))).trans (congrArg some (num_of dQ vQ)), ((zup_n _ _ (zne hlqu hre (by intro h; cases h))).trans ((zup_n _ _ ne9).trans ((zup_n _ _ (zne hlqu hqu (by intro h; cases h))).trans (zup_s _ _ _)))), num_le dQ vQ (by omega), num_hd dQ vQ⟩, ⟨r1, (zup_s _ _ _).trans (congrArg some (num_of d4 v4)), ((zup_n _ _ (zne hlre hre (by intro h; cases h))).trans (zup_s _ _ _)), num_le d4 v4 (by omega), num_hd d4 v4⟩⟩)
              · have hx1 : T3 (i + 1) < 2147483648 := dT3 (i + 1) (by omega)
                have hx0 : T3 i < 2147483648 := dT3 i (by omega)
                refine lv_aload_n hx hb dX1_divideByMany_118 rfl (lv_at hl 3 rfl) ?_
                refine z_get (C := RX1) (T := TX1) (N := 5) (v := .ref tp) hx hb hts hinX1 hown hK hM ((zup_n _ _ (zne hv hlre (by intro h; cases h))).trans ((zup_n _ _ (zne hv hqu (by intro h; cases h))).trans ((zup_n _ _ (zne hv hlqu (by intro h; cases h))).trans ((zup_n _ _ (zne hv htp (by intro h; cases h))).trans ((zup_n _ _ (zne hv hbt (by intro h; cases h))).trans hv))))) 3 hf_26 rfl rfl (by decide) rfl dX1_divideByMany_119 ?_
                refine lv_iload hx hb dX1_divideByMany_122 (lv_at hl 0 rfl) ?_
                refine lv_iconst (v := nI 1) hx hb dX1_divideByMany_124 rfl ?_
                refine z_iadd hx hb dX1_divideByMany_125 ?_
                refine z_ild hx hb hK hM ((zup_n _ _ (Ne.symm ne12)).trans ((zup_n _ _ (zne htp hqu (by intro h; cases h))).trans ((zup_n _ _ (Ne.symm ne10)).trans (zup_s _ _ _)))) (by omega) (by omega) dX1_divideByMany_126 ?_
                refine z_i2l hx hb (by omega) dX1_divideByMany_127 ?_
                refine lv_bipush (v := nI 31) hx hb dX1_divideByMany_128 rfl ?_
                refine z_lshl31 hx hb dX1_divideByMany_130 ?_
                refine lv_aload_n hx hb dX1_divideByMany_131 rfl (lv_at hl 3 rfl) ?_
                refine z_get (C := RX1) (T := TX1) (N := 5) (v := .ref tp) hx hb hts hinX1 hown hK hM ((zup_n _ _ (zne hv hlre (by intro h; cases h))).trans ((zup_n _ _ (zne hv hqu (by intro h; cases h))).trans ((zup_n _ _ (zne hv hlqu (by intro h; cases h))).trans ((zup_n _ _ (zne hv htp (by intro h; cases h))).trans ((zup_n _ _ (zne hv hbt (by intro h; cases h))).trans hv))))) 3 hf_26 rfl rfl (by decide) rfl dX1_divideByMany_132 ?_
                refine lv_iload hx hb dX1_divideByMany_135 (lv_at hl 0 rfl) ?_
                refine z_ild hx hb hK hM ((zup_n _ _ (Ne.symm ne12)).trans ((zup_n _ _ (zne htp hqu (by intro h; cases h))).trans ((zup_n _ _ (Ne.symm ne10)).trans (zup_s _ _ _)))) (by omega) (by omega) dX1_divideByMany_137 ?_
                refine z_i2l hx hb (by omega) dX1_divideByMany_138 ?_
                refine z_lor31 hx hb (by omega) (by omega) dX1_divideByMany_139 ?_
                refine lv_lstore (lv' := [(6, .long (lN ((T3 (i + 1)) * 2147483648 + (T3 i)))), (5, .int (nI i)), (4, .int (nI sh)), (3, .int (nI nb)), (0, .ref v), (1, .ref a), (2, .ref b)]) hx hb dX1_divideByMany_140 hl (by decide) rfl (fun ls hl => ?_)
                refine lv_aload_n hx hb dX1_divideByMany_142 rfl (lv_at hl 4 rfl) ?_
                refine z_get (C := RX1) (T := TX1) (N := 5) (v := .ref re) hx hb hts hinX1 hown hK hM ((zup_n _ _ (zne hv hlre (by intro h; cases h))).trans ((zup_n _ _ (zne hv hqu (by intro h; cases h))).trans ((zup_n _ _ (zne hv hlqu (by intro h; cases h))).trans ((zup_n _ _ (zne hv htp (by intro h; cases h))).trans ((zup_n _ _ (zne hv hbt (by intro h; cases h))).trans hv))))) 2 hf_23 rfl rfl (by decide) rfl dX1_divideByMany_143 ?_
                refine z_get (C := RX3) (T := TX3) (N := 3) (v := .ref lre) hx hb hts hinX3 hown hK hM ((zup_n _ _ (zne hre hlre (by intro h; cases h))).trans ((zup_n _ _ (Ne.symm nf5)).trans ((zup_n _ _ (zne hre hlqu (by intro h; cases h))).trans ((zup_n _ _ (zne hre htp (by intro h; cases h))).trans ((zup_n _ _ (zne hre hbt (by intro h; cases h))).trans hre))))) 0 hf_59 rfl rfl (by decide) rfl dX1_divideByMany_146 ?_
                refine lv_iload hx hb dX1_divideByMany_149 (lv_at hl 1 rfl) ?_
                refine lv_lload hx hb dX1_divideByMany_151 (lv_at hl 0 rfl) ?_
                refine lv_iload hx hb dX1_divideByMany_153 (lv_at hl 2 rfl) ?_
                refine z_lushrK hx hb (by omega) (by omega) dX1_divideByMany_155 ?_
                refine z_l2i hx hb dX1_divideByMany_156 ?_
                refine lv_ldc hx hb hown (hts (.constant RX1 91 (2147483647)) (by decide +kernel)) dX1_divideByMany_157 ?_
                refine z_asi (y := nI 2147483647) (rfl) ?_
                refine z_iandU hx hb dX1_divideByMany_159 ?_
                have hdig : (T3 (i + 1) * 2147483648 + T3 i) / 2 ^ sh % 2147483648 = RR / bp i % 2147483648 := by
                  have g1 := vl_two dT3 (show i < nb by omega)
                  rw [show T3 (i + 1) * 2147483648 + T3 i = T3 i + 2147483648 * T3 (i + 1) by omega, ← g1, sh_dig hsh, vT3, Nat.div_div_eq_div_mul, Nat.mul_comm (bp i), ← Nat.div_div_eq_div_mul, Nat.mul_div_cancel _ hp2]
                refine z_asi (y := nI (RR / bp i % 2147483648)) (congrArg nI hdig) ?_
                refine z_ist hx hb hK hM (zup_s _ _ _) (by omega) (by omega) dX1_divideByMany_160 (fun H locs hM => ?_)
                have hM : zM Γ A s.heap (zup (zup (zup (zup (zup G bt (zI Γ 48 U1)) tp (zI Γ 49 T3)) lqu (zI Γ 48 Q1)) qu (.inr (5, [.ref lqu, .int (nI (tr Q1 nn)), .int (if tr Q1 nn = 0 then nI 0 else nI 1)]))) lre (zI Γ 48 (va_up r1 i (RR / bp i % 2147483648)))) H locs := by
                  rw [zup_zup] at hM; exact hM
                refine z_iinc (v := (i + 1)) (lv' := [(5, .int (nI (i + 1))), (6, .long (lN ((T3 (i + 1)) * 2147483648 + (T3 i)))), (4, .int (nI sh)), (3, .int (nI nb)), (0, .ref v), (1, .ref a), (2, .ref b)]) hx hb dX1_divideByMany_161 hl (k := 1) rfl (nI_p1 _) (by decide) rfl (fun ls hl => ?_)
                refine lv_goto (tgt := 112) hx hb dX1_divideByMany_164 (by decide) ?_
                exact ihlr _ (by omega) (i + 1) (va_up r1 i (RR / bp i % 2147483648)) rfl (by omega) (fun j hj => by by_cases hc : j = i; subst hc; rw [va_up_self]; rw [va_up_ne _ _ hc]; exact g3 j (by omega)) ls _ _ (lv_sub hl [0, 2, 3, 4, 5, 6] rfl) hM
          exact lr _ 0 r0 rfl (by omega) (fun j hj => by omega) ls _ _ (lv_sub hl [0, 1, 2, 3, 4, 5] rfl) (by rw [zup_self _ ((zup_n _ _ (zne hlre hqu (by intro h; cases h))).trans ((zup_n _ _ (Ne.symm ne9)).trans ((zup_n _ _ ne12).trans ((zup_n _ _ ne13).trans hlre))))]; exact hM)
        · exact absurd (by decide) hc60
      · obtain ⟨q, rfl⟩ : ∃ q, k = q + 1 := ⟨k - 1, by omega⟩
        rw [nI_pred] at hl
        have hXV := dm_lt' t2
        have dX : dg (fun j => T3 (q + j)) (nb + 1) := fun j hj => t1 _ (by omega)
        refine lv_iload hx hb dX1_divideByMany_58 (lv_at hl 0 rfl) ?_
        refine z_if_ltN hx hb (by omega) dX1_divideByMany_60 (tgt := 93) (by decide) ?_
        refine lv_aload_n hx hb dX1_divideByMany_63 rfl (lv_at hl 3 rfl) ?_
        refine z_get (C := RX1) (T := TX1) (N := 5) (v := .ref qu) hx hb hts hinX1 hown hK hM ((zup_n _ _ (zne hv hlqu (by intro h; cases h))).trans ((zup_n _ _ (zne hv htp (by intro h; cases h))).trans ((zup_n _ _ (zne hv hbt (by intro h; cases h))).trans hv))) 1 hf_20 rfl rfl (by decide) rfl dX1_divideByMany_64 ?_
        refine z_get (C := RX3) (T := TX3) (N := 3) (v := .ref lqu) hx hb hts hinX3 hown hK hM ((zup_n _ _ (zne hqu hlqu (by intro h; cases h))).trans ((zup_n _ _ (zne hqu htp (by intro h; cases h))).trans ((zup_n _ _ (zne hqu hbt (by intro h; cases h))).trans hqu))) 0 hf_59 rfl rfl (by decide) rfl dX1_divideByMany_67 ?_
        refine lv_iload hx hb dX1_divideByMany_70 (lv_at hl 0 rfl) ?_
        refine lv_aload_n hx hb dX1_divideByMany_72 rfl (lv_at hl 3 rfl) ?_
        refine lv_aload_n hx hb dX1_divideByMany_73 rfl (lv_at hl 3 rfl) ?_
        refine lv_iload hx hb dX1_divideByMany_74 (lv_at hl 0 rfl) ?_
        refine lv_iload_n hx hb dX1_divideByMany_76 rfl (lv_at hl 2 rfl) ?_
        refine z_calll0 (va_runV (As := [.int (nI q), .int (nI nb)]) (rest := [.ref v, .int (nI q), .ref lqu]) ⟨hx, hb, hml, hown, hts⟩ (v_guessDigit l Γ (zup (zup (zup G bt (zI Γ 48 U1)) tp (zI Γ 49 T3)) lqu (zI Γ 48 Q1)) _ v gr qu re tp bt T3 U1 ((zup_n _ _ (zne hv hlqu (by intro h; cases h))).trans ((zup_n _ _ (zne hv htp (by intro h; cases h))).trans ((zup_n _ _ (zne hv hbt (by intro h; cases h))).trans hv))) ((zup_n _ _ (Ne.symm ne10)).trans (zup_s _ _ _)) ((zup_n _ _ (Ne.symm ne11)).trans ((zup_n _ _ (Ne.symm ne14)).trans (zup_s _ _ _))) ne14 q nb hb2 (by omega) dX dU hU30 (by rw [← hVV]; exact hXV)) (cwV 2 hts gX1_divideByMany_X1_guessDigit rfl rfl rfl (by decide +kernel) ⟨Nat.le_of_ble_eq_true rfl, Nat.le_of_ble_eq_true rfl⟩) (zM.preV hK hM ((zup_n _ _ (zne hv hlqu (by intro h; cases h))).trans ((zup_n _ _ (zne hv htp (by intro h; cases h))).trans ((zup_n _ _ (zne hv hbt (by intro h; cases h))).trans hv))) rfl rfl) rfl rfl hl.1 rfl (lv_room (Nat.le_of_ble_eq_true rfl)) dX1_divideByMany_77 ⟨Nat.le_of_ble_eq_true rfl, Nat.le_of_ble_eq_true rfl⟩) hM (fun r77 G77 H locs hp77 hM => ?_)
        obtain ⟨⟨gq, rfl, hgq, hgq2⟩, hGe⟩ := hp77
        rw [hGe] at hM
        refine lv_iload hx hb dX1_divideByMany_80 (lv_at hl 0 rfl) ?_
        refine lv_iload_n hx hb dX1_divideByMany_82 rfl (lv_at hl 2 rfl) ?_
        refine z_calli0 (va_runV (As := [.long (lN gq), .int (nI q), .int (nI nb)]) (rest := [.int (nI q), .ref lqu]) ⟨hx, hb, hml, hown, hts⟩ (v_takeOut l Γ (zup (zup (zup G bt (zI Γ 48 U1)) tp (zI Γ 49 T3)) lqu (zI Γ 48 Q1)) _ v gr qu re tp bt T3 U1 ((zup_n _ _ (zne hv hlqu (by intro h; cases h))).trans ((zup_n _ _ (zne hv htp (by intro h; cases h))).trans ((zup_n _ _ (zne hv hbt (by intro h; cases h))).trans hv))) ((zup_n _ _ (Ne.symm ne10)).trans (zup_s _ _ _)) ((zup_n _ _ (Ne.symm ne11)).trans ((zup_n _ _ (Ne.symm ne14)).trans (zup_s _ _ _))) ne14 gq q nb (by omega) dX dU hgq (by rw [← hVV]; exact hVp) hgq2) (cwV 3 hts gX1_divideByMany_X1_takeOut rfl rfl rfl (by decide +kernel) ⟨Nat.le_of_ble_eq_true rfl, Nat.le_of_ble_eq_true rfl⟩) (zM.preV hK hM ((zup_n _ _ (zne hv hlqu (by intro h; cases h))).trans ((zup_n _ _ (zne hv htp (by intro h; cases h))).trans ((zup_n _ _ (zne hv hbt (by intro h; cases h))).trans hv))) rfl rfl) rfl rfl hl.1 rfl (lv_room (Nat.le_of_ble_eq_true rfl)) dX1_divideByMany_83 ⟨Nat.le_of_ble_eq_true rfl, Nat.le_of_ble_eq_true rfl⟩) hM (fun r83 G83 H locs hp83 hM => ?_)
        obtain ⟨rfl, T4, rfl, p1, p2, p3, p4⟩ := hp83
        have hM : zM Γ A s.heap (zup (zup (zup G bt (zI Γ 48 U1)) tp (zI Γ 49 T4)) lqu (zI Γ 48 Q1)) H locs := by
          rw [zup_comm _ _ _ ne10, zup_zup] at hM; exact hM
        refine z_asi (y := nI ((vl (fun j => T3 (q + j)) (nb + 1)) / VV)) (by rw [hVV]) ?_
        rw [← hVV] at p4
        have hxq : (vl (fun j => T3 (q + j)) (nb + 1)) / VV < 2147483648 := (Nat.div_lt_iff_lt_mul hVp).mpr hXV
        obtain ⟨w1, w2⟩ := dm_rest (fun j hj => p1 j (Or.inl hj)) p4 (t1.le (by omega)) hVp
        refine z_ist hx hb hK hM (zup_s _ _ _) (by omega) (by omega) dX1_divideByMany_86 (fun H locs hM => ?_)
        have hM : zM Γ A s.heap (zup (zup (zup G bt (zI Γ 48 U1)) tp (zI Γ 49 T4)) lqu (zI Γ 48 (va_up Q1 q ((vl (fun j => T3 (q + j)) (nb + 1)) / VV)))) H locs := by
          rw [zup_zup] at hM; exact hM
        refine lv_iinc (v := nI q - 1) (lv' := [(5, .int (nI q - 1)), (4, .int (nI sh)), (3, .int (nI nb)), (0, .ref v), (1, .ref a), (2, .ref b)]) hx hb dX1_divideByMany_87 hl (k := 0) rfl (nI_dec _) (by decide) rfl (fun ls hl => ?_)
        refine lv_goto (tgt := 58) hx hb dX1_divideByMany_90 (by decide) ?_
        exact ihlp _ (by omega) q T4 (va_up Q1 q ((vl (fun j => T3 (q + j)) (nb + 1)) / VV)) rfl (by omega) (fun j hj => by rcases Nat.lt_or_ge j q with g | g; rw [p1 j (Or.inl g)]; exact t1 j (by omega); obtain ⟨t9, rfl⟩ : ∃ t9, j = q + t9 := ⟨j - q, by omega⟩; exact p3 t9 (by omega)) (w1) (dm_quo hk t3 w2) (fun j h5 h6 => by by_cases hc : j = q; subst hc; rw [va_up_self]; exact hxq; rw [va_up_ne _ _ hc]; exact t4 j (by omega) h6) (fun _ => by rw [Nat.add_comm]; exact p2) ls _ _ (lv_sub hl [0, 1, 2, 3, 4, 5] rfl) hM
  have hl : lv_has ls 8 [(5, .int (nI (na - nb + 1) - 1)), (4, .int (nI sh)), (3, .int (nI nb)), (0, .ref v), (1, .ref a), (2, .ref b)] := by rw [nI_pred]; exact lv_sub hl [0, 1, 2, 3, 4, 5] rfl
  have hnn2 : nb + nn = na + 1 := by omega
  exact lp _ nn T2 q0 rfl (Nat.le_refl _) (by rw [hnn2]; exact dT2) (by
    rw [hnn2, vT2, hVV, vU1, hnn]
    have g1 : vl da na < vl db nb * bp (na - nb + 1) := by
      have g2 := vl_lt hda
      have g3 : bp (nb - 1) ≤ vl db nb := by rw [hsp]; have := mul_le_r (bp (nb - 1)) (show 1 ≤ db (nb - 1) by omega); omega
      have g4 := mul_le_r (bp (na - nb + 1)) g3
      rw [← bp_add, show nb - 1 + (na - nb + 1) = na by omega] at g4
      omega
    rw [Nat.mul_right_comm]
    exact Nat.mul_lt_mul_of_pos_right g1 hp2) (by rw [hnn2, vT2, Nat.sub_self, vl_0, Nat.zero_mul, Nat.zero_add]) (fun j h5 h6 => by omega) (fun h => absurd h (Nat.lt_irrefl _)) ls _ _ (by rw [hnn]; exact hl) (by rw [zup_self _ ((zup_n _ _ ne10).trans ((zup_n _ _ ne11).trans hlqu))]; exact hM)
