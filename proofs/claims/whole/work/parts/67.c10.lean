set_option maxRecDepth 100000 in
set_option maxHeartbeats 4000000 in
theorem v_divide (l : Launch) (Γ : zT) (G : zG) (sz : Nat) (X : Nat → Nat) (vars : Nat) (Z : Nat → Int) (hX : XI X vars) (hC : CW Γ G X vars Z) (i j : Nat) (vi : vw vars i) (vj : vw vars j) (hi33 : i ≠ 33 ∧ i ≠ 34) (hj33 : j ≠ 33 ∧ j ≠ 34) (h48 : nl (Z i).natAbs ≤ 48) : zMv l yX1_divide wsX1_divide (zR 4) Γ G sz [.ref (X 83), .ref (X i), .ref (X j)] (divd Γ G X vars Z i j) 0 0 := by
  refine z_start (cc := cX1_divide) (maxL := 3) (ret := none) (by decide) rfl (Nat.le_of_ble_eq_true rfl) ?_
  intro p e s m args below meth c ls Q hQ hsz hx hb hr hml hown hts hlocks hnm hK hM hl
  obtain ⟨A, hAe⟩ : ∃ A, A = zA G s.heap.size := ⟨_, rfl⟩
  rw [← hAe] at hM
  have hl : lv_has ls 3 [(0, .ref (X 83)), (1, .ref (X i)), (2, .ref (X j))] := hl
  have hinX1 : ∀ w ∈ wsX10, w ∈ wsX1_divide := by decide +kernel
  have hinX3 : ∀ w ∈ wsX30, w ∈ wsX1_divide := by decide +kernel
  have hf_20 := hts (.fieldLink RX1 20 "CutRows$Divider" "quotient" "LCutRows$Whole;") (by decide +kernel)
  have hf_23 := hts (.fieldLink RX1 23 "CutRows$Divider" "remainder" "LCutRows$Whole;") (by decide +kernel)
  have hf_34 := hts (.fieldLink RX1 34 "CutRows$Whole" "size" "I") (by decide +kernel)
  have hf_59 := hts (.fieldLink RX1 59 "CutRows$Whole" "limbs" "[I") (by decide +kernel)
  obtain ⟨da, ha, hla, hra, hda⟩ := hC.1 i vi
  obtain ⟨db, hbw, hlb, hrb, hdb⟩ := hC.1 j vj
  obtain ⟨q0, hqu, hlqu, hrq, hdq⟩ := hC.1 33 (by unfold vw; omega)
  obtain ⟨r0, hre, hlre, hrr, hdr⟩ := hC.1 34 (by unfold vw; omega)
  obtain ⟨T, htp⟩ := hC.2.2.1
  obtain ⟨U, hbt⟩ := hC.2.2.2.1
  have li := vi.lt
  have lj := vj.lt
  have wr31 := wrm_lt j
  have hap := dv_ap hX vi vj hi33 hj33
  have hap4 := dv_ap4 hX vi vj hi33 hj33
  refine lv_aload_n hx hb dX1_divide_0 rfl (lv_at hl 2 rfl) ?_
  refine z_get (C := RX3) (T := TX3) (N := 3) (v := .int (nI (nl (Z j).natAbs))) hx hb hts hinX3 hown hK hM (hC.o j vj) 1 hf_34 rfl rfl (by decide) rfl dX1_divide_1 ?_
  have k15 : ((Z j).natAbs = 0 ∨ (Z i).natAbs < (Z j).natAbs) → ∀ (ls : Array Slot) (H : Heap) (locs : List Loc), lv_has ls 3 [(0, .ref (X 83)), (1, .ref (X i)), (2, .ref (X j))] → zM Γ A s.heap (G) H locs → W p l e (zR 4) s m args below meth c H locs 0 0 Q (F0 m 15 ls []) := by
    intro  hlt ls H locs hl hM
    refine lv_aload_n hx hb dX1_divide_15 rfl (lv_at hl 0 rfl) ?_
    refine z_get (C := RX1) (T := TX1) (N := 5) (v := .ref (X 33)) hx hb hts hinX1 hown hK hM hC.2.1 1 hf_20 rfl rfl (by decide) rfl dX1_divide_16 ?_
    refine z_callv0 (va_runV (As := []) (rest := []) ⟨hx, hb, hml, hown, hts⟩ (cw_setZero l _ hX hC (i := 33) (by unfold vw; omega)) (cwV 0 hts gX1_divide_X3_setZero rfl rfl rfl (by decide +kernel) ⟨Nat.le_of_ble_eq_true rfl, Nat.le_of_ble_eq_true rfl⟩) (zM.preV hK hM (hC.o 33 (by unfold vw; omega)) rfl rfl) rfl rfl hl.1 rfl (lv_room (Nat.le_of_ble_eq_true rfl)) dX1_divide_19 ⟨Nat.le_of_ble_eq_true rfl, Nat.le_of_ble_eq_true rfl⟩) hM (fun G19 H locs hp19 hM => ?_)
    obtain ⟨hC1, hf1⟩ := hp19
    refine lv_aload_n hx hb dX1_divide_22 rfl (lv_at hl 0 rfl) ?_
    refine z_get (C := RX1) (T := TX1) (N := 5) (v := .ref (X 34)) hx hb hts hinX1 hown hK hM hC1.2.1 2 hf_23 rfl rfl (by decide) rfl dX1_divide_23 ?_
    refine lv_aload_n hx hb dX1_divide_26 rfl (lv_at hl 1 rfl) ?_
    have hzi : va_up Z 33 0 i = Z i := va_up_ne _ _ hi33.1
    refine z_callv0 (va_runV (As := [.ref (X i)]) (rest := []) ⟨hx, hb, hml, hown, hts⟩ (cw_copy l _ hX hC1 (i := 34) (j := i) (by unfold vw; omega) vi (Ne.symm hi33.2) (by rw [hzi]; exact h48)) (cwV 1 hts gX1_divide_X3_copyFrom rfl rfl rfl (by decide +kernel) ⟨Nat.le_of_ble_eq_true rfl, Nat.le_of_ble_eq_true rfl⟩) (zM.preV hK hM (hC1.o 34 (by unfold vw; omega)) rfl rfl) rfl rfl hl.1 rfl (lv_room (Nat.le_of_ble_eq_true rfl)) dX1_divide_27 ⟨Nat.le_of_ble_eq_true rfl, Nat.le_of_ble_eq_true rfl⟩) hM (fun G27 H locs hp27 hM => ?_)
    obtain ⟨hC2, hf2⟩ := hp27
    refine lv_goto (tgt := 61) hx hb dX1_divide_30 (by decide) ?_
    rw [hQ]
    rw [hAe] at hM
    exact z_vret hsz hx hb hr hlocks hK hM dX1_divide_61 (by rw [hzi] at hC2; exact divd_1 hC2 hf1 hf2 hlt)
  refine z_if_eq (tgt := 15) hx hb (by rw [show wrm j = wrm j from rfl] at hrb; have := wrm_lt j; omega) dX1_divide_4 (by decide) (fun hc4 => ?_) (fun hc4 => ?_)
  · exact k15  (Or.inl (by have := @nl_pos (Z j).natAbs; omega)) ls _ _ (lv_sub hl [0, 1, 2] rfl) hM
  · refine lv_aload_n hx hb dX1_divide_7 rfl (lv_at hl 1 rfl) ?_
    refine lv_aload_n hx hb dX1_divide_8 rfl (lv_at hl 2 rfl) ?_
    refine z_calli0 (va_runV (As := [.ref (X j)]) (rest := []) ⟨hx, hb, hml, hown, hts⟩ (cw_cmp l _ hC vi vj) (cwV 1 hts gX1_divide_X3_compareSize rfl rfl rfl (by decide +kernel) ⟨Nat.le_of_ble_eq_true rfl, Nat.le_of_ble_eq_true rfl⟩) (zM.preV hK hM (hC.o i vi) rfl rfl) rfl rfl hl.1 rfl (lv_room (Nat.le_of_ble_eq_true rfl)) dX1_divide_9 ⟨Nat.le_of_ble_eq_true rfl, Nat.le_of_ble_eq_true rfl⟩) hM (fun r9 G9 H locs hp9 hM => ?_)
    obtain ⟨rfl, hGe⟩ := hp9
    rw [hGe] at hM
    refine lv_if_ge (tgt := 33) hx hb dX1_divide_12 (by decide) (fun hc12 => ?_) (fun hc12 => ?_)
    · have hge : (Z j).natAbs ≤ (Z i).natAbs := by
        rcases Nat.lt_or_ge (Z i).natAbs (Z j).natAbs with g | g
        · rw [← cmp3_lt g] at hc12; exact absurd hc12 (by decide)
        · exact g
      refine lv_aload_n hx hb dX1_divide_33 rfl (lv_at hl 2 rfl) ?_
      refine z_get (C := RX3) (T := TX3) (N := 3) (v := .int (nI (nl (Z j).natAbs))) hx hb hts hinX3 hown hK hM (hC.o j vj) 1 hf_34 rfl rfl (by decide) rfl dX1_divide_34 ?_
      refine lv_iconst (v := nI 1) hx hb dX1_divide_37 rfl ?_
      refine z_icmp_ne (tgt := 55) hx hb (by rw [show wrm j = wrm j from rfl] at hrb; have := wrm_lt j; omega) (by rw [show wrm j = wrm j from rfl] at hrb; have := wrm_lt j; omega) dX1_divide_38 (by decide) (fun hc38 => ?_) (fun hc38 => ?_)
      · refine lv_aload_n hx hb dX1_divide_55 rfl (lv_at hl 0 rfl) ?_
        refine lv_aload_n hx hb dX1_divide_56 rfl (lv_at hl 1 rfl) ?_
        refine lv_aload_n hx hb dX1_divide_57 rfl (lv_at hl 2 rfl) ?_
        refine z_callv0 (va_runV (As := [.ref (X i), .ref (X j)]) (rest := []) ⟨hx, hb, hml, hown, hts⟩ (v_divideByMany l Γ G _ (X 83) (X 32) (X 33) (X 34) (X 77) (X 78) T U hC.2.1 htp hbt _ _ _ _ hqu hlqu _ _ _ _ hre hlre _ _ _ _ _ _ ha hla _ _ _ _ _ _ hbw hlb hap hap4 h48 hra (wrm_lt _) hda.1 (by omega) (nl_mono hge) hrb (wrm_lt _) hdb.sf) (cwV 2 hts gX1_divide_X1_divideByMany rfl rfl rfl (by decide +kernel) ⟨Nat.le_of_ble_eq_true rfl, Nat.le_of_ble_eq_true rfl⟩) (zM.preV hK hM hC.2.1 rfl rfl) rfl rfl hl.1 rfl (lv_room (Nat.le_of_ble_eq_true rfl)) dX1_divide_58 ⟨Nat.le_of_ble_eq_true rfl, Nat.le_of_ble_eq_true rfl⟩) hM (fun G58 H locs hp58 hM => ?_)
        have hp := hp58
        rw [hQ]
        rw [hAe] at hM
        exact z_vret hsz hx hb hr hlocks hK hM dX1_divide_61 (by rw [hda.2, hdb.2] at hp; exact divd_2 hX hC hp rfl rfl)
      · have hdb0 : 0 < db 0 := by have := hdb.sf.2 (by omega); rw [hc38] at this; exact Nat.pos_of_ne_zero this
        have hvb : (Z j).natAbs = db 0 := by rw [← hdb.2, hc38, vl_one]
        have hdb31 : db 0 < 2147483648 := hdb.1 0 (by omega)
        refine lv_aload_n hx hb dX1_divide_41 rfl (lv_at hl 0 rfl) ?_
        refine lv_aload_n hx hb dX1_divide_42 rfl (lv_at hl 1 rfl) ?_
        refine lv_aload_n hx hb dX1_divide_43 rfl (lv_at hl 2 rfl) ?_
        refine z_get (C := RX3) (T := TX3) (N := 3) (v := .ref (X (40 + j))) hx hb hts hinX3 hown hK hM (hC.o j vj) 0 hf_59 rfl rfl (by decide) rfl dX1_divide_44 ?_
        refine lv_iconst (v := nI 0) hx hb dX1_divide_47 rfl ?_
        refine z_ild hx hb hK hM hlb (by omega) (wr31) dX1_divide_48 ?_
        refine z_callv0 (va_runV (As := [.ref (X i), .int (nI (db 0))]) (rest := []) ⟨hx, hb, hml, hown, hts⟩ (v_divideByDigit l Γ G _ (X 83) (X 32) (X 33) (X 34) (X 77) (X 78) T U hC.2.1 htp hbt _ _ _ _ hqu hlqu _ _ _ _ hre hlre _ _ _ _ _ _ ha hla _ _ hap hap4 (db 0) h48 hra (wrm_lt _) hda.1 hdb0 hdb31) (cwV 2 hts gX1_divide_X1_divideByDigit rfl rfl rfl (by decide +kernel) ⟨Nat.le_of_ble_eq_true rfl, Nat.le_of_ble_eq_true rfl⟩) (zM.preV hK hM hC.2.1 rfl rfl) rfl rfl hl.1 rfl (lv_room (Nat.le_of_ble_eq_true rfl)) dX1_divide_49 ⟨Nat.le_of_ble_eq_true rfl, Nat.le_of_ble_eq_true rfl⟩) hM (fun G49 H locs hp49 hM => ?_)
        have hp := hp49
        refine lv_goto (tgt := 61) hx hb dX1_divide_52 (by decide) ?_
        rw [hQ]
        rw [hAe] at hM
        exact z_vret hsz hx hb hr hlocks hK hM dX1_divide_61 (by rw [hda.2, ← hvb] at hp; exact divd_2 hX hC hp rfl rfl)
    · have hlt : (Z i).natAbs < (Z j).natAbs := by
        rcases Nat.lt_or_ge (Z i).natAbs (Z j).natAbs with g | g
        · exact g
        · rcases Nat.lt_or_ge (Z j).natAbs (Z i).natAbs with g2 | g2
          · rw [← cmp3_gt g2] at hc12; exact absurd (by decide) hc12
          · rw [← cmp3_eq (Nat.le_antisymm g2 g)] at hc12; exact absurd (by decide) hc12
      exact k15  (Or.inr hlt) ls _ _ (lv_sub hl [0, 1, 2] rfl) hM

set_option maxRecDepth 100000 in
set_option maxHeartbeats 4000000 in
theorem v_narrowGreatest (l : Launch) (Γ : zT) (G : zG) (sz : Nat) (X : Nat → Nat) (vars : Nat) (Z : Nat → Int) (hX : XI X vars) (hC : CW Γ G X vars Z)  : zMv l yX1_narrowGreatest wsX1_narrowGreatest (zR 5) Γ G sz [.ref (X 83), .ref (X 28)] (fun G' => fr X [28, 68, 32, 72, 33, 73, 34, 74, 77, 78] G G' ∧ ∃ Z', CW Γ G' X vars Z' ∧ (∀ k, k < 32 → k ≠ 28 → Z' k = Z k) ∧ (Z' 32).natAbs = Nat.gcd (Z 32).natAbs (Z 28).natAbs) 0 0 := by
  refine z_start (cc := cX1_narrowGreatest) (maxL := 3) (ret := none) (by decide) rfl (Nat.le_of_ble_eq_true rfl) ?_
  intro p e s m args below meth c ls Q hQ hsz hx hb hr hml hown hts hlocks hnm hK hM hl
  obtain ⟨A, hAe⟩ : ∃ A, A = zA G s.heap.size := ⟨_, rfl⟩
  rw [← hAe] at hM
  have hl : lv_has ls 3 [(0, .ref (X 83)), (1, .ref (X 28))] := hl
  have hinX1 : ∀ w ∈ wsX10, w ∈ wsX1_narrowGreatest := by decide +kernel
  have hinX3 : ∀ w ∈ wsX30, w ∈ wsX1_narrowGreatest := by decide +kernel
  have hf_14 := hts (.fieldLink RX1 14 "CutRows$Divider" "greatest" "LCutRows$Whole;") (by decide +kernel)
  have hf_23 := hts (.fieldLink RX1 23 "CutRows$Divider" "remainder" "LCutRows$Whole;") (by decide +kernel)
  have hf_34 := hts (.fieldLink RX1 34 "CutRows$Whole" "size" "I") (by decide +kernel)
  refine lv_iconst (v := nI 0) hx hb dX1_narrowGreatest_0 rfl ?_
  refine lv_istore_n (lv' := [(2, .int (nI 0)), (0, .ref (X 83)), (1, .ref (X 28))]) hx hb dX1_narrowGreatest_1 rfl hl (by decide) rfl (fun ls hl => ?_)
  have lp : ∀ (μ : Nat) (st : Nat) (G1 : zG) (Z1 : Nat → Int), (Z1 28).natAbs = μ → (CW Γ G1 X vars Z1) → (fr X [28, 68, 32, 72, 33, 73, 34, 74, 77, 78] G G1) → (∀ k, k < 32 → k ≠ 28 → Z1 k = Z k) → (Nat.gcd (Z1 32).natAbs (Z1 28).natAbs = Nat.gcd (Z 32).natAbs (Z 28).natAbs) → (eus st (Z1 32).natAbs (Z1 28).natAbs) → ((Z1 28).natAbs = 0 → st < 100000) → ∀ (ls : Array Slot) (H : Heap) (locs : List Loc), lv_has ls 3 [(2, .int (nI st)), (0, .ref (X 83)), (1, .ref (X 28))] → zM Γ A s.heap (G1) H locs → W p l e (zR 5) s m args below meth c H locs 0 0 Q (F0 m 2 ls []) := by
    intro μ
    induction μ using Nat.strongRecOn with
    | _ μ ihlp =>
      intro st G1 Z1 hμ hC1 hf1 hk1 hg1 he hs0 ls H locs hl hM
      have hl48 : nl (Z1 28).natAbs ≤ 48 := hC1.le 28 (by unfold vw; omega)
      have hl32 : nl (Z1 32).natAbs ≤ 48 := hC1.le 32 (by unfold vw; omega)
      have hp := @nl_pos (Z1 28).natAbs
      have hst : st < 100000 := by rcases Nat.eq_zero_or_pos (Z1 28).natAbs with g | g; exact hs0 g; have := eus_lt he g; omega
      refine lv_iload_n hx hb dX1_narrowGreatest_2 rfl (lv_at hl 0 rfl) ?_
      refine lv_ldc hx hb hown (hts (.constant RX1 33 (1000000)) (by decide +kernel)) dX1_narrowGreatest_3 ?_
      refine z_asi (y := nI 1000000) (rfl) ?_
      refine z_icmp_ge (tgt := 46) hx hb (by omega) (by omega) dX1_narrowGreatest_5 (by decide) (fun hc5 => ?_) (fun hc5 => ?_)
      · exact absurd hc5 (by omega)
      · refine lv_aload_n hx hb dX1_narrowGreatest_8 rfl (lv_at hl 2 rfl) ?_
        refine z_get (C := RX3) (T := TX3) (N := 3) (v := .int (nI (nl (Z1 28).natAbs))) hx hb hts hinX3 hown hK hM (hC1.o 28 (by unfold vw; omega)) 1 hf_34 rfl rfl (by decide) rfl dX1_narrowGreatest_9 ?_
        refine z_if_le (tgt := 46) hx hb (by omega) dX1_narrowGreatest_12 (by decide) (fun hc12 => ?_) (fun hc12 => ?_)
        · have h00 : (Z1 28).natAbs = 0 := by omega
          rw [hQ]
          rw [hAe] at hM
          exact z_vret hsz hx hb hr hlocks hK hM dX1_narrowGreatest_46 (⟨hf1, Z1, hC1, hk1, by have := hg1; rw [h00, Nat.gcd_zero_right] at this; exact this⟩)
        · have h00 : 0 < (Z1 28).natAbs := by omega
          refine lv_aload_n hx hb dX1_narrowGreatest_15 rfl (lv_at hl 1 rfl) ?_
          refine lv_aload_n hx hb dX1_narrowGreatest_16 rfl (lv_at hl 1 rfl) ?_
          refine z_get (C := RX1) (T := TX1) (N := 5) (v := .ref (X 32)) hx hb hts hinX1 hown hK hM hC1.2.1 0 hf_14 rfl rfl (by decide) rfl dX1_narrowGreatest_17 ?_
          refine lv_aload_n hx hb dX1_narrowGreatest_20 rfl (lv_at hl 2 rfl) ?_
          refine z_callv0 (va_runV (As := [.ref (X 32), .ref (X 28)]) (rest := []) ⟨hx, hb, hml, hown, hts⟩ (v_divide l Γ G1 _ X vars Z1 hX hC1 32 28 (by unfold vw; omega) (by unfold vw; omega) (by omega) (by omega) hl32) (cwV 2 hts gX1_narrowGreatest_X1_divide rfl rfl rfl (by decide +kernel) ⟨Nat.le_of_ble_eq_true rfl, Nat.le_of_ble_eq_true rfl⟩) (zM.preV hK hM hC1.2.1 rfl rfl) rfl rfl hl.1 rfl (lv_room (Nat.le_of_ble_eq_true rfl)) dX1_narrowGreatest_21 ⟨Nat.le_of_ble_eq_true rfl, Nat.le_of_ble_eq_true rfl⟩) hM (fun G21 H locs hp21 hM => ?_)
          obtain ⟨hf2, Z2, hC2, k2, -, r2⟩ := hp21
          refine lv_aload_n hx hb dX1_narrowGreatest_24 rfl (lv_at hl 1 rfl) ?_
          refine z_get (C := RX1) (T := TX1) (N := 5) (v := .ref (X 32)) hx hb hts hinX1 hown hK hM hC2.2.1 0 hf_14 rfl rfl (by decide) rfl dX1_narrowGreatest_25 ?_
          refine lv_aload_n hx hb dX1_narrowGreatest_28 rfl (lv_at hl 2 rfl) ?_
          have q28 : Z2 28 = Z1 28 := k2 28 (by omega) (by omega)
          refine z_callv0 (va_runV (As := [.ref (X 28)]) (rest := []) ⟨hx, hb, hml, hown, hts⟩ (cw_copy l _ hX hC2 (i := 32) (j := 28) (by unfold vw; omega) (by unfold vw; omega) (by omega) (by rw [q28]; exact hl48)) (cwV 1 hts gX1_narrowGreatest_X3_copyFrom rfl rfl rfl (by decide +kernel) ⟨Nat.le_of_ble_eq_true rfl, Nat.le_of_ble_eq_true rfl⟩) (zM.preV hK hM (hC2.o 32 (by unfold vw; omega)) rfl rfl) rfl rfl hl.1 rfl (lv_room (Nat.le_of_ble_eq_true rfl)) dX1_narrowGreatest_29 ⟨Nat.le_of_ble_eq_true rfl, Nat.le_of_ble_eq_true rfl⟩) hM (fun G29 H locs hp29 hM => ?_)
          obtain ⟨hC3, hf3⟩ := hp29
          refine lv_aload_n hx hb dX1_narrowGreatest_32 rfl (lv_at hl 2 rfl) ?_
          refine lv_aload_n hx hb dX1_narrowGreatest_33 rfl (lv_at hl 1 rfl) ?_
          refine z_get (C := RX1) (T := TX1) (N := 5) (v := .ref (X 34)) hx hb hts hinX1 hown hK hM hC3.2.1 2 hf_23 rfl rfl (by decide) rfl dX1_narrowGreatest_34 ?_
          have q34 : va_up Z2 32 (Z2 28) 34 = Z2 34 := va_up_ne _ _ (by omega)
          have hr34 : nl (Z2 34).natAbs ≤ 48 := hC2.le 34 (by unfold vw; omega)
          refine z_callv0 (va_runV (As := [.ref (X 34)]) (rest := []) ⟨hx, hb, hml, hown, hts⟩ (cw_copy l _ hX hC3 (i := 28) (j := 34) (by unfold vw; omega) (by unfold vw; omega) (by omega) (by rw [q34]; exact hr34)) (cwV 1 hts gX1_narrowGreatest_X3_copyFrom rfl rfl rfl (by decide +kernel) ⟨Nat.le_of_ble_eq_true rfl, Nat.le_of_ble_eq_true rfl⟩) (zM.preV hK hM (hC3.o 28 (by unfold vw; omega)) rfl rfl) rfl rfl hl.1 rfl (lv_room (Nat.le_of_ble_eq_true rfl)) dX1_narrowGreatest_37 ⟨Nat.le_of_ble_eq_true rfl, Nat.le_of_ble_eq_true rfl⟩) hM (fun G37 H locs hp37 hM => ?_)
          obtain ⟨hC4, hf4⟩ := hp37
          rw [q34] at hC4
          obtain ⟨Z4, hZ4⟩ : ∃ Z4, Z4 = va_up (va_up Z2 32 (Z2 28)) 28 (Z2 34) := ⟨_, rfl⟩
          rw [← hZ4] at hC4
          have z28 : (Z4 28).natAbs = (Z1 32).natAbs % (Z1 28).natAbs := by rw [hZ4, va_up_self]; exact r2
          have z32 : (Z4 32).natAbs = (Z1 28).natAbs := by rw [hZ4, va_up_ne _ _ (by omega), va_up_self, q28]
          have hml := Nat.mod_lt (Z1 32).natAbs h00
          refine z_iinc (v := (st + 1)) (lv' := [(2, .int (nI (st + 1))), (0, .ref (X 83)), (1, .ref (X 28))]) hx hb dX1_narrowGreatest_40 hl (k := 0) rfl (nI_p1 _) (by decide) rfl (fun ls hl => ?_)
          refine lv_goto (tgt := 2) hx hb dX1_narrowGreatest_43 (by decide) ?_
          exact ihlp _ (by rw [← hμ]; show (Z4 28).natAbs < _; omega) (st + 1) G37 Z4 rfl (hC4) (((hf1.tr (hf2.mono (fun q9 h9 => by simp only [List.mem_cons, List.not_mem_nil, or_false] at h9 ⊢; omega))).tr (hf3.mono (fun q9 h9 => by simp only [List.mem_cons, List.not_mem_nil, or_false] at h9 ⊢; omega))).tr (hf4.mono (fun q9 h9 => by simp only [List.mem_cons, List.not_mem_nil, or_false] at h9 ⊢; omega))) (fun k k8 k9 => by rw [hZ4, va_up_ne _ _ k9, va_up_ne _ _ (by omega), k2 k (by omega) (by omega)]; exact hk1 k k8 k9) (by rw [z28, z32, gcd_step]; exact hg1) (by rw [z28, z32]; exact eus_step he (nl_le_iff.mp hl32) (nl_le_iff.mp hl48) h00) (fun _ => by have := eus_lt he h00; omega) ls _ _ (lv_sub hl [0, 1, 2] rfl) hM
  exact lp _ 0 G Z rfl hC fr.rf (fun _ _ _ => rfl) rfl (Or.inl rfl) (fun _ => by omega) ls _ _ (lv_sub hl [0, 1, 2] rfl) hM

set_option maxRecDepth 100000 in
set_option maxHeartbeats 4000000 in
theorem v_floorByGreatest (l : Launch) (Γ : zT) (G : zG) (sz : Nat) (X : Nat → Nat) (vars : Nat) (Z : Nat → Int) (hX : XI X vars) (hC : CW Γ G X vars Z) (t : Nat) (vt : vw vars t) (ht : 14 ≤ t ∧ t < 28) (hg0 : 0 < (Z 32).natAbs) : zMv l yX1_floorByGreatest wsX1_floorByGreatest (zR 5) Γ G sz [.ref (X 83), .ref (X 28), .ref (X t)] (fun G' => fr X [33, 73, 34, 74, 77, 78, t, 40 + t] G G' ∧ ∃ Z', CW Γ G' X vars Z' ∧ (∀ k, k ≠ t → k < 33 → Z' k = Z k) ∧ Z' t = Z 28 / ((Z 32).natAbs : Nat)) 0 0 := by
  refine z_start (cc := cX1_floorByGreatest) (maxL := 3) (ret := none) (by decide) rfl (Nat.le_of_ble_eq_true rfl) ?_
  intro p e s m args below meth c ls Q hQ hsz hx hb hr hml hown hts hlocks hnm hK hM hl
  obtain ⟨A, hAe⟩ : ∃ A, A = zA G s.heap.size := ⟨_, rfl⟩
  rw [← hAe] at hM
  have hl : lv_has ls 3 [(0, .ref (X 83)), (1, .ref (X 28)), (2, .ref (X t))] := hl
  have hinX1 : ∀ w ∈ wsX10, w ∈ wsX1_floorByGreatest := by decide +kernel
  have hinX3 : ∀ w ∈ wsX30, w ∈ wsX1_floorByGreatest := by decide +kernel
  have hf_14 := hts (.fieldLink RX1 14 "CutRows$Divider" "greatest" "LCutRows$Whole;") (by decide +kernel)
  have hf_20 := hts (.fieldLink RX1 20 "CutRows$Divider" "quotient" "LCutRows$Whole;") (by decide +kernel)
  have hf_23 := hts (.fieldLink RX1 23 "CutRows$Divider" "remainder" "LCutRows$Whole;") (by decide +kernel)
  have hf_34 := hts (.fieldLink RX1 34 "CutRows$Whole" "size" "I") (by decide +kernel)
  have hf_46 := hts (.fieldLink RX1 46 "CutRows$Whole" "sign" "I") (by decide +kernel)
  have hl48 : nl (Z 28).natAbs ≤ 48 := hC.le 28 (by unfold vw; omega)
  have wt : wrm t = 69 := by unfold wrm; rw [if_neg (by omega), if_pos (by omega)]
  refine lv_aload_n hx hb dX1_floorByGreatest_0 rfl (lv_at hl 0 rfl) ?_
  refine lv_aload_n hx hb dX1_floorByGreatest_1 rfl (lv_at hl 1 rfl) ?_
  refine lv_aload_n hx hb dX1_floorByGreatest_2 rfl (lv_at hl 0 rfl) ?_
  refine z_get (C := RX1) (T := TX1) (N := 5) (v := .ref (X 32)) hx hb hts hinX1 hown hK hM hC.2.1 0 hf_14 rfl rfl (by decide) rfl dX1_floorByGreatest_3 ?_
  refine z_callv0 (va_runV (As := [.ref (X 28), .ref (X 32)]) (rest := []) ⟨hx, hb, hml, hown, hts⟩ (v_divide l Γ G _ X vars Z hX hC 28 32 (by unfold vw; omega) (by unfold vw; omega) (by omega) (by omega) hl48) (cwV 2 hts gX1_floorByGreatest_X1_divide rfl rfl rfl (by decide +kernel) ⟨Nat.le_of_ble_eq_true rfl, Nat.le_of_ble_eq_true rfl⟩) (zM.preV hK hM hC.2.1 rfl rfl) rfl rfl hl.1 rfl (lv_room (Nat.le_of_ble_eq_true rfl)) dX1_floorByGreatest_6 ⟨Nat.le_of_ble_eq_true rfl, Nat.le_of_ble_eq_true rfl⟩) hM (fun G6 H locs hp6 hM => ?_)
  obtain ⟨hf1, Z1, hC1, k1, q1, r1⟩ := hp6
  obtain ⟨q, hq⟩ : ∃ q, q = (Z 28).natAbs / (Z 32).natAbs := ⟨_, rfl⟩
  rw [← hq] at q1
  have hqle : q ≤ (Z 28).natAbs := by rw [hq]; exact Nat.div_le_self _ _
  have z28 : Z1 28 = Z 28 := k1 28 (by omega) (by omega)
  refine lv_aload_n hx hb dX1_floorByGreatest_9 rfl (lv_at hl 2 rfl) ?_
  refine lv_aload_n hx hb dX1_floorByGreatest_10 rfl (lv_at hl 0 rfl) ?_
  refine z_get (C := RX1) (T := TX1) (N := 5) (v := .ref (X 33)) hx hb hts hinX1 hown hK hM hC1.2.1 1 hf_20 rfl rfl (by decide) rfl dX1_floorByGreatest_11 ?_
  refine z_callv0 (va_runV (As := [.ref (X 33)]) (rest := []) ⟨hx, hb, hml, hown, hts⟩ (cw_copy l _ hX hC1 (i := t) (j := 33) vt (by unfold vw; omega) (by omega) (by rw [wt]; exact Nat.le_trans (hC1.le 33 (by unfold vw; omega)) (by decide))) (cwV 1 hts gX1_floorByGreatest_X3_copyFrom rfl rfl rfl (by decide +kernel) ⟨Nat.le_of_ble_eq_true rfl, Nat.le_of_ble_eq_true rfl⟩) (zM.preV hK hM (hC1.o t vt) rfl rfl) rfl rfl hl.1 rfl (lv_room (Nat.le_of_ble_eq_true rfl)) dX1_floorByGreatest_14 ⟨Nat.le_of_ble_eq_true rfl, Nat.le_of_ble_eq_true rfl⟩) hM (fun G14 H locs hp14 hM => ?_)
  obtain ⟨hC2, hf2⟩ := hp14
  obtain ⟨Z2, hZ2⟩ : ∃ Z2, Z2 = va_up Z1 t (Z1 33) := ⟨_, rfl⟩
  rw [← hZ2] at hC2
  have y28 : Z2 28 = Z 28 := by rw [hZ2, va_up_ne _ _ (by omega), z28]
  have yt : Z2 t = (q : Int) := by rw [hZ2, va_up_self, q1]
  have yn : (Z2 t).natAbs = q := by rw [yt, Int.natAbs_natCast]
  have ynp := @nl_pos (Z2 t).natAbs
  have yle := hC2.le t vt
  rw [wt] at yle
  have y34 : Z2 34 = Z1 34 := by rw [hZ2, va_up_ne _ _ (by omega)]
  have k36 : ∀ (G3 : zG) (z3 : Int), (CW Γ G3 X vars (va_up Z2 t z3)) → (fr X [33, 73, 34, 74, 77, 78, t, 40 + t] G14 G3) → (z3 = if Z 28 < 0 then -(q : Int) else (q : Int)) → ∀ (ls : Array Slot) (H : Heap) (locs : List Loc), lv_has ls 3 [(0, .ref (X 83)), (1, .ref (X 28)), (2, .ref (X t))] → zM Γ A s.heap (G3) H locs → W p l e (zR 5) s m args below meth c H locs 0 0 Q (F0 m 36 ls []) := by
    intro G3 z3 hC3 hf3 h3 ls H locs hl hM
    have x28 : va_up Z2 t z3 28 = Z 28 := by rw [va_up_ne _ _ (by omega), y28]
    have x34 : (va_up Z2 t z3 34).natAbs = (Z 28).natAbs % (Z 32).natAbs := by rw [va_up_ne _ _ (by omega), y34, r1]
    have x34p := @nl_pos (va_up Z2 t z3 34).natAbs
    have x34l : nl (va_up Z2 t z3 34).natAbs ≤ 48 := hC3.le 34 (by unfold vw; omega)
    have xk : ∀ k, k ≠ t → k < 33 → va_up Z2 t z3 k = Z k := fun k h1 h2 => by rw [va_up_ne _ _ h1, hZ2, va_up_ne _ _ h1]; exact k1 k (by omega) (by omega)
    have xf : fr X [33, 73, 34, 74, 77, 78, t, 40 + t] G G3 := ((hf1.mono (fun q9 h9 => by simp only [List.mem_cons, List.not_mem_nil, or_false] at h9 ⊢; omega)).tr (hf2.mono (fun q9 h9 => by simp only [List.mem_cons, List.not_mem_nil, or_false] at h9 ⊢; omega))).tr hf3
    refine lv_aload_n hx hb dX1_floorByGreatest_36 rfl (lv_at hl 1 rfl) ?_
    refine z_get (C := RX3) (T := TX3) (N := 3) (v := .int (sgI ((va_up Z2 t z3) 28))) hx hb hts hinX3 hown hK hM (hC3.o 28 (by unfold vw; omega)) 2 hf_46 rfl rfl (by decide) rfl dX1_floorByGreatest_37 ?_
    refine lv_if_ge (tgt := 61) hx hb dX1_floorByGreatest_40 (by decide) (fun hc40 => ?_) (fun hc40 => ?_)
    · have hz : 0 ≤ Z 28 := by rw [x28] at hc40; rcases sgI_or (Z 28) with ⟨g, e9⟩ | ⟨g, e9⟩ | ⟨g, e9⟩; rw [e9] at hc40; exact absurd hc40 (by decide); omega; omega
      rw [hQ]
      rw [hAe] at hM
      exact z_vret hsz hx hb hr hlocks hK hM dX1_floorByGreatest_61 (⟨xf, _, hC3, xk, by rw [va_up_self, h3, if_neg (by omega), flr_pos hz, hq]⟩)
    · have hz : Z 28 < 0 := by rw [x28] at hc40; rcases sgI_or (Z 28) with ⟨g, e9⟩ | ⟨g, e9⟩ | ⟨g, e9⟩; exact g; rw [e9] at hc40; exact absurd (by decide) hc40; rw [e9] at hc40; exact absurd (by decide) hc40
      refine lv_aload_n hx hb dX1_floorByGreatest_43 rfl (lv_at hl 0 rfl) ?_
      refine z_get (C := RX1) (T := TX1) (N := 5) (v := .ref (X 34)) hx hb hts hinX1 hown hK hM hC3.2.1 2 hf_23 rfl rfl (by decide) rfl dX1_floorByGreatest_44 ?_
      refine z_get (C := RX3) (T := TX3) (N := 3) (v := .int (nI (nl ((va_up Z2 t z3) 34).natAbs))) hx hb hts hinX3 hown hK hM (hC3.o 34 (by unfold vw; omega)) 1 hf_34 rfl rfl (by decide) rfl dX1_floorByGreatest_47 ?_
      refine z_if_le (tgt := 61) hx hb (by omega) dX1_floorByGreatest_50 (by decide) (fun hc50 => ?_) (fun hc50 => ?_)
      · rw [hQ]
        rw [hAe] at hM
        exact z_vret hsz hx hb hr hlocks hK hM dX1_floorByGreatest_61 (⟨xf, _, hC3, xk, by rw [va_up_self, h3, if_pos hz, flr_neg hg0 hz, ← hq, if_pos (by omega)]; omega⟩)
      · refine lv_aload_n hx hb dX1_floorByGreatest_53 rfl (lv_at hl 2 rfl) ?_
        refine lv_aload_n hx hb dX1_floorByGreatest_54 rfl (lv_at hl 1 rfl) ?_
        refine z_get (C := RX3) (T := TX3) (N := 3) (v := .int (sgI ((va_up Z2 t z3) 28))) hx hb hts hinX3 hown hK hM (hC3.o 28 (by unfold vw; omega)) 2 hf_46 rfl rfl (by decide) rfl dX1_floorByGreatest_55 ?_
        have s28 : sgI (va_up Z2 t z3 28) = sgI (-((q : Int) + 1)) := by rw [x28, sgI_neg hz, sgI_neg (by omega)]
        rw [s28]
        have hqb : q + 1 < bp 69 := by have g1 := nl_le_iff.mp hl48; have g2 := @bp_le 49 69 (by omega); have g3 : bp 49 = 2147483648 * bp 48 := bp_s 48; have := bp_pos 48; omega
        refine z_callv0 (va_runV (As := [.int (sgI (-((q : Int) + 1)))]) (rest := []) ⟨hx, hb, hml, hown, hts⟩ (cw_grow l _ hX hC3 (i := t) (z := -((q : Int) + 1)) vt (by rw [va_up_self, h3, if_pos hz]; omega) (by rw [wt, show (-((q : Int) + 1)).natAbs = q + 1 by omega]; exact nl_le hqb)) (cwV 1 hts gX1_floorByGreatest_X3_growByOne rfl rfl rfl (by decide +kernel) ⟨Nat.le_of_ble_eq_true rfl, Nat.le_of_ble_eq_true rfl⟩) (zM.preV hK hM (hC3.o t vt) rfl rfl) rfl rfl hl.1 rfl (lv_room (Nat.le_of_ble_eq_true rfl)) dX1_floorByGreatest_58 ⟨Nat.le_of_ble_eq_true rfl, Nat.le_of_ble_eq_true rfl⟩) hM (fun G58 H locs hp58 hM => ?_)
        obtain ⟨hC5, hf5⟩ := hp58
        rw [hQ]
        rw [hAe] at hM
        exact z_vret hsz hx hb hr hlocks hK hM dX1_floorByGreatest_61 (⟨xf.tr (hf5.mono (fun q9 h9 => by simp only [List.mem_cons, List.not_mem_nil, or_false] at h9 ⊢; omega)), _, hC5, fun k h1 h2 => by rw [va_up_ne _ _ h1]; exact xk k h1 h2, by rw [va_up_self, flr_neg hg0 hz, ← hq, if_neg (by omega)]; omega⟩)
  refine lv_aload_n hx hb dX1_floorByGreatest_17 rfl (lv_at hl 2 rfl) ?_
  refine lv_aload_n hx hb dX1_floorByGreatest_18 rfl (lv_at hl 2 rfl) ?_
  refine z_get (C := RX3) (T := TX3) (N := 3) (v := .int (nI (nl (Z2 t).natAbs))) hx hb hts hinX3 hown hK hM (hC2.o t vt) 1 hf_34 rfl rfl (by decide) rfl dX1_floorByGreatest_19 ?_
  refine z_if_ne (tgt := 29) hx hb (by omega) dX1_floorByGreatest_22 (by decide) (fun hc22 => ?_) (fun hc22 => ?_)
  · refine lv_aload_n hx hb dX1_floorByGreatest_29 rfl (lv_at hl 1 rfl) ?_
    refine z_get (C := RX3) (T := TX3) (N := 3) (v := .int (sgI (Z2 28))) hx hb hts hinX3 hown hK hM (hC2.o 28 (by unfold vw; omega)) 2 hf_46 rfl rfl (by decide) rfl dX1_floorByGreatest_30 ?_
    refine z_put (C := RX3) (T := TX3) (N := 3) (fs' := [.ref (X (40 + t)), .int (nI (nl (Z2 t).natAbs)), .int (sgI (Z2 28))]) hx hb hts hinX3 tyX3 tyX3_ok nmX3 hown hK hM (hC2.o t vt) 2 hf_46 rfl rfl (by decide) rfl rfl rfl (Nat.le_of_ble_eq_true rfl) rfl dX1_floorByGreatest_33 (fun H locs hM => ?_)
    have hw9 := hC2.sgn hX vt (z := if Z 28 < 0 then -(q : Int) else (q : Int)) (by rw [yn]; split <;> omega)
    have he9 : sgI (if Z 28 < 0 then -(q : Int) else (q : Int)) = sgI (Z2 28) := by
      have q00 : 0 < q := by omega
      rw [y28]
      split
      · rename_i g; rw [sgI_neg g, sgI_neg (by omega)]
      · rename_i g; rw [sgI_pos (by omega), sgI_pos (by omega)]
    rw [he9] at hw9
    exact k36 (zup G14 (X t) (.inr (5, [.ref (X (40 + t)), .int (nI (nl (Z2 t).natAbs)), .int (sgI (Z2 28))]))) (if Z 28 < 0 then -(q : Int) else (q : Int)) (hw9.1) (hw9.2.mono (fun q9 h9 => by simp only [List.mem_cons, List.not_mem_nil, or_false] at h9 ⊢; omega)) (rfl) ls _ _ (lv_sub hl [0, 1, 2] rfl) hM
  · refine lv_iconst (v := nI 0) hx hb dX1_floorByGreatest_25 rfl ?_
    refine lv_goto (tgt := 33) hx hb dX1_floorByGreatest_26 (by decide) ?_
    refine z_put (C := RX3) (T := TX3) (N := 3) (fs' := [.ref (X (40 + t)), .int (nI (nl (Z2 t).natAbs)), .int (nI 0)]) hx hb hts hinX3 tyX3 tyX3_ok nmX3 hown hK hM (hC2.o t vt) 2 hf_46 rfl rfl (by decide) rfl rfl rfl (Nat.le_of_ble_eq_true rfl) rfl dX1_floorByGreatest_33 (fun H locs hM => ?_)
    have hw9 := hC2.sgn hX vt (z := if Z 28 < 0 then -(q : Int) else (q : Int)) (by rw [yn]; split <;> omega)
    have he9 : sgI (if Z 28 < 0 then -(q : Int) else (q : Int)) = nI 0 := by
      have q00 : q = 0 := by omega
      rw [q00]; split <;> rfl
    rw [he9] at hw9
    exact k36 (zup G14 (X t) (.inr (5, [.ref (X (40 + t)), .int (nI (nl (Z2 t).natAbs)), .int (nI 0)]))) (if Z 28 < 0 then -(q : Int) else (q : Int)) (hw9.1) (hw9.2.mono (fun q9 h9 => by simp only [List.mem_cons, List.not_mem_nil, or_false] at h9 ⊢; omega)) (rfl) ls _ _ (lv_sub hl [0, 1, 2] rfl) hM
