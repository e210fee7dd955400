theorem lt_of_nge {x : Int32} (h : ¬ nI 1 ≤ x) : x < 1 := by
  rw [Int32.le_iff_toInt_le] at h; rw [Int32.lt_iff_toInt_lt]
  have : (nI 1).toInt = 1 := rfl
  have : (1 : Int32).toInt = 1 := rfl
  omega
theorem nlt_of_ge {x : Int32} (h : nI 1 ≤ x) : ¬ x < 1 := by
  rw [Int32.le_iff_toInt_le] at h; rw [Int32.lt_iff_toInt_lt]
  have : (nI 1).toInt = 1 := rfl
  have : (1 : Int32).toInt = 1 := rfl
  omega
theorem nneg_of_ge {x : Int32} (h : nI 1 ≤ x) : ¬ x < 0 := by
  rw [Int32.le_iff_toInt_le] at h; rw [Int32.lt_iff_toInt_lt]
  have : (nI 1).toInt = 1 := rfl
  have : (0 : Int32).toInt = 0 := rfl
  omega
theorem gt_of_nle {x y : Int32} (h : ¬ x ≤ y) : y < x := by
  rw [Int32.le_iff_toInt_le] at h; rw [Int32.lt_iff_toInt_lt]; omega
theorem ngt_of_le {x y : Int32} (h : x ≤ y) : ¬ y < x := by
  rw [Int32.le_iff_toInt_le] at h; rw [Int32.lt_iff_toInt_lt]; omega
theorem mrep_0 {vars maxR cz : Nat} (hv : vars ≤ 6) : MRep (va_up (fun _ => 0) 32184 1) (va_up (fun _ => 0) 447 1) (fun _ => 0) (as0 vars maxR cz) := by
  refine ⟨fun r k hr => absurd hr (by omega), fun k hk => absurd hk (by omega), fun e => absurd e (by omega), fun k hk => ⟨⟨?_, ?_, ?_, ?_⟩, rfl⟩, fun e => absurd e (by omega), fun e => absurd e (by omega), ?_⟩
  · rw [va_up_ne _ _ (by omega), nl_0']
  · rw [nl_0']; omega
  · rw [nl_0']; intro j hj; omega
  · rw [nl_0']; rfl
  · have h1 : nl 1 = 1 := by decide
    refine ⟨?_, ?_, ?_, ?_⟩
    · rw [va_up_self, h1]
    · rw [h1]; omega
    · rw [h1]; intro j hj
      have : j = 0 := by omega
      subst this
      show va_up (fun _ => 0) 32184 1 (72 * 447 + 0) < _
      rw [va_up_self]; omega
    · rw [h1, vl_one]
      show va_up (fun _ => 0) 32184 1 (72 * 447 + 0) = 1
      rw [va_up_self]
set_option maxRecDepth 100000 in
set_option maxHeartbeats 4000000 in
theorem m_between (l : Launch) (Γ : zT) (G : zG) (sz : Nat) (v : Int32) (most : Nat) (h1m : 1 ≤ most) (h2m : most < 100000) : zMi l yX5_between wsX5_between (zR 1) Γ G sz [.int v, .int (nI most)] (fun x G' => x = nI (clampI v most) ∧ G' = G) 0 0 := by
  refine z_start (cc := cX5_between) (maxL := 2) (ret := (some .int)) (by decide) rfl (Nat.le_of_ble_eq_true rfl) ?_
  intro p e s m args below meth c ls Q hQ hsz hx hb hr hml hown hts hlocks hnm hK hM hl
  obtain ⟨A, hAe⟩ : ∃ A, A = zA G s.heap.size := ⟨_, rfl⟩
  rw [← hAe] at hM
  have hl : lv_has ls 2 [(0, .int v), (1, .int (nI most))] := hl
  refine lv_iload_n hx hb dX5_between_0 rfl (lv_at hl 0 rfl) ?_
  refine lv_iconst (v := nI 1) hx hb dX5_between_1 rfl ?_
  refine lv_icmp_ge (tgt := 9) hx hb dX5_between_2 (by decide) (fun hc2 => ?_) (fun hc2 => ?_)
  · refine lv_iload_n hx hb dX5_between_9 rfl (lv_at hl 0 rfl) ?_
    refine lv_iload_n hx hb dX5_between_10 rfl (lv_at hl 1 rfl) ?_
    refine lv_icmp_le (tgt := 18) hx hb dX5_between_11 (by decide) (fun hc11 => ?_) (fun hc11 => ?_)
    · refine lv_iload_n hx hb dX5_between_18 rfl (lv_at hl 0 rfl) ?_
      rw [hQ]
      rw [hAe] at hM
      exact z_iret hsz hx hb hr hlocks hK hM dX5_between_19 (⟨by unfold clampI; rw [if_neg (nlt_of_ge hc2), if_neg (ngt_of_le hc11)]; exact (nI_back (nneg_of_ge hc2)).symm, rfl⟩)
    · refine lv_iload_n hx hb dX5_between_14 rfl (lv_at hl 1 rfl) ?_
      refine lv_goto (tgt := 19) hx hb dX5_between_15 (by decide) ?_
      rw [hQ]
      rw [hAe] at hM
      exact z_iret hsz hx hb hr hlocks hK hM dX5_between_19 (⟨by unfold clampI; rw [if_neg (nlt_of_ge hc2), if_pos (gt_of_nle hc11)], rfl⟩)
  · refine lv_iconst (v := nI 1) hx hb dX5_between_5 rfl ?_
    refine lv_goto (tgt := 19) hx hb dX5_between_6 (by decide) ?_
    rw [hQ]
    rw [hAe] at hM
    exact z_iret hsz hx hb hr hlocks hK hM dX5_between_19 (⟨by unfold clampI; rw [if_pos (lt_of_nge hc2)], rfl⟩)

set_option maxRecDepth 100000 in
set_option maxHeartbeats 4000000 in
/-- a new reference -/
theorem m_init (l : Launch) (Γ : zT) (G : zG) (sz : Nat) (o : Nat) (p1 p2 p3 : Int32) (ho : G o = some (.inr (7, [.int (nI 0), .int (nI 0), .int (nI 0), .int (nI 0), .null, .null, .null, .int (nI 0), .int (nI 0), .int (nI 0), .int (nI 0), .int (nI 0), .int (nI 0), .int (nI 0), .int (nI 0)]))) : zMv l yX5_init wsX5_init ({ frames := 2, cells := 3, slots := 33670, locals := 128 } : Room) Γ G sz [.ref o, .int p1, .int p2, .int p3] (fun G' => ∃ lF lL lB F L B, mdk o lF lL lB ∧ (G lF = none ∧ G lL = none ∧ G lB = none) ∧ G' = md Γ o lF lL lB G (mfs (nI 0) (as0 (clampI p1 6) (clampI p2 60) (clampI p3 4000))) F L B ∧ MRep F L B (as0 (clampI p1 6) (clampI p2 60) (clampI p3 4000))) 3 33670 := by
  refine z_start (cc := cX5_init) (maxL := 4) (ret := none) (by decide) rfl (Nat.le_of_ble_eq_true rfl) ?_
  intro p e s m args below meth c ls Q hQ hsz hx hb hr hml hown hts hlocks hnm hK hM hl
  obtain ⟨A, hAe⟩ : ∃ A, A = zA G s.heap.size := ⟨_, rfl⟩
  rw [← hAe] at hM
  have hl : lv_has ls 4 [(0, .ref o), (1, .int p1), (2, .int p2), (3, .int p3)] := hl
  have hinX5 : ∀ w ∈ wsX50, w ∈ wsX5_init := by decide +kernel
  have hf_7 := hts (.fieldLink RX5 7 "CutRowsModel" "limbs" "[I") (by decide +kernel)
  have hf_13 := hts (.fieldLink RX5 13 "CutRowsModel" "length" "[I") (by decide +kernel)
  have hf_16 := hts (.fieldLink RX5 16 "CutRowsModel" "isBelow" "[Z") (by decide +kernel)
  have hf_24 := hts (.fieldLink RX5 24 "CutRowsModel" "vars" "I") (by decide +kernel)
  have hf_28 := hts (.fieldLink RX5 28 "CutRowsModel" "maxRows" "I") (by decide +kernel)
  have hf_31 := hts (.fieldLink RX5 31 "CutRowsModel" "cells" "I") (by decide +kernel)
  refine lv_aload_n hx hb dX5_init_0 rfl (lv_at hl 0 rfl) ?_
  refine W.objInit hx hb hown (hts (.methodLink RX5 1 objectInit) (by decide +kernel)) (hts (.instanceMethod objectInit) (by decide +kernel)) (hts (.code objectInit ⟨#[0xb1]⟩ 1 none) (List.mem_of_getElem? (i := 3) rfl)) rfl (by rw [hml]; exact hl.1) rfl dX5_init_1 (Nat.le_of_ble_eq_true rfl) (Nat.le_of_ble_eq_true rfl) ?_
  refine W.eq (g2 := F0 m 4 ls []) rfl ?_
  refine lv_aload_n hx hb dX5_init_4 rfl (lv_at hl 0 rfl) ?_
  refine lv_sipush (v := nI 32760) hx hb dX5_init_5 rfl ?_
  refine z_newI (N := 32760) hx hb (hts (.arrayClass .int) (by decide +kernel)) hK hM (by omega) (by first | exact Nat.le_of_ble_eq_true rfl | (show _ ≤ 3; omega)) (by first | exact Nat.le_of_ble_eq_true rfl | (show _ ≤ 33670; omega)) dX5_init_8 (fun q8 H hq8 hM => ?_)
  refine W.widen (k := 1) (n := 32760) (by first | exact Nat.le_of_ble_eq_true rfl | omega) (by first | exact Nat.le_of_ble_eq_true rfl | omega) ?_
  have hn_o_q8 : o ≠ q8 := zfr hq8 ho
  refine z_putF (C := RX5) (T := TX5) (N := 15) (fs' := [.int (nI 0), .int (nI 0), .int (nI 0), .int (nI 0), .ref q8, .null, .null, .int (nI 0), .int (nI 0), .int (nI 0), .int (nI 0), .int (nI 0), .int (nI 0), .int (nI 0), .int (nI 0)]) hx hb hts hinX5 tyX5 tyX5_ok nmX5 hown hK hM ((zup_n _ _ hn_o_q8).trans ho) 4 hf_7 rfl rfl (by decide) rfl hnm rfl rfl rfl (Nat.le_of_ble_eq_true rfl) rfl dX5_init_10 (fun H locs hM => ?_)
  refine lv_aload_n hx hb dX5_init_13 rfl (lv_at hl 0 rfl) ?_
  refine lv_sipush (v := nI 455) hx hb dX5_init_14 rfl ?_
  refine z_newI (N := 455) hx hb (hts (.arrayClass .int) (by decide +kernel)) hK hM (by omega) (by first | exact Nat.le_of_ble_eq_true rfl | (show _ ≤ 3; omega)) (by first | exact Nat.le_of_ble_eq_true rfl | (show _ ≤ 33670; omega)) dX5_init_17 (fun q17 H hq17 hM => ?_)
  refine W.widen (k := 2) (n := 33215) (by first | exact Nat.le_of_ble_eq_true rfl | omega) (by first | exact Nat.le_of_ble_eq_true rfl | omega) ?_
  have hn_o_q17 : o ≠ q17 := zfr hq17 (zup_s _ _ _)
  have hn_q8_q17 : q8 ≠ q17 := zfr hq17 ((zup_n _ _ (Ne.symm hn_o_q8)).trans (zup_s _ _ _))
  refine z_putF (C := RX5) (T := TX5) (N := 15) (fs' := [.int (nI 0), .int (nI 0), .int (nI 0), .int (nI 0), .ref q8, .ref q17, .null, .int (nI 0), .int (nI 0), .int (nI 0), .int (nI 0), .int (nI 0), .int (nI 0), .int (nI 0), .int (nI 0)]) hx hb hts hinX5 tyX5 tyX5_ok nmX5 hown hK hM ((zup_n _ _ hn_o_q17).trans (zup_s _ _ _)) 5 hf_13 rfl rfl (by decide) rfl hnm rfl rfl rfl (Nat.le_of_ble_eq_true rfl) rfl dX5_init_19 (fun H locs hM => ?_)
  have hM : zM Γ A s.heap (zup (zup (zup G q8 (zI Γ 32760 (fun _ => 0))) o (.inr (7, [.int (nI 0), .int (nI 0), .int (nI 0), .int (nI 0), .ref q8, .ref q17, .null, .int (nI 0), .int (nI 0), .int (nI 0), .int (nI 0), .int (nI 0), .int (nI 0), .int (nI 0), .int (nI 0)]))) q17 (zI Γ 455 (fun _ => 0))) H locs := by
    rw [zup_comm _ _ _ (Ne.symm hn_o_q17), zup_zup] at hM; exact hM
  refine lv_aload_n hx hb dX5_init_22 rfl (lv_at hl 0 rfl) ?_
  refine lv_sipush (v := nI 455) hx hb dX5_init_23 rfl ?_
  refine z_newB (N := 455) hx hb (hts (.arrayClass .boolean) (by decide +kernel)) hK hM (by omega) (by first | exact Nat.le_of_ble_eq_true rfl | (show _ ≤ 3; omega)) (by first | exact Nat.le_of_ble_eq_true rfl | (show _ ≤ 33670; omega)) dX5_init_26 (fun q26 H hq26 hM => ?_)
  refine W.widen (k := 3) (n := 33670) (by first | exact Nat.le_of_ble_eq_true rfl | omega) (by first | exact Nat.le_of_ble_eq_true rfl | omega) ?_
  have hn_o_q26 : o ≠ q26 := zfr hq26 ((zup_n _ _ hn_o_q17).trans (zup_s _ _ _))
  have hn_q8_q26 : q8 ≠ q26 := zfr hq26 ((zup_n _ _ hn_q8_q17).trans ((zup_n _ _ (Ne.symm hn_o_q8)).trans (zup_s _ _ _)))
  have hn_q17_q26 : q17 ≠ q26 := zfr hq26 (zup_s _ _ _)
  refine z_putF (C := RX5) (T := TX5) (N := 15) (fs' := [.int (nI 0), .int (nI 0), .int (nI 0), .int (nI 0), .ref q8, .ref q17, .ref q26, .int (nI 0), .int (nI 0), .int (nI 0), .int (nI 0), .int (nI 0), .int (nI 0), .int (nI 0), .int (nI 0)]) hx hb hts hinX5 tyX5 tyX5_ok nmX5 hown hK hM ((zup_n _ _ hn_o_q26).trans ((zup_n _ _ hn_o_q17).trans (zup_s _ _ _))) 6 hf_16 rfl rfl (by decide) rfl hnm rfl rfl rfl (Nat.le_of_ble_eq_true rfl) rfl dX5_init_28 (fun H locs hM => ?_)
  have hM : zM Γ A s.heap (zup (zup (zup (zup G q8 (zI Γ 32760 (fun _ => 0))) o (.inr (7, [.int (nI 0), .int (nI 0), .int (nI 0), .int (nI 0), .ref q8, .ref q17, .ref q26, .int (nI 0), .int (nI 0), .int (nI 0), .int (nI 0), .int (nI 0), .int (nI 0), .int (nI 0), .int (nI 0)]))) q17 (zI Γ 455 (fun _ => 0))) q26 (zB Γ 455 (fun _ => 0))) H locs := by
    rw [zup_comm _ _ _ (Ne.symm hn_o_q26), zup_comm _ _ _ (Ne.symm hn_o_q17), zup_zup] at hM; exact hM
  refine lv_aload_n hx hb dX5_init_31 rfl (lv_at hl 0 rfl) ?_
  refine lv_iload_n hx hb dX5_init_32 rfl (lv_at hl 1 rfl) ?_
  refine lv_bipush (v := nI 6) hx hb dX5_init_33 rfl ?_
  refine z_calli0 (va_runS (As := [.int p1, .int (nI 6)]) (rest := [.ref o]) ⟨hx, hb, hml, hown, hts⟩ (m_between l Γ _ _ p1 6 (by omega) (by omega)) (va_cwS 2 hts gX5_init_X5_between rfl rfl rfl (by decide +kernel) ⟨Nat.le_of_ble_eq_true rfl, Nat.le_of_ble_eq_true rfl⟩) (zM.pre hK hM) rfl rfl hl.1 rfl (lv_room (Nat.le_of_ble_eq_true rfl)) dX5_init_35 ⟨Nat.le_of_ble_eq_true rfl, Nat.le_of_ble_eq_true rfl⟩) hM (fun r35 G35 H locs hp35 hM => ?_)
  obtain ⟨e35, hGe⟩ := hp35
  rw [hGe] at hM
  refine z_asi (y := nI (clampI p1 6)) (by rw [e35]) ?_
  refine z_put (C := RX5) (T := TX5) (N := 15) (fs' := [.int (nI 0), .int (nI (clampI p1 6)), .int (nI 0), .int (nI 0), .ref q8, .ref q17, .ref q26, .int (nI 0), .int (nI 0), .int (nI 0), .int (nI 0), .int (nI 0), .int (nI 0), .int (nI 0), .int (nI 0)]) hx hb hts hinX5 tyX5 tyX5_ok nmX5 hown hK hM ((zup_n _ _ hn_o_q26).trans ((zup_n _ _ hn_o_q17).trans (zup_s _ _ _))) 1 hf_24 rfl rfl (by decide) rfl rfl rfl (Nat.le_of_ble_eq_true rfl) rfl dX5_init_38 (fun H locs hM => ?_)
  have hM : zM Γ A s.heap (zup (zup (zup (zup G q8 (zI Γ 32760 (fun _ => 0))) o (.inr (7, [.int (nI 0), .int (nI (clampI p1 6)), .int (nI 0), .int (nI 0), .ref q8, .ref q17, .ref q26, .int (nI 0), .int (nI 0), .int (nI 0), .int (nI 0), .int (nI 0), .int (nI 0), .int (nI 0), .int (nI 0)]))) q17 (zI Γ 455 (fun _ => 0))) q26 (zB Γ 455 (fun _ => 0))) H locs := by
    rw [zup_comm _ _ _ (Ne.symm hn_o_q26), zup_comm _ _ _ (Ne.symm hn_o_q17), zup_zup] at hM; exact hM
  refine lv_aload_n hx hb dX5_init_41 rfl (lv_at hl 0 rfl) ?_
  refine lv_iload_n hx hb dX5_init_42 rfl (lv_at hl 2 rfl) ?_
  refine lv_bipush (v := nI 60) hx hb dX5_init_43 rfl ?_
  refine z_calli0 (va_runS (As := [.int p2, .int (nI 60)]) (rest := [.ref o]) ⟨hx, hb, hml, hown, hts⟩ (m_between l Γ _ _ p2 60 (by omega) (by omega)) (va_cwS 2 hts gX5_init_X5_between rfl rfl rfl (by decide +kernel) ⟨Nat.le_of_ble_eq_true rfl, Nat.le_of_ble_eq_true rfl⟩) (zM.pre hK hM) rfl rfl hl.1 rfl (lv_room (Nat.le_of_ble_eq_true rfl)) dX5_init_45 ⟨Nat.le_of_ble_eq_true rfl, Nat.le_of_ble_eq_true rfl⟩) hM (fun r45 G45 H locs hp45 hM => ?_)
  obtain ⟨e45, hGe⟩ := hp45
  rw [hGe] at hM
  refine z_asi (y := nI (clampI p2 60)) (by rw [e45]) ?_
  refine z_put (C := RX5) (T := TX5) (N := 15) (fs' := [.int (nI 0), .int (nI (clampI p1 6)), .int (nI (clampI p2 60)), .int (nI 0), .ref q8, .ref q17, .ref q26, .int (nI 0), .int (nI 0), .int (nI 0), .int (nI 0), .int (nI 0), .int (nI 0), .int (nI 0), .int (nI 0)]) hx hb hts hinX5 tyX5 tyX5_ok nmX5 hown hK hM ((zup_n _ _ hn_o_q26).trans ((zup_n _ _ hn_o_q17).trans (zup_s _ _ _))) 2 hf_28 rfl rfl (by decide) rfl rfl rfl (Nat.le_of_ble_eq_true rfl) rfl dX5_init_48 (fun H locs hM => ?_)
  have hM : zM Γ A s.heap (zup (zup (zup (zup G q8 (zI Γ 32760 (fun _ => 0))) o (.inr (7, [.int (nI 0), .int (nI (clampI p1 6)), .int (nI (clampI p2 60)), .int (nI 0), .ref q8, .ref q17, .ref q26, .int (nI 0), .int (nI 0), .int (nI 0), .int (nI 0), .int (nI 0), .int (nI 0), .int (nI 0), .int (nI 0)]))) q17 (zI Γ 455 (fun _ => 0))) q26 (zB Γ 455 (fun _ => 0))) H locs := by
    rw [zup_comm _ _ _ (Ne.symm hn_o_q26), zup_comm _ _ _ (Ne.symm hn_o_q17), zup_zup] at hM; exact hM
  refine lv_aload_n hx hb dX5_init_51 rfl (lv_at hl 0 rfl) ?_
  refine lv_iload_n hx hb dX5_init_52 rfl (lv_at hl 3 rfl) ?_
  refine lv_sipush (v := nI 4000) hx hb dX5_init_53 rfl ?_
  refine z_calli0 (va_runS (As := [.int p3, .int (nI 4000)]) (rest := [.ref o]) ⟨hx, hb, hml, hown, hts⟩ (m_between l Γ _ _ p3 4000 (by omega) (by omega)) (va_cwS 2 hts gX5_init_X5_between rfl rfl rfl (by decide +kernel) ⟨Nat.le_of_ble_eq_true rfl, Nat.le_of_ble_eq_true rfl⟩) (zM.pre hK hM) rfl rfl hl.1 rfl (lv_room (Nat.le_of_ble_eq_true rfl)) dX5_init_56 ⟨Nat.le_of_ble_eq_true rfl, Nat.le_of_ble_eq_true rfl⟩) hM (fun r56 G56 H locs hp56 hM => ?_)
  obtain ⟨e56, hGe⟩ := hp56
  rw [hGe] at hM
  refine z_asi (y := nI (clampI p3 4000)) (by rw [e56]) ?_
  refine z_put (C := RX5) (T := TX5) (N := 15) (fs' := [.int (nI 0), .int (nI (clampI p1 6)), .int (nI (clampI p2 60)), .int (nI (clampI p3 4000)), .ref q8, .ref q17, .ref q26, .int (nI 0), .int (nI 0), .int (nI 0), .int (nI 0), .int (nI 0), .int (nI 0), .int (nI 0), .int (nI 0)]) hx hb hts hinX5 tyX5 tyX5_ok nmX5 hown hK hM ((zup_n _ _ hn_o_q26).trans ((zup_n _ _ hn_o_q17).trans (zup_s _ _ _))) 3 hf_31 rfl rfl (by decide) rfl rfl rfl (Nat.le_of_ble_eq_true rfl) rfl dX5_init_59 (fun H locs hM => ?_)
  have hM : zM Γ A s.heap (zup (zup (zup (zup G q8 (zI Γ 32760 (fun _ => 0))) o (.inr (7, [.int (nI 0), .int (nI (clampI p1 6)), .int (nI (clampI p2 60)), .int (nI (clampI p3 4000)), .ref q8, .ref q17, .ref q26, .int (nI 0), .int (nI 0), .int (nI 0), .int (nI 0), .int (nI 0), .int (nI 0), .int (nI 0), .int (nI 0)]))) q17 (zI Γ 455 (fun _ => 0))) q26 (zB Γ 455 (fun _ => 0))) H locs := by
    rw [zup_comm _ _ _ (Ne.symm hn_o_q26), zup_comm _ _ _ (Ne.symm hn_o_q17), zup_zup] at hM; exact hM
  refine lv_aload_n hx hb dX5_init_62 rfl (lv_at hl 0 rfl) ?_
  refine z_get (C := RX5) (T := TX5) (N := 15) (v := .ref q17) hx hb hts hinX5 hown hK hM ((zup_n _ _ hn_o_q26).trans ((zup_n _ _ hn_o_q17).trans (zup_s _ _ _))) 5 hf_13 rfl rfl (by decide) rfl dX5_init_63 ?_
  refine lv_sipush (v := nI 447) hx hb dX5_init_66 rfl ?_
  refine lv_iconst (v := nI 1) hx hb dX5_init_69 rfl ?_
  refine z_ist hx hb hK hM ((zup_n _ _ hn_q17_q26).trans (zup_s _ _ _)) (by omega) (by omega) dX5_init_70 (fun H locs hM => ?_)
  have hM : zM Γ A s.heap (zup (zup (zup (zup G q8 (zI Γ 32760 (fun _ => 0))) o (.inr (7, [.int (nI 0), .int (nI (clampI p1 6)), .int (nI (clampI p2 60)), .int (nI (clampI p3 4000)), .ref q8, .ref q17, .ref q26, .int (nI 0), .int (nI 0), .int (nI 0), .int (nI 0), .int (nI 0), .int (nI 0), .int (nI 0), .int (nI 0)]))) q17 (zI Γ 455 (va_up (fun _ => 0) 447 1))) q26 (zB Γ 455 (fun _ => 0))) H locs := by
    rw [zup_comm _ _ _ (Ne.symm hn_q17_q26), zup_zup] at hM; exact hM
  refine lv_aload_n hx hb dX5_init_71 rfl (lv_at hl 0 rfl) ?_
  refine z_get (C := RX5) (T := TX5) (N := 15) (v := .ref q8) hx hb hts hinX5 hown hK hM ((zup_n _ _ hn_o_q26).trans ((zup_n _ _ hn_o_q17).trans (zup_s _ _ _))) 4 hf_7 rfl rfl (by decide) rfl dX5_init_72 ?_
  refine lv_sipush (v := nI 32184) hx hb dX5_init_75 rfl ?_
  refine lv_iconst (v := nI 1) hx hb dX5_init_78 rfl ?_
  refine z_ist hx hb hK hM ((zup_n _ _ hn_q8_q26).trans ((zup_n _ _ hn_q8_q17).trans ((zup_n _ _ (Ne.symm hn_o_q8)).trans (zup_s _ _ _)))) (by omega) (by omega) dX5_init_79 (fun H locs hM => ?_)
  have hM : zM Γ A s.heap (zup (zup (zup (zup G q8 (zI Γ 32760 (va_up (fun _ => 0) 32184 1))) o (.inr (7, [.int (nI 0), .int (nI (clampI p1 6)), .int (nI (clampI p2 60)), .int (nI (clampI p3 4000)), .ref q8, .ref q17, .ref q26, .int (nI 0), .int (nI 0), .int (nI 0), .int (nI 0), .int (nI 0), .int (nI 0), .int (nI 0), .int (nI 0)]))) q17 (zI Γ 455 (va_up (fun _ => 0) 447 1))) q26 (zB Γ 455 (fun _ => 0))) H locs := by
    rw [zup_comm _ _ _ (Ne.symm hn_q8_q26), zup_comm _ _ _ (Ne.symm hn_q8_q17), zup_comm _ _ _ hn_o_q8, zup_zup] at hM; exact hM
  have f1 := zfn hq17
  have f2 := zfn f1.2
  have f3 := zfn hq26
  have f4 := zfn f3.2
  have f5 := zfn f4.2
  rw [hQ]
  rw [hAe] at hM
  exact z_vretW (Nat.le_of_ble_eq_true rfl) (Nat.le_of_ble_eq_true rfl) hsz hx hb hr hlocks hK hM dX5_init_80 (⟨q8, q17, q26, _, _, _, ⟨hn_o_q8, hn_o_q17, hn_o_q26, Ne.symm (Ne.symm hn_q8_q17), Ne.symm (Ne.symm hn_q8_q26), Ne.symm (Ne.symm hn_q17_q26)⟩, ⟨hq8, f2.2, f5.2⟩, by unfold md; rw [zup_comm G _ _ (Ne.symm hn_o_q8)]; rfl, mrep_0 (clampI_le p1 (by omega) (by omega)).2⟩)
