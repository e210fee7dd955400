set_option maxRecDepth 100000 in
set_option maxHeartbeats 4000000 in
theorem c_beginNumber (l : Launch) (Γ : zT) (G : zG) (sz : Nat) (X : Nat → Nat) (σ : AS) (sign : Int32) (hX : XI X σ.1.1) (hI : AI σ) (hR : CRep Γ G X σ) : zMi l yX4_beginNumber wsX4_beginNumber (zR 3) Γ G sz [.ref (X 80), .int sign] (fun x G' => x = (op_begin sign σ).1 ∧ CRep Γ G' X (op_begin sign σ).2 ∧ frA X σ.1.1 G G') 0 0 := by
  obtain ⟨⟨vars, maxR, cells⟩, ⟨nr, inp, R⟩, ⟨fil, V⟩, ⟨se, be, S⟩, P, st, sg, gv, g, z⟩ := σ
  have hX : XI X vars := hX
  have hR0 := hR
  obtain ⟨Z, used, cz, sw, C, St, hB, ⟨hsw, hcz⟩, hrd, hV, hS, hPt, hzr⟩ := hR
  obtain ⟨ct, hct⟩ : ∃ ct, ct = (if anyBot R vars inp nr then 1 else 0) := ⟨_, rfl⟩
  rw [← hct] at hB
  have hct1 : ct ≤ 1 := by rw [hct]; split <;> omega
  obtain ⟨⟨i1, i2, i3, i4, i5⟩, ⟨j1, j2, j3, j4⟩, ⟨f1, f2⟩, ⟨s1, s2, s3⟩, p1, r1, r2, r3, r4, r5, r6⟩ := hI
  refine z_start (cc := cX4_beginNumber) (maxL := 2) (ret := (some .boolean)) (by decide) rfl (Nat.le_of_ble_eq_true rfl) ?_
  intro p e s m args below meth c ls Q hQ hsz hx hb hr hml hown hts hlocks hnm hK hM hl
  obtain ⟨A, hAe⟩ : ∃ A, A = zA G s.heap.size := ⟨_, rfl⟩
  rw [← hAe] at hM
  have hl : lv_has ls 2 [(0, .ref (X 80)), (1, .int sign)] := hl
  have hinX4 : ∀ w ∈ wsX40, w ∈ wsX4_beginNumber := by decide +kernel
  have hf_29 := hts (.fieldLink RX4 29 "CutRows" "register" "LCutRows$Register;") (by decide +kernel)
  refine lv_iload_n hx hb dX4_beginNumber_0 rfl (lv_at hl 1 rfl) ?_
  refine lv_iconst (v := -1) hx hb dX4_beginNumber_1 rfl ?_
  refine lv_icmp_lt (tgt := 10) hx hb dX4_beginNumber_2 (by decide) (fun hc2 => ?_) (fun hc2 => ?_)
  · refine lv_iconst (v := nI 0) hx hb dX4_beginNumber_10 rfl ?_
    rw [hQ]
    rw [hAe] at hM
    exact z_zret (by omega) hsz hx hb hr hlocks hK hM dX4_beginNumber_11 (by simp only [op_begin]; rw [if_pos (Or.inl hc2)]; exact ⟨rfl, hR0, frA.rf⟩)
  · refine lv_iload_n hx hb dX4_beginNumber_5 rfl (lv_at hl 1 rfl) ?_
    refine lv_iconst (v := nI 1) hx hb dX4_beginNumber_6 rfl ?_
    refine lv_icmp_le (tgt := 12) hx hb dX4_beginNumber_7 (by decide) (fun hc7 => ?_) (fun hc7 => ?_)
    · refine lv_aload_n hx hb dX4_beginNumber_12 rfl (lv_at hl 0 rfl) ?_
      refine z_get (C := RX4) (T := TX4) (N := 16) (v := .ref (X 82)) hx hb hts hinX4 hown hK hM hB.1 2 hf_29 rfl rfl (by decide) rfl dX4_beginNumber_13 ?_
      refine lv_iload_n hx hb dX4_beginNumber_16 rfl (lv_at hl 1 rfl) ?_
      refine z_callv0 (va_runV (As := [.int sign]) (rest := []) ⟨hx, hb, hml, hown, hts⟩ (g_open l Γ G _ X vars Z hX hB.2.1 st sg gv hB.2.2.2 sign) (cwV 1 hts gX4_beginNumber_X2_open rfl rfl rfl (by decide +kernel) ⟨Nat.le_of_ble_eq_true rfl, Nat.le_of_ble_eq_true rfl⟩) (zM.preV hK hM hB.2.2.2 rfl rfl) rfl rfl hl.1 rfl (lv_room (Nat.le_of_ble_eq_true rfl)) dX4_beginNumber_17 ⟨Nat.le_of_ble_eq_true rfl, Nat.le_of_ble_eq_true rfl⟩) hM (fun G17 H locs hp17 hM => ?_)
      obtain ⟨hf1, hC1, hG1⟩ := hp17
      have hB1 := hB.reg hX hf1 hC1 hG1
      refine lv_iconst (v := nI 1) hx hb dX4_beginNumber_20 rfl ?_
      rw [hQ]
      rw [hAe] at hM
      exact z_zret (by omega) hsz hx hb hr hlocks hK hM dX4_beginNumber_21 (by simp only [op_begin]; rw [if_neg (fun h => h.elim hc2 (fun h2 => absurd hc7 (Int32.not_le.mpr h2)))]; exact ⟨rfl, ⟨va_up Z 31 0, used, cz, sw, C, St, by rw [← hct]; exact hB1, ⟨hsw, hcz⟩, fun _ => hC1.rd0 g, fun k hk => by rw [va_up_ne _ _ (by omega)]; exact hV k hk, fun h k hk => by rw [va_up_ne _ _ (by omega)]; exact hS h k hk, fun k hk => by rw [va_up_ne _ _ (by omega)]; exact hPt k hk, fun _ => va_up_self _ _ _⟩, hf1.a (fun q9 h9 => by simp only [List.mem_cons, List.not_mem_nil, or_false] at h9; unfold vd vw; omega)⟩)
    · refine lv_iconst (v := nI 0) hx hb dX4_beginNumber_10 rfl ?_
      rw [hQ]
      rw [hAe] at hM
      exact z_zret (by omega) hsz hx hb hr hlocks hK hM dX4_beginNumber_11 (by simp only [op_begin]; rw [if_pos (Or.inr (show (1 : Int32) < sign from Int32.not_le.mp hc7))]; exact ⟨rfl, hR0, frA.rf⟩)

set_option maxRecDepth 100000 in
set_option maxHeartbeats 4000000 in
theorem c_limb (l : Launch) (Γ : zT) (G : zG) (sz : Nat) (X : Nat → Nat) (σ : AS) (ww : Int32) (hX : XI X σ.1.1) (hI : AI σ) (hR : CRep Γ G X σ) : zMi l yX4_limb wsX4_limb (zR 2) Γ G sz [.ref (X 80), .int ww] (fun x G' => x = (op_limb ww σ).1 ∧ CRep Γ G' X (op_limb ww σ).2 ∧ frA X σ.1.1 G G') 0 0 := by
  obtain ⟨⟨vars, maxR, cells⟩, ⟨nr, inp, R⟩, ⟨fil, V⟩, ⟨se, be, S⟩, P, st, sg, gv, g, z⟩ := σ
  have hX : XI X vars := hX
  have hR0 := hR
  obtain ⟨Z, used, cz, sw, C, St, hB, ⟨hsw, hcz⟩, hrd, hV, hS, hPt, hzr⟩ := hR
  obtain ⟨ct, hct⟩ : ∃ ct, ct = (if anyBot R vars inp nr then 1 else 0) := ⟨_, rfl⟩
  rw [← hct] at hB
  have hct1 : ct ≤ 1 := by rw [hct]; split <;> omega
  obtain ⟨⟨i1, i2, i3, i4, i5⟩, ⟨j1, j2, j3, j4⟩, ⟨f1, f2⟩, ⟨s1, s2, s3⟩, p1, r1, r2, r3, r4, r5, r6⟩ := hI
  refine z_start (cc := cX4_limb) (maxL := 2) (ret := (some .boolean)) (by decide) rfl (Nat.le_of_ble_eq_true rfl) ?_
  intro p e s m args below meth c ls Q hQ hsz hx hb hr hml hown hts hlocks hnm hK hM hl
  obtain ⟨A, hAe⟩ : ∃ A, A = zA G s.heap.size := ⟨_, rfl⟩
  rw [← hAe] at hM
  have hl : lv_has ls 2 [(0, .ref (X 80)), (1, .int ww)] := hl
  have hinX4 : ∀ w ∈ wsX40, w ∈ wsX4_limb := by decide +kernel
  have hf_29 := hts (.fieldLink RX4 29 "CutRows" "register" "LCutRows$Register;") (by decide +kernel)
  refine lv_iload_n hx hb dX4_limb_0 rfl (lv_at hl 1 rfl) ?_
  refine lv_if_lt (tgt := 14) hx hb dX4_limb_1 (by decide) (fun hc1 => ?_) (fun hc1 => ?_)
  · refine lv_iconst (v := nI 0) hx hb dX4_limb_14 rfl ?_
    rw [hQ]
    rw [hAe] at hM
    exact z_zret (by omega) hsz hx hb hr hlocks hK hM dX4_limb_15 (by simp only [op_limb]; rw [if_pos (Or.inl hc1)]; exact ⟨rfl, hR0, frA.rf⟩)
  · refine lv_aload_n hx hb dX4_limb_4 rfl (lv_at hl 0 rfl) ?_
    refine z_get (C := RX4) (T := TX4) (N := 16) (v := .ref (X 82)) hx hb hts hinX4 hown hK hM hB.1 2 hf_29 rfl rfl (by decide) rfl dX4_limb_5 ?_
    refine z_calli0 (va_runV (As := []) (rest := []) ⟨hx, hb, hml, hown, hts⟩ (g_takesMore l Γ G _ X vars Z hX hB.2.1 st sg gv hB.2.2.2 r1 r2) (cwV 0 hts gX4_limb_X2_takesMore rfl rfl rfl (by decide +kernel) ⟨Nat.le_of_ble_eq_true rfl, Nat.le_of_ble_eq_true rfl⟩) (zM.preV hK hM hB.2.2.2 rfl rfl) rfl rfl hl.1 rfl (lv_room (Nat.le_of_ble_eq_true rfl)) dX4_limb_8 ⟨Nat.le_of_ble_eq_true rfl, Nat.le_of_ble_eq_true rfl⟩) hM (fun r8 G8 H locs hp8 hM => ?_)
    obtain ⟨rfl, hGe⟩ := hp8
    rw [hGe] at hM
    refine lv_if_ne (tgt := 16) hx hb dX4_limb_11 (by decide) (fun hc11 => ?_) (fun hc11 => ?_)
    · have hyes : st = 1 ∧ gv < 20 := by by_cases h9 : st = 1 ∧ gv < 20; exact h9; rw [if_neg h9] at hc11; exact absurd rfl hc11
      obtain ⟨wn, hwn, rfl⟩ : ∃ j : Nat, j < 2 ^ 31 ∧ ww = nI j := nI_of hc1
      refine lv_aload_n hx hb dX4_limb_16 rfl (lv_at hl 0 rfl) ?_
      refine z_get (C := RX4) (T := TX4) (N := 16) (v := .ref (X 82)) hx hb hts hinX4 hown hK hM hB.1 2 hf_29 rfl rfl (by decide) rfl dX4_limb_17 ?_
      refine lv_iload_n hx hb dX4_limb_20 rfl (lv_at hl 1 rfl) ?_
      have hz9 : Z 31 = sg.toInt * (vl g gv : Nat) := by rw [hzr (by omega)]; exact r4 hyes.1
      refine z_callv0 (va_runV (As := [.int (nI wn)]) (rest := []) ⟨hx, hb, hml, hown, hts⟩ (g_append l Γ G _ X vars Z hX hB.2.1 st sg gv hB.2.2.2 wn g hyes.1 (by omega) hyes.2 r3 (hrd hyes.1) r5 hz9) (cwV 1 hts gX4_limb_X2_append rfl rfl rfl (by decide +kernel) ⟨Nat.le_of_ble_eq_true rfl, Nat.le_of_ble_eq_true rfl⟩) (zM.preV hK hM hB.2.2.2 rfl rfl) rfl rfl hl.1 rfl (lv_room (Nat.le_of_ble_eq_true rfl)) dX4_limb_21 ⟨Nat.le_of_ble_eq_true rfl, Nat.le_of_ble_eq_true rfl⟩) hM (fun G21 H locs hp21 hM => ?_)
      obtain ⟨hf1, hC1, hG1, hD1⟩ := hp21
      have hG1 : RG Γ G21 X st sg (gv + 1) := by rw [hyes.1]; exact hG1
      have hB1 := hB.reg hX hf1 hC1 hG1
      refine lv_iconst (v := nI 1) hx hb dX4_limb_24 rfl ?_
      rw [hQ]
      rw [hAe] at hM
      exact z_zret (by omega) hsz hx hb hr hlocks hK hM dX4_limb_25 (by
            have hneg : ¬ (nI wn < 0 ∨ st ≠ 1 ∨ gv = 20) := by rintro (h | h | h); exact hc1 h; omega; omega
            simp only [op_limb]; rw [if_neg hneg, nI_clamp hwn]; exact ⟨rfl, ⟨_, used, cz, sw, C, St, by rw [← hct]; exact hB1, ⟨hsw, hcz⟩, fun _ => hD1, fun k hk => by rw [va_up_ne _ _ (by omega)]; exact hV k hk, fun h k hk => by rw [va_up_ne _ _ (by omega)]; exact hS h k hk, fun k hk => by rw [va_up_ne _ _ (by omega)]; exact hPt k hk, fun _ => va_up_self _ _ _⟩, hf1.a (fun q9 h9 => by simp only [List.mem_cons, List.not_mem_nil, or_false] at h9; unfold vd vw; omega)⟩)
    · have hno : ¬ (st = 1 ∧ gv < 20) := fun h9 => by rw [if_pos h9] at hc11; exact absurd hc11 (by decide)
      refine lv_iconst (v := nI 0) hx hb dX4_limb_14 rfl ?_
      rw [hQ]
      rw [hAe] at hM
      exact z_zret (by omega) hsz hx hb hr hlocks hK hM dX4_limb_15 (by simp only [op_limb]; rw [if_pos (Or.inr (by omega))]; exact ⟨rfl, hR0, frA.rf⟩)

set_option maxRecDepth 100000 in
set_option maxHeartbeats 4000000 in
theorem c_endCoefficient (l : Launch) (Γ : zT) (G : zG) (sz : Nat) (X : Nat → Nat) (σ : AS)  (hX : XI X σ.1.1) (hI : AI σ) (hR : CRep Γ G X σ) : zMi l yX4_endCoefficient wsX4_endCoefficient (zR 2) Γ G sz [.ref (X 80)] (fun x G' => x = (op_endCoef σ).1 ∧ CRep Γ G' X (op_endCoef σ).2 ∧ frA X σ.1.1 G G') 0 0 := by
  obtain ⟨⟨vars, maxR, cells⟩, ⟨nr, inp, R⟩, ⟨fil, V⟩, ⟨se, be, S⟩, P, st, sg, gv, g, z⟩ := σ
  have hX : XI X vars := hX
  have hR0 := hR
  obtain ⟨Z, used, cz, sw, C, St, hB, ⟨hsw, hcz⟩, hrd, hV, hS, hPt, hzr⟩ := hR
  obtain ⟨ct, hct⟩ : ∃ ct, ct = (if anyBot R vars inp nr then 1 else 0) := ⟨_, rfl⟩
  rw [← hct] at hB
  have hct1 : ct ≤ 1 := by rw [hct]; split <;> omega
  obtain ⟨⟨i1, i2, i3, i4, i5⟩, ⟨j1, j2, j3, j4⟩, ⟨f1, f2⟩, ⟨s1, s2, s3⟩, p1, r1, r2, r3, r4, r5, r6⟩ := hI
  refine z_start (cc := cX4_endCoefficient) (maxL := 1) (ret := (some .boolean)) (by decide) rfl (Nat.le_of_ble_eq_true rfl) ?_
  intro p e s m args below meth c ls Q hQ hsz hx hb hr hml hown hts hlocks hnm hK hM hl
  obtain ⟨A, hAe⟩ : ∃ A, A = zA G s.heap.size := ⟨_, rfl⟩
  rw [← hAe] at hM
  have hl : lv_has ls 1 [(0, .ref (X 80))] := hl
  have hinX4 : ∀ w ∈ wsX40, w ∈ wsX4_endCoefficient := by decide +kernel
  have hinX2 : ∀ w ∈ wsX20, w ∈ wsX4_endCoefficient := by decide +kernel
  have hf_29 := hts (.fieldLink RX4 29 "CutRows" "register" "LCutRows$Register;") (by decide +kernel)
  have hf_37 := hts (.fieldLink RX4 37 "CutRows" "vector" "[LCutRows$Whole;") (by decide +kernel)
  have hf_82 := hts (.fieldLink RX4 82 "CutRows$Register" "state" "I") (by decide +kernel)
  have hf_85 := hts (.fieldLink RX4 85 "CutRows" "vectorSize" "I") (by decide +kernel)
  have hf_88 := hts (.fieldLink RX4 88 "CutRows$Register" "number" "LCutRows$Whole;") (by decide +kernel)
  refine lv_aload_n hx hb dX4_endCoefficient_0 rfl (lv_at hl 0 rfl) ?_
  refine z_get (C := RX4) (T := TX4) (N := 16) (v := .ref (X 82)) hx hb hts hinX4 hown hK hM hB.1 2 hf_29 rfl rfl (by decide) rfl dX4_endCoefficient_1 ?_
  refine z_get (C := RX2) (T := TX2) (N := 4) (v := .int (nI st)) hx hb hts hinX2 hown hK hM hB.2.2.2 1 hf_82 rfl rfl (by decide) rfl dX4_endCoefficient_4 ?_
  refine lv_iconst (v := nI 1) hx hb dX4_endCoefficient_7 rfl ?_
  refine z_icmp_ne (tgt := 23) hx hb (by omega) (by omega) dX4_endCoefficient_8 (by decide) (fun hc8 => ?_) (fun hc8 => ?_)
  · refine lv_iconst (v := nI 0) hx hb dX4_endCoefficient_23 rfl ?_
    rw [hQ]
    rw [hAe] at hM
    exact z_zret (by omega) hsz hx hb hr hlocks hK hM dX4_endCoefficient_24 (by simp only [op_endCoef]; rw [if_pos (Or.inl hc8)]; exact ⟨rfl, hR0, frA.rf⟩)
  · refine lv_aload_n hx hb dX4_endCoefficient_11 rfl (lv_at hl 0 rfl) ?_
    refine z_get (C := RX4) (T := TX4) (N := 16) (v := .int (nI fil)) hx hb hts hinX4 hown hK hM hB.1 6 hf_85 rfl rfl (by decide) rfl dX4_endCoefficient_12 ?_
    refine lv_aload_n hx hb dX4_endCoefficient_15 rfl (lv_at hl 0 rfl) ?_
    refine z_get (C := RX4) (T := TX4) (N := 16) (v := .ref (X 84)) hx hb hts hinX4 hown hK hM hB.1 3 hf_37 rfl rfl (by decide) rfl dX4_endCoefficient_16 ?_
    refine z_alenV hx hb hK hM hB.2.1.2.2.2.2.1 dX4_endCoefficient_19 ?_
    refine z_icmp_lt (tgt := 25) hx hb (by omega) (by omega) dX4_endCoefficient_20 (by decide) (fun hc20 => ?_) (fun hc20 => ?_)
    · refine lv_aload_n hx hb dX4_endCoefficient_25 rfl (lv_at hl 0 rfl) ?_
      refine z_get (C := RX4) (T := TX4) (N := 16) (v := .ref (X 84)) hx hb hts hinX4 hown hK hM hB.1 3 hf_37 rfl rfl (by decide) rfl dX4_endCoefficient_26 ?_
      refine lv_aload_n hx hb dX4_endCoefficient_29 rfl (lv_at hl 0 rfl) ?_
      refine z_get (C := RX4) (T := TX4) (N := 16) (v := .int (nI fil)) hx hb hts hinX4 hown hK hM hB.1 6 hf_85 rfl rfl (by decide) rfl dX4_endCoefficient_30 ?_
      refine z_aldW hx hb hK hM hB.2.1.2.2.2.2.1 (by omega) (by omega) dX4_endCoefficient_33 ?_
      refine z_asr (y := .ref (X fil)) (by rw [Nat.zero_add]) ?_
      refine lv_aload_n hx hb dX4_endCoefficient_34 rfl (lv_at hl 0 rfl) ?_
      refine z_get (C := RX4) (T := TX4) (N := 16) (v := .ref (X 82)) hx hb hts hinX4 hown hK hM hB.1 2 hf_29 rfl rfl (by decide) rfl dX4_endCoefficient_35 ?_
      refine z_get (C := RX2) (T := TX2) (N := 4) (v := .ref (X 31)) hx hb hts hinX2 hown hK hM hB.2.2.2 0 hf_88 rfl rfl (by decide) rfl dX4_endCoefficient_38 ?_
      have wf : wrm fil = 20 := by unfold wrm; rw [if_pos (by omega)]
      have hz9 : Z 31 = z := hzr (by omega)
      refine z_callv0 (va_runV (As := [.ref (X 31)]) (rest := []) ⟨hx, hb, hml, hown, hts⟩ (cw_copy l _ hX hB.2.1 (i := fil) (j := 31) (by unfold vw; omega) (by unfold vw; omega) (by omega) (by rw [wf, hz9]; exact r6)) (cwV 1 hts gX4_endCoefficient_X3_copyFrom rfl rfl rfl (by decide +kernel) ⟨Nat.le_of_ble_eq_true rfl, Nat.le_of_ble_eq_true rfl⟩) (zM.preV hK hM (hB.2.1.o fil (by unfold vw; omega)) rfl rfl) rfl rfl hl.1 rfl (lv_room (Nat.le_of_ble_eq_true rfl)) dX4_endCoefficient_41 ⟨Nat.le_of_ble_eq_true rfl, Nat.le_of_ble_eq_true rfl⟩) hM (fun G41 H locs hp41 hM => ?_)
      have hw1 := hp41
      rw [hz9] at hw1
      have hB1 := hB.num hX hw1.1 (hw1.n (by unfold vw; omega) (by omega))
      refine lv_aload_n hx hb dX4_endCoefficient_44 rfl (lv_at hl 0 rfl) ?_
      refine lv_dup hx hb dX4_endCoefficient_45 rfl ?_
      refine z_get (C := RX4) (T := TX4) (N := 16) (v := .int (nI fil)) hx hb hts hinX4 hown hK hM hB1.1 6 hf_85 rfl rfl (by decide) rfl dX4_endCoefficient_46 ?_
      refine lv_iconst (v := nI 1) hx hb dX4_endCoefficient_49 rfl ?_
      refine z_iadd hx hb dX4_endCoefficient_50 ?_
      refine z_put (C := RX4) (T := TX4) (N := 16) (fs' := [.int (nI vars), .ref (X 81), .ref (X 82), .ref (X 84), .ref (X 85), .ref (X 83), .int (nI (fil + 1)), .int (nI inp), .int (nI se), .int (nI be), .int (nI ct), .ref (X (86 + sw)), .ref (X (87 - sw)), .ref (X 28), .ref (X 29), .ref (X 30)]) hx hb hts hinX4 tyX4 tyX4_ok nmX4 hown hK hM hB1.1 6 hf_85 rfl rfl (by decide) rfl rfl rfl (Nat.le_of_ble_eq_true rfl) rfl dX4_endCoefficient_51 (fun H locs hM => ?_)
      have hB2 := hB1.put hX (fil + 1) inp se be ct sw
      obtain ⟨G2, hG2⟩ : ∃ G2, G2 = zup G41 (X 80) (coE X vars (fil + 1) inp se be ct sw) := ⟨_, rfl⟩
      have hM : zM Γ A s.heap G2 H locs := by rw [hG2]; exact hM
      rw [← hG2] at hB2
      refine lv_aload_n hx hb dX4_endCoefficient_54 rfl (lv_at hl 0 rfl) ?_
      refine z_get (C := RX4) (T := TX4) (N := 16) (v := .ref (X 82)) hx hb hts hinX4 hown hK hM hB2.1 2 hf_29 rfl rfl (by decide) rfl dX4_endCoefficient_55 ?_
      refine z_callv0 (va_runV (As := []) (rest := []) ⟨hx, hb, hml, hown, hts⟩ (g_finish l Γ G2 _ X vars _ hX hB2.2.1 st sg gv hB2.2.2.2) (cwV 0 hts gX4_endCoefficient_X2_finish rfl rfl rfl (by decide +kernel) ⟨Nat.le_of_ble_eq_true rfl, Nat.le_of_ble_eq_true rfl⟩) (zM.preV hK hM hB2.2.2.2 rfl rfl) rfl rfl hl.1 rfl (lv_room (Nat.le_of_ble_eq_true rfl)) dX4_endCoefficient_58 ⟨Nat.le_of_ble_eq_true rfl, Nat.le_of_ble_eq_true rfl⟩) hM (fun G58 H locs hp58 hM => ?_)
      obtain ⟨hf3, hG3⟩ := hp58
      have hB3 := hB2.fin hX hf3 hG3
      refine lv_iconst (v := nI 1) hx hb dX4_endCoefficient_61 rfl ?_
      rw [hQ]
      rw [hAe] at hM
      exact z_zret (by omega) hsz hx hb hr hlocks hK hM dX4_endCoefficient_62 (by
            simp only [op_endCoef]; rw [if_neg (by omega)]; exact ⟨rfl, ⟨_, used, cz, sw, C, St, by rw [← hct]; exact hB3, ⟨hsw, hcz⟩, fun h => absurd h (by decide), fun k hk => by by_cases hc : k = fil; subst hc; rw [va_up_self, va_up_self]; rw [va_up_ne _ _ hc, va_up_ne _ _ hc]; exact hV k (by omega), fun h k hk => by rw [va_up_ne _ _ (by omega)]; exact hS h k hk, fun k hk => by rw [va_up_ne _ _ (by omega)]; exact hPt k hk, fun _ => by rw [va_up_ne _ _ (by omega)]; exact hz9⟩, ((hw1.n (by unfold vw; omega) (by omega)).a.tr (by rw [hG2]; exact up_a)).tr (hf3.a (fun q9 h9 => by simp only [List.mem_cons, List.not_mem_nil, or_false] at h9; unfold vd vw; omega))⟩)
    · refine lv_iconst (v := nI 0) hx hb dX4_endCoefficient_23 rfl ?_
      rw [hQ]
      rw [hAe] at hM
      exact z_zret (by omega) hsz hx hb hr hlocks hK hM dX4_endCoefficient_24 (by simp only [op_endCoef]; rw [if_pos (Or.inr (by omega))]; exact ⟨rfl, hR0, frA.rf⟩)

set_option maxRecDepth 100000 in
set_option maxHeartbeats 4000000 in
theorem c_sealInput (l : Launch) (Γ : zT) (G : zG) (sz : Nat) (X : Nat → Nat) (σ : AS)  (hX : XI X σ.1.1) (hI : AI σ) (hR : CRep Γ G X σ) : zMi l yX4_sealInput wsX4_sealInput (zR 1) Γ G sz [.ref (X 80)] (fun x G' => x = (op_seal σ).1 ∧ CRep Γ G' X (op_seal σ).2 ∧ frA X σ.1.1 G G') 0 0 := by
  obtain ⟨⟨vars, maxR, cells⟩, ⟨nr, inp, R⟩, ⟨fil, V⟩, ⟨se, be, S⟩, P, st, sg, gv, g, z⟩ := σ
  have hX : XI X vars := hX
  have hR0 := hR
  obtain ⟨Z, used, cz, sw, C, St, hB, ⟨hsw, hcz⟩, hrd, hV, hS, hPt, hzr⟩ := hR
  obtain ⟨ct, hct⟩ : ∃ ct, ct = (if anyBot R vars inp nr then 1 else 0) := ⟨_, rfl⟩
  rw [← hct] at hB
  have hct1 : ct ≤ 1 := by rw [hct]; split <;> omega
  obtain ⟨⟨i1, i2, i3, i4, i5⟩, ⟨j1, j2, j3, j4⟩, ⟨f1, f2⟩, ⟨s1, s2, s3⟩, p1, r1, r2, r3, r4, r5, r6⟩ := hI
  refine z_start (cc := cX4_sealInput) (maxL := 2) (ret := (some .boolean)) (by decide) rfl (Nat.le_of_ble_eq_true rfl) ?_
  intro p e s m args below meth c ls Q hQ hsz hx hb hr hml hown hts hlocks hnm hK hM hl
  obtain ⟨A, hAe⟩ : ∃ A, A = zA G s.heap.size := ⟨_, rfl⟩
  rw [← hAe] at hM
  have hl : lv_has ls 2 [(0, .ref (X 80))] := hl
  have hinX4 : ∀ w ∈ wsX40, w ∈ wsX4_sealInput := by decide +kernel
  have hf_98 := hts (.fieldLink RX4 98 "CutRows" "sealed" "Z") (by decide +kernel)
  refine lv_aload_n hx hb dX4_sealInput_0 rfl (lv_at hl 0 rfl) ?_
  refine z_get (C := RX4) (T := TX4) (N := 16) (v := .int (nI se)) hx hb hts hinX4 hown hK hM hB.1 8 hf_98 rfl rfl (by decide) rfl dX4_sealInput_1 ?_
  refine z_if_ne (tgt := 11) hx hb (by omega) dX4_sealInput_4 (by decide) (fun hc4 => ?_) (fun hc4 => ?_)
  · refine lv_iconst (v := nI 0) hx hb dX4_sealInput_11 rfl ?_
    refine lv_istore_n (lv' := [(1, .int (nI 0)), (0, .ref (X 80))]) hx hb dX4_sealInput_12 rfl hl (by decide) rfl (fun ls hl => ?_)
    refine lv_aload_n hx hb dX4_sealInput_13 rfl (lv_at hl 1 rfl) ?_
    refine lv_iconst (v := nI 1) hx hb dX4_sealInput_14 rfl ?_
    refine z_put (C := RX4) (T := TX4) (N := 16) (fs' := [.int (nI vars), .ref (X 81), .ref (X 82), .ref (X 84), .ref (X 85), .ref (X 83), .int (nI fil), .int (nI inp), .int (nI 1), .int (nI be), .int (nI ct), .ref (X (86 + sw)), .ref (X (87 - sw)), .ref (X 28), .ref (X 29), .ref (X 30)]) hx hb hts hinX4 tyX4 tyX4_ok nmX4 hown hK hM hB.1 8 hf_98 rfl rfl (by decide) rfl rfl rfl (Nat.le_of_ble_eq_true rfl) rfl dX4_sealInput_15 (fun H locs hM => ?_)
    refine lv_iload_n hx hb dX4_sealInput_18 rfl (lv_at hl 0 rfl) ?_
    rw [hQ]
    rw [hAe] at hM
    exact z_zret (by omega) hsz hx hb hr hlocks hK hM dX4_sealInput_19 (by simp only [op_seal]; exact ⟨congrArg nI (by omega), ⟨Z, used, cz, sw, C, St, by rw [← hct]; exact hB.put hX fil inp 1 be ct sw, ⟨hsw, hcz⟩, fun h => up_rd hX (hrd h), hV, hS, hPt, hzr⟩, up_a⟩)
  · refine lv_iconst (v := nI 1) hx hb dX4_sealInput_7 rfl ?_
    refine lv_goto (tgt := 12) hx hb dX4_sealInput_8 (by decide) ?_
    refine lv_istore_n (lv' := [(1, .int (nI 1)), (0, .ref (X 80))]) hx hb dX4_sealInput_12 rfl hl (by decide) rfl (fun ls hl => ?_)
    refine lv_aload_n hx hb dX4_sealInput_13 rfl (lv_at hl 1 rfl) ?_
    refine lv_iconst (v := nI 1) hx hb dX4_sealInput_14 rfl ?_
    refine z_put (C := RX4) (T := TX4) (N := 16) (fs' := [.int (nI vars), .ref (X 81), .ref (X 82), .ref (X 84), .ref (X 85), .ref (X 83), .int (nI fil), .int (nI inp), .int (nI 1), .int (nI be), .int (nI ct), .ref (X (86 + sw)), .ref (X (87 - sw)), .ref (X 28), .ref (X 29), .ref (X 30)]) hx hb hts hinX4 tyX4 tyX4_ok nmX4 hown hK hM hB.1 8 hf_98 rfl rfl (by decide) rfl rfl rfl (Nat.le_of_ble_eq_true rfl) rfl dX4_sealInput_15 (fun H locs hM => ?_)
    refine lv_iload_n hx hb dX4_sealInput_18 rfl (lv_at hl 0 rfl) ?_
    rw [hQ]
    rw [hAe] at hM
    exact z_zret (by omega) hsz hx hb hr hlocks hK hM dX4_sealInput_19 (by simp only [op_seal]; exact ⟨congrArg nI (by omega), ⟨Z, used, cz, sw, C, St, by rw [← hct]; exact hB.put hX fil inp 1 be ct sw, ⟨hsw, hcz⟩, fun h => up_rd hX (hrd h), hV, hS, hPt, hzr⟩, up_a⟩)

set_option maxRecDepth 100000 in
set_option maxHeartbeats 4000000 in
theorem c_combineStart (l : Launch) (Γ : zT) (G : zG) (sz : Nat) (X : Nat → Nat) (σ : AS)  (hX : XI X σ.1.1) (hI : AI σ) (hR : CRep Γ G X σ) : zMi l yX4_combineStart wsX4_combineStart (zR 3) Γ G sz [.ref (X 80)] (fun x G' => x = (op_start σ).1 ∧ CRep Γ G' X (op_start σ).2 ∧ frA X σ.1.1 G G') 0 0 := by
  obtain ⟨⟨vars, maxR, cells⟩, ⟨nr, inp, R⟩, ⟨fil, V⟩, ⟨se, be, S⟩, P, st, sg, gv, g, z⟩ := σ
  have hX : XI X vars := hX
  have hR0 := hR
  obtain ⟨Z, used, cz, sw, C, St, hB, ⟨hsw, hcz⟩, hrd, hV, hS, hPt, hzr⟩ := hR
  obtain ⟨ct, hct⟩ : ∃ ct, ct = (if anyBot R vars inp nr then 1 else 0) := ⟨_, rfl⟩
  rw [← hct] at hB
  have hct1 : ct ≤ 1 := by rw [hct]; split <;> omega
  obtain ⟨⟨i1, i2, i3, i4, i5⟩, ⟨j1, j2, j3, j4⟩, ⟨f1, f2⟩, ⟨s1, s2, s3⟩, p1, r1, r2, r3, r4, r5, r6⟩ := hI
  refine z_start (cc := cX4_combineStart) (maxL := 1) (ret := (some .boolean)) (by decide) rfl (Nat.le_of_ble_eq_true rfl) ?_
  intro p e s m args below meth c ls Q hQ hsz hx hb hr hml hown hts hlocks hnm hK hM hl
  obtain ⟨A, hAe⟩ : ∃ A, A = zA G s.heap.size := ⟨_, rfl⟩
  rw [← hAe] at hM
  have hl : lv_has ls 1 [(0, .ref (X 80))] := hl
  have hinX4 : ∀ w ∈ wsX40, w ∈ wsX4_combineStart := by decide +kernel
  have hf_51 := hts (.fieldLink RX4 51 "CutRows" "sum" "[LCutRows$Whole;") (by decide +kernel)
  have hf_98 := hts (.fieldLink RX4 98 "CutRows" "sealed" "Z") (by decide +kernel)
  have hf_113 := hts (.fieldLink RX4 113 "CutRows" "sumBegun" "Z") (by decide +kernel)
  refine lv_aload_n hx hb dX4_combineStart_0 rfl (lv_at hl 0 rfl) ?_
  refine z_get (C := RX4) (T := TX4) (N := 16) (v := .int (nI se)) hx hb hts hinX4 hown hK hM hB.1 8 hf_98 rfl rfl (by decide) rfl dX4_combineStart_1 ?_
  refine z_if_ne (tgt := 9) hx hb (by omega) dX4_combineStart_4 (by decide) (fun hc4 => ?_) (fun hc4 => ?_)
  · refine lv_aload_n hx hb dX4_combineStart_9 rfl (lv_at hl 0 rfl) ?_
    refine z_get (C := RX4) (T := TX4) (N := 16) (v := .ref (X (86 + sw))) hx hb hts hinX4 hown hK hM hB.1 11 hf_51 rfl rfl (by decide) rfl dX4_combineStart_10 ?_
    refine z_callv0 (va_runS (As := [.ref (X (86 + sw))]) (rest := []) ⟨hx, hb, hml, hown, hts⟩ (c_setAllZero l Γ G _ X vars Z (86 + sw) (vars + 1) (14 + 7 * sw) hX hB.2.1 (by omega) (fun G2 Z2 h => h.sm hsw) (fun k hk => ⟨by unfold vw; omega, by omega⟩)) (va_cwS 1 hts gX4_combineStart_X4_setAllZero rfl rfl rfl (by decide +kernel) ⟨Nat.le_of_ble_eq_true rfl, Nat.le_of_ble_eq_true rfl⟩) (zM.pre hK hM) rfl rfl hl.1 rfl (lv_room (Nat.le_of_ble_eq_true rfl)) dX4_combineStart_13 ⟨Nat.le_of_ble_eq_true rfl, Nat.le_of_ble_eq_true rfl⟩) hM (fun G13 H locs hp13 hM => ?_)
    obtain ⟨hf1, hC1⟩ := hp13
    have hB1 := hB.num hX hC1 hf1
    refine lv_aload_n hx hb dX4_combineStart_16 rfl (lv_at hl 0 rfl) ?_
    refine lv_iconst (v := nI 1) hx hb dX4_combineStart_17 rfl ?_
    refine z_put (C := RX4) (T := TX4) (N := 16) (fs' := [.int (nI vars), .ref (X 81), .ref (X 82), .ref (X 84), .ref (X 85), .ref (X 83), .int (nI fil), .int (nI inp), .int (nI se), .int (nI 1), .int (nI ct), .ref (X (86 + sw)), .ref (X (87 - sw)), .ref (X 28), .ref (X 29), .ref (X 30)]) hx hb hts hinX4 tyX4 tyX4_ok nmX4 hown hK hM hB1.1 9 hf_113 rfl rfl (by decide) rfl rfl rfl (Nat.le_of_ble_eq_true rfl) rfl dX4_combineStart_18 (fun H locs hM => ?_)
    refine lv_iconst (v := nI 1) hx hb dX4_combineStart_21 rfl ?_
    rw [hQ]
    rw [hAe] at hM
    exact z_zret (by omega) hsz hx hb hr hlocks hK hM dX4_combineStart_22 (by
          simp only [op_start]; rw [if_neg (by omega)]; exact ⟨rfl, ⟨_, used, cz, sw, C, St, by rw [← hct]; exact hB1.put hX fil inp se 1 ct sw, ⟨hsw, hcz⟩, fun h => up_rd hX (hf1.rd hX (hrd h)), fun k hk => (if_neg (by omega)).trans (hV k hk), fun _ k hk => if_pos (by omega), fun k hk => (if_neg (by omega)).trans (hPt k hk), fun h => (if_neg (by omega)).trans (hzr h)⟩, hf1.a.tr up_a⟩)
  · refine lv_iconst (v := nI 0) hx hb dX4_combineStart_7 rfl ?_
    rw [hQ]
    rw [hAe] at hM
    exact z_zret (by omega) hsz hx hb hr hlocks hK hM dX4_combineStart_8 (by simp only [op_start]; rw [if_pos (by omega)]; exact ⟨rfl, hR0, frA.rf⟩)

set_option maxRecDepth 100000 in
set_option maxHeartbeats 4000000 in
theorem c_refuted (l : Launch) (Γ : zT) (G : zG) (sz : Nat) (X : Nat → Nat) (σ : AS)  (hX : XI X σ.1.1) (hI : AI σ) (hR : CRep Γ G X σ) : zMi l yX4_refuted wsX4_refuted (zR 1) Γ G sz [.ref (X 80)] (fun x G' => x = op_refuted σ ∧ G' = G) 0 0 := by
  obtain ⟨⟨vars, maxR, cells⟩, ⟨nr, inp, R⟩, ⟨fil, V⟩, ⟨se, be, S⟩, P, st, sg, gv, g, z⟩ := σ
  have hX : XI X vars := hX
  have hR0 := hR
  obtain ⟨Z, used, cz, sw, C, St, hB, ⟨hsw, hcz⟩, hrd, hV, hS, hPt, hzr⟩ := hR
  obtain ⟨ct, hct⟩ : ∃ ct, ct = (if anyBot R vars inp nr then 1 else 0) := ⟨_, rfl⟩
  rw [← hct] at hB
  have hct1 : ct ≤ 1 := by rw [hct]; split <;> omega
  obtain ⟨⟨i1, i2, i3, i4, i5⟩, ⟨j1, j2, j3, j4⟩, ⟨f1, f2⟩, ⟨s1, s2, s3⟩, p1, r1, r2, r3, r4, r5, r6⟩ := hI
  refine z_start (cc := cX4_refuted) (maxL := 1) (ret := (some .boolean)) (by decide) rfl (Nat.le_of_ble_eq_true rfl) ?_
  intro p e s m args below meth c ls Q hQ hsz hx hb hr hml hown hts hlocks hnm hK hM hl
  obtain ⟨A, hAe⟩ : ∃ A, A = zA G s.heap.size := ⟨_, rfl⟩
  rw [← hAe] at hM
  have hl : lv_has ls 1 [(0, .ref (X 80))] := hl
  have hinX4 : ∀ w ∈ wsX40, w ∈ wsX4_refuted := by decide +kernel
  have hf_149 := hts (.fieldLink RX4 149 "CutRows" "contradicted" "Z") (by decide +kernel)
  refine lv_aload_n hx hb dX4_refuted_0 rfl (lv_at hl 0 rfl) ?_
  refine z_get (C := RX4) (T := TX4) (N := 16) (v := .int (nI ct)) hx hb hts hinX4 hown hK hM hB.1 10 hf_149 rfl rfl (by decide) rfl dX4_refuted_1 ?_
  rw [hQ]
  rw [hAe] at hM
  exact z_zret (by omega) hsz hx hb hr hlocks hK hM dX4_refuted_4 (⟨by rw [hct]; rfl, rfl⟩)

set_option maxRecDepth 100000 in
set_option maxHeartbeats 4000000 in
theorem c_rowCount (l : Launch) (Γ : zT) (G : zG) (sz : Nat) (X : Nat → Nat) (σ : AS)  (hX : XI X σ.1.1) (hI : AI σ) (hR : CRep Γ G X σ) : zMi l yX4_rowCount wsX4_rowCount (zR 1) Γ G sz [.ref (X 80)] (fun x G' => x = op_rows σ ∧ G' = G) 0 0 := by
  obtain ⟨⟨vars, maxR, cells⟩, ⟨nr, inp, R⟩, ⟨fil, V⟩, ⟨se, be, S⟩, P, st, sg, gv, g, z⟩ := σ
  have hX : XI X vars := hX
  have hR0 := hR
  obtain ⟨Z, used, cz, sw, C, St, hB, ⟨hsw, hcz⟩, hrd, hV, hS, hPt, hzr⟩ := hR
  obtain ⟨ct, hct⟩ : ∃ ct, ct = (if anyBot R vars inp nr then 1 else 0) := ⟨_, rfl⟩
  rw [← hct] at hB
  have hct1 : ct ≤ 1 := by rw [hct]; split <;> omega
  obtain ⟨⟨i1, i2, i3, i4, i5⟩, ⟨j1, j2, j3, j4⟩, ⟨f1, f2⟩, ⟨s1, s2, s3⟩, p1, r1, r2, r3, r4, r5, r6⟩ := hI
  refine z_start (cc := cX4_rowCount) (maxL := 1) (ret := (some .int)) (by decide) rfl (Nat.le_of_ble_eq_true rfl) ?_
  intro p e s m args below meth c ls Q hQ hsz hx hb hr hml hown hts hlocks hnm hK hM hl
  obtain ⟨A, hAe⟩ : ∃ A, A = zA G s.heap.size := ⟨_, rfl⟩
  rw [← hAe] at hM
  have hl : lv_has ls 1 [(0, .ref (X 80))] := hl
  have hinX4 : ∀ w ∈ wsX40, w ∈ wsX4_rowCount := by decide +kernel
  have hinX0 : ∀ w ∈ wsX00, w ∈ wsX4_rowCount := by decide +kernel
  have hf_22 := hts (.fieldLink RX4 22 "CutRows" "arena" "LCutRows$Arena;") (by decide +kernel)
  have hf_152 := hts (.fieldLink RX4 152 "CutRows$Arena" "rows" "I") (by decide +kernel)
  refine lv_aload_n hx hb dX4_rowCount_0 rfl (lv_at hl 0 rfl) ?_
  refine z_get (C := RX4) (T := TX4) (N := 16) (v := .ref (X 81)) hx hb hts hinX4 hown hK hM hB.1 1 hf_22 rfl rfl (by decide) rfl dX4_rowCount_1 ?_
  refine z_get (C := RX0) (T := TX0) (N := 6) (v := .int (nI nr)) hx hb hts hinX0 hown hK hM hB.2.2.1.1.1 5 hf_152 rfl rfl (by decide) rfl dX4_rowCount_4 ?_
  rw [hQ]
  rw [hAe] at hM
  exact z_iret hsz hx hb hr hlocks hK hM dX4_rowCount_7 (⟨rfl, rfl⟩)

set_option maxRecDepth 100000 in
set_option maxHeartbeats 4000000 in
theorem c_evalStart (l : Launch) (Γ : zT) (G : zG) (sz : Nat) (X : Nat → Nat) (σ : AS)  (hX : XI X σ.1.1) (hI : AI σ) (hR : CRep Γ G X σ) : zMi l yX4_evalStart wsX4_evalStart (zR 3) Γ G sz [.ref (X 80)] (fun x G' => x = (op_evalStart σ).1 ∧ CRep Γ G' X (op_evalStart σ).2 ∧ frA X σ.1.1 G G') 0 0 := by
  obtain ⟨⟨vars, maxR, cells⟩, ⟨nr, inp, R⟩, ⟨fil, V⟩, ⟨se, be, S⟩, P, st, sg, gv, g, z⟩ := σ
  have hX : XI X vars := hX
  have hR0 := hR
  obtain ⟨Z, used, cz, sw, C, St, hB, ⟨hsw, hcz⟩, hrd, hV, hS, hPt, hzr⟩ := hR
  obtain ⟨ct, hct⟩ : ∃ ct, ct = (if anyBot R vars inp nr then 1 else 0) := ⟨_, rfl⟩
  rw [← hct] at hB
  have hct1 : ct ≤ 1 := by rw [hct]; split <;> omega
  obtain ⟨⟨i1, i2, i3, i4, i5⟩, ⟨j1, j2, j3, j4⟩, ⟨f1, f2⟩, ⟨s1, s2, s3⟩, p1, r1, r2, r3, r4, r5, r6⟩ := hI
  refine z_start (cc := cX4_evalStart) (maxL := 1) (ret := (some .boolean)) (by decide) rfl (Nat.le_of_ble_eq_true rfl) ?_
  intro p e s m args below meth c ls Q hQ hsz hx hb hr hml hown hts hlocks hnm hK hM hl
  obtain ⟨A, hAe⟩ : ∃ A, A = zA G s.heap.size := ⟨_, rfl⟩
  rw [← hAe] at hM
  have hl : lv_has ls 1 [(0, .ref (X 80))] := hl
  have hinX4 : ∀ w ∈ wsX40, w ∈ wsX4_evalStart := by decide +kernel
  have hf_41 := hts (.fieldLink RX4 41 "CutRows" "point" "[LCutRows$Whole;") (by decide +kernel)
  refine lv_aload_n hx hb dX4_evalStart_0 rfl (lv_at hl 0 rfl) ?_
  refine z_get (C := RX4) (T := TX4) (N := 16) (v := .ref (X 85)) hx hb hts hinX4 hown hK hM hB.1 4 hf_41 rfl rfl (by decide) rfl dX4_evalStart_1 ?_
  refine z_callv0 (va_runS (As := [.ref (X 85)]) (rest := []) ⟨hx, hb, hml, hown, hts⟩ (c_setAllZero l Γ G _ X vars Z 85 vars 7 hX hB.2.1 (by omega) (fun G2 Z2 h => h.2.2.2.2.2.1) (fun k hk => ⟨by unfold vw; omega, by omega⟩)) (va_cwS 1 hts gX4_evalStart_X4_setAllZero rfl rfl rfl (by decide +kernel) ⟨Nat.le_of_ble_eq_true rfl, Nat.le_of_ble_eq_true rfl⟩) (zM.pre hK hM) rfl rfl hl.1 rfl (lv_room (Nat.le_of_ble_eq_true rfl)) dX4_evalStart_4 ⟨Nat.le_of_ble_eq_true rfl, Nat.le_of_ble_eq_true rfl⟩) hM (fun G4 H locs hp4 hM => ?_)
  obtain ⟨hf1, hC1⟩ := hp4
  have hB1 := hB.num hX hC1 hf1
  refine lv_iconst (v := nI 1) hx hb dX4_evalStart_7 rfl ?_
  rw [hQ]
  rw [hAe] at hM
  exact z_zret (by omega) hsz hx hb hr hlocks hK hM dX4_evalStart_8 (by
        simp only [op_evalStart]; exact ⟨trivial, ⟨_, used, cz, sw, C, St, by rw [← hct]; exact hB1, ⟨hsw, hcz⟩, fun h => hf1.rd hX (hrd h), fun k hk => (if_neg (by omega)).trans (hV k hk), fun h k hk => (if_neg (by omega)).trans (hS h k hk), fun k hk => if_pos (by omega), fun h => (if_neg (by omega)).trans (hzr h)⟩, hf1.a⟩)

set_option maxRecDepth 100000 in
set_option maxHeartbeats 4000000 in
theorem c_evalPoint (l : Launch) (Γ : zT) (G : zG) (sz : Nat) (X : Nat → Nat) (σ : AS) (var : Int32) (hX : XI X σ.1.1) (hI : AI σ) (hR : CRep Γ G X σ) : zMi l yX4_evalPoint wsX4_evalPoint (zR 2) Γ G sz [.ref (X 80), .int var] (fun x G' => x = (op_evalPoint var σ).1 ∧ CRep Γ G' X (op_evalPoint var σ).2 ∧ frA X σ.1.1 G G') 0 0 := by
  obtain ⟨⟨vars, maxR, cells⟩, ⟨nr, inp, R⟩, ⟨fil, V⟩, ⟨se, be, S⟩, P, st, sg, gv, g, z⟩ := σ
  have hX : XI X vars := hX
  have hR0 := hR
  obtain ⟨Z, used, cz, sw, C, St, hB, ⟨hsw, hcz⟩, hrd, hV, hS, hPt, hzr⟩ := hR
  obtain ⟨ct, hct⟩ : ∃ ct, ct = (if anyBot R vars inp nr then 1 else 0) := ⟨_, rfl⟩
  rw [← hct] at hB
  have hct1 : ct ≤ 1 := by rw [hct]; split <;> omega
  obtain ⟨⟨i1, i2, i3, i4, i5⟩, ⟨j1, j2, j3, j4⟩, ⟨f1, f2⟩, ⟨s1, s2, s3⟩, p1, r1, r2, r3, r4, r5, r6⟩ := hI
  refine z_start (cc := cX4_evalPoint) (maxL := 2) (ret := (some .boolean)) (by decide) rfl (Nat.le_of_ble_eq_true rfl) ?_
  intro p e s m args below meth c ls Q hQ hsz hx hb hr hml hown hts hlocks hnm hK hM hl
  obtain ⟨A, hAe⟩ : ∃ A, A = zA G s.heap.size := ⟨_, rfl⟩
  rw [← hAe] at hM
  have hl : lv_has ls 2 [(0, .ref (X 80)), (1, .int var)] := hl
  have hinX4 : ∀ w ∈ wsX40, w ∈ wsX4_evalPoint := by decide +kernel
  have hinX2 : ∀ w ∈ wsX20, w ∈ wsX4_evalPoint := by decide +kernel
  have hf_13 := hts (.fieldLink RX4 13 "CutRows" "vars" "I") (by decide +kernel)
  have hf_29 := hts (.fieldLink RX4 29 "CutRows" "register" "LCutRows$Register;") (by decide +kernel)
  have hf_41 := hts (.fieldLink RX4 41 "CutRows" "point" "[LCutRows$Whole;") (by decide +kernel)
  have hf_88 := hts (.fieldLink RX4 88 "CutRows$Register" "number" "LCutRows$Whole;") (by decide +kernel)
  refine lv_iload_n hx hb dX4_evalPoint_0 rfl (lv_at hl 1 rfl) ?_
  refine lv_if_lt (tgt := 22) hx hb dX4_evalPoint_1 (by decide) (fun hc1 => ?_) (fun hc1 => ?_)
  · refine lv_iconst (v := nI 0) hx hb dX4_evalPoint_22 rfl ?_
    rw [hQ]
    rw [hAe] at hM
    exact z_zret (by omega) hsz hx hb hr hlocks hK hM dX4_evalPoint_23 (by simp only [op_evalPoint]; rw [if_pos (Or.inl hc1)]; exact ⟨rfl, hR0, frA.rf⟩)
  · refine lv_iload_n hx hb dX4_evalPoint_4 rfl (lv_at hl 1 rfl) ?_
    refine lv_aload_n hx hb dX4_evalPoint_5 rfl (lv_at hl 0 rfl) ?_
    refine z_get (C := RX4) (T := TX4) (N := 16) (v := .int (nI vars)) hx hb hts hinX4 hown hK hM hB.1 0 hf_13 rfl rfl (by decide) rfl dX4_evalPoint_6 ?_
    refine lv_icmp_ge (tgt := 22) hx hb dX4_evalPoint_9 (by decide) (fun hc9 => ?_) (fun hc9 => ?_)
    · refine lv_iconst (v := nI 0) hx hb dX4_evalPoint_22 rfl ?_
      rw [hQ]
      rw [hAe] at hM
      exact z_zret (by omega) hsz hx hb hr hlocks hK hM dX4_evalPoint_23 (by simp only [op_evalPoint]; rw [if_pos (Or.inr (Or.inl hc9))]; exact ⟨rfl, hR0, frA.rf⟩)
    · refine lv_aload_n hx hb dX4_evalPoint_12 rfl (lv_at hl 0 rfl) ?_
      refine z_get (C := RX4) (T := TX4) (N := 16) (v := .ref (X 82)) hx hb hts hinX4 hown hK hM hB.1 2 hf_29 rfl rfl (by decide) rfl dX4_evalPoint_13 ?_
      refine z_calli0 (va_runV (As := []) (rest := []) ⟨hx, hb, hml, hown, hts⟩ (g_hasNumber l Γ G _ X vars Z hX hB.2.1 st sg gv hB.2.2.2 r1) (cwV 0 hts gX4_evalPoint_X2_hasNumber rfl rfl rfl (by decide +kernel) ⟨Nat.le_of_ble_eq_true rfl, Nat.le_of_ble_eq_true rfl⟩) (zM.preV hK hM hB.2.2.2 rfl rfl) rfl rfl hl.1 rfl (lv_room (Nat.le_of_ble_eq_true rfl)) dX4_evalPoint_16 ⟨Nat.le_of_ble_eq_true rfl, Nat.le_of_ble_eq_true rfl⟩) hM (fun r16 G16 H locs hp16 hM => ?_)
      obtain ⟨rfl, hGe⟩ := hp16
      rw [hGe] at hM
      refine lv_if_ne (tgt := 24) hx hb dX4_evalPoint_19 (by decide) (fun hc19 => ?_) (fun hc19 => ?_)
      · have hyes : st ≠ 0 := fun h9 => by rw [if_pos h9] at hc19; exact absurd rfl hc19
        obtain ⟨vn, hvn, rfl⟩ : ∃ j : Nat, j < 2 ^ 31 ∧ var = nI j := nI_of hc1
        have hvl : vn < vars := by rcases Nat.lt_or_ge vn vars with q | q; exact q; exact absurd ((nI_leI (by omega) hvn).mpr q) hc9
        refine lv_aload_n hx hb dX4_evalPoint_24 rfl (lv_at hl 0 rfl) ?_
        refine z_get (C := RX4) (T := TX4) (N := 16) (v := .ref (X 85)) hx hb hts hinX4 hown hK hM hB.1 4 hf_41 rfl rfl (by decide) rfl dX4_evalPoint_25 ?_
        refine lv_iload_n hx hb dX4_evalPoint_28 rfl (lv_at hl 1 rfl) ?_
        refine z_aldW hx hb hK hM hB.2.1.2.2.2.2.2.1 (by omega) (by omega) dX4_evalPoint_29 ?_
        refine lv_aload_n hx hb dX4_evalPoint_30 rfl (lv_at hl 0 rfl) ?_
        refine z_get (C := RX4) (T := TX4) (N := 16) (v := .ref (X 82)) hx hb hts hinX4 hown hK hM hB.1 2 hf_29 rfl rfl (by decide) rfl dX4_evalPoint_31 ?_
        refine z_get (C := RX2) (T := TX2) (N := 4) (v := .ref (X 31)) hx hb hts hinX2 hown hK hM hB.2.2.2 0 hf_88 rfl rfl (by decide) rfl dX4_evalPoint_34 ?_
        have wf : wrm (7 + vn) = 20 := by unfold wrm; rw [if_pos (by omega)]
        have hz9 : Z 31 = z := hzr hyes
        refine z_callv0 (va_runV (As := [.ref (X 31)]) (rest := []) ⟨hx, hb, hml, hown, hts⟩ (cw_copy l _ hX hB.2.1 (i := 7 + vn) (j := 31) (by unfold vw; omega) (by unfold vw; omega) (by omega) (by rw [wf, hz9]; exact r6)) (cwV 1 hts gX4_evalPoint_X3_copyFrom rfl rfl rfl (by decide +kernel) ⟨Nat.le_of_ble_eq_true rfl, Nat.le_of_ble_eq_true rfl⟩) (zM.preV hK hM (hB.2.1.o (7 + vn) (by unfold vw; omega)) rfl rfl) rfl rfl hl.1 rfl (lv_room (Nat.le_of_ble_eq_true rfl)) dX4_evalPoint_37 ⟨Nat.le_of_ble_eq_true rfl, Nat.le_of_ble_eq_true rfl⟩) hM (fun G37 H locs hp37 hM => ?_)
        have hw1 := hp37
        rw [hz9] at hw1
        have hB1 := hB.num hX hw1.1 (hw1.n (by unfold vw; omega) (by omega))
        refine lv_aload_n hx hb dX4_evalPoint_40 rfl (lv_at hl 0 rfl) ?_
        refine z_get (C := RX4) (T := TX4) (N := 16) (v := .ref (X 82)) hx hb hts hinX4 hown hK hM hB1.1 2 hf_29 rfl rfl (by decide) rfl dX4_evalPoint_41 ?_
        refine z_callv0 (va_runV (As := []) (rest := []) ⟨hx, hb, hml, hown, hts⟩ (g_finish l Γ G37 _ X vars _ hX hB1.2.1 st sg gv hB1.2.2.2) (cwV 0 hts gX4_evalPoint_X2_finish rfl rfl rfl (by decide +kernel) ⟨Nat.le_of_ble_eq_true rfl, Nat.le_of_ble_eq_true rfl⟩) (zM.preV hK hM hB1.2.2.2 rfl rfl) rfl rfl hl.1 rfl (lv_room (Nat.le_of_ble_eq_true rfl)) dX4_evalPoint_44 ⟨Nat.le_of_ble_eq_true rfl, Nat.le_of_ble_eq_true rfl⟩) hM (fun G44 H locs hp44 hM => ?_)
        obtain ⟨hf3, hG3⟩ := hp44
        have hB3 := hB1.fin hX hf3 hG3
        refine lv_iconst (v := nI 1) hx hb dX4_evalPoint_47 rfl ?_
        rw [hQ]
        rw [hAe] at hM
        exact z_zret (by omega) hsz hx hb hr hlocks hK hM dX4_evalPoint_48 (by
              have hneg : ¬ (nI vn < 0 ∨ nI vars ≤ nI vn ∨ st = 0) := by rintro (h | h | h); exact hc1 h; exact hc9 h; exact hyes h
              simp only [op_evalPoint]; rw [if_neg hneg, nI_clamp hvn]; exact ⟨rfl, ⟨_, used, cz, sw, C, St, by rw [← hct]; exact hB3, ⟨hsw, hcz⟩, fun h => absurd h (by decide), fun k hk => by rw [va_up_ne _ _ (by omega)]; exact hV k hk, fun h k hk => by rw [va_up_ne _ _ (by omega)]; exact hS h k hk, fun k hk => by by_cases hc : k = vn; subst hc; rw [va_up_self, va_up_self]; rw [va_up_ne _ _ (by omega), va_up_ne _ _ hc]; exact hPt k hk, fun _ => by rw [va_up_ne _ _ (by omega)]; exact hz9⟩, (hw1.n (by unfold vw; omega) (by omega)).a.tr (hf3.a (fun q9 h9 => by simp only [List.mem_cons, List.not_mem_nil, or_false] at h9; unfold vd vw; omega))⟩)
      · have hno : st = 0 := by by_cases h9 : st = 0; exact h9; rw [if_neg h9] at hc19; exact absurd hc19 (by decide)
        refine lv_iconst (v := nI 0) hx hb dX4_evalPoint_22 rfl ?_
        rw [hQ]
        rw [hAe] at hM
        exact z_zret (by omega) hsz hx hb hr hlocks hK hM dX4_evalPoint_23 (by simp only [op_evalPoint]; rw [if_pos (Or.inr (Or.inr hno))]; exact ⟨rfl, hR0, frA.rf⟩)

set_option maxRecDepth 100000 in
set_option maxHeartbeats 4000000 in
theorem c_endConstraint (l : Launch) (Γ : zT) (G : zG) (sz : Nat) (X : Nat → Nat) (σ : AS)  (hX : XI X σ.1.1) (hI : AI σ) (hR : CRep Γ G X σ) : zMi l yX4_endConstraint wsX4_endConstraint (zR 3) Γ G sz [.ref (X 80)] (fun x G' => x = (op_endCons σ).1 ∧ CRep Γ G' X (op_endCons σ).2 ∧ frA X σ.1.1 G G') 0 0 := by
  obtain ⟨⟨vars, maxR, cells⟩, ⟨nr, inp, R⟩, ⟨fil, V⟩, ⟨se, be, S⟩, P, st, sg, gv, g, z⟩ := σ
  have hX : XI X vars := hX
  have hR0 := hR
  obtain ⟨Z, used, cz, sw, C, St, hB, ⟨hsw, hcz⟩, hrd, hV, hS, hPt, hzr⟩ := hR
  obtain ⟨ct, hct⟩ : ∃ ct, ct = (if anyBot R vars inp nr then 1 else 0) := ⟨_, rfl⟩
  rw [← hct] at hB
  have hct1 : ct ≤ 1 := by rw [hct]; split <;> omega
  obtain ⟨⟨i1, i2, i3, i4, i5⟩, ⟨j1, j2, j3, j4⟩, ⟨f1, f2⟩, ⟨s1, s2, s3⟩, p1, r1, r2, r3, r4, r5, r6⟩ := hI
  refine z_start (cc := cX4_endConstraint) (maxL := 3) (ret := (some .int)) (by decide) rfl (Nat.le_of_ble_eq_true rfl) ?_
  intro p e s m args below meth c ls Q hQ hsz hx hb hr hml hown hts hlocks hnm hK hM hl
  obtain ⟨A, hAe⟩ : ∃ A, A = zA G s.heap.size := ⟨_, rfl⟩
  rw [← hAe] at hM
  have hl : lv_has ls 3 [(0, .ref (X 80))] := hl
  have hinX4 : ∀ w ∈ wsX40, w ∈ wsX4_endConstraint := by decide +kernel
  have hf_22 := hts (.fieldLink RX4 22 "CutRows" "arena" "LCutRows$Arena;") (by decide +kernel)
  have hf_37 := hts (.fieldLink RX4 37 "CutRows" "vector" "[LCutRows$Whole;") (by decide +kernel)
  have hf_85 := hts (.fieldLink RX4 85 "CutRows" "vectorSize" "I") (by decide +kernel)
  have hf_98 := hts (.fieldLink RX4 98 "CutRows" "sealed" "Z") (by decide +kernel)
  have hf_106 := hts (.fieldLink RX4 106 "CutRows" "inputRows" "I") (by decide +kernel)
  refine lv_aload_n hx hb dX4_endConstraint_0 rfl (lv_at hl 0 rfl) ?_
  refine z_get (C := RX4) (T := TX4) (N := 16) (v := .int (nI fil)) hx hb hts hinX4 hown hK hM hB.1 6 hf_85 rfl rfl (by decide) rfl dX4_endConstraint_1 ?_
  refine lv_aload_n hx hb dX4_endConstraint_4 rfl (lv_at hl 0 rfl) ?_
  refine z_get (C := RX4) (T := TX4) (N := 16) (v := .ref (X 84)) hx hb hts hinX4 hown hK hM hB.1 3 hf_37 rfl rfl (by decide) rfl dX4_endConstraint_5 ?_
  refine z_alenV hx hb hK hM hB.2.1.2.2.2.2.1 dX4_endConstraint_8 ?_
  refine z_icmp_ne (tgt := 16) hx hb (by omega) (by omega) dX4_endConstraint_9 (by decide) (fun hc9 => ?_) (fun hc9 => ?_)
  · refine lv_iconst (v := nI 0) hx hb dX4_endConstraint_16 rfl ?_
    refine lv_istore_n (lv' := [(1, .int (nI 0)), (0, .ref (X 80))]) hx hb dX4_endConstraint_17 rfl hl (by decide) rfl (fun ls hl => ?_)
    refine lv_aload_n hx hb dX4_endConstraint_18 rfl (lv_at hl 1 rfl) ?_
    refine lv_iconst (v := nI 0) hx hb dX4_endConstraint_19 rfl ?_
    refine z_put (C := RX4) (T := TX4) (N := 16) (fs' := [.int (nI vars), .ref (X 81), .ref (X 82), .ref (X 84), .ref (X 85), .ref (X 83), .int (nI 0), .int (nI inp), .int (nI se), .int (nI be), .int (nI ct), .ref (X (86 + sw)), .ref (X (87 - sw)), .ref (X 28), .ref (X 29), .ref (X 30)]) hx hb hts hinX4 tyX4 tyX4_ok nmX4 hown hK hM hB.1 6 hf_85 rfl rfl (by decide) rfl rfl rfl (Nat.le_of_ble_eq_true rfl) rfl dX4_endConstraint_20 (fun H locs hM => ?_)
    have hB1 := hB.put hX 0 inp se be ct sw
    obtain ⟨G1, hG1⟩ : ∃ G1, G1 = zup G (X 80) (coE X vars 0 inp se be ct sw) := ⟨_, rfl⟩
    have hM : zM Γ A s.heap G1 H locs := by rw [hG1]; exact hM
    rw [← hG1] at hB1
    have ha1 : frA X vars G G1 := by rw [hG1]; exact up_a
    have hrd1 : st = 1 → RD Γ G1 X gv g := fun h => by rw [hG1]; exact up_rd hX (hrd h)
    refine lv_aload_n hx hb dX4_endConstraint_23 rfl (lv_at hl 1 rfl) ?_
    refine z_get (C := RX4) (T := TX4) (N := 16) (v := .int (nI se)) hx hb hts hinX4 hown hK hM hB1.1 8 hf_98 rfl rfl (by decide) rfl dX4_endConstraint_24 ?_
    refine z_if_eq (tgt := 33) hx hb (by omega) dX4_endConstraint_27 (by decide) (fun hc27 => ?_) (fun hc27 => ?_)
    · refine lv_iload_n hx hb dX4_endConstraint_33 rfl (lv_at hl 0 rfl) ?_
      refine z_if_ne (tgt := 40) hx hb (by omega) dX4_endConstraint_34 (by decide) (fun hc34 => ?_) (fun hc34 => ?_)
      · exact absurd rfl hc34
      · refine lv_bipush (v := -2) hx hb dX4_endConstraint_37 rfl ?_
        rw [hQ]
        rw [hAe] at hM
        exact z_iret hsz hx hb hr hlocks hK hM dX4_endConstraint_39 (by simp only [op_endCons]; rw [if_neg (by omega), if_pos (by omega)]; exact ⟨rfl, ⟨Z, used, cz, sw, C, St, by rw [← hct]; exact hB1, ⟨hsw, hcz⟩, hrd1, fun k hk => by omega, hS, hPt, hzr⟩, ha1⟩)
    · refine lv_bipush (v := -3) hx hb dX4_endConstraint_30 rfl ?_
      rw [hQ]
      rw [hAe] at hM
      exact z_iret hsz hx hb hr hlocks hK hM dX4_endConstraint_32 (by simp only [op_endCons]; rw [if_pos (by omega)]; exact ⟨rfl, ⟨Z, used, cz, sw, C, St, by rw [← hct]; exact hB1, ⟨hsw, hcz⟩, hrd1, fun k hk => by omega, hS, hPt, hzr⟩, ha1⟩)
  · refine lv_iconst (v := nI 1) hx hb dX4_endConstraint_12 rfl ?_
    refine lv_goto (tgt := 17) hx hb dX4_endConstraint_13 (by decide) ?_
    refine lv_istore_n (lv' := [(1, .int (nI 1)), (0, .ref (X 80))]) hx hb dX4_endConstraint_17 rfl hl (by decide) rfl (fun ls hl => ?_)
    refine lv_aload_n hx hb dX4_endConstraint_18 rfl (lv_at hl 1 rfl) ?_
    refine lv_iconst (v := nI 0) hx hb dX4_endConstraint_19 rfl ?_
    refine z_put (C := RX4) (T := TX4) (N := 16) (fs' := [.int (nI vars), .ref (X 81), .ref (X 82), .ref (X 84), .ref (X 85), .ref (X 83), .int (nI 0), .int (nI inp), .int (nI se), .int (nI be), .int (nI ct), .ref (X (86 + sw)), .ref (X (87 - sw)), .ref (X 28), .ref (X 29), .ref (X 30)]) hx hb hts hinX4 tyX4 tyX4_ok nmX4 hown hK hM hB.1 6 hf_85 rfl rfl (by decide) rfl rfl rfl (Nat.le_of_ble_eq_true rfl) rfl dX4_endConstraint_20 (fun H locs hM => ?_)
    have hB1 := hB.put hX 0 inp se be ct sw
    obtain ⟨G1, hG1⟩ : ∃ G1, G1 = zup G (X 80) (coE X vars 0 inp se be ct sw) := ⟨_, rfl⟩
    have hM : zM Γ A s.heap G1 H locs := by rw [hG1]; exact hM
    rw [← hG1] at hB1
    have ha1 : frA X vars G G1 := by rw [hG1]; exact up_a
    have hrd1 : st = 1 → RD Γ G1 X gv g := fun h => by rw [hG1]; exact up_rd hX (hrd h)
    refine lv_aload_n hx hb dX4_endConstraint_23 rfl (lv_at hl 1 rfl) ?_
    refine z_get (C := RX4) (T := TX4) (N := 16) (v := .int (nI se)) hx hb hts hinX4 hown hK hM hB1.1 8 hf_98 rfl rfl (by decide) rfl dX4_endConstraint_24 ?_
    refine z_if_eq (tgt := 33) hx hb (by omega) dX4_endConstraint_27 (by decide) (fun hc27 => ?_) (fun hc27 => ?_)
    · refine lv_iload_n hx hb dX4_endConstraint_33 rfl (lv_at hl 0 rfl) ?_
      refine z_if_ne (tgt := 40) hx hb (by omega) dX4_endConstraint_34 (by decide) (fun hc34 => ?_) (fun hc34 => ?_)
      · refine lv_aload_n hx hb dX4_endConstraint_40 rfl (lv_at hl 1 rfl) ?_
        refine z_get (C := RX4) (T := TX4) (N := 16) (v := .ref (X 81)) hx hb hts hinX4 hown hK hM hB1.1 1 hf_22 rfl rfl (by decide) rfl dX4_endConstraint_41 ?_
        refine lv_aload_n hx hb dX4_endConstraint_44 rfl (lv_at hl 1 rfl) ?_
        refine z_get (C := RX4) (T := TX4) (N := 16) (v := .ref (X 84)) hx hb hts hinX4 hown hK hM hB1.1 3 hf_37 rfl rfl (by decide) rfl dX4_endConstraint_45 ?_
        have hse : se = 0 := by omega
        have hfil : fil = vars + 1 := by omega
        have hVa : ∀ k, k ≤ vars → Z (0 + k) = V k := fun k hk => by rw [Nat.zero_add]; exact hV k (by omega)
        have hnd : need (fun k => Z (0 + k)) (vars + 1) = need V (vars + 1) := need_congr (fun k hk => hVa k (by omega))
        refine z_calli0 (va_runV (As := [.ref (X 84)]) (rest := []) ⟨hx, hb, hml, hown, hts⟩ (a_keep l Γ G1 _ X vars hX maxR nr used cz R C St hB1.2.2.1 Z hB1.2.1 84 0 hB1.2.1.2.2.2.2.1 (fun k hk => by unfold vw; omega) (by unfold vd; omega) (by omega) (fun k hk => by rw [hVa k hk]; exact Nat.le_trans (f2 k (by omega)) (by decide))) (cwV 1 hts gX4_endConstraint_X0_keep rfl rfl rfl (by decide +kernel) ⟨Nat.le_of_ble_eq_true rfl, Nat.le_of_ble_eq_true rfl⟩) (zM.preV hK hM hB1.2.2.1.1.1 rfl rfl) rfl rfl hl.1 rfl (lv_room (Nat.le_of_ble_eq_true rfl)) dX4_endConstraint_48 ⟨Nat.le_of_ble_eq_true rfl, Nat.le_of_ble_eq_true rfl⟩) hM (fun r48 G48 H locs hp48 hM => ?_)
        obtain ⟨hf2, hp2⟩ := hp48
        rw [hnd] at hp2
        by_cases hno : nr = maxR ∨ cz - used < need V (vars + 1)
        · rw [if_pos hno] at hp2
          obtain ⟨hx5, hGe⟩ := hp2
          rw [hx5]
          rw [hGe] at hM
          refine lv_istore_n (lv' := [(2, .int (-4)), (1, .int (nI 1)), (0, .ref (X 80))]) hx hb dX4_endConstraint_51 rfl hl (by decide) rfl (fun ls hl => ?_)
          refine lv_iload_n hx hb dX4_endConstraint_52 rfl (lv_at hl 0 rfl) ?_
          refine lv_if_lt (tgt := 66) hx hb dX4_endConstraint_53 (by decide) (fun hc53 => ?_) (fun hc53 => ?_)
          · refine lv_iload_n hx hb dX4_endConstraint_66 rfl (lv_at hl 0 rfl) ?_
            rw [hQ]
            rw [hAe] at hM
            exact z_iret hsz hx hb hr hlocks hK hM dX4_endConstraint_67 (by
                  have hno2 : nr = maxR ∨ cells < need V (vars + 1) := by omega
                  simp only [op_endCons, op_store]; rw [if_neg (by omega), if_neg (by omega), if_pos hno2]; exact ⟨rfl, ⟨Z, used, cz, sw, C, St, by rw [← hct]; exact hB1, ⟨hsw, hcz⟩, hrd1, fun k hk => by omega, hS, hPt, hzr⟩, ha1⟩)
          · exact absurd (by decide) hc53
        · rw [if_neg hno] at hp2
          obtain ⟨hx5, C2, S2, hA2⟩ := hp2
          rw [hx5]
          have hB2 : CB Γ G48 X vars maxR (nr + 1) (used + need V (vars + 1)) cz (va_up R nr (fun k => Z (0 + k))) C2 S2 Z 0 inp se be ct sw st sg gv := ⟨hB1.1.fr hX hf2 (fun q9 h9 => by simp only [List.mem_cons, List.not_mem_nil, or_false] at h9; exact ⟨by unfold vd vw; omega, by omega⟩), hB1.2.1.same hX hf2 (fun q9 h9 => by simp only [List.mem_cons, List.not_mem_nil, or_false] at h9; omega), hA2, hB1.2.2.2.fr hX hf2 (fun q9 h9 => by simp only [List.mem_cons, List.not_mem_nil, or_false] at h9; exact ⟨by unfold vd vw; omega, by omega⟩)⟩
          have hupe : ∀ r k, r < nr + 1 → k ≤ vars → va_up R nr (fun k => Z (0 + k)) r k = va_up R nr V r k := fun r k h1 h2 => by by_cases hc : r = nr; rw [hc, va_up_self, va_up_self]; exact hVa k h2; rw [va_up_ne _ _ hc, va_up_ne _ _ hc]
          have hct0 : ct = (if anyBot (va_up R nr V) vars (inp + 1) (nr + 1) then 1 else 0) := by have := j3 hse; rw [hct, anyBot_inp (by omega), anyBot_inp (by omega)]
          refine lv_istore_n (lv' := [(2, .int (nI nr)), (1, .int (nI 1)), (0, .ref (X 80))]) hx hb dX4_endConstraint_51 rfl hl (by decide) rfl (fun ls hl => ?_)
          refine lv_iload_n hx hb dX4_endConstraint_52 rfl (lv_at hl 0 rfl) ?_
          refine z_if_ltN hx hb (by omega) dX4_endConstraint_53 (tgt := 66) (by decide) ?_
          refine lv_aload_n hx hb dX4_endConstraint_56 rfl (lv_at hl 2 rfl) ?_
          refine lv_dup hx hb dX4_endConstraint_57 rfl ?_
          refine z_get (C := RX4) (T := TX4) (N := 16) (v := .int (nI inp)) hx hb hts hinX4 hown hK hM hB2.1 7 hf_106 rfl rfl (by decide) rfl dX4_endConstraint_58 ?_
          refine lv_iconst (v := nI 1) hx hb dX4_endConstraint_61 rfl ?_
          refine z_iadd hx hb dX4_endConstraint_62 ?_
          refine z_put (C := RX4) (T := TX4) (N := 16) (fs' := [.int (nI vars), .ref (X 81), .ref (X 82), .ref (X 84), .ref (X 85), .ref (X 83), .int (nI 0), .int (nI (inp + 1)), .int (nI se), .int (nI be), .int (nI ct), .ref (X (86 + sw)), .ref (X (87 - sw)), .ref (X 28), .ref (X 29), .ref (X 30)]) hx hb hts hinX4 tyX4 tyX4_ok nmX4 hown hK hM hB2.1 7 hf_106 rfl rfl (by decide) rfl rfl rfl (Nat.le_of_ble_eq_true rfl) rfl dX4_endConstraint_63 (fun H locs hM => ?_)
          refine lv_iload_n hx hb dX4_endConstraint_66 rfl (lv_at hl 0 rfl) ?_
          rw [hQ]
          rw [hAe] at hM
          exact z_iret hsz hx hb hr hlocks hK hM dX4_endConstraint_67 (by
                have hno2 : ¬ (nr = maxR ∨ cells < need V (vars + 1)) := by omega
                simp only [op_endCons, op_store]; rw [if_neg (by omega), if_neg (by omega), if_neg hno2]; exact ⟨rfl, ⟨Z, _, cz, sw, C2, S2, (hB2.put hX 0 (inp + 1) se be ct sw).congr hupe hct0, ⟨hsw, by omega⟩, fun h => up_rd hX ((hrd1 h).fr hX hf2 (fun q9 h9 => by simp only [List.mem_cons, List.not_mem_nil, or_false] at h9; exact ⟨by unfold vd vw; omega, by omega⟩)), fun k hk => by omega, hS, hPt, hzr⟩, (ha1.tr (hf2.a (fun q9 h9 => by simp only [List.mem_cons, List.not_mem_nil, or_false] at h9; unfold vd vw; omega))).tr up_a⟩)
      · exact absurd hc34 (by decide)
    · refine lv_bipush (v := -3) hx hb dX4_endConstraint_30 rfl ?_
      rw [hQ]
      rw [hAe] at hM
      exact z_iret hsz hx hb hr hlocks hK hM dX4_endConstraint_32 (by simp only [op_endCons]; rw [if_pos (by omega)]; exact ⟨rfl, ⟨Z, used, cz, sw, C, St, by rw [← hct]; exact hB1, ⟨hsw, hcz⟩, hrd1, fun k hk => by omega, hS, hPt, hzr⟩, ha1⟩)

set_option maxRecDepth 100000 in
set_option maxHeartbeats 4000000 in
theorem c_combineEnd (l : Launch) (Γ : zT) (G : zG) (sz : Nat) (X : Nat → Nat) (σ : AS)  (hX : XI X σ.1.1) (hI : AI σ) (hR : CRep Γ G X σ) : zMi l yX4_combineEnd wsX4_combineEnd (zR 5) Γ G sz [.ref (X 80)] (fun x G' => x = (op_end σ).1 ∧ CRep Γ G' X (op_end σ).2 ∧ frA X σ.1.1 G G') 0 0 := by
  obtain ⟨⟨vars, maxR, cells⟩, ⟨nr, inp, R⟩, ⟨fil, V⟩, ⟨se, be, S⟩, P, st, sg, gv, g, z⟩ := σ
  have hX : XI X vars := hX
  have hR0 := hR
  obtain ⟨Z, used, cz, sw, C, St, hB, ⟨hsw, hcz⟩, hrd, hV, hS, hPt, hzr⟩ := hR
  obtain ⟨ct, hct⟩ : ∃ ct, ct = (if anyBot R vars inp nr then 1 else 0) := ⟨_, rfl⟩
  rw [← hct] at hB
  have hct1 : ct ≤ 1 := by rw [hct]; split <;> omega
  obtain ⟨⟨i1, i2, i3, i4, i5⟩, ⟨j1, j2, j3, j4⟩, ⟨f1, f2⟩, ⟨s1, s2, s3⟩, p1, r1, r2, r3, r4, r5, r6⟩ := hI
  refine z_start (cc := cX4_combineEnd) (maxL := 2) (ret := (some .int)) (by decide) rfl (Nat.le_of_ble_eq_true rfl) ?_
  intro p e s m args below meth c ls Q hQ hsz hx hb hr hml hown hts hlocks hnm hK hM hl
  obtain ⟨A, hAe⟩ : ∃ A, A = zA G s.heap.size := ⟨_, rfl⟩
  rw [← hAe] at hM
  have hl : lv_has ls 2 [(0, .ref (X 80))] := hl
  have hinX4 : ∀ w ∈ wsX40, w ∈ wsX4_combineEnd := by decide +kernel
  have hf_51 := hts (.fieldLink RX4 51 "CutRows" "sum" "[LCutRows$Whole;") (by decide +kernel)
  have hf_113 := hts (.fieldLink RX4 113 "CutRows" "sumBegun" "Z") (by decide +kernel)
  refine lv_aload_n hx hb dX4_combineEnd_0 rfl (lv_at hl 0 rfl) ?_
  refine z_get (C := RX4) (T := TX4) (N := 16) (v := .int (nI be)) hx hb hts hinX4 hown hK hM hB.1 9 hf_113 rfl rfl (by decide) rfl dX4_combineEnd_1 ?_
  refine z_if_ne (tgt := 10) hx hb (by omega) dX4_combineEnd_4 (by decide) (fun hc4 => ?_) (fun hc4 => ?_)
  · refine lv_aload_n hx hb dX4_combineEnd_10 rfl (lv_at hl 0 rfl) ?_
    refine lv_aload_n hx hb dX4_combineEnd_11 rfl (lv_at hl 0 rfl) ?_
    refine z_get (C := RX4) (T := TX4) (N := 16) (v := .ref (X (86 + sw))) hx hb hts hinX4 hown hK hM hB.1 11 hf_51 rfl rfl (by decide) rfl dX4_combineEnd_12 ?_
    have hbe1 : be = 1 := by omega
    have hF48 := s3 hbe1
    have hFe : ∀ k, k ≤ vars → Z (14 + 7 * sw + k) = S k := hS hbe1
    have hnd : need (fun k => Z (14 + 7 * sw + k)) (vars + 1) = need S (vars + 1) := need_congr (fun k hk => hFe k (by omega))
    have hbe : bot (fun k => Z (14 + 7 * sw + k)) vars = bot S vars := bot_congr hFe
    refine z_calli0 (va_runV (As := [.ref (X (86 + sw))]) (rest := []) ⟨hx, hb, hml, hown, hts⟩ (c_keepMade l Γ G _ X vars maxR nr used cz R C St Z fil inp se be ct sw st sg gv hX hB (86 + sw) (14 + 7 * sw) (fun G2 Z2 h => h.sm hsw) (fun k hk => by unfold vw; omega) (by unfold vd; omega) (by omega) (fun k hk => by rw [hFe k hk]; exact hF48 k hk)) (cwV 1 hts gX4_combineEnd_X4_keepMade rfl rfl rfl (by decide +kernel) ⟨Nat.le_of_ble_eq_true rfl, Nat.le_of_ble_eq_true rfl⟩) (zM.preV hK hM hB.1 rfl rfl) rfl rfl hl.1 rfl (lv_room (Nat.le_of_ble_eq_true rfl)) dX4_combineEnd_15 ⟨Nat.le_of_ble_eq_true rfl, Nat.le_of_ble_eq_true rfl⟩) hM (fun r15 G15 H locs hp15 hM => ?_)
    obtain ⟨hf2, hp2⟩ := hp15
    rw [hnd, hbe] at hp2
    by_cases hno : nr = maxR ∨ cz - used < need S (vars + 1)
    · rw [if_pos hno] at hp2
      obtain ⟨hx5, hGe⟩ := hp2
      rw [hx5]
      rw [hGe] at hM
      refine lv_istore_n (lv' := [(1, .int (-4)), (0, .ref (X 80))]) hx hb dX4_combineEnd_18 rfl hl (by decide) rfl (fun ls hl => ?_)
      refine lv_iload_n hx hb dX4_combineEnd_19 rfl (lv_at hl 0 rfl) ?_
      refine lv_if_lt (tgt := 28) hx hb dX4_combineEnd_20 (by decide) (fun hc20 => ?_) (fun hc20 => ?_)
      · refine lv_iload_n hx hb dX4_combineEnd_28 rfl (lv_at hl 0 rfl) ?_
        rw [hQ]
        rw [hAe] at hM
        exact z_iret hsz hx hb hr hlocks hK hM dX4_combineEnd_29 (by
              have hno2 : nr = maxR ∨ cells < need S (vars + 1) := by omega
              simp only [op_end, op_store]; rw [if_neg (by omega), if_pos hno2]; exact ⟨rfl, hR0, frA.rf⟩)
      · exact absurd (by decide) hc20
    · rw [if_neg hno] at hp2
      obtain ⟨hx5, C2, S2, hB2⟩ := hp2
      rw [hx5]
      have hupe : ∀ r k, r < nr + 1 → k ≤ vars → va_up R nr (fun k => Z (14 + 7 * sw + k)) r k = va_up R nr S r k := fun r k h1 h2 => by by_cases hc : r = nr; rw [hc, va_up_self, va_up_self]; exact hFe k h2; rw [va_up_ne _ _ hc, va_up_ne _ _ hc]
      have hct0 : (if bot S vars then 1 else ct) = (if anyBot (va_up R nr S) vars inp (nr + 1) then 1 else 0) := by rw [anyBot_c j2, hct]
      refine lv_istore_n (lv' := [(1, .int (nI nr)), (0, .ref (X 80))]) hx hb dX4_combineEnd_18 rfl hl (by decide) rfl (fun ls hl => ?_)
      refine lv_iload_n hx hb dX4_combineEnd_19 rfl (lv_at hl 0 rfl) ?_
      refine z_if_ltN hx hb (by omega) dX4_combineEnd_20 (tgt := 28) (by decide) ?_
      refine lv_aload_n hx hb dX4_combineEnd_23 rfl (lv_at hl 1 rfl) ?_
      refine lv_iconst (v := nI 0) hx hb dX4_combineEnd_24 rfl ?_
      refine z_put (C := RX4) (T := TX4) (N := 16) (fs' := [.int (nI vars), .ref (X 81), .ref (X 82), .ref (X 84), .ref (X 85), .ref (X 83), .int (nI fil), .int (nI inp), .int (nI se), .int (nI 0), .int (nI (if bot S vars then 1 else ct)), .ref (X (86 + sw)), .ref (X (87 - sw)), .ref (X 28), .ref (X 29), .ref (X 30)]) hx hb hts hinX4 tyX4 tyX4_ok nmX4 hown hK hM hB2.1 9 hf_113 rfl rfl (by decide) rfl rfl rfl (Nat.le_of_ble_eq_true rfl) rfl dX4_combineEnd_25 (fun H locs hM => ?_)
      refine lv_iload_n hx hb dX4_combineEnd_28 rfl (lv_at hl 0 rfl) ?_
      rw [hQ]
      rw [hAe] at hM
      exact z_iret hsz hx hb hr hlocks hK hM dX4_combineEnd_29 (by
            have hno2 : ¬ (nr = maxR ∨ cells < need S (vars + 1)) := by omega
            simp only [op_end, op_store]; rw [if_neg (by omega), if_neg hno2]; exact ⟨rfl, ⟨Z, _, cz, sw, C2, S2, (hB2.put hX fil inp se 0 _ sw).congr hupe hct0, ⟨hsw, by omega⟩, fun h => up_rd hX ((hrd h).fr hX hf2 (fun q9 h9 => by simp only [List.mem_cons, List.not_mem_nil, or_false] at h9; exact ⟨by unfold vd vw; omega, by omega⟩)), hV, fun h => absurd h (by decide), hPt, hzr⟩, (hf2.a (fun q9 h9 => by simp only [List.mem_cons, List.not_mem_nil, or_false] at h9; unfold vd vw; omega)).tr up_a⟩)
  · refine lv_bipush (v := -7) hx hb dX4_combineEnd_7 rfl ?_
    rw [hQ]
    rw [hAe] at hM
    exact z_iret hsz hx hb hr hlocks hK hM dX4_combineEnd_9 (by simp only [op_end]; rw [if_pos (by omega)]; exact ⟨rfl, hR0, frA.rf⟩)

set_option maxRecDepth 100000 in
set_option maxHeartbeats 4000000 in
theorem c_combineAdd (l : Launch) (Γ : zT) (G : zG) (sz : Nat) (X : Nat → Nat) (σ : AS) (row : Int32) (hX : XI X σ.1.1) (hI : AI σ) (hR : CRep Γ G X σ) : zMi l yX4_combineAdd wsX4_combineAdd (zR 5) Γ G sz [.ref (X 80), .int row] (fun x G' => x = (op_add row σ).1 ∧ CRep Γ G' X (op_add row σ).2 ∧ frA X σ.1.1 G G') 0 0 := by
  obtain ⟨⟨vars, maxR, cells⟩, ⟨nr, inp, R⟩, ⟨fil, V⟩, ⟨se, be, S⟩, P, st, sg, gv, g, z⟩ := σ
  have hX : XI X vars := hX
  have hR0 := hR
  obtain ⟨Z, used, cz, sw, C, St, hB, ⟨hsw, hcz⟩, hrd, hV, hS, hPt, hzr⟩ := hR
  obtain ⟨ct, hct⟩ : ∃ ct, ct = (if anyBot R vars inp nr then 1 else 0) := ⟨_, rfl⟩
  rw [← hct] at hB
  have hct1 : ct ≤ 1 := by rw [hct]; split <;> omega
  obtain ⟨⟨i1, i2, i3, i4, i5⟩, ⟨j1, j2, j3, j4⟩, ⟨f1, f2⟩, ⟨s1, s2, s3⟩, p1, r1, r2, r3, r4, r5, r6⟩ := hI
  refine z_start (cc := cX4_combineAdd) (maxL := 3) (ret := (some .int)) (by decide) rfl (Nat.le_of_ble_eq_true rfl) ?_
  intro p e s m args below meth c ls Q hQ hsz hx hb hr hml hown hts hlocks hnm hK hM hl
  obtain ⟨A, hAe⟩ : ∃ A, A = zA G s.heap.size := ⟨_, rfl⟩
  rw [← hAe] at hM
  have hl : lv_has ls 3 [(0, .ref (X 80)), (1, .int row)] := hl
  have hinX4 : ∀ w ∈ wsX40, w ∈ wsX4_combineAdd := by decide +kernel
  have hinX2 : ∀ w ∈ wsX20, w ∈ wsX4_combineAdd := by decide +kernel
  have hinX3 : ∀ w ∈ wsX30, w ∈ wsX4_combineAdd := by decide +kernel
  have hf_22 := hts (.fieldLink RX4 22 "CutRows" "arena" "LCutRows$Arena;") (by decide +kernel)
  have hf_29 := hts (.fieldLink RX4 29 "CutRows" "register" "LCutRows$Register;") (by decide +kernel)
  have hf_51 := hts (.fieldLink RX4 51 "CutRows" "sum" "[LCutRows$Whole;") (by decide +kernel)
  have hf_54 := hts (.fieldLink RX4 54 "CutRows" "draft" "[LCutRows$Whole;") (by decide +kernel)
  have hf_88 := hts (.fieldLink RX4 88 "CutRows$Register" "number" "LCutRows$Whole;") (by decide +kernel)
  have hf_113 := hts (.fieldLink RX4 113 "CutRows" "sumBegun" "Z") (by decide +kernel)
  have hf_123 := hts (.fieldLink RX4 123 "CutRows$Whole" "sign" "I") (by decide +kernel)
  refine lv_aload_n hx hb dX4_combineAdd_0 rfl (lv_at hl 0 rfl) ?_
  refine z_get (C := RX4) (T := TX4) (N := 16) (v := .int (nI be)) hx hb hts hinX4 hown hK hM hB.1 9 hf_113 rfl rfl (by decide) rfl dX4_combineAdd_1 ?_
  refine z_if_ne (tgt := 10) hx hb (by omega) dX4_combineAdd_4 (by decide) (fun hc4 => ?_) (fun hc4 => ?_)
  · refine lv_aload_n hx hb dX4_combineAdd_10 rfl (lv_at hl 0 rfl) ?_
    refine z_get (C := RX4) (T := TX4) (N := 16) (v := .ref (X 81)) hx hb hts hinX4 hown hK hM hB.1 1 hf_22 rfl rfl (by decide) rfl dX4_combineAdd_11 ?_
    refine lv_iload_n hx hb dX4_combineAdd_14 rfl (lv_at hl 1 rfl) ?_
    refine z_calli0 (va_runV (As := [.int row]) (rest := []) ⟨hx, hb, hml, hown, hts⟩ (a_has l Γ G _ X vars hX maxR nr used cz R C St hB.2.2.1 row) (cwV 1 hts gX4_combineAdd_X0_has rfl rfl rfl (by decide +kernel) ⟨Nat.le_of_ble_eq_true rfl, Nat.le_of_ble_eq_true rfl⟩) (zM.preV hK hM hB.2.2.1.1.1 rfl rfl) rfl rfl hl.1 rfl (lv_room (Nat.le_of_ble_eq_true rfl)) dX4_combineAdd_15 ⟨Nat.le_of_ble_eq_true rfl, Nat.le_of_ble_eq_true rfl⟩) hM (fun r15 G15 H locs hp15 hM => ?_)
    obtain ⟨rfl, hGe⟩ := hp15
    rw [hGe] at hM
    refine lv_if_ne (tgt := 24) hx hb dX4_combineAdd_18 (by decide) (fun hc18 => ?_) (fun hc18 => ?_)
    · have hyes : ¬ (row < 0 ∨ nI nr ≤ row) := fun h9 => by rw [if_pos h9] at hc18; exact absurd rfl hc18
      obtain ⟨rn, hrn31, rfl⟩ : ∃ j : Nat, j < 2 ^ 31 ∧ row = nI j := nI_of (fun h9 => hyes (Or.inl h9))
      have hrn : rn < nr := by rcases Nat.lt_or_ge rn nr with q | q; exact q; exact absurd (Or.inr ((nI_leI (by omega) hrn31).mpr q)) hyes
      refine lv_aload_n hx hb dX4_combineAdd_24 rfl (lv_at hl 0 rfl) ?_
      refine z_get (C := RX4) (T := TX4) (N := 16) (v := .ref (X 82)) hx hb hts hinX4 hown hK hM hB.1 2 hf_29 rfl rfl (by decide) rfl dX4_combineAdd_25 ?_
      refine z_calli0 (va_runV (As := []) (rest := []) ⟨hx, hb, hml, hown, hts⟩ (g_hasNumber l Γ G _ X vars Z hX hB.2.1 st sg gv hB.2.2.2 r1) (cwV 0 hts gX4_combineAdd_X2_hasNumber rfl rfl rfl (by decide +kernel) ⟨Nat.le_of_ble_eq_true rfl, Nat.le_of_ble_eq_true rfl⟩) (zM.preV hK hM hB.2.2.2 rfl rfl) rfl rfl hl.1 rfl (lv_room (Nat.le_of_ble_eq_true rfl)) dX4_combineAdd_28 ⟨Nat.le_of_ble_eq_true rfl, Nat.le_of_ble_eq_true rfl⟩) hM (fun r28 G28 H locs hp28 hM => ?_)
      obtain ⟨rfl, hGe⟩ := hp28
      rw [hGe] at hM
      refine lv_if_eq (tgt := 47) hx hb dX4_combineAdd_31 (by decide) (fun hc31 => ?_) (fun hc31 => ?_)
      · have hn0 : st = 0 := by by_cases h9 : st = 0; exact h9; rw [if_neg h9] at hc31; exact absurd hc31 (by decide)
        refine lv_bipush (v := -6) hx hb dX4_combineAdd_47 rfl ?_
        rw [hQ]
        rw [hAe] at hM
        exact z_iret hsz hx hb hr hlocks hK hM dX4_combineAdd_49 (by simp only [op_add]; rw [if_neg (by omega), if_neg hyes, if_pos (Or.inl hn0)]; exact ⟨rfl, hR0, frA.rf⟩)
      · have hn0 : st ≠ 0 := fun h9 => by rw [if_pos h9] at hc31; exact absurd rfl hc31
        have hz9 : Z 31 = z := hzr hn0
        refine lv_aload_n hx hb dX4_combineAdd_34 rfl (lv_at hl 0 rfl) ?_
        refine z_get (C := RX4) (T := TX4) (N := 16) (v := .ref (X 82)) hx hb hts hinX4 hown hK hM hB.1 2 hf_29 rfl rfl (by decide) rfl dX4_combineAdd_35 ?_
        refine z_get (C := RX2) (T := TX2) (N := 4) (v := .ref (X 31)) hx hb hts hinX2 hown hK hM hB.2.2.2 0 hf_88 rfl rfl (by decide) rfl dX4_combineAdd_38 ?_
        refine z_get (C := RX3) (T := TX3) (N := 3) (v := .int (sgI (Z 31))) hx hb hts hinX3 hown hK hM (hB.2.1.o 31 (by unfold vw; omega)) 2 hf_123 rfl rfl (by decide) rfl dX4_combineAdd_41 ?_
        refine lv_if_ge (tgt := 50) hx hb dX4_combineAdd_44 (by decide) (fun hc44 => ?_) (fun hc44 => ?_)
        · have hzn : ¬ z < 0 := fun h9 => by rw [hz9] at hc44; exact Int32.not_lt.mpr hc44 (sgI_lt.mpr h9)
          refine lv_aload_n hx hb dX4_combineAdd_50 rfl (lv_at hl 0 rfl) ?_
          refine lv_iload_n hx hb dX4_combineAdd_51 rfl (lv_at hl 1 rfl) ?_
          have hbe1 : be = 1 := by omega
          have hSe := hS hbe1
          have hS48 : ∀ k, k ≤ vars → nl (Z (14 + 7 * sw + k)).natAbs ≤ 48 := fun k hk => by rw [hSe k hk]; exact s3 hbe1 k hk
          refine z_calli0 (va_runV (As := [.int (nI rn)]) (rest := []) ⟨hx, hb, hml, hown, hts⟩ (c_draftSumWith l Γ G _ X vars maxR nr used cz R C St Z fil inp se be ct sw st sg gv hX hB hsw rn hrn hS48) (cwV 1 hts gX4_combineAdd_X4_draftSumWith rfl rfl rfl (by decide +kernel) ⟨Nat.le_of_ble_eq_true rfl, Nat.le_of_ble_eq_true rfl⟩) (zM.preV hK hM hB.1 rfl rfl) rfl rfl hl.1 rfl (lv_room (Nat.le_of_ble_eq_true rfl)) dX4_combineAdd_52 ⟨Nat.le_of_ble_eq_true rfl, Nat.le_of_ble_eq_true rfl⟩) hM (fun r52 G52 H locs hp52 hM => ?_)
          obtain ⟨hf1, Z1, hC1, k1, h1⟩ := hp52
          have hFe : ∀ k, k < vars + 1 → (fun k => Z (14 + 7 * sw + k) + Z 31 * R rn k) k = (fun k => S k + z * R rn k) k := fun k hk => by show Z (14 + 7 * sw + k) + Z 31 * R rn k = _; rw [hSe k (by omega), hz9]
          rw [fit48_congr hFe] at h1
          have hB1 := hB.num hX hC1 hf1
          have hrd1 : st = 1 → RD Γ G52 X gv g := fun h => hf1.rd hX (hrd h)
          rcases hfit : fit48 (fun k => S k + z * R rn k) (vars + 1) with _ | _
          · rw [hfit, if_neg (by decide)] at h1
            rw [h1]
            refine z_if_ne (tgt := 61) hx hb (by omega) dX4_combineAdd_55 (by decide) (fun hc55 => ?_) (fun hc55 => ?_)
            · exact absurd rfl hc55
            · refine lv_bipush (v := -4) hx hb dX4_combineAdd_58 rfl ?_
              rw [hQ]
              rw [hAe] at hM
              exact z_iret hsz hx hb hr hlocks hK hM dX4_combineAdd_60 (by
                    simp only [op_add]; rw [if_neg (by omega), if_neg hyes, if_neg (by rintro (h | h); exact hn0 h; exact hzn h), nI_clamp hrn31, hfit]; rw [if_neg (by decide)]; exact ⟨rfl, ⟨Z1, used, cz, sw, C, St, by rw [← hct]; exact hB1, ⟨hsw, hcz⟩, hrd1, fun k hk => by rw [k1 k (by omega) (by omega)]; exact hV k hk, fun h k hk => by rw [k1 _ (by omega) (by omega)]; exact hS h k hk, fun k hk => by rw [k1 _ (by omega) (by omega)]; exact hPt k hk, fun h => by rw [k1 _ (by omega) (by omega)]; exact hzr h⟩, hf1.a⟩)
          · rw [hfit, if_pos rfl] at h1
            obtain ⟨h1a, h1b⟩ := h1
            rw [h1a]
            refine z_if_ne (tgt := 61) hx hb (by omega) dX4_combineAdd_55 (by decide) (fun hc55 => ?_) (fun hc55 => ?_)
            · refine lv_aload_n hx hb dX4_combineAdd_61 rfl (lv_at hl 0 rfl) ?_
              refine z_get (C := RX4) (T := TX4) (N := 16) (v := .ref (X (86 + sw))) hx hb hts hinX4 hown hK hM hB1.1 11 hf_51 rfl rfl (by decide) rfl dX4_combineAdd_62 ?_
              refine lv_astore_n (lv' := [(2, .ref (X (86 + sw))), (0, .ref (X 80)), (1, .int (nI rn))]) hx hb dX4_combineAdd_65 rfl hl (by decide) rfl (fun ls hl => ?_)
              refine lv_aload_n hx hb dX4_combineAdd_66 rfl (lv_at hl 1 rfl) ?_
              refine lv_aload_n hx hb dX4_combineAdd_67 rfl (lv_at hl 1 rfl) ?_
              refine z_get (C := RX4) (T := TX4) (N := 16) (v := .ref (X (87 - sw))) hx hb hts hinX4 hown hK hM hB1.1 12 hf_54 rfl rfl (by decide) rfl dX4_combineAdd_68 ?_
              refine z_put (C := RX4) (T := TX4) (N := 16) (fs' := [.int (nI vars), .ref (X 81), .ref (X 82), .ref (X 84), .ref (X 85), .ref (X 83), .int (nI fil), .int (nI inp), .int (nI se), .int (nI be), .int (nI ct), .ref (X (87 - sw)), .ref (X (87 - sw)), .ref (X 28), .ref (X 29), .ref (X 30)]) hx hb hts hinX4 tyX4 tyX4_ok nmX4 hown hK hM hB1.1 11 hf_51 rfl rfl (by decide) rfl rfl rfl (Nat.le_of_ble_eq_true rfl) rfl dX4_combineAdd_71 (fun H locs hM => ?_)
              refine lv_aload_n hx hb dX4_combineAdd_74 rfl (lv_at hl 1 rfl) ?_
              refine lv_aload_n hx hb dX4_combineAdd_75 rfl (lv_at hl 0 rfl) ?_
              refine z_put (C := RX4) (T := TX4) (N := 16) (fs' := [.int (nI vars), .ref (X 81), .ref (X 82), .ref (X 84), .ref (X 85), .ref (X 83), .int (nI fil), .int (nI inp), .int (nI se), .int (nI be), .int (nI ct), .ref (X (87 - sw)), .ref (X (86 + sw)), .ref (X 28), .ref (X 29), .ref (X 30)]) hx hb hts hinX4 tyX4 tyX4_ok nmX4 hown hK hM (zup_s _ _ _) 12 hf_54 rfl rfl (by decide) rfl rfl rfl (Nat.le_of_ble_eq_true rfl) rfl dX4_combineAdd_76 (fun H locs hM => ?_)
              have hM : zM Γ A s.heap (zup G52 (X 80) (.inr (6, [.int (nI vars), .ref (X 81), .ref (X 82), .ref (X 84), .ref (X 85), .ref (X 83), .int (nI fil), .int (nI inp), .int (nI se), .int (nI be), .int (nI ct), .ref (X (87 - sw)), .ref (X (86 + sw)), .ref (X 28), .ref (X 29), .ref (X 30)]))) H locs := by
                rw [zup_zup] at hM; exact hM
              have hB2 := hB1.put hX fil inp se be ct (1 - sw)
              obtain ⟨G2, hG2⟩ : ∃ G2, G2 = zup G52 (X 80) (coE X vars fil inp se be ct (1 - sw)) := ⟨_, rfl⟩
              have hM : zM Γ A s.heap G2 H locs := by rw [hG2, ← coE_swap hsw]; exact hM
              rw [← hG2] at hB2
              refine lv_aload_n hx hb dX4_combineAdd_79 rfl (lv_at hl 1 rfl) ?_
              refine z_get (C := RX4) (T := TX4) (N := 16) (v := .ref (X 82)) hx hb hts hinX4 hown hK hM hB2.1 2 hf_29 rfl rfl (by decide) rfl dX4_combineAdd_80 ?_
              refine z_callv0 (va_runV (As := []) (rest := []) ⟨hx, hb, hml, hown, hts⟩ (g_finish l Γ G2 _ X vars _ hX hB2.2.1 st sg gv hB2.2.2.2) (cwV 0 hts gX4_combineAdd_X2_finish rfl rfl rfl (by decide +kernel) ⟨Nat.le_of_ble_eq_true rfl, Nat.le_of_ble_eq_true rfl⟩) (zM.preV hK hM hB2.2.2.2 rfl rfl) rfl rfl hl.1 rfl (lv_room (Nat.le_of_ble_eq_true rfl)) dX4_combineAdd_83 ⟨Nat.le_of_ble_eq_true rfl, Nat.le_of_ble_eq_true rfl⟩) hM (fun G83 H locs hp83 hM => ?_)
              obtain ⟨hf3, hG3⟩ := hp83
              have hB3 := hB2.fin hX hf3 hG3
              refine lv_iconst (v := nI 0) hx hb dX4_combineAdd_86 rfl ?_
              rw [hQ]
              rw [hAe] at hM
              exact z_iret hsz hx hb hr hlocks hK hM dX4_combineAdd_87 (by
                    simp only [op_add]; rw [if_neg (by omega), if_neg hyes, if_neg (by rintro (h | h); exact hn0 h; exact hzn h), nI_clamp hrn31, hfit]; rw [if_pos rfl]; exact ⟨rfl, ⟨Z1, used, cz, 1 - sw, C, St, by rw [← hct]; exact hB3, ⟨by omega, hcz⟩, fun h => absurd h (by decide), fun k hk => by rw [k1 k (by omega) (by omega)]; exact hV k hk, fun _ k hk => by rw [show 14 + 7 * (1 - sw) + k = 21 - 7 * sw + k by omega, h1b k hk]; exact hFe k (by omega), fun k hk => by rw [k1 _ (by omega) (by omega)]; exact hPt k hk, fun h => by rw [k1 _ (by omega) (by omega)]; exact hz9⟩, (hf1.a.tr (by rw [hG2]; exact up_a)).tr (hf3.a (fun q9 h9 => by simp only [List.mem_cons, List.not_mem_nil, or_false] at h9; unfold vd vw; omega))⟩)
            · exact absurd hc55 (by decide)
        · have hzn : z < 0 := by rw [hz9] at hc44; exact sgI_lt.mp (Int32.not_le.mp hc44)
          refine lv_bipush (v := -6) hx hb dX4_combineAdd_47 rfl ?_
          rw [hQ]
          rw [hAe] at hM
          exact z_iret hsz hx hb hr hlocks hK hM dX4_combineAdd_49 (by simp only [op_add]; rw [if_neg (by omega), if_neg hyes, if_pos (Or.inr hzn)]; exact ⟨rfl, hR0, frA.rf⟩)
    · have hno : row < 0 ∨ nI nr ≤ row := by by_cases h9 : row < 0 ∨ nI nr ≤ row; exact h9; rw [if_neg h9] at hc18; exact absurd hc18 (by decide)
      refine lv_bipush (v := -5) hx hb dX4_combineAdd_21 rfl ?_
      rw [hQ]
      rw [hAe] at hM
      exact z_iret hsz hx hb hr hlocks hK hM dX4_combineAdd_23 (by simp only [op_add]; rw [if_neg (by omega), if_pos hno]; exact ⟨rfl, hR0, frA.rf⟩)
  · refine lv_bipush (v := -7) hx hb dX4_combineAdd_7 rfl ?_
    rw [hQ]
    rw [hAe] at hM
    exact z_iret hsz hx hb hr hlocks hK hM dX4_combineAdd_9 (by simp only [op_add]; rw [if_pos (by omega)]; exact ⟨rfl, hR0, frA.rf⟩)
