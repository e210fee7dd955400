set_option maxRecDepth 100000 in
set_option maxHeartbeats 4000000 in
theorem m_beginNumber (l : Launch) (Γ : zT) {o lF lL lB : Nat} (hok : mdk o lF lL lB) (G0 : zG) (F L B : Nat → Nat) (sz : Nat) (rf : Int32) (σ : AS) (sign : Int32) (hA : AI σ) (hR : MRep F L B σ) : zMi l yX5_beginNumber wsX5_beginNumber (zR 2) Γ (md Γ o lF lL lB G0 (mfs rf σ) F L B) sz [.ref o, .int sign] (fun r G' => ∃ F' L' B', G' = md Γ o lF lL lB G0 (mfs (nI 0) (op_begin sign σ).2) F' L' B' ∧ r = (op_begin sign σ).1 ∧ MRep F' L' B' (op_begin sign σ).2) 0 0 := by
  obtain ⟨⟨vars, maxR, cells⟩, ⟨nr, inp, R⟩, ⟨fil, V⟩, ⟨se, be, S⟩, P, ⟨st, sg, gv, g, z⟩⟩ := σ
  obtain ⟨⟨hv1, hv6, hm1, hm60, hc4⟩, ⟨hnr, hinp, hsei, hRs⟩, ⟨hfil, hVs⟩, ⟨hse, hbe, hSs⟩, hPs, hst, hgv, hsg, hz1, hgd, hz20⟩ := id hA
  obtain ⟨mR, mV, mS, mP, mg, mz, m1⟩ := id hR
  refine z_start (cc := cX5_beginNumber) (maxL := 2) (ret := (some .boolean)) (by decide) rfl (Nat.le_of_ble_eq_true rfl) ?_
  intro p e s m args below meth c ls Q hQ hsz hx hb hr hml hown hts hlocks hnm hK hM hl
  obtain ⟨A, hAe⟩ : ∃ A, A = zA (md Γ o lF lL lB G0 (mfl rf (nI vars) (nI maxR) (nI cells) (nI nr) (nI inp) (nI fil) (nI se) (nI be) (nI st) sg (nI gv)) F L B) s.heap.size := ⟨_, rfl⟩
  have hM : zM Γ A s.heap (md Γ o lF lL lB G0 (mfl rf (nI vars) (nI maxR) (nI cells) (nI nr) (nI inp) (nI fil) (nI se) (nI be) (nI st) sg (nI gv)) F L B) s.heap [] := by rw [hAe]; exact hM
  have hl : lv_has ls 2 [(0, .ref o), (1, .int sign)] := hl
  have hin5 : ∀ w ∈ wsX50, w ∈ wsX5_beginNumber := by decide +kernel
  have hf_refusal := hts (.fieldLink RX5 34 "CutRowsModel" "refusal" "I") (by decide +kernel)
  have hf_sign := hts (.fieldLink RX5 81 "CutRowsModel" "sign" "I") (by decide +kernel)
  have hf_state := hts (.fieldLink RX5 84 "CutRowsModel" "state" "I") (by decide +kernel)
  have hf_given := hts (.fieldLink RX5 87 "CutRowsModel" "given" "I") (by decide +kernel)
  refine lv_aload_n hx hb dX5_beginNumber_0 rfl (lv_at hl 0 rfl) ?_
  refine lv_iconst (v := nI 0) hx hb dX5_beginNumber_1 rfl ?_
  refine m_put hok hx hb hts hin5 hown hK hM 0 hf_refusal rfl (by decide) rfl (rfl) (rfl) (fl' := mfl (nI 0) (nI vars) (nI maxR) (nI cells) (nI nr) (nI inp) (nI fil) (nI se) (nI be) (nI st) sg (nI gv)) rfl dX5_beginNumber_2 (fun H locs hM => ?_)
  refine lv_iload_n hx hb dX5_beginNumber_5 rfl (lv_at hl 1 rfl) ?_
  refine lv_iconst (v := -1) hx hb dX5_beginNumber_6 rfl ?_
  refine lv_icmp_lt (tgt := 15) hx hb dX5_beginNumber_7 (by decide) (fun hc7 => ?_) (fun hc7 => ?_)
  · refine lv_iconst (v := nI 0) hx hb dX5_beginNumber_15 rfl ?_
    rw [hQ]
    rw [hAe] at hM
    exact z_zret (by omega) hsz hx hb hr hlocks hK hM dX5_beginNumber_16 (by simp only [op_begin]; rw [if_pos (Or.inl hc7)]; exact ⟨F, L, B, rfl, rfl, hR⟩)
  · refine lv_iload_n hx hb dX5_beginNumber_10 rfl (lv_at hl 1 rfl) ?_
    refine lv_iconst (v := nI 1) hx hb dX5_beginNumber_11 rfl ?_
    refine lv_icmp_le (tgt := 17) hx hb dX5_beginNumber_12 (by decide) (fun hc12 => ?_) (fun hc12 => ?_)
    · refine lv_aload_n hx hb dX5_beginNumber_17 rfl (lv_at hl 0 rfl) ?_
      refine lv_iload_n hx hb dX5_beginNumber_18 rfl (lv_at hl 1 rfl) ?_
      refine m_put hok hx hb hts hin5 hown hK hM 13 hf_sign rfl (by decide) rfl (rfl) (rfl) (fl' := mfl (nI 0) (nI vars) (nI maxR) (nI cells) (nI nr) (nI inp) (nI fil) (nI se) (nI be) (nI st) sign (nI gv)) rfl dX5_beginNumber_19 (fun H locs hM => ?_)
      refine lv_aload_n hx hb dX5_beginNumber_22 rfl (lv_at hl 0 rfl) ?_
      refine lv_iconst (v := nI 1) hx hb dX5_beginNumber_23 rfl ?_
      refine m_put hok hx hb hts hin5 hown hK hM 12 hf_state rfl (by decide) rfl (rfl) (rfl) (fl' := mfl (nI 0) (nI vars) (nI maxR) (nI cells) (nI nr) (nI inp) (nI fil) (nI se) (nI be) (nI 1) sign (nI gv)) rfl dX5_beginNumber_24 (fun H locs hM => ?_)
      refine lv_aload_n hx hb dX5_beginNumber_27 rfl (lv_at hl 0 rfl) ?_
      refine lv_iconst (v := nI 0) hx hb dX5_beginNumber_28 rfl ?_
      refine m_put hok hx hb hts hin5 hown hK hM 14 hf_given rfl (by decide) rfl (rfl) (rfl) (fl' := mfl (nI 0) (nI vars) (nI maxR) (nI cells) (nI nr) (nI inp) (nI fil) (nI se) (nI be) (nI 1) sign (nI 0)) rfl dX5_beginNumber_29 (fun H locs hM => ?_)
      refine lv_aload_n hx hb dX5_beginNumber_32 rfl (lv_at hl 0 rfl) ?_
      refine lv_sipush (v := nI 440) hx hb dX5_beginNumber_33 rfl ?_
      refine z_callv0 (va_runV (As := [.int (nI 440)]) (rest := []) ⟨hx, hb, hml, hown, hts⟩ (m_clear l Γ hok G0 _ F L B _ 440 (by omega)) (cwV 1 hts gX5_beginNumber_X5_clear rfl rfl rfl (by decide +kernel) ⟨Nat.le_of_ble_eq_true rfl, Nat.le_of_ble_eq_true rfl⟩) (zM.preV hK hM (md_o hok) rfl rfl) rfl rfl hl.1 rfl (lv_room (Nat.le_of_ble_eq_true rfl)) dX5_beginNumber_36 ⟨Nat.le_of_ble_eq_true rfl, Nat.le_of_ble_eq_true rfl⟩) hM (fun G36 H locs hp36 hM => ?_)
      obtain rfl := hp36
      obtain ⟨L1, B1, hM, s1, n1, b1⟩ := clear_rel hM
      refine lv_iconst (v := nI 1) hx hb dX5_beginNumber_39 rfl ?_
      rw [hQ]
      rw [hAe] at hM
      exact z_zret (by omega) hsz hx hb hr hlocks hK hM dX5_beginNumber_40 (by simp only [op_begin]; rw [if_neg (fun h => h.elim hc7 (fun h2 => absurd hc12 (Int32.not_le.mpr h2)))]; exact ⟨F, L1, B1, rfl, rfl, fun r k h1 h2 => (mR r k h1 h2).sm s1 (Or.inl (by omega)), fun k h1 => (mV k h1).sm s1 (Or.inl (by omega)), fun h0 k h1 => (mS h0 k h1).sm s1 (Or.inl (by omega)), fun k h1 => (mP k h1).sm s1 (Or.inl (by omega)), fun _ j hj => by omega, fun h => absurd h (by decide), s1.nv (Or.inr (by omega)) m1⟩)
    · refine lv_iconst (v := nI 0) hx hb dX5_beginNumber_15 rfl ?_
      rw [hQ]
      rw [hAe] at hM
      exact z_zret (by omega) hsz hx hb hr hlocks hK hM dX5_beginNumber_16 (by simp only [op_begin]; rw [if_pos (Or.inr (show (1 : Int32) < sign from Int32.not_le.mp hc12))]; exact ⟨F, L, B, rfl, rfl, hR⟩)

set_option maxRecDepth 100000 in
set_option maxHeartbeats 4000000 in
theorem m_limb (l : Launch) (Γ : zT) {o lF lL lB : Nat} (hok : mdk o lF lL lB) (G0 : zG) (F L B : Nat → Nat) (sz : Nat) (rf : Int32) (σ : AS) (ww : Int32) (hA : AI σ) (hR : MRep F L B σ) : zMi l yX5_limb wsX5_limb (zR 1) Γ (md Γ o lF lL lB G0 (mfs rf σ) F L B) sz [.ref o, .int ww] (fun r G' => ∃ F' L' B', G' = md Γ o lF lL lB G0 (mfs (nI 0) (op_limb ww σ).2) F' L' B' ∧ r = (op_limb ww σ).1 ∧ MRep F' L' B' (op_limb ww σ).2) 0 0 := by
  obtain ⟨⟨vars, maxR, cells⟩, ⟨nr, inp, R⟩, ⟨fil, V⟩, ⟨se, be, S⟩, P, ⟨st, sg, gv, g, z⟩⟩ := σ
  obtain ⟨⟨hv1, hv6, hm1, hm60, hc4⟩, ⟨hnr, hinp, hsei, hRs⟩, ⟨hfil, hVs⟩, ⟨hse, hbe, hSs⟩, hPs, hst, hgv, hsg, hz1, hgd, hz20⟩ := id hA
  obtain ⟨mR, mV, mS, mP, mg, mz, m1⟩ := id hR
  refine z_start (cc := cX5_limb) (maxL := 2) (ret := (some .boolean)) (by decide) rfl (Nat.le_of_ble_eq_true rfl) ?_
  intro p e s m args below meth c ls Q hQ hsz hx hb hr hml hown hts hlocks hnm hK hM hl
  obtain ⟨A, hAe⟩ : ∃ A, A = zA (md Γ o lF lL lB G0 (mfl rf (nI vars) (nI maxR) (nI cells) (nI nr) (nI inp) (nI fil) (nI se) (nI be) (nI st) sg (nI gv)) F L B) s.heap.size := ⟨_, rfl⟩
  have hM : zM Γ A s.heap (md Γ o lF lL lB G0 (mfl rf (nI vars) (nI maxR) (nI cells) (nI nr) (nI inp) (nI fil) (nI se) (nI be) (nI st) sg (nI gv)) F L B) s.heap [] := by rw [hAe]; exact hM
  have hl : lv_has ls 2 [(0, .ref o), (1, .int ww)] := hl
  have hin5 : ∀ w ∈ wsX50, w ∈ wsX5_limb := by decide +kernel
  have hf_limbs := hts (.fieldLink RX5 7 "CutRowsModel" "limbs" "[I") (by decide +kernel)
  have hf_refusal := hts (.fieldLink RX5 34 "CutRowsModel" "refusal" "I") (by decide +kernel)
  have hf_state := hts (.fieldLink RX5 84 "CutRowsModel" "state" "I") (by decide +kernel)
  have hf_given := hts (.fieldLink RX5 87 "CutRowsModel" "given" "I") (by decide +kernel)
  refine lv_aload_n hx hb dX5_limb_0 rfl (lv_at hl 0 rfl) ?_
  refine lv_iconst (v := nI 0) hx hb dX5_limb_1 rfl ?_
  refine m_put hok hx hb hts hin5 hown hK hM 0 hf_refusal rfl (by decide) rfl (rfl) (rfl) (fl' := mfl (nI 0) (nI vars) (nI maxR) (nI cells) (nI nr) (nI inp) (nI fil) (nI se) (nI be) (nI st) sg (nI gv)) rfl dX5_limb_2 (fun H locs hM => ?_)
  refine lv_iload_n hx hb dX5_limb_5 rfl (lv_at hl 1 rfl) ?_
  refine lv_if_lt (tgt := 26) hx hb dX5_limb_6 (by decide) (fun hc6 => ?_) (fun hc6 => ?_)
  · refine lv_iconst (v := nI 0) hx hb dX5_limb_26 rfl ?_
    rw [hQ]
    rw [hAe] at hM
    exact z_zret (by omega) hsz hx hb hr hlocks hK hM dX5_limb_27 (by simp only [op_limb]; rw [if_pos (Or.inl hc6)]; exact ⟨F, L, B, rfl, rfl, hR⟩)
  · refine lv_aload_n hx hb dX5_limb_9 rfl (lv_at hl 0 rfl) ?_
    refine m_get hok hx hb hts hin5 hown hK hM 12 hf_state rfl (by decide) (v := .int (nI st)) rfl dX5_limb_10 ?_
    refine lv_iconst (v := nI 1) hx hb dX5_limb_13 rfl ?_
    refine z_icmp_ne (tgt := 26) hx hb (by omega) (by omega) dX5_limb_14 (by decide) (fun hc14 => ?_) (fun hc14 => ?_)
    · refine lv_iconst (v := nI 0) hx hb dX5_limb_26 rfl ?_
      rw [hQ]
      rw [hAe] at hM
      exact z_zret (by omega) hsz hx hb hr hlocks hK hM dX5_limb_27 (by simp only [op_limb]; rw [if_pos (Or.inr (Or.inl hc14))]; exact ⟨F, L, B, rfl, rfl, hR⟩)
    · refine lv_aload_n hx hb dX5_limb_17 rfl (lv_at hl 0 rfl) ?_
      refine m_get hok hx hb hts hin5 hown hK hM 14 hf_given rfl (by decide) (v := .int (nI gv)) rfl dX5_limb_18 ?_
      refine lv_bipush (v := nI 20) hx hb dX5_limb_21 rfl ?_
      refine z_icmp_ne (tgt := 28) hx hb (by omega) (by omega) dX5_limb_23 (by decide) (fun hc23 => ?_) (fun hc23 => ?_)
      · obtain ⟨wn, hwn, rfl⟩ : ∃ j : Nat, j < 2 ^ 31 ∧ ww = nI j := nI_of hc6
        refine lv_aload_n hx hb dX5_limb_28 rfl (lv_at hl 0 rfl) ?_
        refine m_get hok hx hb hts hin5 hown hK hM 4 hf_limbs rfl (by decide) (v := .ref lF) rfl dX5_limb_29 ?_
        refine lv_sipush (v := nI 31680) hx hb dX5_limb_32 rfl ?_
        refine lv_aload_n hx hb dX5_limb_35 rfl (lv_at hl 0 rfl) ?_
        refine m_get hok hx hb hts hin5 hown hK hM 14 hf_given rfl (by decide) (v := .int (nI gv)) rfl dX5_limb_36 ?_
        refine z_iadd hx hb dX5_limb_39 ?_
        refine z_asi (y := nI (72 * 440 + gv)) (congrArg nI (by omega)) ?_
        refine lv_iload_n hx hb dX5_limb_40 rfl (lv_at hl 1 rfl) ?_
        refine m_stF hok hx hb hK hM (by omega) dX5_limb_41 (fun H locs hM => ?_)
        refine lv_aload_n hx hb dX5_limb_42 rfl (lv_at hl 0 rfl) ?_
        refine lv_dup hx hb dX5_limb_43 rfl ?_
        refine m_get hok hx hb hts hin5 hown hK hM 14 hf_given rfl (by decide) (v := .int (nI gv)) rfl dX5_limb_44 ?_
        refine lv_iconst (v := nI 1) hx hb dX5_limb_47 rfl ?_
        refine z_iadd hx hb dX5_limb_48 ?_
        refine m_put hok hx hb hts hin5 hown hK hM 14 hf_given rfl (by decide) rfl (rfl) (rfl) (fl' := mfl (nI 0) (nI vars) (nI maxR) (nI cells) (nI nr) (nI inp) (nI fil) (nI se) (nI be) (nI st) sg (nI (gv + 1))) rfl dX5_limb_49 (fun H locs hM => ?_)
        refine lv_iconst (v := nI 1) hx hb dX5_limb_52 rfl ?_
        rw [hQ]
        rw [hAe] at hM
        exact z_zret (by omega) hsz hx hb hr hlocks hK hM dX5_limb_53 (by
              have hneg : ¬ (nI wn < 0 ∨ st ≠ 1 ∨ gv = 20) := by rintro (h | h | h); exact hc6 h; omega; omega
              have s1 : sm 440 441 F L B (va_up F (72 * 440 + gv) wn) L B := smF (fun j hj => va_up_ne _ _ (by omega))
              simp only [op_limb]; rw [if_neg hneg, nI_clamp hwn]; exact ⟨va_up F (72 * 440 + gv) wn, L, B, rfl, rfl, fun r k h1 h2 => (mR r k h1 h2).sm s1 (Or.inl (by omega)), fun k h1 => (mV k h1).sm s1 (Or.inl (by omega)), fun h0 k h1 => (mS h0 k h1).sm s1 (Or.inl (by omega)), fun k h1 => (mP k h1).sm s1 (Or.inl (by omega)), fun h j hj => by by_cases hc : j = gv; subst hc; rw [va_up_self, va_up_self]; rw [va_up_ne _ _ (by omega), va_up_ne _ _ hc]; exact mg h j (by omega), fun h => by omega, s1.nv (Or.inr (by omega)) m1⟩)
      · refine lv_iconst (v := nI 0) hx hb dX5_limb_26 rfl ?_
        rw [hQ]
        rw [hAe] at hM
        exact z_zret (by omega) hsz hx hb hr hlocks hK hM dX5_limb_27 (by simp only [op_limb]; rw [if_pos (Or.inr (Or.inr hc23))]; exact ⟨F, L, B, rfl, rfl, hR⟩)

set_option maxRecDepth 100000 in
set_option maxHeartbeats 4000000 in
theorem m_endCoefficient (l : Launch) (Γ : zT) {o lF lL lB : Nat} (hok : mdk o lF lL lB) (G0 : zG) (F L B : Nat → Nat) (sz : Nat) (rf : Int32) (σ : AS)  (hA : AI σ) (hR : MRep F L B σ) : zMi l yX5_endCoefficient wsX5_endCoefficient (zR 3) Γ (md Γ o lF lL lB G0 (mfs rf σ) F L B) sz [.ref o] (fun r G' => ∃ F' L' B', G' = md Γ o lF lL lB G0 (mfs (nI 0) (op_endCoef σ).2) F' L' B' ∧ r = (op_endCoef σ).1 ∧ MRep F' L' B' (op_endCoef σ).2) 0 0 := by
  obtain ⟨⟨vars, maxR, cells⟩, ⟨nr, inp, R⟩, ⟨fil, V⟩, ⟨se, be, S⟩, P, ⟨st, sg, gv, g, z⟩⟩ := σ
  obtain ⟨⟨hv1, hv6, hm1, hm60, hc4⟩, ⟨hnr, hinp, hsei, hRs⟩, ⟨hfil, hVs⟩, ⟨hse, hbe, hSs⟩, hPs, hst, hgv, hsg, hz1, hgd, hz20⟩ := id hA
  obtain ⟨mR, mV, mS, mP, mg, mz, m1⟩ := id hR
  refine z_start (cc := cX5_endCoefficient) (maxL := 1) (ret := (some .boolean)) (by decide) rfl (Nat.le_of_ble_eq_true rfl) ?_
  intro p e s m args below meth c ls Q hQ hsz hx hb hr hml hown hts hlocks hnm hK hM hl
  obtain ⟨A, hAe⟩ : ∃ A, A = zA (md Γ o lF lL lB G0 (mfl rf (nI vars) (nI maxR) (nI cells) (nI nr) (nI inp) (nI fil) (nI se) (nI be) (nI st) sg (nI gv)) F L B) s.heap.size := ⟨_, rfl⟩
  have hM : zM Γ A s.heap (md Γ o lF lL lB G0 (mfl rf (nI vars) (nI maxR) (nI cells) (nI nr) (nI inp) (nI fil) (nI se) (nI be) (nI st) sg (nI gv)) F L B) s.heap [] := by rw [hAe]; exact hM
  have hl : lv_has ls 1 [(0, .ref o)] := hl
  have hin5 : ∀ w ∈ wsX50, w ∈ wsX5_endCoefficient := by decide +kernel
  have hf_vars := hts (.fieldLink RX5 24 "CutRowsModel" "vars" "I") (by decide +kernel)
  have hf_refusal := hts (.fieldLink RX5 34 "CutRowsModel" "refusal" "I") (by decide +kernel)
  have hf_state := hts (.fieldLink RX5 84 "CutRowsModel" "state" "I") (by decide +kernel)
  have hf_filled := hts (.fieldLink RX5 90 "CutRowsModel" "filled" "I") (by decide +kernel)
  refine lv_aload_n hx hb dX5_endCoefficient_0 rfl (lv_at hl 0 rfl) ?_
  refine lv_iconst (v := nI 0) hx hb dX5_endCoefficient_1 rfl ?_
  refine m_put hok hx hb hts hin5 hown hK hM 0 hf_refusal rfl (by decide) rfl (rfl) (rfl) (fl' := mfl (nI 0) (nI vars) (nI maxR) (nI cells) (nI nr) (nI inp) (nI fil) (nI se) (nI be) (nI st) sg (nI gv)) rfl dX5_endCoefficient_2 (fun H locs hM => ?_)
  refine lv_aload_n hx hb dX5_endCoefficient_5 rfl (lv_at hl 0 rfl) ?_
  refine m_get hok hx hb hts hin5 hown hK hM 12 hf_state rfl (by decide) (v := .int (nI st)) rfl dX5_endCoefficient_6 ?_
  refine lv_iconst (v := nI 1) hx hb dX5_endCoefficient_9 rfl ?_
  refine z_icmp_ne (tgt := 26) hx hb (by omega) (by omega) dX5_endCoefficient_10 (by decide) (fun hc10 => ?_) (fun hc10 => ?_)
  · refine lv_iconst (v := nI 0) hx hb dX5_endCoefficient_26 rfl ?_
    rw [hQ]
    rw [hAe] at hM
    exact z_zret (by omega) hsz hx hb hr hlocks hK hM dX5_endCoefficient_27 (by simp only [op_endCoef]; rw [if_pos (Or.inl hc10)]; exact ⟨F, L, B, rfl, rfl, hR⟩)
  · refine lv_aload_n hx hb dX5_endCoefficient_13 rfl (lv_at hl 0 rfl) ?_
    refine m_get hok hx hb hts hin5 hown hK hM 9 hf_filled rfl (by decide) (v := .int (nI fil)) rfl dX5_endCoefficient_14 ?_
    refine lv_aload_n hx hb dX5_endCoefficient_17 rfl (lv_at hl 0 rfl) ?_
    refine m_get hok hx hb hts hin5 hown hK hM 1 hf_vars rfl (by decide) (v := .int (nI vars)) rfl dX5_endCoefficient_18 ?_
    refine lv_iconst (v := nI 1) hx hb dX5_endCoefficient_21 rfl ?_
    refine z_iadd hx hb dX5_endCoefficient_22 ?_
    refine z_icmp_ne (tgt := 28) hx hb (by omega) (by omega) dX5_endCoefficient_23 (by decide) (fun hc23 => ?_) (fun hc23 => ?_)
    · refine lv_aload_n hx hb dX5_endCoefficient_28 rfl (lv_at hl 0 rfl) ?_
      have hst1 : st = 1 := by omega
      have hdg : dg (fun j => F (72 * 440 + j)) gv := fun j hj => by show F _ < _; rw [mg hst1 j hj]; exact hgd j hj
      have hzz : sg.toInt * (vl (fun j => F (72 * 440 + j)) gv : Nat) = z := by rw [hz1 hst1, vl_congr (fun j hj => mg hst1 j hj)]
      refine z_callv0 (va_runV (As := []) (rest := []) ⟨hx, hb, hml, hown, hts⟩ (m_settle l Γ hok G0 _ F L B _ sg gv rfl rfl hgv hsg hdg) (cwV 0 hts gX5_endCoefficient_X5_settle rfl rfl rfl (by decide +kernel) ⟨Nat.le_of_ble_eq_true rfl, Nat.le_of_ble_eq_true rfl⟩) (zM.preV hK hM (md_o hok) rfl rfl) rfl rfl hl.1 rfl (lv_room (Nat.le_of_ble_eq_true rfl)) dX5_endCoefficient_29 ⟨Nat.le_of_ble_eq_true rfl, Nat.le_of_ble_eq_true rfl⟩) hM (fun G29 H locs hp29 hM => ?_)
      obtain ⟨rfl, hns⟩ := hp29
      rw [hzz] at hM hns
      obtain ⟨L1, B1, hM, s1, n1, b1⟩ := sign_rel (F := F) hM (fun _ _ => rfl) hns
      refine lv_aload_n hx hb dX5_endCoefficient_32 rfl (lv_at hl 0 rfl) ?_
      refine lv_iconst (v := nI 2) hx hb dX5_endCoefficient_33 rfl ?_
      refine m_put hok hx hb hts hin5 hown hK hM 12 hf_state rfl (by decide) rfl (rfl) (rfl) (fl' := mfl (nI 0) (nI vars) (nI maxR) (nI cells) (nI nr) (nI inp) (nI fil) (nI se) (nI be) (nI 2) sg (nI gv)) rfl dX5_endCoefficient_34 (fun H locs hM => ?_)
      refine lv_aload_n hx hb dX5_endCoefficient_37 rfl (lv_at hl 0 rfl) ?_
      refine lv_sipush (v := nI 420) hx hb dX5_endCoefficient_38 rfl ?_
      refine lv_aload_n hx hb dX5_endCoefficient_41 rfl (lv_at hl 0 rfl) ?_
      refine m_get hok hx hb hts hin5 hown hK hM 9 hf_filled rfl (by decide) (v := .int (nI fil)) rfl dX5_endCoefficient_42 ?_
      refine z_iadd hx hb dX5_endCoefficient_45 ?_
      refine lv_sipush (v := nI 440) hx hb dX5_endCoefficient_46 rfl ?_
      refine z_callv0 (va_runV (As := [.int (nI (420 + fil)), .int (nI 440)]) (rest := []) ⟨hx, hb, hml, hown, hts⟩ (m_copy l Γ hok G0 _ F L1 B1 _ (420 + fil) 440 (by omega) (by omega) (by omega) n1.le (by rw [b1]; exact sb_lt z)) (cwV 2 hts gX5_endCoefficient_X5_copy rfl rfl rfl (by decide +kernel) ⟨Nat.le_of_ble_eq_true rfl, Nat.le_of_ble_eq_true rfl⟩) (zM.preV hK hM (md_o hok) rfl rfl) rfl rfl hl.1 rfl (lv_room (Nat.le_of_ble_eq_true rfl)) dX5_endCoefficient_49 ⟨Nat.le_of_ble_eq_true rfl, Nat.le_of_ble_eq_true rfl⟩) hM (fun G49 H locs hp49 hM => ?_)
      obtain rfl := hp49
      obtain ⟨F2, L2, B2, hM, s2, n2, b2⟩ := copy_rel hM n1
      refine lv_aload_n hx hb dX5_endCoefficient_52 rfl (lv_at hl 0 rfl) ?_
      refine lv_dup hx hb dX5_endCoefficient_53 rfl ?_
      refine m_get hok hx hb hts hin5 hown hK hM 9 hf_filled rfl (by decide) (v := .int (nI fil)) rfl dX5_endCoefficient_54 ?_
      refine lv_iconst (v := nI 1) hx hb dX5_endCoefficient_57 rfl ?_
      refine z_iadd hx hb dX5_endCoefficient_58 ?_
      refine m_put hok hx hb hts hin5 hown hK hM 9 hf_filled rfl (by decide) rfl (rfl) (rfl) (fl' := mfl (nI 0) (nI vars) (nI maxR) (nI cells) (nI nr) (nI inp) (nI (fil + 1)) (nI se) (nI be) (nI 2) sg (nI gv)) rfl dX5_endCoefficient_59 (fun H locs hM => ?_)
      refine lv_iconst (v := nI 1) hx hb dX5_endCoefficient_62 rfl ?_
      rw [hQ]
      rw [hAe] at hM
      exact z_zret (by omega) hsz hx hb hr hlocks hK hM dX5_endCoefficient_63 (by
            simp only [op_endCoef]; rw [if_neg (by omega)]
            exact ⟨F2, L2, B2, rfl, rfl, fun r k h1 h2 => ((mR r k h1 h2).sm s1 (Or.inl (by omega))).sm s2 (Or.inl (by omega)), fun k h1 => by by_cases hc : k = fil; subst hc; rw [va_up_self]; exact ⟨n2, by rw [b2, b1]⟩; rw [va_up_ne _ _ hc]; exact ((mV k (by omega)).sm s1 (Or.inl (by omega))).sm s2 (by omega), fun h0 k h1 => ((mS h0 k h1).sm s1 (Or.inl (by omega))).sm s2 (by omega), fun k h1 => ((mP k h1).sm s1 (Or.inl (by omega))).sm s2 (by omega), fun h => absurd h (by decide), fun _ => nz.sm ⟨n1, b1⟩ s2 (by omega), s2.nv (by omega) (s1.nv (by omega) m1)⟩)
    · refine lv_iconst (v := nI 0) hx hb dX5_endCoefficient_26 rfl ?_
      rw [hQ]
      rw [hAe] at hM
      exact z_zret (by omega) hsz hx hb hr hlocks hK hM dX5_endCoefficient_27 (by simp only [op_endCoef]; rw [if_pos (Or.inr hc23)]; exact ⟨F, L, B, rfl, rfl, hR⟩)

set_option maxRecDepth 100000 in
set_option maxHeartbeats 4000000 in
theorem m_store (l : Launch) (Γ : zT) {o lF lL lB : Nat} (hok : mdk o lF lL lB) (G0 : zG) (F L B : Nat → Nat) (sz : Nat) (rf : Int32) (σ : AS) (X : Nat → Int) (fr : Nat) (hfr : 420 ≤ fr) (hfr2 : fr ≤ 448) (hX : ∀ k, k ≤ σ.1.1 → nz F L B (fr + k) (X k)) (hX48 : ∀ k, k ≤ σ.1.1 → nl (X k).natAbs ≤ 48) (hA : AI σ) (hR : MRep F L B σ) : zMi l yX5_store wsX5_store (zR 2) Γ (md Γ o lF lL lB G0 (mfs rf σ) F L B) sz [.ref o, .int (nI fr)] (fun r G' => ∃ F' L' B', G' = md Γ o lF lL lB G0 (mfs rf (op_store X σ).2) F' L' B' ∧ r = (match (op_store X σ).1 with | none => -4 | some n => nI n) ∧ MRep F' L' B' (op_store X σ).2 ∧ sm 0 420 F L B F' L' B') 0 0 := by
  obtain ⟨⟨vars, maxR, cells⟩, ⟨nr, inp, R⟩, ⟨fil, V⟩, ⟨se, be, S⟩, P, ⟨st, sg, gv, g, z⟩⟩ := σ
  obtain ⟨⟨hv1, hv6, hm1, hm60, hc4⟩, ⟨hnr, hinp, hsei, hRs⟩, ⟨hfil, hVs⟩, ⟨hse, hbe, hSs⟩, hPs, hst, hgv, hsg, hz1, hgd, hz20⟩ := id hA
  obtain ⟨mR, mV, mS, mP, mg, mz, m1⟩ := id hR
  refine z_start (cc := cX5_store) (maxL := 4) (ret := (some .int)) (by decide) rfl (Nat.le_of_ble_eq_true rfl) ?_
  intro p e s m args below meth c ls Q hQ hsz hx hb hr hml hown hts hlocks hnm hK hM hl
  obtain ⟨A, hAe⟩ : ∃ A, A = zA (md Γ o lF lL lB G0 (mfl rf (nI vars) (nI maxR) (nI cells) (nI nr) (nI inp) (nI fil) (nI se) (nI be) (nI st) sg (nI gv)) F L B) s.heap.size := ⟨_, rfl⟩
  have hM : zM Γ A s.heap (md Γ o lF lL lB G0 (mfl rf (nI vars) (nI maxR) (nI cells) (nI nr) (nI inp) (nI fil) (nI se) (nI be) (nI st) sg (nI gv)) F L B) s.heap [] := by rw [hAe]; exact hM
  have hl : lv_has ls 4 [(0, .ref o), (1, .int (nI fr))] := hl
  have hin5 : ∀ w ∈ wsX50, w ∈ wsX5_store := by decide +kernel
  have hf_length := hts (.fieldLink RX5 13 "CutRowsModel" "length" "[I") (by decide +kernel)
  have hf_vars := hts (.fieldLink RX5 24 "CutRowsModel" "vars" "I") (by decide +kernel)
  have hf_maxRows := hts (.fieldLink RX5 28 "CutRowsModel" "maxRows" "I") (by decide +kernel)
  have hf_cells := hts (.fieldLink RX5 31 "CutRowsModel" "cells" "I") (by decide +kernel)
  have hf_rows := hts (.fieldLink RX5 96 "CutRowsModel" "rows" "I") (by decide +kernel)
  have hX : ∀ k, k ≤ vars → nz F L B (fr + k) (X k) := hX
  have hX48 : ∀ k, k ≤ vars → nl (X k).natAbs ≤ 48 := hX48
  have hneed : ∀ k, k ≤ vars + 1 → need X k ≤ 49 * k := by
    intro k; induction k with
    | zero => intro _; exact Nat.le_refl 0
    | succ k ih => intro hk; have := ih (by omega); have := hX48 k (by omega); simp only [need]; omega
  refine lv_iconst (v := nI 0) hx hb dX5_store_0 rfl ?_
  refine lv_istore_n (lv' := [(2, .int (nI 0)), (0, .ref o), (1, .int (nI fr))]) hx hb dX5_store_1 rfl hl (by decide) rfl (fun ls hl => ?_)
  refine lv_iconst (v := nI 0) hx hb dX5_store_2 rfl ?_
  refine lv_istore_n (lv' := [(3, .int (nI 0)), (2, .int (nI 0)), (0, .ref o), (1, .int (nI fr))]) hx hb dX5_store_3 rfl hl (by decide) rfl (fun ls hl => ?_)
  have lp : ∀ (μ : Nat) (k : Nat), vars + 1 - k = μ → (k ≤ vars + 1) → ∀ (ls : Array Slot) (H : Heap) (locs : List Loc), lv_has ls 4 [(3, .int (nI k)), (2, .int (nI (need X k))), (0, .ref o), (1, .int (nI fr))] → zM Γ A s.heap (md Γ o lF lL lB G0 (mfl rf (nI vars) (nI maxR) (nI cells) (nI nr) (nI inp) (nI fil) (nI se) (nI be) (nI st) sg (nI gv)) F L B) H locs → W p l e (zR 2) s m args below meth c H locs 0 0 Q (F0 m 4 ls []) := by
    intro μ
    induction μ using Nat.strongRecOn with
    | _ μ ihlp =>
      intro k hμ hk ls H locs hl hM
      refine lv_iload_n hx hb dX5_store_4 rfl (lv_at hl 0 rfl) ?_
      refine lv_aload_n hx hb dX5_store_5 rfl (lv_at hl 2 rfl) ?_
      refine m_get hok hx hb hts hin5 hown hK hM 1 hf_vars rfl (by decide) (v := .int (nI vars)) rfl dX5_store_6 ?_
      refine z_icmp_gt (tgt := 31) hx hb (by omega) (by omega) dX5_store_9 (by decide) (fun hc9 => ?_) (fun hc9 => ?_)
      · have hkv : k = vars + 1 := by omega
        subst hkv
        have hnd := hneed (vars + 1) (Nat.le_refl _)
        refine lv_aload_n hx hb dX5_store_31 rfl (lv_at hl 2 rfl) ?_
        refine m_get hok hx hb hts hin5 hown hK hM 7 hf_rows rfl (by decide) (v := .int (nI nr)) rfl dX5_store_32 ?_
        refine lv_aload_n hx hb dX5_store_35 rfl (lv_at hl 2 rfl) ?_
        refine m_get hok hx hb hts hin5 hown hK hM 2 hf_maxRows rfl (by decide) (v := .int (nI maxR)) rfl dX5_store_36 ?_
        refine z_icmp_eq (tgt := 50) hx hb (by omega) (by omega) dX5_store_39 (by decide) (fun hc39 => ?_) (fun hc39 => ?_)
        · refine lv_bipush (v := -4) hx hb dX5_store_50 rfl ?_
          rw [hQ]
          rw [hAe] at hM
          exact z_iret hsz hx hb hr hlocks hK hM dX5_store_52 (by
                simp only [op_store]; rw [if_pos (Or.inl hc39)]; exact ⟨F, L, B, rfl, rfl, hR, sm.rf⟩)
        · refine lv_iload_n hx hb dX5_store_42 rfl (lv_at hl 1 rfl) ?_
          refine lv_aload_n hx hb dX5_store_43 rfl (lv_at hl 2 rfl) ?_
          refine m_get hok hx hb hts hin5 hown hK hM 3 hf_cells rfl (by decide) (v := .int (nI cells)) rfl dX5_store_44 ?_
          refine z_icmp_le (tgt := 53) hx hb (by omega) (by omega) dX5_store_47 (by decide) (fun hc47 => ?_) (fun hc47 => ?_)
          · refine lv_iconst (v := nI 0) hx hb dX5_store_53 rfl ?_
            refine lv_istore_n (lv' := [(3, .int (nI 0)), (2, .int (nI (need X (vars + 1)))), (0, .ref o), (1, .int (nI fr))]) hx hb dX5_store_54 rfl hl (by decide) rfl (fun ls hl => ?_)
            have lq : ∀ (μ : Nat) (k : Nat) (F1 : Nat → Nat) (L1 : Nat → Nat) (B1 : Nat → Nat), vars + 1 - k = μ → (k ≤ vars + 1) → (sm (7 * nr) (7 * nr + 7) F L B F1 L1 B1) → (∀ j, j < k → nz F1 L1 B1 (7 * nr + j) (X j)) → ∀ (ls : Array Slot) (H : Heap) (locs : List Loc), lv_has ls 4 [(3, .int (nI k)), (2, .int (nI (need X (vars + 1)))), (0, .ref o), (1, .int (nI fr))] → zM Γ A s.heap (md Γ o lF lL lB G0 (mfl rf (nI vars) (nI maxR) (nI cells) (nI nr) (nI inp) (nI fil) (nI se) (nI be) (nI st) sg (nI gv)) F1 L1 B1) H locs → W p l e (zR 2) s m args below meth c H locs 0 0 Q (F0 m 55 ls []) := by
              intro μ
              induction μ using Nat.strongRecOn with
              | _ μ ihlq =>
                intro k F1 L1 B1 hμ hk u1 u2 ls H locs hl hM
                refine lv_iload_n hx hb dX5_store_55 rfl (lv_at hl 0 rfl) ?_
                refine lv_aload_n hx hb dX5_store_56 rfl (lv_at hl 2 rfl) ?_
                refine m_get hok hx hb hts hin5 hown hK hM 1 hf_vars rfl (by decide) (v := .int (nI vars)) rfl dX5_store_57 ?_
                refine z_icmp_gt (tgt := 84) hx hb (by omega) (by omega) dX5_store_60 (by decide) (fun hc60 => ?_) (fun hc60 => ?_)
                · refine lv_aload_n hx hb dX5_store_84 rfl (lv_at hl 2 rfl) ?_
                  refine lv_aload_n hx hb dX5_store_85 rfl (lv_at hl 2 rfl) ?_
                  refine m_get hok hx hb hts hin5 hown hK hM 3 hf_cells rfl (by decide) (v := .int (nI cells)) rfl dX5_store_86 ?_
                  refine lv_iload_n hx hb dX5_store_89 rfl (lv_at hl 1 rfl) ?_
                  refine z_isub hx hb (by omega) dX5_store_90 ?_
                  refine m_put hok hx hb hts hin5 hown hK hM 3 hf_cells rfl (by decide) rfl (rfl) (rfl) (fl' := mfl rf (nI vars) (nI maxR) (nI (cells - (need X (vars + 1)))) (nI nr) (nI inp) (nI fil) (nI se) (nI be) (nI st) sg (nI gv)) rfl dX5_store_91 (fun H locs hM => ?_)
                  refine lv_aload_n hx hb dX5_store_94 rfl (lv_at hl 2 rfl) ?_
                  refine lv_dup hx hb dX5_store_95 rfl ?_
                  refine m_get hok hx hb hts hin5 hown hK hM 7 hf_rows rfl (by decide) (v := .int (nI nr)) rfl dX5_store_96 ?_
                  refine lv_iconst (v := nI 1) hx hb dX5_store_99 rfl ?_
                  refine z_iadd hx hb dX5_store_100 ?_
                  refine m_put hok hx hb hts hin5 hown hK hM 7 hf_rows rfl (by decide) rfl (rfl) (rfl) (fl' := mfl rf (nI vars) (nI maxR) (nI (cells - (need X (vars + 1)))) (nI (nr + 1)) (nI inp) (nI fil) (nI se) (nI be) (nI st) sg (nI gv)) rfl dX5_store_101 (fun H locs hM => ?_)
                  refine lv_aload_n hx hb dX5_store_104 rfl (lv_at hl 2 rfl) ?_
                  refine m_get hok hx hb hts hin5 hown hK hM 7 hf_rows rfl (by decide) (v := .int (nI (nr + 1))) rfl dX5_store_105 ?_
                  refine lv_iconst (v := nI 1) hx hb dX5_store_108 rfl ?_
                  refine z_isub hx hb (by omega) dX5_store_109 ?_
                  refine z_asi (y := nI nr) (congrArg nI (by omega)) ?_
                  rw [hQ]
                  rw [hAe] at hM
                  exact z_iret hsz hx hb hr hlocks hK hM dX5_store_110 (by
                        have hno : ¬ (nr = maxR ∨ cells < need X (vars + 1)) := by omega
                        simp only [op_store]; rw [if_neg hno]
                        exact ⟨F1, L1, B1, rfl, rfl, ⟨fun r j h1 h2 => by by_cases hc : r = nr; subst hc; rw [va_up_self]; exact u2 j (by omega); rw [va_up_ne _ _ hc]; exact (mR r j (by omega) h2).sm u1 (by omega), fun j h1 => (mV j h1).sm u1 (by omega), fun h0 j h1 => (mS h0 j h1).sm u1 (by omega), fun j h1 => (mP j h1).sm u1 (by omega), fun h j hj => (((u1 440 (by omega)).2.2 j (by omega)).trans (mg h j hj)), fun h => (mz h).sm u1 (by omega), u1.nv (by omega) m1⟩, u1.wid (by omega) (by omega)⟩)
                · refine lv_aload_n hx hb dX5_store_63 rfl (lv_at hl 2 rfl) ?_
                  refine lv_aload_n hx hb dX5_store_64 rfl (lv_at hl 2 rfl) ?_
                  refine m_get hok hx hb hts hin5 hown hK hM 7 hf_rows rfl (by decide) (v := .int (nI nr)) rfl dX5_store_65 ?_
                  refine lv_iload_n hx hb dX5_store_68 rfl (lv_at hl 0 rfl) ?_
                  refine z_calli0 (va_runS (As := [.int (nI nr), .int (nI k)]) (rest := [.ref o]) ⟨hx, hb, hml, hown, hts⟩ (m_placeOf l Γ hok G0 _ F1 L1 B1 _ nr k) (va_cwS 2 hts gX5_store_X5_placeOf rfl rfl rfl (by decide +kernel) ⟨Nat.le_of_ble_eq_true rfl, Nat.le_of_ble_eq_true rfl⟩) (zM.pre hK hM) rfl rfl hl.1 rfl (lv_room (Nat.le_of_ble_eq_true rfl)) dX5_store_69 ⟨Nat.le_of_ble_eq_true rfl, Nat.le_of_ble_eq_true rfl⟩) hM (fun r69 G69 H locs hp69 hM => ?_)
                  obtain ⟨rfl, rfl⟩ := hp69
                  refine lv_iload_n hx hb dX5_store_72 rfl (lv_at hl 3 rfl) ?_
                  refine lv_iload_n hx hb dX5_store_73 rfl (lv_at hl 0 rfl) ?_
                  refine z_iadd hx hb dX5_store_74 ?_
                  have hXk := (hX k (by omega)).sm u1 (by omega)
                  refine z_callv0 (va_runV (As := [.int (nI (7 * nr + k)), .int (nI (fr + k))]) (rest := []) ⟨hx, hb, hml, hown, hts⟩ (m_copy l Γ hok G0 _ F1 L1 B1 _ (7 * nr + k) (fr + k) (by omega) (by omega) (by omega) hXk.1.le hXk.B2) (cwV 2 hts gX5_store_X5_copy rfl rfl rfl (by decide +kernel) ⟨Nat.le_of_ble_eq_true rfl, Nat.le_of_ble_eq_true rfl⟩) (zM.preV hK hM (md_o hok) rfl rfl) rfl rfl hl.1 rfl (lv_room (Nat.le_of_ble_eq_true rfl)) dX5_store_75 ⟨Nat.le_of_ble_eq_true rfl, Nat.le_of_ble_eq_true rfl⟩) hM (fun G75 H locs hp75 hM => ?_)
                  obtain rfl := hp75
                  obtain ⟨F2, L2, B2, hM, s2, n2, b2⟩ := copy_rel hM hXk.1
                  refine z_iinc (v := (k + 1)) (lv' := [(3, .int (nI (k + 1))), (2, .int (nI (need X (vars + 1)))), (0, .ref o), (1, .int (nI fr))]) hx hb dX5_store_78 hl (k := 0) rfl (nI_p1 _) (by decide) rfl (fun ls hl => ?_)
                  refine lv_goto (tgt := 55) hx hb dX5_store_81 (by decide) ?_
                  exact ihlq _ (by omega) (k + 1) F2 L2 B2 rfl (by omega) (u1.tr (s2.wid (by omega) (by omega))) (fun j hj => by by_cases hc : j = k; subst hc; exact ⟨n2, by rw [b2]; exact hXk.2⟩; exact (u2 j (by omega)).sm s2 (by omega)) ls _ _ (lv_sub hl [0, 1, 2, 3] rfl) hM
            exact lq _ 0 F L B rfl (by omega) sm.rf (fun j hj => by omega) ls _ _ (lv_sub hl [0, 1, 2, 3] rfl) hM
          · refine lv_bipush (v := -4) hx hb dX5_store_50 rfl ?_
            rw [hQ]
            rw [hAe] at hM
            exact z_iret hsz hx hb hr hlocks hK hM dX5_store_52 (by
                  simp only [op_store]; rw [if_pos (Or.inr hc47)]; exact ⟨F, L, B, rfl, rfl, hR, sm.rf⟩)
      · refine lv_iload_n hx hb dX5_store_12 rfl (lv_at hl 1 rfl) ?_
        refine lv_iconst (v := nI 1) hx hb dX5_store_13 rfl ?_
        refine z_iadd hx hb dX5_store_14 ?_
        refine lv_aload_n hx hb dX5_store_15 rfl (lv_at hl 2 rfl) ?_
        refine m_get hok hx hb hts hin5 hown hK hM 5 hf_length rfl (by decide) (v := .ref lL) rfl dX5_store_16 ?_
        refine lv_iload_n hx hb dX5_store_19 rfl (lv_at hl 3 rfl) ?_
        refine lv_iload_n hx hb dX5_store_20 rfl (lv_at hl 0 rfl) ?_
        refine z_iadd hx hb dX5_store_21 ?_
        refine m_ldL hok hx hb hK hM (by omega) dX5_store_22 ?_
        refine z_asi (y := nI (nl (X k).natAbs)) (congrArg nI (hX k (by omega)).1.1) ?_
        refine z_iadd hx hb dX5_store_23 ?_
        have hnk := hneed k (by omega)
        refine z_asi (y := nI (need X (k + 1))) (rfl) ?_
        refine lv_istore_n (lv' := [(2, .int (nI (need X (k + 1)))), (3, .int (nI k)), (0, .ref o), (1, .int (nI fr))]) hx hb dX5_store_24 rfl hl (by decide) rfl (fun ls hl => ?_)
        refine z_iinc (v := (k + 1)) (lv' := [(3, .int (nI (k + 1))), (2, .int (nI (need X (k + 1)))), (0, .ref o), (1, .int (nI fr))]) hx hb dX5_store_25 hl (k := 1) rfl (nI_p1 _) (by decide) rfl (fun ls hl => ?_)
        refine lv_goto (tgt := 4) hx hb dX5_store_28 (by decide) ?_
        exact ihlp _ (by omega) (k + 1) rfl (by omega) ls _ _ (lv_sub hl [0, 1, 2, 3] rfl) hM
  exact lp _ 0 rfl (by omega) ls _ _ (lv_sub hl [0, 1, 2, 3] rfl) hM
