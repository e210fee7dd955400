set_option maxRecDepth 100000 in
set_option maxHeartbeats 4000000 in
theorem m_endConstraint (l : Launch) (Γ : zT) {o lF lL lB : Nat} (hok : mdk o lF lL lB) (G0 : zG) (F L B : Nat → Nat) (sz : Nat) (rf : Int32) (σ : AS)  (hA : AI σ) (hR : MRep F L B σ) : zMi l yX5_endConstraint wsX5_endConstraint (zR 3) Γ (md Γ o lF lL lB G0 (mfs rf σ) F L B) sz [.ref o] (fun r G' => ∃ F' L' B', G' = md Γ o lF lL lB G0 (mfs (nI 0) (op_endCons σ).2) F' L' B' ∧ r = (op_endCons σ).1 ∧ MRep F' L' B' (op_endCons σ).2) 0 0 := by
  obtain ⟨⟨vars, maxR, cells⟩, ⟨nr, inp, R⟩, ⟨fil, V⟩, ⟨se, be, S⟩, P, ⟨st, sg, gv, g, z⟩⟩ := σ
  obtain ⟨⟨hv1, hv6, hm1, hm60, hc4⟩, ⟨hnr, hinp, hsei, hRs⟩, ⟨hfil, hVs⟩, ⟨hse, hbe, hSs⟩, hPs, hst, hgv, hsg, hz1, hgd, hz20⟩ := id hA
  obtain ⟨mR, mV, mS, mP, mg, mz, m1⟩ := id hR
  refine z_start (cc := cX5_endConstraint) (maxL := 3) (ret := (some .int)) (by decide) rfl (Nat.le_of_ble_eq_true rfl) ?_
  intro p e s m args below meth c ls Q hQ hsz hx hb hr hml hown hts hlocks hnm hK hM hl
  obtain ⟨A, hAe⟩ : ∃ A, A = zA (md Γ o lF lL lB G0 (mfl rf (nI vars) (nI maxR) (nI cells) (nI nr) (nI inp) (nI fil) (nI se) (nI be) (nI st) sg (nI gv)) F L B) s.heap.size := ⟨_, rfl⟩
  have hM : zM Γ A s.heap (md Γ o lF lL lB G0 (mfl rf (nI vars) (nI maxR) (nI cells) (nI nr) (nI inp) (nI fil) (nI se) (nI be) (nI st) sg (nI gv)) F L B) s.heap [] := by rw [hAe]; exact hM
  have hl : lv_has ls 3 [(0, .ref o)] := hl
  have hin5 : ∀ w ∈ wsX50, w ∈ wsX5_endConstraint := by decide +kernel
  have hf_vars := hts (.fieldLink RX5 24 "CutRowsModel" "vars" "I") (by decide +kernel)
  have hf_refusal := hts (.fieldLink RX5 34 "CutRowsModel" "refusal" "I") (by decide +kernel)
  have hf_filled := hts (.fieldLink RX5 90 "CutRowsModel" "filled" "I") (by decide +kernel)
  have hf_rows := hts (.fieldLink RX5 96 "CutRowsModel" "rows" "I") (by decide +kernel)
  have hf_isSealed := hts (.fieldLink RX5 102 "CutRowsModel" "isSealed" "Z") (by decide +kernel)
  have hf_input := hts (.fieldLink RX5 109 "CutRowsModel" "input" "I") (by decide +kernel)
  have hR0 : MRep F L B ((vars, maxR, cells), (nr, inp, R), (0, V), (se, be, S), P, (st, sg, gv, g, z)) := ⟨mR, fun k hk => absurd hk (Nat.not_lt_zero k), mS, mP, mg, mz, m1⟩
  refine lv_aload_n hx hb dX5_endConstraint_0 rfl (lv_at hl 0 rfl) ?_
  refine lv_iconst (v := nI 0) hx hb dX5_endConstraint_1 rfl ?_
  refine m_put hok hx hb hts hin5 hown hK hM 0 hf_refusal rfl (by decide) rfl (rfl) (rfl) (fl' := mfl (nI 0) (nI vars) (nI maxR) (nI cells) (nI nr) (nI inp) (nI fil) (nI se) (nI be) (nI st) sg (nI gv)) rfl dX5_endConstraint_2 (fun H locs hM => ?_)
  refine lv_aload_n hx hb dX5_endConstraint_5 rfl (lv_at hl 0 rfl) ?_
  refine m_get hok hx hb hts hin5 hown hK hM 9 hf_filled rfl (by decide) (v := .int (nI fil)) rfl dX5_endConstraint_6 ?_
  refine lv_istore_n (lv' := [(1, .int (nI fil)), (0, .ref o)]) hx hb dX5_endConstraint_9 rfl hl (by decide) rfl (fun ls hl => ?_)
  refine lv_aload_n hx hb dX5_endConstraint_10 rfl (lv_at hl 1 rfl) ?_
  refine lv_iconst (v := nI 0) hx hb dX5_endConstraint_11 rfl ?_
  refine m_put hok hx hb hts hin5 hown hK hM 9 hf_filled rfl (by decide) rfl (rfl) (rfl) (fl' := mfl (nI 0) (nI vars) (nI maxR) (nI cells) (nI nr) (nI inp) (nI 0) (nI se) (nI be) (nI st) sg (nI gv)) rfl dX5_endConstraint_12 (fun H locs hM => ?_)
  refine lv_aload_n hx hb dX5_endConstraint_15 rfl (lv_at hl 1 rfl) ?_
  refine m_get hok hx hb hts hin5 hown hK hM 10 hf_isSealed rfl (by decide) (v := .int (nI se)) rfl dX5_endConstraint_16 ?_
  refine z_if_eq (tgt := 25) hx hb (by omega) dX5_endConstraint_19 (by decide) (fun hc19 => ?_) (fun hc19 => ?_)
  · refine lv_iload_n hx hb dX5_endConstraint_25 rfl (lv_at hl 0 rfl) ?_
    refine lv_aload_n hx hb dX5_endConstraint_26 rfl (lv_at hl 1 rfl) ?_
    refine m_get hok hx hb hts hin5 hown hK hM 1 hf_vars rfl (by decide) (v := .int (nI vars)) rfl dX5_endConstraint_27 ?_
    refine lv_iconst (v := nI 1) hx hb dX5_endConstraint_30 rfl ?_
    refine z_iadd hx hb dX5_endConstraint_31 ?_
    refine z_icmp_eq (tgt := 38) hx hb (by omega) (by omega) dX5_endConstraint_32 (by decide) (fun hc32 => ?_) (fun hc32 => ?_)
    · refine lv_aload_n hx hb dX5_endConstraint_38 rfl (lv_at hl 1 rfl) ?_
      refine lv_sipush (v := nI 420) hx hb dX5_endConstraint_39 rfl ?_
      have hX : ∀ k, k ≤ vars → nz F L B (420 + k) (V k) := fun k hk => mV k (by omega)
      have hX48 : ∀ k, k ≤ vars → nl (V k).natAbs ≤ 48 := fun k hk => Nat.le_trans (hVs k (by omega)) (by omega)
      have hA0 : AI ((vars, maxR, cells), (nr, inp, R), (0, V), (se, be, S), P, (st, sg, gv, g, z)) := ⟨⟨hv1, hv6, hm1, hm60, hc4⟩, ⟨hnr, hinp, hsei, hRs⟩, ⟨by omega, fun k hk => absurd hk (Nat.not_lt_zero k)⟩, ⟨hse, hbe, hSs⟩, hPs, hst, hgv, hsg, hz1, hgd, hz20⟩
      have hR0 : MRep F L B ((vars, maxR, cells), (nr, inp, R), (0, V), (se, be, S), P, (st, sg, gv, g, z)) := hR0
      refine z_calli0 (va_runV (As := [.int (nI 420)]) (rest := []) ⟨hx, hb, hml, hown, hts⟩ (m_store l Γ hok G0 F L B _ (nI 0) ((vars, maxR, cells), (nr, inp, R), (0, V), (se, be, S), P, (st, sg, gv, g, z)) V 420 (by omega) (by omega) hX hX48 hA0 hR0) (cwV 1 hts gX5_endConstraint_X5_store rfl rfl rfl (by decide +kernel) ⟨Nat.le_of_ble_eq_true rfl, Nat.le_of_ble_eq_true rfl⟩) (zM.preV hK hM (md_o hok) rfl rfl) rfl rfl hl.1 rfl (lv_room (Nat.le_of_ble_eq_true rfl)) dX5_endConstraint_42 ⟨Nat.le_of_ble_eq_true rfl, Nat.le_of_ble_eq_true rfl⟩) hM (fun r42 G42 H locs hp42 hM => ?_)
      obtain ⟨F1, L1, B1, hG, hr1, hm1, hs1⟩ := hp42
      by_cases hst9 : nr = maxR ∨ cells < need V (vars + 1)
      · simp only [op_store, if_pos hst9] at hG hr1 hm1
        subst hG
        subst hr1
        have hM : zM Γ A s.heap (md Γ o lF lL lB G0 (mfl (nI 0) (nI vars) (nI maxR) (nI cells) (nI nr) (nI inp) (nI 0) (nI se) (nI be) (nI st) sg (nI gv)) F1 L1 B1) H locs := hM
        refine lv_istore_n (lv' := [(2, .int (-4)), (1, .int (nI fil)), (0, .ref o)]) hx hb dX5_endConstraint_45 rfl hl (by decide) rfl (fun ls hl => ?_)
        refine lv_aload_n hx hb dX5_endConstraint_46 rfl (lv_at hl 2 rfl) ?_
        refine lv_aload_n hx hb dX5_endConstraint_47 rfl (lv_at hl 2 rfl) ?_
        refine m_get hok hx hb hts hin5 hown hK hM 7 hf_rows rfl (by decide) (v := .int (nI nr)) rfl dX5_endConstraint_48 ?_
        refine m_put hok hx hb hts hin5 hown hK hM 8 hf_input rfl (by decide) rfl (rfl) (rfl) (fl' := mfl (nI 0) (nI vars) (nI maxR) (nI cells) (nI nr) (nI nr) (nI 0) (nI se) (nI be) (nI st) sg (nI gv)) rfl dX5_endConstraint_51 (fun H locs hM => ?_)
        refine lv_iload_n hx hb dX5_endConstraint_54 rfl (lv_at hl 0 rfl) ?_
        rw [hQ]
        rw [hAe] at hM
        exact z_iret hsz hx hb hr hlocks hK hM dX5_endConstraint_55 (by
              have hin : inp = nr := hsei (by omega)
              subst hin
              simp only [op_endCons, op_store]; rw [if_neg (by omega), if_neg (by omega), if_pos hst9]; exact ⟨F1, L1, B1, rfl, rfl, hm1⟩)
      · simp only [op_store, if_neg hst9] at hG hr1 hm1
        subst hG
        subst hr1
        have hM : zM Γ A s.heap (md Γ o lF lL lB G0 (mfl (nI 0) (nI vars) (nI maxR) (nI (cells - need V (vars + 1))) (nI (nr + 1)) (nI inp) (nI 0) (nI se) (nI be) (nI st) sg (nI gv)) F1 L1 B1) H locs := hM
        refine lv_istore_n (lv' := [(2, .int (nI nr)), (1, .int (nI fil)), (0, .ref o)]) hx hb dX5_endConstraint_45 rfl hl (by decide) rfl (fun ls hl => ?_)
        refine lv_aload_n hx hb dX5_endConstraint_46 rfl (lv_at hl 2 rfl) ?_
        refine lv_aload_n hx hb dX5_endConstraint_47 rfl (lv_at hl 2 rfl) ?_
        refine m_get hok hx hb hts hin5 hown hK hM 7 hf_rows rfl (by decide) (v := .int (nI (nr + 1))) rfl dX5_endConstraint_48 ?_
        refine m_put hok hx hb hts hin5 hown hK hM 8 hf_input rfl (by decide) rfl (rfl) (rfl) (fl' := mfl (nI 0) (nI vars) (nI maxR) (nI (cells - need V (vars + 1))) (nI (nr + 1)) (nI (nr + 1)) (nI 0) (nI se) (nI be) (nI st) sg (nI gv)) rfl dX5_endConstraint_51 (fun H locs hM => ?_)
        refine lv_iload_n hx hb dX5_endConstraint_54 rfl (lv_at hl 0 rfl) ?_
        rw [hQ]
        rw [hAe] at hM
        exact z_iret hsz hx hb hr hlocks hK hM dX5_endConstraint_55 (by
              have hin : inp = nr := hsei (by omega)
              subst hin
              simp only [op_endCons, op_store]; rw [if_neg (by omega), if_neg (by omega), if_neg hst9]; exact ⟨F1, L1, B1, rfl, rfl, hm1⟩)
    · refine lv_bipush (v := -2) hx hb dX5_endConstraint_35 rfl ?_
      rw [hQ]
      rw [hAe] at hM
      exact z_iret hsz hx hb hr hlocks hK hM dX5_endConstraint_37 (by simp only [op_endCons]; rw [if_neg (by omega), if_pos (by omega)]; exact ⟨F, L, B, rfl, rfl, hR0⟩)
  · refine lv_bipush (v := -3) hx hb dX5_endConstraint_22 rfl ?_
    rw [hQ]
    rw [hAe] at hM
    exact z_iret hsz hx hb hr hlocks hK hM dX5_endConstraint_24 (by simp only [op_endCons]; rw [if_pos (by omega)]; exact ⟨F, L, B, rfl, rfl, hR0⟩)

set_option maxRecDepth 100000 in
set_option maxHeartbeats 4000000 in
theorem m_sealInput (l : Launch) (Γ : zT) {o lF lL lB : Nat} (hok : mdk o lF lL lB) (G0 : zG) (F L B : Nat → Nat) (sz : Nat) (rf : Int32) (σ : AS)  (hA : AI σ) (hR : MRep F L B σ) : zMi l yX5_sealInput wsX5_sealInput (zR 1) Γ (md Γ o lF lL lB G0 (mfs rf σ) F L B) sz [.ref o] (fun r G' => ∃ F' L' B', G' = md Γ o lF lL lB G0 (mfs (nI 0) (op_seal σ).2) F' L' B' ∧ r = (op_seal σ).1 ∧ MRep F' L' B' (op_seal σ).2) 0 0 := by
  obtain ⟨⟨vars, maxR, cells⟩, ⟨nr, inp, R⟩, ⟨fil, V⟩, ⟨se, be, S⟩, P, ⟨st, sg, gv, g, z⟩⟩ := σ
  obtain ⟨⟨hv1, hv6, hm1, hm60, hc4⟩, ⟨hnr, hinp, hsei, hRs⟩, ⟨hfil, hVs⟩, ⟨hse, hbe, hSs⟩, hPs, hst, hgv, hsg, hz1, hgd, hz20⟩ := id hA
  obtain ⟨mR, mV, mS, mP, mg, mz, m1⟩ := id hR
  refine z_start (cc := cX5_sealInput) (maxL := 2) (ret := (some .boolean)) (by decide) rfl (Nat.le_of_ble_eq_true rfl) ?_
  intro p e s m args below meth c ls Q hQ hsz hx hb hr hml hown hts hlocks hnm hK hM hl
  obtain ⟨A, hAe⟩ : ∃ A, A = zA (md Γ o lF lL lB G0 (mfl rf (nI vars) (nI maxR) (nI cells) (nI nr) (nI inp) (nI fil) (nI se) (nI be) (nI st) sg (nI gv)) F L B) s.heap.size := ⟨_, rfl⟩
  have hM : zM Γ A s.heap (md Γ o lF lL lB G0 (mfl rf (nI vars) (nI maxR) (nI cells) (nI nr) (nI inp) (nI fil) (nI se) (nI be) (nI st) sg (nI gv)) F L B) s.heap [] := by rw [hAe]; exact hM
  have hl : lv_has ls 2 [(0, .ref o)] := hl
  have hin5 : ∀ w ∈ wsX50, w ∈ wsX5_sealInput := by decide +kernel
  have hf_refusal := hts (.fieldLink RX5 34 "CutRowsModel" "refusal" "I") (by decide +kernel)
  have hf_isSealed := hts (.fieldLink RX5 102 "CutRowsModel" "isSealed" "Z") (by decide +kernel)
  refine lv_aload_n hx hb dX5_sealInput_0 rfl (lv_at hl 0 rfl) ?_
  refine lv_iconst (v := nI 0) hx hb dX5_sealInput_1 rfl ?_
  refine m_put hok hx hb hts hin5 hown hK hM 0 hf_refusal rfl (by decide) rfl (rfl) (rfl) (fl' := mfl (nI 0) (nI vars) (nI maxR) (nI cells) (nI nr) (nI inp) (nI fil) (nI se) (nI be) (nI st) sg (nI gv)) rfl dX5_sealInput_2 (fun H locs hM => ?_)
  refine lv_aload_n hx hb dX5_sealInput_5 rfl (lv_at hl 0 rfl) ?_
  refine m_get hok hx hb hts hin5 hown hK hM 10 hf_isSealed rfl (by decide) (v := .int (nI se)) rfl dX5_sealInput_6 ?_
  refine lv_istore_n (lv' := [(1, .int (nI se)), (0, .ref o)]) hx hb dX5_sealInput_9 rfl hl (by decide) rfl (fun ls hl => ?_)
  refine lv_aload_n hx hb dX5_sealInput_10 rfl (lv_at hl 1 rfl) ?_
  refine lv_iconst (v := nI 1) hx hb dX5_sealInput_11 rfl ?_
  refine m_put hok hx hb hts hin5 hown hK hM 10 hf_isSealed rfl (by decide) rfl (rfl) (rfl) (fl' := mfl (nI 0) (nI vars) (nI maxR) (nI cells) (nI nr) (nI inp) (nI fil) (nI 1) (nI be) (nI st) sg (nI gv)) rfl dX5_sealInput_12 (fun H locs hM => ?_)
  refine lv_iload_n hx hb dX5_sealInput_15 rfl (lv_at hl 0 rfl) ?_
  refine z_if_ne (tgt := 23) hx hb (by omega) dX5_sealInput_16 (by decide) (fun hc16 => ?_) (fun hc16 => ?_)
  · refine lv_iconst (v := nI 0) hx hb dX5_sealInput_23 rfl ?_
    rw [hQ]
    rw [hAe] at hM
    exact z_zret (by omega) hsz hx hb hr hlocks hK hM dX5_sealInput_24 (⟨F, L, B, rfl, congrArg nI (show 0 = 1 - se by omega), mR, mV, mS, mP, mg, mz, m1⟩)
  · refine lv_iconst (v := nI 1) hx hb dX5_sealInput_19 rfl ?_
    refine lv_goto (tgt := 24) hx hb dX5_sealInput_20 (by decide) ?_
    rw [hQ]
    rw [hAe] at hM
    exact z_zret (by omega) hsz hx hb hr hlocks hK hM dX5_sealInput_24 (⟨F, L, B, rfl, congrArg nI (show 1 = 1 - se by omega), mR, mV, mS, mP, mg, mz, m1⟩)

set_option maxRecDepth 100000 in
set_option maxHeartbeats 4000000 in
theorem m_combineStart (l : Launch) (Γ : zT) {o lF lL lB : Nat} (hok : mdk o lF lL lB) (G0 : zG) (F L B : Nat → Nat) (sz : Nat) (rf : Int32) (σ : AS)  (hA : AI σ) (hR : MRep F L B σ) : zMi l yX5_combineStart wsX5_combineStart (zR 2) Γ (md Γ o lF lL lB G0 (mfs rf σ) F L B) sz [.ref o] (fun r G' => ∃ F' L' B', G' = md Γ o lF lL lB G0 (mfs (nI 0) (op_start σ).2) F' L' B' ∧ r = (op_start σ).1 ∧ MRep F' L' B' (op_start σ).2) 0 0 := by
  obtain ⟨⟨vars, maxR, cells⟩, ⟨nr, inp, R⟩, ⟨fil, V⟩, ⟨se, be, S⟩, P, ⟨st, sg, gv, g, z⟩⟩ := σ
  obtain ⟨⟨hv1, hv6, hm1, hm60, hc4⟩, ⟨hnr, hinp, hsei, hRs⟩, ⟨hfil, hVs⟩, ⟨hse, hbe, hSs⟩, hPs, hst, hgv, hsg, hz1, hgd, hz20⟩ := id hA
  obtain ⟨mR, mV, mS, mP, mg, mz, m1⟩ := id hR
  refine z_start (cc := cX5_combineStart) (maxL := 2) (ret := (some .boolean)) (by decide) rfl (Nat.le_of_ble_eq_true rfl) ?_
  intro p e s m args below meth c ls Q hQ hsz hx hb hr hml hown hts hlocks hnm hK hM hl
  obtain ⟨A, hAe⟩ : ∃ A, A = zA (md Γ o lF lL lB G0 (mfl rf (nI vars) (nI maxR) (nI cells) (nI nr) (nI inp) (nI fil) (nI se) (nI be) (nI st) sg (nI gv)) F L B) s.heap.size := ⟨_, rfl⟩
  have hM : zM Γ A s.heap (md Γ o lF lL lB G0 (mfl rf (nI vars) (nI maxR) (nI cells) (nI nr) (nI inp) (nI fil) (nI se) (nI be) (nI st) sg (nI gv)) F L B) s.heap [] := by rw [hAe]; exact hM
  have hl : lv_has ls 2 [(0, .ref o)] := hl
  have hin5 : ∀ w ∈ wsX50, w ∈ wsX5_combineStart := by decide +kernel
  have hf_vars := hts (.fieldLink RX5 24 "CutRowsModel" "vars" "I") (by decide +kernel)
  have hf_refusal := hts (.fieldLink RX5 34 "CutRowsModel" "refusal" "I") (by decide +kernel)
  have hf_isSealed := hts (.fieldLink RX5 102 "CutRowsModel" "isSealed" "Z") (by decide +kernel)
  have hf_isBegun := hts (.fieldLink RX5 112 "CutRowsModel" "isBegun" "Z") (by decide +kernel)
  refine lv_aload_n hx hb dX5_combineStart_0 rfl (lv_at hl 0 rfl) ?_
  refine lv_iconst (v := nI 0) hx hb dX5_combineStart_1 rfl ?_
  refine m_put hok hx hb hts hin5 hown hK hM 0 hf_refusal rfl (by decide) rfl (rfl) (rfl) (fl' := mfl (nI 0) (nI vars) (nI maxR) (nI cells) (nI nr) (nI inp) (nI fil) (nI se) (nI be) (nI st) sg (nI gv)) rfl dX5_combineStart_2 (fun H locs hM => ?_)
  refine lv_aload_n hx hb dX5_combineStart_5 rfl (lv_at hl 0 rfl) ?_
  refine m_get hok hx hb hts hin5 hown hK hM 10 hf_isSealed rfl (by decide) (v := .int (nI se)) rfl dX5_combineStart_6 ?_
  refine z_if_ne (tgt := 14) hx hb (by omega) dX5_combineStart_9 (by decide) (fun hc9 => ?_) (fun hc9 => ?_)
  · refine lv_aload_n hx hb dX5_combineStart_14 rfl (lv_at hl 0 rfl) ?_
    refine lv_iconst (v := nI 1) hx hb dX5_combineStart_15 rfl ?_
    refine m_put hok hx hb hts hin5 hown hK hM 11 hf_isBegun rfl (by decide) rfl (rfl) (rfl) (fl' := mfl (nI 0) (nI vars) (nI maxR) (nI cells) (nI nr) (nI inp) (nI fil) (nI se) (nI 1) (nI st) sg (nI gv)) rfl dX5_combineStart_16 (fun H locs hM => ?_)
    refine lv_iconst (v := nI 0) hx hb dX5_combineStart_19 rfl ?_
    refine lv_istore_n (lv' := [(1, .int (nI 0)), (0, .ref o)]) hx hb dX5_combineStart_20 rfl hl (by decide) rfl (fun ls hl => ?_)
    have lp : ∀ (μ : Nat) (k : Nat) (L1 : Nat → Nat) (B1 : Nat → Nat), vars + 1 - k = μ → (k ≤ vars + 1) → (sm 427 (427 + 7) F L B F L1 B1) → (∀ j, j < k → nz F L1 B1 (427 + j) 0) → ∀ (ls : Array Slot) (H : Heap) (locs : List Loc), lv_has ls 2 [(1, .int (nI k)), (0, .ref o)] → zM Γ A s.heap (md Γ o lF lL lB G0 (mfl (nI 0) (nI vars) (nI maxR) (nI cells) (nI nr) (nI inp) (nI fil) (nI se) (nI 1) (nI st) sg (nI gv)) F L1 B1) H locs → W p l e (zR 2) s m args below meth c H locs 0 0 Q (F0 m 21 ls []) := by
      intro μ
      induction μ using Nat.strongRecOn with
      | _ μ ihlp =>
        intro k L1 B1 hμ hk u1 u2 ls H locs hl hM
        refine lv_iload_n hx hb dX5_combineStart_21 rfl (lv_at hl 0 rfl) ?_
        refine lv_aload_n hx hb dX5_combineStart_22 rfl (lv_at hl 1 rfl) ?_
        refine m_get hok hx hb hts hin5 hown hK hM 1 hf_vars rfl (by decide) (v := .int (nI vars)) rfl dX5_combineStart_23 ?_
        refine z_icmp_gt (tgt := 44) hx hb (by omega) (by omega) dX5_combineStart_26 (by decide) (fun hc26 => ?_) (fun hc26 => ?_)
        · refine lv_iconst (v := nI 1) hx hb dX5_combineStart_44 rfl ?_
          rw [hQ]
          rw [hAe] at hM
          exact z_zret (by omega) hsz hx hb hr hlocks hK hM dX5_combineStart_45 (by
                simp only [op_start]; rw [if_neg (by omega)]
                exact ⟨F, L1, B1, rfl, rfl, fun r j h1 h2 => (mR r j h1 h2).sm u1 (by omega), fun j h1 => (mV j h1).sm u1 (by omega), fun _ j h1 => u2 j (by omega), fun j h1 => (mP j h1).sm u1 (by omega), mg, fun h => (mz h).sm u1 (by omega), u1.nv (by omega) m1⟩)
        · refine lv_aload_n hx hb dX5_combineStart_29 rfl (lv_at hl 1 rfl) ?_
          refine lv_sipush (v := nI 427) hx hb dX5_combineStart_30 rfl ?_
          refine lv_iload_n hx hb dX5_combineStart_33 rfl (lv_at hl 0 rfl) ?_
          refine z_iadd hx hb dX5_combineStart_34 ?_
          refine z_callv0 (va_runV (As := [.int (nI (427 + k))]) (rest := []) ⟨hx, hb, hml, hown, hts⟩ (m_clear l Γ hok G0 _ F L1 B1 _ (427 + k) (by omega)) (cwV 1 hts gX5_combineStart_X5_clear rfl rfl rfl (by decide +kernel) ⟨Nat.le_of_ble_eq_true rfl, Nat.le_of_ble_eq_true rfl⟩) (zM.preV hK hM (md_o hok) rfl rfl) rfl rfl hl.1 rfl (lv_room (Nat.le_of_ble_eq_true rfl)) dX5_combineStart_35 ⟨Nat.le_of_ble_eq_true rfl, Nat.le_of_ble_eq_true rfl⟩) hM (fun G35 H locs hp35 hM => ?_)
          obtain rfl := hp35
          obtain ⟨L2, B2, hM, s2, n2, b2⟩ := clear_rel hM
          refine z_iinc (v := (k + 1)) (lv' := [(1, .int (nI (k + 1))), (0, .ref o)]) hx hb dX5_combineStart_38 hl (k := 0) rfl (nI_p1 _) (by decide) rfl (fun ls hl => ?_)
          refine lv_goto (tgt := 21) hx hb dX5_combineStart_41 (by decide) ?_
          exact ihlp _ (by omega) (k + 1) L2 B2 rfl (by omega) (u1.tr (s2.wid (by omega) (by omega))) (fun j hj => by by_cases hc : j = k; subst hc; exact nz_0 n2 b2; exact (u2 j (by omega)).sm s2 (by omega)) ls _ _ (lv_sub hl [0, 1] rfl) hM
    exact lp _ 0 L B rfl (by omega) sm.rf (fun j hj => by omega) ls _ _ (lv_sub hl [0, 1] rfl) hM
  · refine lv_iconst (v := nI 0) hx hb dX5_combineStart_12 rfl ?_
    rw [hQ]
    rw [hAe] at hM
    exact z_zret (by omega) hsz hx hb hr hlocks hK hM dX5_combineStart_13 (by simp only [op_start]; rw [if_pos (by omega)]; exact ⟨F, L, B, rfl, rfl, hR⟩)

set_option maxRecDepth 100000 in
set_option maxHeartbeats 4000000 in
theorem m_combineEnd (l : Launch) (Γ : zT) {o lF lL lB : Nat} (hok : mdk o lF lL lB) (G0 : zG) (F L B : Nat → Nat) (sz : Nat) (rf : Int32) (σ : AS)  (hA : AI σ) (hR : MRep F L B σ) : zMi l yX5_combineEnd wsX5_combineEnd (zR 3) Γ (md Γ o lF lL lB G0 (mfs rf σ) F L B) sz [.ref o] (fun r G' => ∃ F' L' B', G' = md Γ o lF lL lB G0 (mfs (nI 0) (op_end σ).2) F' L' B' ∧ r = (op_end σ).1 ∧ MRep F' L' B' (op_end σ).2) 0 0 := by
  obtain ⟨⟨vars, maxR, cells⟩, ⟨nr, inp, R⟩, ⟨fil, V⟩, ⟨se, be, S⟩, P, ⟨st, sg, gv, g, z⟩⟩ := σ
  obtain ⟨⟨hv1, hv6, hm1, hm60, hc4⟩, ⟨hnr, hinp, hsei, hRs⟩, ⟨hfil, hVs⟩, ⟨hse, hbe, hSs⟩, hPs, hst, hgv, hsg, hz1, hgd, hz20⟩ := id hA
  obtain ⟨mR, mV, mS, mP, mg, mz, m1⟩ := id hR
  refine z_start (cc := cX5_combineEnd) (maxL := 2) (ret := (some .int)) (by decide) rfl (Nat.le_of_ble_eq_true rfl) ?_
  intro p e s m args below meth c ls Q hQ hsz hx hb hr hml hown hts hlocks hnm hK hM hl
  obtain ⟨A, hAe⟩ : ∃ A, A = zA (md Γ o lF lL lB G0 (mfl rf (nI vars) (nI maxR) (nI cells) (nI nr) (nI inp) (nI fil) (nI se) (nI be) (nI st) sg (nI gv)) F L B) s.heap.size := ⟨_, rfl⟩
  have hM : zM Γ A s.heap (md Γ o lF lL lB G0 (mfl rf (nI vars) (nI maxR) (nI cells) (nI nr) (nI inp) (nI fil) (nI se) (nI be) (nI st) sg (nI gv)) F L B) s.heap [] := by rw [hAe]; exact hM
  have hl : lv_has ls 2 [(0, .ref o)] := hl
  have hin5 : ∀ w ∈ wsX50, w ∈ wsX5_combineEnd := by decide +kernel
  have hf_refusal := hts (.fieldLink RX5 34 "CutRowsModel" "refusal" "I") (by decide +kernel)
  have hf_isBegun := hts (.fieldLink RX5 112 "CutRowsModel" "isBegun" "Z") (by decide +kernel)
  refine lv_aload_n hx hb dX5_combineEnd_0 rfl (lv_at hl 0 rfl) ?_
  refine lv_iconst (v := nI 0) hx hb dX5_combineEnd_1 rfl ?_
  refine m_put hok hx hb hts hin5 hown hK hM 0 hf_refusal rfl (by decide) rfl (rfl) (rfl) (fl' := mfl (nI 0) (nI vars) (nI maxR) (nI cells) (nI nr) (nI inp) (nI fil) (nI se) (nI be) (nI st) sg (nI gv)) rfl dX5_combineEnd_2 (fun H locs hM => ?_)
  refine lv_aload_n hx hb dX5_combineEnd_5 rfl (lv_at hl 0 rfl) ?_
  refine m_get hok hx hb hts hin5 hown hK hM 11 hf_isBegun rfl (by decide) (v := .int (nI be)) rfl dX5_combineEnd_6 ?_
  refine z_if_ne (tgt := 15) hx hb (by omega) dX5_combineEnd_9 (by decide) (fun hc9 => ?_) (fun hc9 => ?_)
  · refine lv_aload_n hx hb dX5_combineEnd_15 rfl (lv_at hl 0 rfl) ?_
    refine lv_sipush (v := nI 427) hx hb dX5_combineEnd_16 rfl ?_
    have hX : ∀ k, k ≤ vars → nz F L B (427 + k) (S k) := mS (by omega)
    have hX48 : ∀ k, k ≤ vars → nl (S k).natAbs ≤ 48 := hSs (by omega)
    have hA0 : AI ((vars, maxR, cells), (nr, inp, R), (fil, V), (se, be, S), P, (st, sg, gv, g, z)) := hA
    have hR0 : MRep F L B ((vars, maxR, cells), (nr, inp, R), (fil, V), (se, be, S), P, (st, sg, gv, g, z)) := hR
    refine z_calli0 (va_runV (As := [.int (nI 427)]) (rest := []) ⟨hx, hb, hml, hown, hts⟩ (m_store l Γ hok G0 F L B _ (nI 0) ((vars, maxR, cells), (nr, inp, R), (fil, V), (se, be, S), P, (st, sg, gv, g, z)) S 427 (by omega) (by omega) hX hX48 hA0 hR0) (cwV 1 hts gX5_combineEnd_X5_store rfl rfl rfl (by decide +kernel) ⟨Nat.le_of_ble_eq_true rfl, Nat.le_of_ble_eq_true rfl⟩) (zM.preV hK hM (md_o hok) rfl rfl) rfl rfl hl.1 rfl (lv_room (Nat.le_of_ble_eq_true rfl)) dX5_combineEnd_19 ⟨Nat.le_of_ble_eq_true rfl, Nat.le_of_ble_eq_true rfl⟩) hM (fun r19 G19 H locs hp19 hM => ?_)
    obtain ⟨F1, L1, B1, hG, hr1, hm1, hs1⟩ := hp19
    by_cases hst9 : nr = maxR ∨ cells < need S (vars + 1)
    · simp only [op_store, if_pos hst9] at hG hr1 hm1
      subst hG
      subst hr1
      have hM : zM Γ A s.heap (md Γ o lF lL lB G0 (mfl (nI 0) (nI vars) (nI maxR) (nI cells) (nI nr) (nI inp) (nI fil) (nI se) (nI be) (nI st) sg (nI gv)) F1 L1 B1) H locs := hM
      refine lv_istore_n (lv' := [(1, .int (-4)), (0, .ref o)]) hx hb dX5_combineEnd_22 rfl hl (by decide) rfl (fun ls hl => ?_)
      refine lv_aload_n hx hb dX5_combineEnd_23 rfl (lv_at hl 1 rfl) ?_
      refine lv_iload_n hx hb dX5_combineEnd_24 rfl (lv_at hl 0 rfl) ?_
      refine lv_bipush (v := -4) hx hb dX5_combineEnd_25 rfl ?_
      refine lv_icmp_ne (tgt := 34) hx hb dX5_combineEnd_27 (by decide) (fun hc27 => ?_) (fun hc27 => ?_)
      · exact absurd rfl hc27
      · refine lv_iconst (v := nI 1) hx hb dX5_combineEnd_30 rfl ?_
        refine lv_goto (tgt := 35) hx hb dX5_combineEnd_31 (by decide) ?_
        refine m_put hok hx hb hts hin5 hown hK hM 11 hf_isBegun rfl (by decide) rfl (rfl) (rfl) (fl' := mfl (nI 0) (nI vars) (nI maxR) (nI cells) (nI nr) (nI inp) (nI fil) (nI se) (nI 1) (nI st) sg (nI gv)) rfl dX5_combineEnd_35 (fun H locs hM => ?_)
        refine lv_iload_n hx hb dX5_combineEnd_38 rfl (lv_at hl 0 rfl) ?_
        rw [hQ]
        rw [hAe] at hM
        exact z_iret hsz hx hb hr hlocks hK hM dX5_combineEnd_39 (by
              have hb1 : be = 1 := by omega
              subst hb1
              simp only [op_end, op_store]; rw [if_neg (by omega), if_pos hst9]; exact ⟨F1, L1, B1, rfl, rfl, hm1⟩)
    · simp only [op_store, if_neg hst9] at hG hr1 hm1
      subst hG
      subst hr1
      have hM : zM Γ A s.heap (md Γ o lF lL lB G0 (mfl (nI 0) (nI vars) (nI maxR) (nI (cells - need S (vars + 1))) (nI (nr + 1)) (nI inp) (nI fil) (nI se) (nI be) (nI st) sg (nI gv)) F1 L1 B1) H locs := hM
      refine lv_istore_n (lv' := [(1, .int (nI nr)), (0, .ref o)]) hx hb dX5_combineEnd_22 rfl hl (by decide) rfl (fun ls hl => ?_)
      refine lv_aload_n hx hb dX5_combineEnd_23 rfl (lv_at hl 1 rfl) ?_
      refine lv_iload_n hx hb dX5_combineEnd_24 rfl (lv_at hl 0 rfl) ?_
      refine lv_bipush (v := -4) hx hb dX5_combineEnd_25 rfl ?_
      refine lv_icmp_ne (tgt := 34) hx hb dX5_combineEnd_27 (by decide) (fun hc27 => ?_) (fun hc27 => ?_)
      · refine lv_iconst (v := nI 0) hx hb dX5_combineEnd_34 rfl ?_
        refine m_put hok hx hb hts hin5 hown hK hM 11 hf_isBegun rfl (by decide) rfl (rfl) (rfl) (fl' := mfl (nI 0) (nI vars) (nI maxR) (nI (cells - need S (vars + 1))) (nI (nr + 1)) (nI inp) (nI fil) (nI se) (nI 0) (nI st) sg (nI gv)) rfl dX5_combineEnd_35 (fun H locs hM => ?_)
        refine lv_iload_n hx hb dX5_combineEnd_38 rfl (lv_at hl 0 rfl) ?_
        rw [hQ]
        rw [hAe] at hM
        exact z_iret hsz hx hb hr hlocks hK hM dX5_combineEnd_39 (by
              simp only [op_end, op_store]; rw [if_neg (by omega), if_neg hst9]; obtain ⟨a1, a2, a3, a4⟩ := hm1; exact ⟨F1, L1, B1, rfl, rfl, a1, a2, fun h => absurd h (by decide), a4⟩)
      · exact absurd (show nI nr < 0 by rw [hc27]; decide) (nI_pos (by omega))
  · refine lv_bipush (v := -7) hx hb dX5_combineEnd_12 rfl ?_
    rw [hQ]
    rw [hAe] at hM
    exact z_iret hsz hx hb hr hlocks hK hM dX5_combineEnd_14 (by simp only [op_end]; rw [if_pos (by omega)]; exact ⟨F, L, B, rfl, rfl, hR⟩)

set_option maxRecDepth 100000 in
set_option maxHeartbeats 4000000 in
theorem m_rowCount (l : Launch) (Γ : zT) {o lF lL lB : Nat} (hok : mdk o lF lL lB) (G0 : zG) (F L B : Nat → Nat) (sz : Nat) (rf : Int32) (σ : AS)  (hA : AI σ) (hR : MRep F L B σ) : zMi l yX5_rowCount wsX5_rowCount (zR 1) Γ (md Γ o lF lL lB G0 (mfs rf σ) F L B) sz [.ref o] (fun r G' => r = op_rows σ ∧ G' = md Γ o lF lL lB G0 (mfs (nI 0) σ) F L B) 0 0 := by
  obtain ⟨⟨vars, maxR, cells⟩, ⟨nr, inp, R⟩, ⟨fil, V⟩, ⟨se, be, S⟩, P, ⟨st, sg, gv, g, z⟩⟩ := σ
  obtain ⟨⟨hv1, hv6, hm1, hm60, hc4⟩, ⟨hnr, hinp, hsei, hRs⟩, ⟨hfil, hVs⟩, ⟨hse, hbe, hSs⟩, hPs, hst, hgv, hsg, hz1, hgd, hz20⟩ := id hA
  obtain ⟨mR, mV, mS, mP, mg, mz, m1⟩ := id hR
  refine z_start (cc := cX5_rowCount) (maxL := 1) (ret := (some .int)) (by decide) rfl (Nat.le_of_ble_eq_true rfl) ?_
  intro p e s m args below meth c ls Q hQ hsz hx hb hr hml hown hts hlocks hnm hK hM hl
  obtain ⟨A, hAe⟩ : ∃ A, A = zA (md Γ o lF lL lB G0 (mfl rf (nI vars) (nI maxR) (nI cells) (nI nr) (nI inp) (nI fil) (nI se) (nI be) (nI st) sg (nI gv)) F L B) s.heap.size := ⟨_, rfl⟩
  have hM : zM Γ A s.heap (md Γ o lF lL lB G0 (mfl rf (nI vars) (nI maxR) (nI cells) (nI nr) (nI inp) (nI fil) (nI se) (nI be) (nI st) sg (nI gv)) F L B) s.heap [] := by rw [hAe]; exact hM
  have hl : lv_has ls 1 [(0, .ref o)] := hl
  have hin5 : ∀ w ∈ wsX50, w ∈ wsX5_rowCount := by decide +kernel
  have hf_refusal := hts (.fieldLink RX5 34 "CutRowsModel" "refusal" "I") (by decide +kernel)
  have hf_rows := hts (.fieldLink RX5 96 "CutRowsModel" "rows" "I") (by decide +kernel)
  refine lv_aload_n hx hb dX5_rowCount_0 rfl (lv_at hl 0 rfl) ?_
  refine lv_iconst (v := nI 0) hx hb dX5_rowCount_1 rfl ?_
  refine m_put hok hx hb hts hin5 hown hK hM 0 hf_refusal rfl (by decide) rfl (rfl) (rfl) (fl' := mfl (nI 0) (nI vars) (nI maxR) (nI cells) (nI nr) (nI inp) (nI fil) (nI se) (nI be) (nI st) sg (nI gv)) rfl dX5_rowCount_2 (fun H locs hM => ?_)
  refine lv_aload_n hx hb dX5_rowCount_5 rfl (lv_at hl 0 rfl) ?_
  refine m_get hok hx hb hts hin5 hown hK hM 7 hf_rows rfl (by decide) (v := .int (nI nr)) rfl dX5_rowCount_6 ?_
  rw [hQ]
  rw [hAe] at hM
  exact z_iret hsz hx hb hr hlocks hK hM dX5_rowCount_9 (⟨rfl, rfl⟩)

set_option maxRecDepth 100000 in
set_option maxHeartbeats 4000000 in
theorem m_evalStart (l : Launch) (Γ : zT) {o lF lL lB : Nat} (hok : mdk o lF lL lB) (G0 : zG) (F L B : Nat → Nat) (sz : Nat) (rf : Int32) (σ : AS)  (hA : AI σ) (hR : MRep F L B σ) : zMi l yX5_evalStart wsX5_evalStart (zR 2) Γ (md Γ o lF lL lB G0 (mfs rf σ) F L B) sz [.ref o] (fun r G' => ∃ F' L' B', G' = md Γ o lF lL lB G0 (mfs (nI 0) (op_evalStart σ).2) F' L' B' ∧ r = (op_evalStart σ).1 ∧ MRep F' L' B' (op_evalStart σ).2) 0 0 := by
  obtain ⟨⟨vars, maxR, cells⟩, ⟨nr, inp, R⟩, ⟨fil, V⟩, ⟨se, be, S⟩, P, ⟨st, sg, gv, g, z⟩⟩ := σ
  obtain ⟨⟨hv1, hv6, hm1, hm60, hc4⟩, ⟨hnr, hinp, hsei, hRs⟩, ⟨hfil, hVs⟩, ⟨hse, hbe, hSs⟩, hPs, hst, hgv, hsg, hz1, hgd, hz20⟩ := id hA
  obtain ⟨mR, mV, mS, mP, mg, mz, m1⟩ := id hR
  refine z_start (cc := cX5_evalStart) (maxL := 2) (ret := (some .boolean)) (by decide) rfl (Nat.le_of_ble_eq_true rfl) ?_
  intro p e s m args below meth c ls Q hQ hsz hx hb hr hml hown hts hlocks hnm hK hM hl
  obtain ⟨A, hAe⟩ : ∃ A, A = zA (md Γ o lF lL lB G0 (mfl rf (nI vars) (nI maxR) (nI cells) (nI nr) (nI inp) (nI fil) (nI se) (nI be) (nI st) sg (nI gv)) F L B) s.heap.size := ⟨_, rfl⟩
  have hM : zM Γ A s.heap (md Γ o lF lL lB G0 (mfl rf (nI vars) (nI maxR) (nI cells) (nI nr) (nI inp) (nI fil) (nI se) (nI be) (nI st) sg (nI gv)) F L B) s.heap [] := by rw [hAe]; exact hM
  have hl : lv_has ls 2 [(0, .ref o)] := hl
  have hin5 : ∀ w ∈ wsX50, w ∈ wsX5_evalStart := by decide +kernel
  have hf_vars := hts (.fieldLink RX5 24 "CutRowsModel" "vars" "I") (by decide +kernel)
  have hf_refusal := hts (.fieldLink RX5 34 "CutRowsModel" "refusal" "I") (by decide +kernel)
  refine lv_aload_n hx hb dX5_evalStart_0 rfl (lv_at hl 0 rfl) ?_
  refine lv_iconst (v := nI 0) hx hb dX5_evalStart_1 rfl ?_
  refine m_put hok hx hb hts hin5 hown hK hM 0 hf_refusal rfl (by decide) rfl (rfl) (rfl) (fl' := mfl (nI 0) (nI vars) (nI maxR) (nI cells) (nI nr) (nI inp) (nI fil) (nI se) (nI be) (nI st) sg (nI gv)) rfl dX5_evalStart_2 (fun H locs hM => ?_)
  refine lv_iconst (v := nI 0) hx hb dX5_evalStart_5 rfl ?_
  refine lv_istore_n (lv' := [(1, .int (nI 0)), (0, .ref o)]) hx hb dX5_evalStart_6 rfl hl (by decide) rfl (fun ls hl => ?_)
  have lp : ∀ (μ : Nat) (k : Nat) (L1 : Nat → Nat) (B1 : Nat → Nat), vars - k = μ → (k ≤ vars) → (sm 434 (434 + 6) F L B F L1 B1) → (∀ j, j < k → nz F L1 B1 (434 + j) 0) → ∀ (ls : Array Slot) (H : Heap) (locs : List Loc), lv_has ls 2 [(1, .int (nI k)), (0, .ref o)] → zM Γ A s.heap (md Γ o lF lL lB G0 (mfl (nI 0) (nI vars) (nI maxR) (nI cells) (nI nr) (nI inp) (nI fil) (nI se) (nI be) (nI st) sg (nI gv)) F L1 B1) H locs → W p l e (zR 2) s m args below meth c H locs 0 0 Q (F0 m 7 ls []) := by
    intro μ
    induction μ using Nat.strongRecOn with
    | _ μ ihlp =>
      intro k L1 B1 hμ hk u1 u2 ls H locs hl hM
      refine lv_iload_n hx hb dX5_evalStart_7 rfl (lv_at hl 0 rfl) ?_
      refine lv_aload_n hx hb dX5_evalStart_8 rfl (lv_at hl 1 rfl) ?_
      refine m_get hok hx hb hts hin5 hown hK hM 1 hf_vars rfl (by decide) (v := .int (nI vars)) rfl dX5_evalStart_9 ?_
      refine z_icmp_ge (tgt := 30) hx hb (by omega) (by omega) dX5_evalStart_12 (by decide) (fun hc12 => ?_) (fun hc12 => ?_)
      · refine lv_iconst (v := nI 1) hx hb dX5_evalStart_30 rfl ?_
        rw [hQ]
        rw [hAe] at hM
        exact z_zret (by omega) hsz hx hb hr hlocks hK hM dX5_evalStart_31 (by simp only [op_evalStart]; exact ⟨F, L1, B1, rfl, trivial, fun r j h1 h2 => (mR r j h1 h2).sm u1 (by omega), fun j h1 => (mV j h1).sm u1 (by omega), fun h0 j h1 => (mS h0 j h1).sm u1 (by omega), fun j h1 => u2 j (by omega), mg, fun h => (mz h).sm u1 (by omega), u1.nv (by omega) m1⟩)
      · refine lv_aload_n hx hb dX5_evalStart_15 rfl (lv_at hl 1 rfl) ?_
        refine lv_sipush (v := nI 434) hx hb dX5_evalStart_16 rfl ?_
        refine lv_iload_n hx hb dX5_evalStart_19 rfl (lv_at hl 0 rfl) ?_
        refine z_iadd hx hb dX5_evalStart_20 ?_
        refine z_callv0 (va_runV (As := [.int (nI (434 + k))]) (rest := []) ⟨hx, hb, hml, hown, hts⟩ (m_clear l Γ hok G0 _ F L1 B1 _ (434 + k) (by omega)) (cwV 1 hts gX5_evalStart_X5_clear rfl rfl rfl (by decide +kernel) ⟨Nat.le_of_ble_eq_true rfl, Nat.le_of_ble_eq_true rfl⟩) (zM.preV hK hM (md_o hok) rfl rfl) rfl rfl hl.1 rfl (lv_room (Nat.le_of_ble_eq_true rfl)) dX5_evalStart_21 ⟨Nat.le_of_ble_eq_true rfl, Nat.le_of_ble_eq_true rfl⟩) hM (fun G21 H locs hp21 hM => ?_)
        obtain rfl := hp21
        obtain ⟨L2, B2, hM, s2, n2, b2⟩ := clear_rel hM
        refine z_iinc (v := (k + 1)) (lv' := [(1, .int (nI (k + 1))), (0, .ref o)]) hx hb dX5_evalStart_24 hl (k := 0) rfl (nI_p1 _) (by decide) rfl (fun ls hl => ?_)
        refine lv_goto (tgt := 7) hx hb dX5_evalStart_27 (by decide) ?_
        exact ihlp _ (by omega) (k + 1) L2 B2 rfl (by omega) (u1.tr (s2.wid (by omega) (by omega))) (fun j hj => by by_cases hc : j = k; subst hc; exact nz_0 n2 b2; exact (u2 j (by omega)).sm s2 (by omega)) ls _ _ (lv_sub hl [0, 1] rfl) hM
  exact lp _ 0 L B rfl (by omega) sm.rf (fun j hj => by omega) ls _ _ (lv_sub hl [0, 1] rfl) hM

set_option maxRecDepth 100000 in
set_option maxHeartbeats 4000000 in
theorem m_evalPoint (l : Launch) (Γ : zT) {o lF lL lB : Nat} (hok : mdk o lF lL lB) (G0 : zG) (F L B : Nat → Nat) (sz : Nat) (rf : Int32) (σ : AS) (var : Int32) (hA : AI σ) (hR : MRep F L B σ) : zMi l yX5_evalPoint wsX5_evalPoint (zR 3) Γ (md Γ o lF lL lB G0 (mfs rf σ) F L B) sz [.ref o, .int var] (fun r G' => ∃ F' L' B', G' = md Γ o lF lL lB G0 (mfs (nI 0) (op_evalPoint var σ).2) F' L' B' ∧ r = (op_evalPoint var σ).1 ∧ MRep F' L' B' (op_evalPoint var σ).2) 0 0 := by
  obtain ⟨⟨vars, maxR, cells⟩, ⟨nr, inp, R⟩, ⟨fil, V⟩, ⟨se, be, S⟩, P, ⟨st, sg, gv, g, z⟩⟩ := σ
  obtain ⟨⟨hv1, hv6, hm1, hm60, hc4⟩, ⟨hnr, hinp, hsei, hRs⟩, ⟨hfil, hVs⟩, ⟨hse, hbe, hSs⟩, hPs, hst, hgv, hsg, hz1, hgd, hz20⟩ := id hA
  obtain ⟨mR, mV, mS, mP, mg, mz, m1⟩ := id hR
  refine z_start (cc := cX5_evalPoint) (maxL := 2) (ret := (some .boolean)) (by decide) rfl (Nat.le_of_ble_eq_true rfl) ?_
  intro p e s m args below meth c ls Q hQ hsz hx hb hr hml hown hts hlocks hnm hK hM hl
  obtain ⟨A, hAe⟩ : ∃ A, A = zA (md Γ o lF lL lB G0 (mfl rf (nI vars) (nI maxR) (nI cells) (nI nr) (nI inp) (nI fil) (nI se) (nI be) (nI st) sg (nI gv)) F L B) s.heap.size := ⟨_, rfl⟩
  have hM : zM Γ A s.heap (md Γ o lF lL lB G0 (mfl rf (nI vars) (nI maxR) (nI cells) (nI nr) (nI inp) (nI fil) (nI se) (nI be) (nI st) sg (nI gv)) F L B) s.heap [] := by rw [hAe]; exact hM
  have hl : lv_has ls 2 [(0, .ref o), (1, .int var)] := hl
  have hin5 : ∀ w ∈ wsX50, w ∈ wsX5_evalPoint := by decide +kernel
  have hf_vars := hts (.fieldLink RX5 24 "CutRowsModel" "vars" "I") (by decide +kernel)
  have hf_refusal := hts (.fieldLink RX5 34 "CutRowsModel" "refusal" "I") (by decide +kernel)
  have hf_state := hts (.fieldLink RX5 84 "CutRowsModel" "state" "I") (by decide +kernel)
  refine lv_aload_n hx hb dX5_evalPoint_0 rfl (lv_at hl 0 rfl) ?_
  refine lv_iconst (v := nI 0) hx hb dX5_evalPoint_1 rfl ?_
  refine m_put hok hx hb hts hin5 hown hK hM 0 hf_refusal rfl (by decide) rfl (rfl) (rfl) (fl' := mfl (nI 0) (nI vars) (nI maxR) (nI cells) (nI nr) (nI inp) (nI fil) (nI se) (nI be) (nI st) sg (nI gv)) rfl dX5_evalPoint_2 (fun H locs hM => ?_)
  refine lv_iload_n hx hb dX5_evalPoint_5 rfl (lv_at hl 1 rfl) ?_
  refine lv_if_lt (tgt := 24) hx hb dX5_evalPoint_6 (by decide) (fun hc6 => ?_) (fun hc6 => ?_)
  · refine lv_iconst (v := nI 0) hx hb dX5_evalPoint_24 rfl ?_
    rw [hQ]
    rw [hAe] at hM
    exact z_zret (by omega) hsz hx hb hr hlocks hK hM dX5_evalPoint_25 (by simp only [op_evalPoint]; rw [if_pos (Or.inl hc6)]; exact ⟨F, L, B, rfl, rfl, hR⟩)
  · refine lv_iload_n hx hb dX5_evalPoint_9 rfl (lv_at hl 1 rfl) ?_
    refine lv_aload_n hx hb dX5_evalPoint_10 rfl (lv_at hl 0 rfl) ?_
    refine m_get hok hx hb hts hin5 hown hK hM 1 hf_vars rfl (by decide) (v := .int (nI vars)) rfl dX5_evalPoint_11 ?_
    refine lv_icmp_ge (tgt := 24) hx hb dX5_evalPoint_14 (by decide) (fun hc14 => ?_) (fun hc14 => ?_)
    · refine lv_iconst (v := nI 0) hx hb dX5_evalPoint_24 rfl ?_
      rw [hQ]
      rw [hAe] at hM
      exact z_zret (by omega) hsz hx hb hr hlocks hK hM dX5_evalPoint_25 (by simp only [op_evalPoint]; rw [if_pos (Or.inr (Or.inl hc14))]; exact ⟨F, L, B, rfl, rfl, hR⟩)
    · refine lv_aload_n hx hb dX5_evalPoint_17 rfl (lv_at hl 0 rfl) ?_
      refine m_get hok hx hb hts hin5 hown hK hM 12 hf_state rfl (by decide) (v := .int (nI st)) rfl dX5_evalPoint_18 ?_
      refine z_if_ne (tgt := 26) hx hb (by omega) dX5_evalPoint_21 (by decide) (fun hc21 => ?_) (fun hc21 => ?_)
      · obtain ⟨vn, hvn, rfl⟩ : ∃ j : Nat, j < 2 ^ 31 ∧ var = nI j := nI_of hc6
        have hvl : vn < vars := by have := mt (nI_leI (show vars < 2 ^ 31 by omega) hvn).mpr hc14; omega
        have k38 : ∀ (L1 : Nat → Nat) (B1 : Nat → Nat), (sm 440 441 F L B F L1 B1) → (nz F L1 B1 440 z) → ∀ (ls : Array Slot) (H : Heap) (locs : List Loc), lv_has ls 2 [(0, .ref o), (1, .int (nI vn))] → zM Γ A s.heap (md Γ o lF lL lB G0 (mfl (nI 0) (nI vars) (nI maxR) (nI cells) (nI nr) (nI inp) (nI fil) (nI se) (nI be) (nI st) sg (nI gv)) F L1 B1) H locs → W p l e (zR 3) s m args below meth c H locs 0 0 Q (F0 m 38 ls []) := by
          intro L1 B1 t1 t2 ls H locs hl hM
          refine lv_aload_n hx hb dX5_evalPoint_38 rfl (lv_at hl 0 rfl) ?_
          refine lv_iconst (v := nI 2) hx hb dX5_evalPoint_39 rfl ?_
          refine m_put hok hx hb hts hin5 hown hK hM 12 hf_state rfl (by decide) rfl (rfl) (rfl) (fl' := mfl (nI 0) (nI vars) (nI maxR) (nI cells) (nI nr) (nI inp) (nI fil) (nI se) (nI be) (nI 2) sg (nI gv)) rfl dX5_evalPoint_40 (fun H locs hM => ?_)
          refine lv_aload_n hx hb dX5_evalPoint_43 rfl (lv_at hl 0 rfl) ?_
          refine lv_sipush (v := nI 434) hx hb dX5_evalPoint_44 rfl ?_
          refine lv_iload_n hx hb dX5_evalPoint_47 rfl (lv_at hl 1 rfl) ?_
          refine z_iadd hx hb dX5_evalPoint_48 ?_
          refine lv_sipush (v := nI 440) hx hb dX5_evalPoint_49 rfl ?_
          refine z_callv0 (va_runV (As := [.int (nI (434 + vn)), .int (nI 440)]) (rest := []) ⟨hx, hb, hml, hown, hts⟩ (m_copy l Γ hok G0 _ F L1 B1 _ (434 + vn) 440 (by omega) (by omega) (by omega) t2.1.le t2.B2) (cwV 2 hts gX5_evalPoint_X5_copy rfl rfl rfl (by decide +kernel) ⟨Nat.le_of_ble_eq_true rfl, Nat.le_of_ble_eq_true rfl⟩) (zM.preV hK hM (md_o hok) rfl rfl) rfl rfl hl.1 rfl (lv_room (Nat.le_of_ble_eq_true rfl)) dX5_evalPoint_52 ⟨Nat.le_of_ble_eq_true rfl, Nat.le_of_ble_eq_true rfl⟩) hM (fun G52 H locs hp52 hM => ?_)
          obtain rfl := hp52
          obtain ⟨F2, L2, B2, hM, s2, n2, b2⟩ := copy_rel hM t2.1
          refine lv_iconst (v := nI 1) hx hb dX5_evalPoint_55 rfl ?_
          rw [hQ]
          rw [hAe] at hM
          exact z_zret (by omega) hsz hx hb hr hlocks hK hM dX5_evalPoint_56 (by
                have hno : ¬ (nI vn < 0 ∨ nI vars ≤ nI vn ∨ st = 0) := by rintro (h | h | h); exact hc6 h; exact hc14 h; omega
                simp only [op_evalPoint]; rw [if_neg hno, nI_clamp hvn]
                exact ⟨F2, L2, B2, rfl, rfl, fun r j h1 h2 => ((mR r j h1 h2).sm t1 (by omega)).sm s2 (by omega), fun j h1 => ((mV j h1).sm t1 (by omega)).sm s2 (by omega), fun h0 j h1 => ((mS h0 j h1).sm t1 (by omega)).sm s2 (by omega), fun j h1 => by by_cases hc : j = vn; subst hc; rw [va_up_self]; exact ⟨n2, by rw [b2]; exact t2.2⟩; rw [va_up_ne _ _ hc]; exact ((mP j h1).sm t1 (by omega)).sm s2 (by omega), fun h => absurd h (by decide), fun _ => t2.sm s2 (by omega), s2.nv (by omega) (t1.nv (by omega) m1)⟩)
        refine lv_aload_n hx hb dX5_evalPoint_26 rfl (lv_at hl 0 rfl) ?_
        refine m_get hok hx hb hts hin5 hown hK hM 12 hf_state rfl (by decide) (v := .int (nI st)) rfl dX5_evalPoint_27 ?_
        refine lv_iconst (v := nI 1) hx hb dX5_evalPoint_30 rfl ?_
        refine z_icmp_ne (tgt := 38) hx hb (by omega) (by omega) dX5_evalPoint_31 (by decide) (fun hc31 => ?_) (fun hc31 => ?_)
        · exact k38 L B (sm.rf) (mz (by omega)) ls _ _ (lv_sub hl [0, 1] rfl) hM
        · refine lv_aload_n hx hb dX5_evalPoint_34 rfl (lv_at hl 0 rfl) ?_
          have hst1 : st = 1 := by omega
          have hdg : dg (fun j => F (72 * 440 + j)) gv := fun j hj => by show F _ < _; rw [mg hst1 j hj]; exact hgd j hj
          have hzz : sg.toInt * (vl (fun j => F (72 * 440 + j)) gv : Nat) = z := by rw [hz1 hst1, vl_congr (fun j hj => mg hst1 j hj)]
          refine z_callv0 (va_runV (As := []) (rest := []) ⟨hx, hb, hml, hown, hts⟩ (m_settle l Γ hok G0 _ F L B _ sg gv rfl rfl hgv hsg hdg) (cwV 0 hts gX5_evalPoint_X5_settle rfl rfl rfl (by decide +kernel) ⟨Nat.le_of_ble_eq_true rfl, Nat.le_of_ble_eq_true rfl⟩) (zM.preV hK hM (md_o hok) rfl rfl) rfl rfl hl.1 rfl (lv_room (Nat.le_of_ble_eq_true rfl)) dX5_evalPoint_35 ⟨Nat.le_of_ble_eq_true rfl, Nat.le_of_ble_eq_true rfl⟩) hM (fun G35 H locs hp35 hM => ?_)
          obtain ⟨rfl, hns⟩ := hp35
          rw [hzz] at hM hns
          obtain ⟨L1, B1, hM, s1, n1, b1⟩ := sign_rel (F := F) hM (fun _ _ => rfl) hns
          exact k38 L1 B1 (s1) (⟨n1, b1⟩) ls _ _ (lv_sub hl [0, 1] rfl) hM
      · refine lv_iconst (v := nI 0) hx hb dX5_evalPoint_24 rfl ?_
        rw [hQ]
        rw [hAe] at hM
        exact z_zret (by omega) hsz hx hb hr hlocks hK hM dX5_evalPoint_25 (by simp only [op_evalPoint]; rw [if_pos (Or.inr (Or.inr hc21))]; exact ⟨F, L, B, rfl, rfl, hR⟩)
