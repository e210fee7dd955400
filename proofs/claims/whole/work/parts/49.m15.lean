set_option maxRecDepth 100000 in
set_option maxHeartbeats 4000000 in
theorem m_refused (l : Launch) (Γ : zT) {o lF lL lB : Nat} (hok : mdk o lF lL lB) (G0 : zG) (F L B : Nat → Nat) (sz : Nat) (rf : Int32) (σ : AS) (x : Nat) (hx2 : x < 2) (hA : AI σ) (hR : MRep F L B σ) : zMi l yX5_refused wsX5_refused (zR 1) Γ (md Γ o lF lL lB G0 (mfs rf σ) F L B) sz [.ref o, .int (nI x)] (fun r G' => r = nI x ∧ G' = md Γ o lF lL lB G0 (mfs (nI x) σ) F L B) 0 0 := by
  obtain ⟨⟨vars, maxR, cells⟩, ⟨nr, inp, R⟩, ⟨fil, V⟩, ⟨se, be, S⟩, P, ⟨st, sg, gv, g, z⟩⟩ := σ
  obtain ⟨⟨hv1, hv6, hm1, hm60, hc4⟩, ⟨hnr, hinp, hsei, hRs⟩, ⟨hfil, hVs⟩, ⟨hse, hbe, hSs⟩, hPs, hst, hgv, hsg, hz1, hgd, hz20⟩ := id hA
  obtain ⟨mR, mV, mS, mP, mg, mz, m1⟩ := id hR
  refine z_start (cc := cX5_refused) (maxL := 2) (ret := (some .boolean)) (by decide) rfl (Nat.le_of_ble_eq_true rfl) ?_
  intro p e s m args below meth c ls Q hQ hsz hx hb hr hml hown hts hlocks hnm hK hM hl
  obtain ⟨A, hAe⟩ : ∃ A, A = zA (md Γ o lF lL lB G0 (mfl rf (nI vars) (nI maxR) (nI cells) (nI nr) (nI inp) (nI fil) (nI se) (nI be) (nI st) sg (nI gv)) F L B) s.heap.size := ⟨_, rfl⟩
  have hM : zM Γ A s.heap (md Γ o lF lL lB G0 (mfl rf (nI vars) (nI maxR) (nI cells) (nI nr) (nI inp) (nI fil) (nI se) (nI be) (nI st) sg (nI gv)) F L B) s.heap [] := by rw [hAe]; exact hM
  have hl : lv_has ls 2 [(0, .ref o), (1, .int (nI x))] := hl
  have hin5 : ∀ w ∈ wsX50, w ∈ wsX5_refused := by decide +kernel
  have hf_refusal := hts (.fieldLink RX5 34 "CutRowsModel" "refusal" "I") (by decide +kernel)
  refine lv_aload_n hx hb dX5_refused_0 rfl (lv_at hl 0 rfl) ?_
  refine lv_iload_n hx hb dX5_refused_1 rfl (lv_at hl 1 rfl) ?_
  refine m_put hok hx hb hts hin5 hown hK hM 0 hf_refusal rfl (by decide) rfl (rfl) (rfl) (fl' := mfl (nI x) (nI vars) (nI maxR) (nI cells) (nI nr) (nI inp) (nI fil) (nI se) (nI be) (nI st) sg (nI gv)) rfl dX5_refused_2 (fun H locs hM => ?_)
  refine lv_iload_n hx hb dX5_refused_5 rfl (lv_at hl 1 rfl) ?_
  refine z_if_le (tgt := 13) hx hb (by omega) dX5_refused_6 (by decide) (fun hc6 => ?_) (fun hc6 => ?_)
  · refine lv_iconst (v := nI 0) hx hb dX5_refused_13 rfl ?_
    rw [hQ]
    rw [hAe] at hM
    exact z_zret (by omega) hsz hx hb hr hlocks hK hM dX5_refused_14 (⟨congrArg nI (by omega), rfl⟩)
  · refine lv_iconst (v := nI 1) hx hb dX5_refused_9 rfl ?_
    refine lv_goto (tgt := 14) hx hb dX5_refused_10 (by decide) ?_
    rw [hQ]
    rw [hAe] at hM
    exact z_zret (by omega) hsz hx hb hr hlocks hK hM dX5_refused_14 (⟨congrArg nI (by omega), rfl⟩)

set_option maxRecDepth 100000 in
set_option maxHeartbeats 4000000 in
theorem m_cell (l : Launch) (Γ : zT) {o lF lL lB : Nat} (hok : mdk o lF lL lB) (G0 : zG) (F L B : Nat → Nat) (sz : Nat) (rf : Int32) (σ : AS) (row entry what : Int32) (hA : AI σ) (hR : MRep F L B σ) : zMi l yX5_cell wsX5_cell (zR 2) Γ (md Γ o lF lL lB G0 (mfs rf σ) F L B) sz [.ref o, .int row, .int entry, .int what] (fun r G' => G' = md Γ o lF lL lB G0 (mfs (refOf (op_cell row entry what σ)) σ) F L B ∧ r = (op_cell row entry what σ).getD (nI 0)) 0 0 := by
  obtain ⟨⟨vars, maxR, cells⟩, ⟨nr, inp, R⟩, ⟨fil, V⟩, ⟨se, be, S⟩, P, ⟨st, sg, gv, g, z⟩⟩ := σ
  obtain ⟨⟨hv1, hv6, hm1, hm60, hc4⟩, ⟨hnr, hinp, hsei, hRs⟩, ⟨hfil, hVs⟩, ⟨hse, hbe, hSs⟩, hPs, hst, hgv, hsg, hz1, hgd, hz20⟩ := id hA
  obtain ⟨mR, mV, mS, mP, mg, mz, m1⟩ := id hR
  refine z_start (cc := cX5_cell) (maxL := 5) (ret := (some .int)) (by decide) rfl (Nat.le_of_ble_eq_true rfl) ?_
  intro p e s m args below meth c ls Q hQ hsz hx hb hr hml hown hts hlocks hnm hK hM hl
  obtain ⟨A, hAe⟩ : ∃ A, A = zA (md Γ o lF lL lB G0 (mfl rf (nI vars) (nI maxR) (nI cells) (nI nr) (nI inp) (nI fil) (nI se) (nI be) (nI st) sg (nI gv)) F L B) s.heap.size := ⟨_, rfl⟩
  have hM : zM Γ A s.heap (md Γ o lF lL lB G0 (mfl rf (nI vars) (nI maxR) (nI cells) (nI nr) (nI inp) (nI fil) (nI se) (nI be) (nI st) sg (nI gv)) F L B) s.heap [] := by rw [hAe]; exact hM
  have hl : lv_has ls 5 [(0, .ref o), (1, .int row), (2, .int entry), (3, .int what)] := hl
  have hin5 : ∀ w ∈ wsX50, w ∈ wsX5_cell := by decide +kernel
  have hf_length := hts (.fieldLink RX5 13 "CutRowsModel" "length" "[I") (by decide +kernel)
  have hf_isBelow := hts (.fieldLink RX5 16 "CutRowsModel" "isBelow" "[Z") (by decide +kernel)
  have hf_vars := hts (.fieldLink RX5 24 "CutRowsModel" "vars" "I") (by decide +kernel)
  refine lv_aload_n hx hb dX5_cell_0 rfl (lv_at hl 0 rfl) ?_
  refine lv_aload_n hx hb dX5_cell_1 rfl (lv_at hl 0 rfl) ?_
  refine lv_iload_n hx hb dX5_cell_2 rfl (lv_at hl 1 rfl) ?_
  refine z_calli0 (va_runV (As := [.int row]) (rest := [.ref o]) ⟨hx, hb, hml, hown, hts⟩ (m_isRow l Γ hok G0 _ F L B _ row nr rfl) (cwV 1 hts gX5_cell_X5_isRow rfl rfl rfl (by decide +kernel) ⟨Nat.le_of_ble_eq_true rfl, Nat.le_of_ble_eq_true rfl⟩) (zM.preV hK hM (md_o hok) rfl rfl) rfl rfl hl.1 rfl (lv_room (Nat.le_of_ble_eq_true rfl)) dX5_cell_3 ⟨Nat.le_of_ble_eq_true rfl, Nat.le_of_ble_eq_true rfl⟩) hM (fun r3 G3 H locs hp3 hM => ?_)
  obtain ⟨rfl, rfl⟩ := hp3
  refine z_if_eq (tgt := 31) hx hb (by split <;> omega) dX5_cell_6 (by decide) (fun hc6 => ?_) (fun hc6 => ?_)
  · have hbad : row < 0 ∨ nI nr ≤ row := by by_cases h9 : row < 0 ∨ nI nr ≤ row; exact h9; rw [if_neg h9] at hc6; omega
    refine lv_iconst (v := nI 1) hx hb dX5_cell_31 rfl ?_
    refine z_calli0 (va_runV (As := [.int (nI 1)]) (rest := []) ⟨hx, hb, hml, hown, hts⟩ (m_refused l Γ hok G0 F L B _ rf ((vars, maxR, cells), (nr, inp, R), (fil, V), (se, be, S), P, (st, sg, gv, g, z)) 1 (by omega) hA hR) (cwV 1 hts gX5_cell_X5_refused rfl rfl rfl (by decide +kernel) ⟨Nat.le_of_ble_eq_true rfl, Nat.le_of_ble_eq_true rfl⟩) (zM.preV hK hM (md_o hok) rfl rfl) rfl rfl hl.1 rfl (lv_room (Nat.le_of_ble_eq_true rfl)) dX5_cell_32 ⟨Nat.le_of_ble_eq_true rfl, Nat.le_of_ble_eq_true rfl⟩) hM (fun r32 G32 H locs hp32 hM => ?_)
    obtain ⟨rfl, rfl⟩ := hp32
    have hM : zM Γ A s.heap (md Γ o lF lL lB G0 (mfl (nI 1) (nI vars) (nI maxR) (nI cells) (nI nr) (nI inp) (nI fil) (nI se) (nI be) (nI st) sg (nI gv)) F L B) H locs := hM
    refine z_if_eq (tgt := 40) hx hb (by omega) dX5_cell_35 (by decide) (fun hc35 => ?_) (fun hc35 => ?_)
    · exact absurd hc35 (by omega)
    · refine lv_iconst (v := nI 0) hx hb dX5_cell_38 rfl ?_
      rw [hQ]
      rw [hAe] at hM
      exact z_iret hsz hx hb hr hlocks hK hM dX5_cell_39 (by
            have he : op_cell row entry what ((vars, maxR, cells), (nr, inp, R), (fil, V), (se, be, S), P, (st, sg, gv, g, z)) = none := by simp only [op_cell]; rw [if_pos (hbad.elim Or.inl (fun h => Or.inr (Or.inl h)))]
            rw [he]; exact ⟨rfl, rfl⟩)
  · have hgood : ¬ (row < 0 ∨ nI nr ≤ row) := fun h9 => by rw [if_pos h9] at hc6; omega
    refine lv_iload_n hx hb dX5_cell_9 rfl (lv_at hl 2 rfl) ?_
    refine lv_if_lt (tgt := 31) hx hb dX5_cell_10 (by decide) (fun hc10 => ?_) (fun hc10 => ?_)
    · refine lv_iconst (v := nI 1) hx hb dX5_cell_31 rfl ?_
      refine z_calli0 (va_runV (As := [.int (nI 1)]) (rest := []) ⟨hx, hb, hml, hown, hts⟩ (m_refused l Γ hok G0 F L B _ rf ((vars, maxR, cells), (nr, inp, R), (fil, V), (se, be, S), P, (st, sg, gv, g, z)) 1 (by omega) hA hR) (cwV 1 hts gX5_cell_X5_refused rfl rfl rfl (by decide +kernel) ⟨Nat.le_of_ble_eq_true rfl, Nat.le_of_ble_eq_true rfl⟩) (zM.preV hK hM (md_o hok) rfl rfl) rfl rfl hl.1 rfl (lv_room (Nat.le_of_ble_eq_true rfl)) dX5_cell_32 ⟨Nat.le_of_ble_eq_true rfl, Nat.le_of_ble_eq_true rfl⟩) hM (fun r32 G32 H locs hp32 hM => ?_)
      obtain ⟨rfl, rfl⟩ := hp32
      have hM : zM Γ A s.heap (md Γ o lF lL lB G0 (mfl (nI 1) (nI vars) (nI maxR) (nI cells) (nI nr) (nI inp) (nI fil) (nI se) (nI be) (nI st) sg (nI gv)) F L B) H locs := hM
      refine z_if_eq (tgt := 40) hx hb (by omega) dX5_cell_35 (by decide) (fun hc35 => ?_) (fun hc35 => ?_)
      · exact absurd hc35 (by omega)
      · refine lv_iconst (v := nI 0) hx hb dX5_cell_38 rfl ?_
        rw [hQ]
        rw [hAe] at hM
        exact z_iret hsz hx hb hr hlocks hK hM dX5_cell_39 (by
              have he : op_cell row entry what ((vars, maxR, cells), (nr, inp, R), (fil, V), (se, be, S), P, (st, sg, gv, g, z)) = none := by simp only [op_cell]; rw [if_pos (Or.inr (Or.inr (Or.inl hc10)))]
              rw [he]; exact ⟨rfl, rfl⟩)
    · refine lv_iload_n hx hb dX5_cell_13 rfl (lv_at hl 2 rfl) ?_
      refine lv_aload_n hx hb dX5_cell_14 rfl (lv_at hl 0 rfl) ?_
      refine m_get hok hx hb hts hin5 hown hK hM 1 hf_vars rfl (by decide) (v := .int (nI vars)) rfl dX5_cell_15 ?_
      refine lv_icmp_gt (tgt := 31) hx hb dX5_cell_18 (by decide) (fun hc18 => ?_) (fun hc18 => ?_)
      · refine lv_iconst (v := nI 1) hx hb dX5_cell_31 rfl ?_
        refine z_calli0 (va_runV (As := [.int (nI 1)]) (rest := []) ⟨hx, hb, hml, hown, hts⟩ (m_refused l Γ hok G0 F L B _ rf ((vars, maxR, cells), (nr, inp, R), (fil, V), (se, be, S), P, (st, sg, gv, g, z)) 1 (by omega) hA hR) (cwV 1 hts gX5_cell_X5_refused rfl rfl rfl (by decide +kernel) ⟨Nat.le_of_ble_eq_true rfl, Nat.le_of_ble_eq_true rfl⟩) (zM.preV hK hM (md_o hok) rfl rfl) rfl rfl hl.1 rfl (lv_room (Nat.le_of_ble_eq_true rfl)) dX5_cell_32 ⟨Nat.le_of_ble_eq_true rfl, Nat.le_of_ble_eq_true rfl⟩) hM (fun r32 G32 H locs hp32 hM => ?_)
        obtain ⟨rfl, rfl⟩ := hp32
        have hM : zM Γ A s.heap (md Γ o lF lL lB G0 (mfl (nI 1) (nI vars) (nI maxR) (nI cells) (nI nr) (nI inp) (nI fil) (nI se) (nI be) (nI st) sg (nI gv)) F L B) H locs := hM
        refine z_if_eq (tgt := 40) hx hb (by omega) dX5_cell_35 (by decide) (fun hc35 => ?_) (fun hc35 => ?_)
        · exact absurd hc35 (by omega)
        · refine lv_iconst (v := nI 0) hx hb dX5_cell_38 rfl ?_
          rw [hQ]
          rw [hAe] at hM
          exact z_iret hsz hx hb hr hlocks hK hM dX5_cell_39 (by
                have he : op_cell row entry what ((vars, maxR, cells), (nr, inp, R), (fil, V), (se, be, S), P, (st, sg, gv, g, z)) = none := by simp only [op_cell]; rw [if_pos (Or.inr (Or.inr (Or.inr (Or.inl hc18))))]
                rw [he]; exact ⟨rfl, rfl⟩)
      · refine lv_iload_n hx hb dX5_cell_21 rfl (lv_at hl 3 rfl) ?_
        refine lv_bipush (v := -2) hx hb dX5_cell_22 rfl ?_
        refine lv_icmp_lt (tgt := 31) hx hb dX5_cell_24 (by decide) (fun hc24 => ?_) (fun hc24 => ?_)
        · refine lv_iconst (v := nI 1) hx hb dX5_cell_31 rfl ?_
          refine z_calli0 (va_runV (As := [.int (nI 1)]) (rest := []) ⟨hx, hb, hml, hown, hts⟩ (m_refused l Γ hok G0 F L B _ rf ((vars, maxR, cells), (nr, inp, R), (fil, V), (se, be, S), P, (st, sg, gv, g, z)) 1 (by omega) hA hR) (cwV 1 hts gX5_cell_X5_refused rfl rfl rfl (by decide +kernel) ⟨Nat.le_of_ble_eq_true rfl, Nat.le_of_ble_eq_true rfl⟩) (zM.preV hK hM (md_o hok) rfl rfl) rfl rfl hl.1 rfl (lv_room (Nat.le_of_ble_eq_true rfl)) dX5_cell_32 ⟨Nat.le_of_ble_eq_true rfl, Nat.le_of_ble_eq_true rfl⟩) hM (fun r32 G32 H locs hp32 hM => ?_)
          obtain ⟨rfl, rfl⟩ := hp32
          have hM : zM Γ A s.heap (md Γ o lF lL lB G0 (mfl (nI 1) (nI vars) (nI maxR) (nI cells) (nI nr) (nI inp) (nI fil) (nI se) (nI be) (nI st) sg (nI gv)) F L B) H locs := hM
          refine z_if_eq (tgt := 40) hx hb (by omega) dX5_cell_35 (by decide) (fun hc35 => ?_) (fun hc35 => ?_)
          · exact absurd hc35 (by omega)
          · refine lv_iconst (v := nI 0) hx hb dX5_cell_38 rfl ?_
            rw [hQ]
            rw [hAe] at hM
            exact z_iret hsz hx hb hr hlocks hK hM dX5_cell_39 (by
                  have he : op_cell row entry what ((vars, maxR, cells), (nr, inp, R), (fil, V), (se, be, S), P, (st, sg, gv, g, z)) = none := by simp only [op_cell]; rw [if_pos (Or.inr (Or.inr (Or.inr (Or.inr hc24))))]
                  rw [he]; exact ⟨rfl, rfl⟩)
        · refine lv_iconst (v := nI 0) hx hb dX5_cell_27 rfl ?_
          refine lv_goto (tgt := 32) hx hb dX5_cell_28 (by decide) ?_
          refine z_calli0 (va_runV (As := [.int (nI 0)]) (rest := []) ⟨hx, hb, hml, hown, hts⟩ (m_refused l Γ hok G0 F L B _ rf ((vars, maxR, cells), (nr, inp, R), (fil, V), (se, be, S), P, (st, sg, gv, g, z)) 0 (by omega) hA hR) (cwV 1 hts gX5_cell_X5_refused rfl rfl rfl (by decide +kernel) ⟨Nat.le_of_ble_eq_true rfl, Nat.le_of_ble_eq_true rfl⟩) (zM.preV hK hM (md_o hok) rfl rfl) rfl rfl hl.1 rfl (lv_room (Nat.le_of_ble_eq_true rfl)) dX5_cell_32 ⟨Nat.le_of_ble_eq_true rfl, Nat.le_of_ble_eq_true rfl⟩) hM (fun r32 G32 H locs hp32 hM => ?_)
          obtain ⟨rfl, rfl⟩ := hp32
          have hM : zM Γ A s.heap (md Γ o lF lL lB G0 (mfl (nI 0) (nI vars) (nI maxR) (nI cells) (nI nr) (nI inp) (nI fil) (nI se) (nI be) (nI st) sg (nI gv)) F L B) H locs := hM
          refine z_if_eq (tgt := 40) hx hb (by omega) dX5_cell_35 (by decide) (fun hc35 => ?_) (fun hc35 => ?_)
          · have hno : ¬ (row < 0 ∨ nI nr ≤ row ∨ entry < 0 ∨ nI vars < entry ∨ what < -2) := by rintro (h | h | h | h | h); exact hgood (Or.inl h); exact hgood (Or.inr h); exact hc10 h; exact hc18 h; exact hc24 h
            obtain ⟨rn, hrn, rfl⟩ : ∃ j : Nat, j < 2 ^ 31 ∧ row = nI j := nI_of (fun h9 => hgood (Or.inl h9))
            have hrl : rn < nr := by have := mt (nI_leI (show nr < 2 ^ 31 by omega) hrn).mpr (fun h9 => hgood (Or.inr h9)); omega
            obtain ⟨en, hen, rfl⟩ : ∃ j : Nat, j < 2 ^ 31 ∧ entry = nI j := nI_of hc10
            have hel : en ≤ vars := by have := mt (nI_ltI (show vars < 2 ^ 31 by omega) hen).mpr hc18; omega
            have hre := mR rn en hrl hel
            have hre72 := hre.1.2.1
            have hnp := @nl_pos (R rn en).natAbs
            have hso := sb_or (R rn en)
            refine lv_iload_n hx hb dX5_cell_40 rfl (lv_at hl 1 rfl) ?_
            refine lv_iload_n hx hb dX5_cell_41 rfl (lv_at hl 2 rfl) ?_
            refine z_calli0 (va_runS (As := [.int (nI rn), .int (nI en)]) (rest := []) ⟨hx, hb, hml, hown, hts⟩ (m_placeOf l Γ hok G0 _ F L B _ rn en) (va_cwS 2 hts gX5_cell_X5_placeOf rfl rfl rfl (by decide +kernel) ⟨Nat.le_of_ble_eq_true rfl, Nat.le_of_ble_eq_true rfl⟩) (zM.pre hK hM) rfl rfl hl.1 rfl (lv_room (Nat.le_of_ble_eq_true rfl)) dX5_cell_42 ⟨Nat.le_of_ble_eq_true rfl, Nat.le_of_ble_eq_true rfl⟩) hM (fun r42 G42 H locs hp42 hM => ?_)
            obtain ⟨rfl, rfl⟩ := hp42
            refine lv_istore (lv' := [(4, .int (nI (7 * rn + en))), (0, .ref o), (1, .int (nI rn)), (2, .int (nI en)), (3, .int what)]) hx hb dX5_cell_45 hl (by decide) rfl (fun ls hl => ?_)
            refine lv_iload_n hx hb dX5_cell_47 rfl (lv_at hl 4 rfl) ?_
            refine lv_iconst (v := -1) hx hb dX5_cell_48 rfl ?_
            refine lv_icmp_ne (tgt := 82) hx hb dX5_cell_49 (by decide) (fun hc49 => ?_) (fun hc49 => ?_)
            · refine lv_iload_n hx hb dX5_cell_82 rfl (lv_at hl 4 rfl) ?_
              refine lv_bipush (v := -2) hx hb dX5_cell_83 rfl ?_
              refine lv_icmp_ne (tgt := 98) hx hb dX5_cell_85 (by decide) (fun hc85 => ?_) (fun hc85 => ?_)
              · refine lv_aload_n hx hb dX5_cell_98 rfl (lv_at hl 1 rfl) ?_
                refine lv_iload hx hb dX5_cell_99 (lv_at hl 0 rfl) ?_
                refine lv_iload_n hx hb dX5_cell_101 rfl (lv_at hl 4 rfl) ?_
                obtain ⟨wn, hwn, rfl⟩ : ∃ j : Nat, j < 2 ^ 31 ∧ what = nI j := nI_of (ge0_of hc24 hc49 hc85)
                refine z_calll0 (va_runV (As := [.int (nI (7 * rn + en)), .int (nI wn)]) (rest := []) ⟨hx, hb, hml, hown, hts⟩ (m_limbOf l Γ hok G0 _ F L B _ (7 * rn + en) wn (by omega) hwn hre.1.le hre.1.digs) (cwV 2 hts gX5_cell_X5_limbOf rfl rfl rfl (by decide +kernel) ⟨Nat.le_of_ble_eq_true rfl, Nat.le_of_ble_eq_true rfl⟩) (zM.preV hK hM (md_o hok) rfl rfl) rfl rfl hl.1 rfl (lv_room (Nat.le_of_ble_eq_true rfl)) dX5_cell_102 ⟨Nat.le_of_ble_eq_true rfl, Nat.le_of_ble_eq_true rfl⟩) hM (fun r102 G102 H locs hp102 hM => ?_)
                obtain ⟨rfl, rfl⟩ := hp102
                refine z_l2i hx hb dX5_cell_105 ?_
                rw [hQ]
                rw [hAe] at hM
                exact z_iret hsz hx hb hr hlocks hK hM dX5_cell_106 (by
                      simp only [op_cell]; rw [if_neg hno, nI_clamp hrn, nI_clamp hen, if_neg hc49, if_neg hc85, nI_clamp hwn, ← lmb_digit hre.1]; exact ⟨rfl, rfl⟩)
              · refine lv_aload_n hx hb dX5_cell_88 rfl (lv_at hl 1 rfl) ?_
                refine m_get hok hx hb hts hin5 hown hK hM 5 hf_length rfl (by decide) (v := .ref lL) rfl dX5_cell_89 ?_
                refine lv_iload hx hb dX5_cell_92 (lv_at hl 0 rfl) ?_
                refine m_ldL hok hx hb hK hM (by omega) dX5_cell_94 ?_
                refine lv_goto (tgt := 106) hx hb dX5_cell_95 (by decide) ?_
                refine z_asi (y := nI (nl (R rn en).natAbs)) (congrArg nI hre.1.1) ?_
                rw [hQ]
                rw [hAe] at hM
                exact z_iret hsz hx hb hr hlocks hK hM dX5_cell_106 (by
                      simp only [op_cell]; rw [if_neg hno, nI_clamp hrn, nI_clamp hen, if_neg hc49, if_pos hc85]; exact ⟨rfl, rfl⟩)
            · refine lv_aload_n hx hb dX5_cell_52 rfl (lv_at hl 1 rfl) ?_
              refine m_get hok hx hb hts hin5 hown hK hM 5 hf_length rfl (by decide) (v := .ref lL) rfl dX5_cell_53 ?_
              refine lv_iload hx hb dX5_cell_56 (lv_at hl 0 rfl) ?_
              refine m_ldL hok hx hb hK hM (by omega) dX5_cell_58 ?_
              refine z_asi (y := nI (nl (R rn en).natAbs)) (congrArg nI hre.1.1) ?_
              refine z_if_ne (tgt := 66) hx hb (by omega) dX5_cell_59 (by decide) (fun hc59 => ?_) (fun hc59 => ?_)
              · refine lv_aload_n hx hb dX5_cell_66 rfl (lv_at hl 1 rfl) ?_
                refine m_get hok hx hb hts hin5 hown hK hM 6 hf_isBelow rfl (by decide) (v := .ref lB) rfl dX5_cell_67 ?_
                refine lv_iload hx hb dX5_cell_70 (lv_at hl 0 rfl) ?_
                refine m_ldB hok hx hb hK hM (by omega) dX5_cell_72 ?_
                refine z_asi (y := nI (sb (R rn en))) (congrArg nI hre.2) ?_
                refine z_if_eq (tgt := 80) hx hb (by omega) dX5_cell_73 (by decide) (fun hc73 => ?_) (fun hc73 => ?_)
                · refine lv_iconst (v := nI 1) hx hb dX5_cell_80 rfl ?_
                  rw [hQ]
                  rw [hAe] at hM
                  exact z_iret hsz hx hb hr hlocks hK hM dX5_cell_81 (by
                        simp only [op_cell]; rw [if_neg hno, nI_clamp hrn, nI_clamp hen, if_pos hc49, if_neg (show ¬ R rn en < 0 by omega), if_neg (show ¬ R rn en = 0 by omega)]; exact ⟨rfl, rfl⟩)
                · refine lv_iconst (v := -1) hx hb dX5_cell_76 rfl ?_
                  refine lv_goto (tgt := 81) hx hb dX5_cell_77 (by decide) ?_
                  rw [hQ]
                  rw [hAe] at hM
                  exact z_iret hsz hx hb hr hlocks hK hM dX5_cell_81 (by
                        simp only [op_cell]; rw [if_neg hno, nI_clamp hrn, nI_clamp hen, if_pos hc49, if_pos (show R rn en < 0 by omega)]; exact ⟨rfl, rfl⟩)
              · refine lv_iconst (v := nI 0) hx hb dX5_cell_62 rfl ?_
                refine lv_goto (tgt := 81) hx hb dX5_cell_63 (by decide) ?_
                rw [hQ]
                rw [hAe] at hM
                exact z_iret hsz hx hb hr hlocks hK hM dX5_cell_81 (by
                      simp only [op_cell]; rw [if_neg hno, nI_clamp hrn, nI_clamp hen, if_pos hc49, if_neg (show ¬ R rn en < 0 by omega), if_pos (show R rn en = 0 by omega)]; exact ⟨rfl, rfl⟩)
          · exact absurd rfl hc35

set_option maxRecDepth 100000 in
set_option maxHeartbeats 4000000 in
theorem m_count (l : Launch) (Γ : zT) {o lF lL lB : Nat} (hok : mdk o lF lL lB) (G0 : zG) (F L B : Nat → Nat) (sz : Nat) (rf : Int32) (σ : AS) (what : Int32) (hA : AI σ) (hR : MRep F L B σ) : zMi l yX5_count wsX5_count (zR 2) Γ (md Γ o lF lL lB G0 (mfs rf σ) F L B) sz [.ref o, .int what] (fun r G' => G' = md Γ o lF lL lB G0 (mfs (refOf (op_count what σ)) σ) F L B ∧ r = (op_count what σ).getD (nI 0)) 0 0 := by
  obtain ⟨⟨vars, maxR, cells⟩, ⟨nr, inp, R⟩, ⟨fil, V⟩, ⟨se, be, S⟩, P, ⟨st, sg, gv, g, z⟩⟩ := σ
  obtain ⟨⟨hv1, hv6, hm1, hm60, hc4⟩, ⟨hnr, hinp, hsei, hRs⟩, ⟨hfil, hVs⟩, ⟨hse, hbe, hSs⟩, hPs, hst, hgv, hsg, hz1, hgd, hz20⟩ := id hA
  obtain ⟨mR, mV, mS, mP, mg, mz, m1⟩ := id hR
  refine z_start (cc := cX5_count) (maxL := 2) (ret := (some .int)) (by decide) rfl (Nat.le_of_ble_eq_true rfl) ?_
  intro p e s m args below meth c ls Q hQ hsz hx hb hr hml hown hts hlocks hnm hK hM hl
  obtain ⟨A, hAe⟩ : ∃ A, A = zA (md Γ o lF lL lB G0 (mfl rf (nI vars) (nI maxR) (nI cells) (nI nr) (nI inp) (nI fil) (nI se) (nI be) (nI st) sg (nI gv)) F L B) s.heap.size := ⟨_, rfl⟩
  have hM : zM Γ A s.heap (md Γ o lF lL lB G0 (mfl rf (nI vars) (nI maxR) (nI cells) (nI nr) (nI inp) (nI fil) (nI se) (nI be) (nI st) sg (nI gv)) F L B) s.heap [] := by rw [hAe]; exact hM
  have hl : lv_has ls 2 [(0, .ref o), (1, .int what)] := hl
  have hin5 : ∀ w ∈ wsX50, w ∈ wsX5_count := by decide +kernel
  have hf_cells := hts (.fieldLink RX5 31 "CutRowsModel" "cells" "I") (by decide +kernel)
  have hf_state := hts (.fieldLink RX5 84 "CutRowsModel" "state" "I") (by decide +kernel)
  have hf_filled := hts (.fieldLink RX5 90 "CutRowsModel" "filled" "I") (by decide +kernel)
  have hf_isSealed := hts (.fieldLink RX5 102 "CutRowsModel" "isSealed" "Z") (by decide +kernel)
  have hf_input := hts (.fieldLink RX5 109 "CutRowsModel" "input" "I") (by decide +kernel)
  have hf_isBegun := hts (.fieldLink RX5 112 "CutRowsModel" "isBegun" "Z") (by decide +kernel)
  refine lv_aload_n hx hb dX5_count_0 rfl (lv_at hl 0 rfl) ?_
  refine lv_iload_n hx hb dX5_count_1 rfl (lv_at hl 1 rfl) ?_
  refine lv_if_lt (tgt := 14) hx hb dX5_count_2 (by decide) (fun hc2 => ?_) (fun hc2 => ?_)
  · refine lv_iconst (v := nI 1) hx hb dX5_count_14 rfl ?_
    refine z_calli0 (va_runV (As := [.int (nI 1)]) (rest := []) ⟨hx, hb, hml, hown, hts⟩ (m_refused l Γ hok G0 F L B _ rf ((vars, maxR, cells), (nr, inp, R), (fil, V), (se, be, S), P, (st, sg, gv, g, z)) 1 (by omega) hA hR) (cwV 1 hts gX5_count_X5_refused rfl rfl rfl (by decide +kernel) ⟨Nat.le_of_ble_eq_true rfl, Nat.le_of_ble_eq_true rfl⟩) (zM.preV hK hM (md_o hok) rfl rfl) rfl rfl hl.1 rfl (lv_room (Nat.le_of_ble_eq_true rfl)) dX5_count_15 ⟨Nat.le_of_ble_eq_true rfl, Nat.le_of_ble_eq_true rfl⟩) hM (fun r15 G15 H locs hp15 hM => ?_)
    obtain ⟨rfl, rfl⟩ := hp15
    have hM : zM Γ A s.heap (md Γ o lF lL lB G0 (mfl (nI 1) (nI vars) (nI maxR) (nI cells) (nI nr) (nI inp) (nI fil) (nI se) (nI be) (nI st) sg (nI gv)) F L B) H locs := hM
    refine z_if_eq (tgt := 23) hx hb (by omega) dX5_count_18 (by decide) (fun hc18 => ?_) (fun hc18 => ?_)
    · exact absurd hc18 (by omega)
    · refine lv_iconst (v := nI 0) hx hb dX5_count_21 rfl ?_
      rw [hQ]
      rw [hAe] at hM
      exact z_iret hsz hx hb hr hlocks hK hM dX5_count_22 (by
            have he : op_count what ((vars, maxR, cells), (nr, inp, R), (fil, V), (se, be, S), P, (st, sg, gv, g, z)) = none := by simp only [op_count]; rw [if_pos (Or.inl hc2)]
            rw [he]; exact ⟨rfl, rfl⟩)
  · refine lv_iload_n hx hb dX5_count_5 rfl (lv_at hl 1 rfl) ?_
    refine lv_iconst (v := nI 5) hx hb dX5_count_6 rfl ?_
    refine lv_icmp_gt (tgt := 14) hx hb dX5_count_7 (by decide) (fun hc7 => ?_) (fun hc7 => ?_)
    · refine lv_iconst (v := nI 1) hx hb dX5_count_14 rfl ?_
      refine z_calli0 (va_runV (As := [.int (nI 1)]) (rest := []) ⟨hx, hb, hml, hown, hts⟩ (m_refused l Γ hok G0 F L B _ rf ((vars, maxR, cells), (nr, inp, R), (fil, V), (se, be, S), P, (st, sg, gv, g, z)) 1 (by omega) hA hR) (cwV 1 hts gX5_count_X5_refused rfl rfl rfl (by decide +kernel) ⟨Nat.le_of_ble_eq_true rfl, Nat.le_of_ble_eq_true rfl⟩) (zM.preV hK hM (md_o hok) rfl rfl) rfl rfl hl.1 rfl (lv_room (Nat.le_of_ble_eq_true rfl)) dX5_count_15 ⟨Nat.le_of_ble_eq_true rfl, Nat.le_of_ble_eq_true rfl⟩) hM (fun r15 G15 H locs hp15 hM => ?_)
      obtain ⟨rfl, rfl⟩ := hp15
      have hM : zM Γ A s.heap (md Γ o lF lL lB G0 (mfl (nI 1) (nI vars) (nI maxR) (nI cells) (nI nr) (nI inp) (nI fil) (nI se) (nI be) (nI st) sg (nI gv)) F L B) H locs := hM
      refine z_if_eq (tgt := 23) hx hb (by omega) dX5_count_18 (by decide) (fun hc18 => ?_) (fun hc18 => ?_)
      · exact absurd hc18 (by omega)
      · refine lv_iconst (v := nI 0) hx hb dX5_count_21 rfl ?_
        rw [hQ]
        rw [hAe] at hM
        exact z_iret hsz hx hb hr hlocks hK hM dX5_count_22 (by
              have he : op_count what ((vars, maxR, cells), (nr, inp, R), (fil, V), (se, be, S), P, (st, sg, gv, g, z)) = none := by simp only [op_count]; rw [if_pos (Or.inr (show (5 : Int32) < what from hc7))]
              rw [he]; exact ⟨rfl, rfl⟩)
    · refine lv_iconst (v := nI 0) hx hb dX5_count_10 rfl ?_
      refine lv_goto (tgt := 15) hx hb dX5_count_11 (by decide) ?_
      refine z_calli0 (va_runV (As := [.int (nI 0)]) (rest := []) ⟨hx, hb, hml, hown, hts⟩ (m_refused l Γ hok G0 F L B _ rf ((vars, maxR, cells), (nr, inp, R), (fil, V), (se, be, S), P, (st, sg, gv, g, z)) 0 (by omega) hA hR) (cwV 1 hts gX5_count_X5_refused rfl rfl rfl (by decide +kernel) ⟨Nat.le_of_ble_eq_true rfl, Nat.le_of_ble_eq_true rfl⟩) (zM.preV hK hM (md_o hok) rfl rfl) rfl rfl hl.1 rfl (lv_room (Nat.le_of_ble_eq_true rfl)) dX5_count_15 ⟨Nat.le_of_ble_eq_true rfl, Nat.le_of_ble_eq_true rfl⟩) hM (fun r15 G15 H locs hp15 hM => ?_)
      obtain ⟨rfl, rfl⟩ := hp15
      have hM : zM Γ A s.heap (md Γ o lF lL lB G0 (mfl (nI 0) (nI vars) (nI maxR) (nI cells) (nI nr) (nI inp) (nI fil) (nI se) (nI be) (nI st) sg (nI gv)) F L B) H locs := hM
      refine z_if_eq (tgt := 23) hx hb (by omega) dX5_count_18 (by decide) (fun hc18 => ?_) (fun hc18 => ?_)
      · have hno : ¬ (what < 0 ∨ 5 < what) := by rintro (h | h); exact hc2 h; exact hc7 (show nI 5 < what from h)
        obtain ⟨wn, hwn, rfl⟩ : ∃ j : Nat, j < 2 ^ 31 ∧ what = nI j := nI_of hc2
        have hwl : wn ≤ 5 := by have := mt (nI_ltI (show 5 < 2 ^ 31 by decide) hwn).mpr hc7; omega
        refine lv_iload_n hx hb dX5_count_23 rfl (lv_at hl 1 rfl) ?_
        rcases (show wn = 0 ∨ wn = 1 ∨ wn = 2 ∨ wn = 3 ∨ wn = 4 ∨ wn = 5 by omega) with rfl | rfl | rfl | rfl | rfl | rfl
        · refine lv_tableIn (off := 36) (tgt := 60) hx hb dX5_count_24 (by decide) (by decide) (by decide) (by decide) ?_
          refine lv_aload_n hx hb dX5_count_60 rfl (lv_at hl 0 rfl) ?_
          refine m_get hok hx hb hts hin5 hown hK hM 3 hf_cells rfl (by decide) (v := .int (nI cells)) rfl dX5_count_61 ?_
          rw [hQ]
          rw [hAe] at hM
          exact z_iret hsz hx hb hr hlocks hK hM dX5_count_64 (by
                have he : op_count (nI 0) ((vars, maxR, cells), (nr, inp, R), (fil, V), (se, be, S), P, (st, sg, gv, g, z)) = some (nI cells) := by simp only [op_count]; rw [if_neg hno, if_pos (show nI 0 = 0 by decide)]
                rw [he]; exact ⟨rfl, rfl⟩)
        · refine lv_tableIn (off := 41) (tgt := 65) hx hb dX5_count_24 (by decide) (by decide) (by decide) (by decide) ?_
          refine lv_aload_n hx hb dX5_count_65 rfl (lv_at hl 0 rfl) ?_
          refine m_get hok hx hb hts hin5 hown hK hM 8 hf_input rfl (by decide) (v := .int (nI inp)) rfl dX5_count_66 ?_
          rw [hQ]
          rw [hAe] at hM
          exact z_iret hsz hx hb hr hlocks hK hM dX5_count_69 (by
                have he : op_count (nI 1) ((vars, maxR, cells), (nr, inp, R), (fil, V), (se, be, S), P, (st, sg, gv, g, z)) = some (nI inp) := by simp only [op_count]; rw [if_neg hno, if_neg (show ¬ nI 1 = 0 by decide), if_pos (show nI 1 = 1 by decide)]
                rw [he]; exact ⟨rfl, rfl⟩)
        · refine lv_tableIn (off := 46) (tgt := 70) hx hb dX5_count_24 (by decide) (by decide) (by decide) (by decide) ?_
          refine lv_aload_n hx hb dX5_count_70 rfl (lv_at hl 0 rfl) ?_
          refine m_get hok hx hb hts hin5 hown hK hM 9 hf_filled rfl (by decide) (v := .int (nI fil)) rfl dX5_count_71 ?_
          rw [hQ]
          rw [hAe] at hM
          exact z_iret hsz hx hb hr hlocks hK hM dX5_count_74 (by
                have he : op_count (nI 2) ((vars, maxR, cells), (nr, inp, R), (fil, V), (se, be, S), P, (st, sg, gv, g, z)) = some (nI fil) := by simp only [op_count]; rw [if_neg hno, if_neg (show ¬ nI 2 = 0 by decide), if_neg (show ¬ nI 2 = 1 by decide), if_pos (show nI 2 = 2 by decide)]
                rw [he]; exact ⟨rfl, rfl⟩)
        · refine lv_tableIn (off := 51) (tgt := 75) hx hb dX5_count_24 (by decide) (by decide) (by decide) (by decide) ?_
          refine lv_aload_n hx hb dX5_count_75 rfl (lv_at hl 0 rfl) ?_
          refine m_get hok hx hb hts hin5 hown hK hM 10 hf_isSealed rfl (by decide) (v := .int (nI se)) rfl dX5_count_76 ?_
          refine z_if_eq (tgt := 86) hx hb (by omega) dX5_count_79 (by decide) (fun hc79 => ?_) (fun hc79 => ?_)
          · refine lv_iconst (v := nI 0) hx hb dX5_count_86 rfl ?_
            rw [hQ]
            rw [hAe] at hM
            exact z_iret hsz hx hb hr hlocks hK hM dX5_count_87 (by
                  have he : op_count (nI 3) ((vars, maxR, cells), (nr, inp, R), (fil, V), (se, be, S), P, (st, sg, gv, g, z)) = some (nI se) := by simp only [op_count]; rw [if_neg hno, if_neg (show ¬ nI 3 = 0 by decide), if_neg (show ¬ nI 3 = 1 by decide), if_neg (show ¬ nI 3 = 2 by decide), if_pos (show nI 3 = 3 by decide)]
                  rw [he]; exact ⟨rfl, congrArg nI (by omega)⟩)
          · refine lv_iconst (v := nI 1) hx hb dX5_count_82 rfl ?_
            refine lv_goto (tgt := 87) hx hb dX5_count_83 (by decide) ?_
            rw [hQ]
            rw [hAe] at hM
            exact z_iret hsz hx hb hr hlocks hK hM dX5_count_87 (by
                  have he : op_count (nI 3) ((vars, maxR, cells), (nr, inp, R), (fil, V), (se, be, S), P, (st, sg, gv, g, z)) = some (nI se) := by simp only [op_count]; rw [if_neg hno, if_neg (show ¬ nI 3 = 0 by decide), if_neg (show ¬ nI 3 = 1 by decide), if_neg (show ¬ nI 3 = 2 by decide), if_pos (show nI 3 = 3 by decide)]
                  rw [he]; exact ⟨rfl, congrArg nI (by omega)⟩)
        · refine lv_tableIn (off := 64) (tgt := 88) hx hb dX5_count_24 (by decide) (by decide) (by decide) (by decide) ?_
          refine lv_aload_n hx hb dX5_count_88 rfl (lv_at hl 0 rfl) ?_
          refine m_get hok hx hb hts hin5 hown hK hM 11 hf_isBegun rfl (by decide) (v := .int (nI be)) rfl dX5_count_89 ?_
          refine z_if_eq (tgt := 99) hx hb (by omega) dX5_count_92 (by decide) (fun hc92 => ?_) (fun hc92 => ?_)
          · refine lv_iconst (v := nI 0) hx hb dX5_count_99 rfl ?_
            rw [hQ]
            rw [hAe] at hM
            exact z_iret hsz hx hb hr hlocks hK hM dX5_count_100 (by
                  have he : op_count (nI 4) ((vars, maxR, cells), (nr, inp, R), (fil, V), (se, be, S), P, (st, sg, gv, g, z)) = some (nI be) := by simp only [op_count]; rw [if_neg hno, if_neg (show ¬ nI 4 = 0 by decide), if_neg (show ¬ nI 4 = 1 by decide), if_neg (show ¬ nI 4 = 2 by decide), if_neg (show ¬ nI 4 = 3 by decide), if_pos (show nI 4 = 4 by decide)]
                  rw [he]; exact ⟨rfl, congrArg nI (by omega)⟩)
          · refine lv_iconst (v := nI 1) hx hb dX5_count_95 rfl ?_
            refine lv_goto (tgt := 100) hx hb dX5_count_96 (by decide) ?_
            rw [hQ]
            rw [hAe] at hM
            exact z_iret hsz hx hb hr hlocks hK hM dX5_count_100 (by
                  have he : op_count (nI 4) ((vars, maxR, cells), (nr, inp, R), (fil, V), (se, be, S), P, (st, sg, gv, g, z)) = some (nI be) := by simp only [op_count]; rw [if_neg hno, if_neg (show ¬ nI 4 = 0 by decide), if_neg (show ¬ nI 4 = 1 by decide), if_neg (show ¬ nI 4 = 2 by decide), if_neg (show ¬ nI 4 = 3 by decide), if_pos (show nI 4 = 4 by decide)]
                  rw [he]; exact ⟨rfl, congrArg nI (by omega)⟩)
        · refine lv_tableOut (tgt := 101) hx hb dX5_count_24 (by decide) (by decide) ?_
          refine lv_aload_n hx hb dX5_count_101 rfl (lv_at hl 0 rfl) ?_
          refine m_get hok hx hb hts hin5 hown hK hM 12 hf_state rfl (by decide) (v := .int (nI st)) rfl dX5_count_102 ?_
          rw [hQ]
          rw [hAe] at hM
          exact z_iret hsz hx hb hr hlocks hK hM dX5_count_105 (by
                have he : op_count (nI 5) ((vars, maxR, cells), (nr, inp, R), (fil, V), (se, be, S), P, (st, sg, gv, g, z)) = some (nI st) := by simp only [op_count]; rw [if_neg hno, if_neg (show ¬ nI 5 = 0 by decide), if_neg (show ¬ nI 5 = 1 by decide), if_neg (show ¬ nI 5 = 2 by decide), if_neg (show ¬ nI 5 = 3 by decide), if_neg (show ¬ nI 5 = 4 by decide)]
                rw [he]; exact ⟨rfl, rfl⟩)
      · exact absurd rfl hc18
