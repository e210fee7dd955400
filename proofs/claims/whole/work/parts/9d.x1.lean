theorem sw_out {x : Int32} (h : x < 0 ∨ 5 < x) : x.toInt < 0 ∨ 5 < x.toInt := by
  have e0 : (0 : Int32).toInt = 0 := rfl
  have e5 : (5 : Int32).toInt = 5 := rfl
  rcases h with h | h
  · have := Int32.lt_iff_toInt_lt.mp h
    omega
  · have := Int32.lt_iff_toInt_lt.mp h
    omega
set_option maxRecDepth 100000 in
set_option maxHeartbeats 4000000 in
theorem x_cell (l : Launch) (hl9 : l.stackTraces = false) (Γ : zT) (G : zG) (sz sa sb : Nat) (X : Nat → Nat) (σ : AS) (row entry what : Int32) (hX : XI X σ.1.1) (hI : AI σ) (hR : CRep Γ G X σ) : zMx l yX4_cell wsX4_cell ({ frames := 8, cells := 1, slots := 6, locals := 512 } : Room) Γ G sz sa sb [.ref (X 80), .int row, .int entry, .int what] (fun x G' => op_cell row entry what σ = some x ∧ G' = G) (fun G' => op_cell row entry what σ = none ∧ G' = G) 1 6 := by
  obtain ⟨⟨vars, maxR, cells⟩, ⟨nr, inp, R⟩, ⟨fil, V⟩, ⟨se, be, S⟩, P, st, sg, gv, g, z⟩ := σ
  have hX : XI X vars := hX
  have hR0 := hR
  obtain ⟨Z, used, cz, sw, C, St, hB, ⟨hsw, hcz⟩, hrd, hV, hS, hPt, hzr⟩ := hR
  obtain ⟨ct, hct⟩ : ∃ ct, ct = (if anyBot R vars inp nr then 1 else 0) := ⟨_, rfl⟩
  rw [← hct] at hB
  have hct1 : ct ≤ 1 := by rw [hct]; split <;> omega
  obtain ⟨⟨i1, i2, i3, i4, i5⟩, ⟨j1, j2, j3, j4⟩, ⟨f1, f2⟩, ⟨s1, s2, s3⟩, p1, r1, r2, r3, r4, r5, r6⟩ := hI
  refine z_startX (cc := cX4_cell) (maxL := 4) (ret := (some .int)) (by decide) rfl (Nat.le_of_ble_eq_true rfl) ?_
  intro p e s m args below meth c ls Q hE hnt hQ hsz hx hb hr hml hown hts hlocks hnm hK hM hl
  obtain ⟨A, hAe⟩ : ∃ A, A = zA G s.heap.size := ⟨_, rfl⟩
  rw [← hAe] at hM
  have hl : lv_has ls 4 [(0, .ref (X 80)), (1, .int row), (2, .int entry), (3, .int what)] := hl
  have hinX4 : ∀ w ∈ wsX40, w ∈ wsX4_cell := by decide +kernel
  have hf_13 := hts (.fieldLink RX4 13 "CutRows" "vars" "I") (by decide +kernel)
  have hf_22 := hts (.fieldLink RX4 22 "CutRows" "arena" "LCutRows$Arena;") (by decide +kernel)
  refine lv_aload_n hx hb dX4_cell_0 rfl (lv_at hl 0 rfl) ?_
  refine z_get (C := RX4) (T := TX4) (N := 16) (v := .ref (X 81)) hx hb hts hinX4 hown hK hM hB.1 1 hf_22 rfl rfl (by decide) rfl dX4_cell_1 ?_
  refine lv_iload_n hx hb dX4_cell_4 rfl (lv_at hl 1 rfl) ?_
  refine z_calli0 (va_runV (As := [.int row]) (rest := []) ⟨hx, hb, hml, hown, hts⟩ (a_has l Γ G _ X vars hX maxR nr used cz R C St hB.2.2.1 row) (cwV 1 hts gX4_cell_X0_has rfl rfl rfl (by decide +kernel) ⟨Nat.le_of_ble_eq_true rfl, Nat.le_of_ble_eq_true rfl⟩) (zM.preV hK hM hB.2.2.1.1.1 rfl rfl) rfl rfl hl.1 rfl (lv_room (Nat.le_of_ble_eq_true rfl)) dX4_cell_5 ⟨Nat.le_of_ble_eq_true rfl, Nat.le_of_ble_eq_true rfl⟩) hM (fun r5 G5 H locs hp5 hM => ?_)
  obtain ⟨rfl, hGe⟩ := hp5
  rw [hGe] at hM
  refine lv_if_eq (tgt := 29) hx hb dX4_cell_8 (by decide) (fun hc8 => ?_) (fun hc8 => ?_)
  · have hbad : row < 0 ∨ nI nr ≤ row := by by_cases h9 : row < 0 ∨ nI nr ≤ row; exact h9; rw [if_neg h9] at hc8; exact absurd hc8 (by decide)
    rw [hQ]
    rw [hAe] at hM
    exact z_throw (is := 160) (st9 := sa) (text := "no such row, entry or part of a number") hx hb hl9 hown hnt (hts (.classLink RX4 158 nIA) (by decide +kernel)) (hts (.initialized nIA) (by decide +kernel)) hE.1.1 (fun w hw => hts w ((by decide +kernel : ∀ w ∈ (vx_atS RX4 162 nIA exN).filter goodWord, w ∈ wsX4_cell) w hw)) hE hsz hK hM (by rw [hml]; exact hl.1) dX4_cell_29 dX4_cell_32 dX4_cell_33 dX4_cell_35 dX4_cell_38 (Nat.le_of_ble_eq_true rfl) (Nat.le_of_ble_eq_true rfl) (Nat.le_of_ble_eq_true rfl) (Nat.le_of_ble_eq_true rfl) hlocks (⟨by simp only [op_cell]; rw [if_pos (hbad.elim Or.inl (fun h => Or.inr (Or.inl h)))], rfl⟩) (Nat.le_of_ble_eq_true rfl) (Nat.le_of_ble_eq_true rfl)
  · have hgood : ¬ (row < 0 ∨ nI nr ≤ row) := fun h9 => by rw [if_pos h9] at hc8; exact absurd rfl hc8
    refine lv_iload_n hx hb dX4_cell_11 rfl (lv_at hl 2 rfl) ?_
    refine lv_if_lt (tgt := 29) hx hb dX4_cell_12 (by decide) (fun hc12 => ?_) (fun hc12 => ?_)
    · rw [hQ]
      rw [hAe] at hM
      exact z_throw (is := 160) (st9 := sa) (text := "no such row, entry or part of a number") hx hb hl9 hown hnt (hts (.classLink RX4 158 nIA) (by decide +kernel)) (hts (.initialized nIA) (by decide +kernel)) hE.1.1 (fun w hw => hts w ((by decide +kernel : ∀ w ∈ (vx_atS RX4 162 nIA exN).filter goodWord, w ∈ wsX4_cell) w hw)) hE hsz hK hM (by rw [hml]; exact hl.1) dX4_cell_29 dX4_cell_32 dX4_cell_33 dX4_cell_35 dX4_cell_38 (Nat.le_of_ble_eq_true rfl) (Nat.le_of_ble_eq_true rfl) (Nat.le_of_ble_eq_true rfl) (Nat.le_of_ble_eq_true rfl) hlocks (⟨by simp only [op_cell]; rw [if_pos (Or.inr (Or.inr (Or.inl hc12)))], rfl⟩) (Nat.le_of_ble_eq_true rfl) (Nat.le_of_ble_eq_true rfl)
    · refine lv_iload_n hx hb dX4_cell_15 rfl (lv_at hl 2 rfl) ?_
      refine lv_aload_n hx hb dX4_cell_16 rfl (lv_at hl 0 rfl) ?_
      refine z_get (C := RX4) (T := TX4) (N := 16) (v := .int (nI vars)) hx hb hts hinX4 hown hK hM hB.1 0 hf_13 rfl rfl (by decide) rfl dX4_cell_17 ?_
      refine lv_icmp_gt (tgt := 29) hx hb dX4_cell_20 (by decide) (fun hc20 => ?_) (fun hc20 => ?_)
      · rw [hQ]
        rw [hAe] at hM
        exact z_throw (is := 160) (st9 := sa) (text := "no such row, entry or part of a number") hx hb hl9 hown hnt (hts (.classLink RX4 158 nIA) (by decide +kernel)) (hts (.initialized nIA) (by decide +kernel)) hE.1.1 (fun w hw => hts w ((by decide +kernel : ∀ w ∈ (vx_atS RX4 162 nIA exN).filter goodWord, w ∈ wsX4_cell) w hw)) hE hsz hK hM (by rw [hml]; exact hl.1) dX4_cell_29 dX4_cell_32 dX4_cell_33 dX4_cell_35 dX4_cell_38 (Nat.le_of_ble_eq_true rfl) (Nat.le_of_ble_eq_true rfl) (Nat.le_of_ble_eq_true rfl) (Nat.le_of_ble_eq_true rfl) hlocks (⟨by simp only [op_cell]; rw [if_pos (Or.inr (Or.inr (Or.inr (Or.inl hc20))))], rfl⟩) (Nat.le_of_ble_eq_true rfl) (Nat.le_of_ble_eq_true rfl)
      · refine lv_iload_n hx hb dX4_cell_23 rfl (lv_at hl 3 rfl) ?_
        refine lv_bipush (v := -2) hx hb dX4_cell_24 rfl ?_
        refine lv_icmp_ge (tgt := 39) hx hb dX4_cell_26 (by decide) (fun hc26 => ?_) (fun hc26 => ?_)
        · have hc26n : ¬ what < -2 := Int32.not_lt.mpr hc26
          have hno : ¬ (row < 0 ∨ nI nr ≤ row ∨ entry < 0 ∨ nI vars < entry ∨ what < -2) := by rintro (h | h | h | h | h); exact hgood (Or.inl h); exact hgood (Or.inr h); exact hc12 h; exact hc20 h; exact hc26n h
          obtain ⟨rn, hrn, rfl⟩ : ∃ j : Nat, j < 2 ^ 31 ∧ row = nI j := nI_of (fun h9 => hgood (Or.inl h9))
          have hrl : rn < nr := by have := mt (nI_leI (show nr < 2 ^ 31 by omega) hrn).mpr (fun h9 => hgood (Or.inr h9)); omega
          obtain ⟨en, hen, rfl⟩ : ∃ j : Nat, j < 2 ^ 31 ∧ entry = nI j := nI_of hc12
          have hel : en ≤ vars := by have := mt (nI_ltI (show vars < 2 ^ 31 by omega) hen).mpr hc20; omega
          refine lv_iload_n hx hb dX4_cell_39 rfl (lv_at hl 3 rfl) ?_
          refine lv_iconst (v := -1) hx hb dX4_cell_40 rfl ?_
          refine lv_icmp_ne (tgt := 54) hx hb dX4_cell_41 (by decide) (fun hc41 => ?_) (fun hc41 => ?_)
          · refine lv_iload_n hx hb dX4_cell_54 rfl (lv_at hl 3 rfl) ?_
            refine lv_bipush (v := -2) hx hb dX4_cell_55 rfl ?_
            refine lv_icmp_ne (tgt := 70) hx hb dX4_cell_57 (by decide) (fun hc57 => ?_) (fun hc57 => ?_)
            · refine lv_aload_n hx hb dX4_cell_70 rfl (lv_at hl 0 rfl) ?_
              refine z_get (C := RX4) (T := TX4) (N := 16) (v := .ref (X 81)) hx hb hts hinX4 hown hK hM hB.1 1 hf_22 rfl rfl (by decide) rfl dX4_cell_71 ?_
              refine lv_iload_n hx hb dX4_cell_74 rfl (lv_at hl 1 rfl) ?_
              refine lv_iload_n hx hb dX4_cell_75 rfl (lv_at hl 2 rfl) ?_
              refine lv_iload_n hx hb dX4_cell_76 rfl (lv_at hl 3 rfl) ?_
              obtain ⟨wn, hwn, rfl⟩ : ∃ j : Nat, j < 2 ^ 31 ∧ what = nI j := nI_of (ge0_of hc26n hc41 hc57)
              refine z_calli0 (va_runV (As := [.int (nI rn), .int (nI en), .int (nI wn)]) (rest := []) ⟨hx, hb, hml, hown, hts⟩ (a_digitOf l Γ G _ X vars hX maxR nr used cz R C St hB.2.2.1 rn en hrl hel wn hwn) (cwV 3 hts gX4_cell_X0_digitOf rfl rfl rfl (by decide +kernel) ⟨Nat.le_of_ble_eq_true rfl, Nat.le_of_ble_eq_true rfl⟩) (zM.preV hK hM hB.2.2.1.1.1 rfl rfl) rfl rfl hl.1 rfl (lv_room (Nat.le_of_ble_eq_true rfl)) dX4_cell_77 ⟨Nat.le_of_ble_eq_true rfl, Nat.le_of_ble_eq_true rfl⟩) hM (fun r77 G77 H locs hp77 hM => ?_)
              obtain ⟨rfl, hGe⟩ := hp77
              rw [hGe] at hM
              rw [hQ]
              rw [hAe] at hM
              exact z_iretX (Nat.le_of_ble_eq_true rfl) (Nat.le_of_ble_eq_true rfl) hsz hx hb hr hlocks hK hM dX4_cell_80 (⟨by simp only [op_cell]; rw [if_neg hno, nI_clamp hrn, nI_clamp hen, if_neg hc41, if_neg hc57, nI_clamp hwn]; all_goals rfl, rfl⟩)
            · refine lv_aload_n hx hb dX4_cell_60 rfl (lv_at hl 0 rfl) ?_
              refine z_get (C := RX4) (T := TX4) (N := 16) (v := .ref (X 81)) hx hb hts hinX4 hown hK hM hB.1 1 hf_22 rfl rfl (by decide) rfl dX4_cell_61 ?_
              refine lv_iload_n hx hb dX4_cell_64 rfl (lv_at hl 1 rfl) ?_
              refine lv_iload_n hx hb dX4_cell_65 rfl (lv_at hl 2 rfl) ?_
              refine z_calli0 (va_runV (As := [.int (nI rn), .int (nI en)]) (rest := []) ⟨hx, hb, hml, hown, hts⟩ (a_sizeOf l Γ G _ X vars hX maxR nr used cz R C St hB.2.2.1 rn en hrl hel) (cwV 2 hts gX4_cell_X0_sizeOf rfl rfl rfl (by decide +kernel) ⟨Nat.le_of_ble_eq_true rfl, Nat.le_of_ble_eq_true rfl⟩) (zM.preV hK hM hB.2.2.1.1.1 rfl rfl) rfl rfl hl.1 rfl (lv_room (Nat.le_of_ble_eq_true rfl)) dX4_cell_66 ⟨Nat.le_of_ble_eq_true rfl, Nat.le_of_ble_eq_true rfl⟩) hM (fun r66 G66 H locs hp66 hM => ?_)
              obtain ⟨rfl, hGe⟩ := hp66
              rw [hGe] at hM
              rw [hQ]
              rw [hAe] at hM
              exact z_iretX (Nat.le_of_ble_eq_true rfl) (Nat.le_of_ble_eq_true rfl) hsz hx hb hr hlocks hK hM dX4_cell_69 (⟨by simp only [op_cell]; rw [if_neg hno, nI_clamp hrn, nI_clamp hen, if_neg hc41, if_pos hc57]; all_goals rfl, rfl⟩)
          · refine lv_aload_n hx hb dX4_cell_44 rfl (lv_at hl 0 rfl) ?_
            refine z_get (C := RX4) (T := TX4) (N := 16) (v := .ref (X 81)) hx hb hts hinX4 hown hK hM hB.1 1 hf_22 rfl rfl (by decide) rfl dX4_cell_45 ?_
            refine lv_iload_n hx hb dX4_cell_48 rfl (lv_at hl 1 rfl) ?_
            refine lv_iload_n hx hb dX4_cell_49 rfl (lv_at hl 2 rfl) ?_
            refine z_calli0 (va_runV (As := [.int (nI rn), .int (nI en)]) (rest := []) ⟨hx, hb, hml, hown, hts⟩ (a_signOf l Γ G _ X vars hX maxR nr used cz R C St hB.2.2.1 rn en hrl hel) (cwV 2 hts gX4_cell_X0_signOf rfl rfl rfl (by decide +kernel) ⟨Nat.le_of_ble_eq_true rfl, Nat.le_of_ble_eq_true rfl⟩) (zM.preV hK hM hB.2.2.1.1.1 rfl rfl) rfl rfl hl.1 rfl (lv_room (Nat.le_of_ble_eq_true rfl)) dX4_cell_50 ⟨Nat.le_of_ble_eq_true rfl, Nat.le_of_ble_eq_true rfl⟩) hM (fun r50 G50 H locs hp50 hM => ?_)
            obtain ⟨rfl, hGe⟩ := hp50
            rw [hGe] at hM
            rw [hQ]
            rw [hAe] at hM
            exact z_iretX (Nat.le_of_ble_eq_true rfl) (Nat.le_of_ble_eq_true rfl) hsz hx hb hr hlocks hK hM dX4_cell_53 (⟨by simp only [op_cell]; rw [if_neg hno, nI_clamp hrn, nI_clamp hen, if_pos hc41]; all_goals rfl, rfl⟩)
        · rw [hQ]
          rw [hAe] at hM
          exact z_throw (is := 160) (st9 := sa) (text := "no such row, entry or part of a number") hx hb hl9 hown hnt (hts (.classLink RX4 158 nIA) (by decide +kernel)) (hts (.initialized nIA) (by decide +kernel)) hE.1.1 (fun w hw => hts w ((by decide +kernel : ∀ w ∈ (vx_atS RX4 162 nIA exN).filter goodWord, w ∈ wsX4_cell) w hw)) hE hsz hK hM (by rw [hml]; exact hl.1) dX4_cell_29 dX4_cell_32 dX4_cell_33 dX4_cell_35 dX4_cell_38 (Nat.le_of_ble_eq_true rfl) (Nat.le_of_ble_eq_true rfl) (Nat.le_of_ble_eq_true rfl) (Nat.le_of_ble_eq_true rfl) hlocks (⟨by simp only [op_cell]; rw [if_pos (Or.inr (Or.inr (Or.inr (Or.inr (Int32.not_le.mp hc26)))))], rfl⟩) (Nat.le_of_ble_eq_true rfl) (Nat.le_of_ble_eq_true rfl)

set_option maxRecDepth 100000 in
set_option maxHeartbeats 4000000 in
theorem x_count (l : Launch) (hl9 : l.stackTraces = false) (Γ : zT) (G : zG) (sz sa sb : Nat) (X : Nat → Nat) (σ : AS) (what : Int32) (hX : XI X σ.1.1) (hI : AI σ) (hR : CRep Γ G X σ) : zMx l yX4_count wsX4_count ({ frames := 8, cells := 1, slots := 6, locals := 512 } : Room) Γ G sz sa sb [.ref (X 80), .int what] (fun x G' => op_count what σ = some x ∧ G' = G) (fun G' => op_count what σ = none ∧ G' = G) 1 6 := by
  obtain ⟨⟨vars, maxR, cells⟩, ⟨nr, inp, R⟩, ⟨fil, V⟩, ⟨se, be, S⟩, P, st, sg, gv, g, z⟩ := σ
  have hX : XI X vars := hX
  have hR0 := hR
  obtain ⟨Z, used, cz, sw, C, St, hB, ⟨hsw, hcz⟩, hrd, hV, hS, hPt, hzr⟩ := hR
  obtain ⟨ct, hct⟩ : ∃ ct, ct = (if anyBot R vars inp nr then 1 else 0) := ⟨_, rfl⟩
  rw [← hct] at hB
  have hct1 : ct ≤ 1 := by rw [hct]; split <;> omega
  obtain ⟨⟨i1, i2, i3, i4, i5⟩, ⟨j1, j2, j3, j4⟩, ⟨f1, f2⟩, ⟨s1, s2, s3⟩, p1, r1, r2, r3, r4, r5, r6⟩ := hI
  refine z_startX (cc := cX4_count) (maxL := 2) (ret := (some .int)) (by decide) rfl (Nat.le_of_ble_eq_true rfl) ?_
  intro p e s m args below meth c ls Q hE hnt hQ hsz hx hb hr hml hown hts hlocks hnm hK hM hl
  obtain ⟨A, hAe⟩ : ∃ A, A = zA G s.heap.size := ⟨_, rfl⟩
  rw [← hAe] at hM
  have hl : lv_has ls 2 [(0, .ref (X 80)), (1, .int what)] := hl
  have hinX4 : ∀ w ∈ wsX40, w ∈ wsX4_count := by decide +kernel
  have hinX2 : ∀ w ∈ wsX20, w ∈ wsX4_count := by decide +kernel
  have hf_22 := hts (.fieldLink RX4 22 "CutRows" "arena" "LCutRows$Arena;") (by decide +kernel)
  have hf_29 := hts (.fieldLink RX4 29 "CutRows" "register" "LCutRows$Register;") (by decide +kernel)
  have hf_82 := hts (.fieldLink RX4 82 "CutRows$Register" "state" "I") (by decide +kernel)
  have hf_85 := hts (.fieldLink RX4 85 "CutRows" "vectorSize" "I") (by decide +kernel)
  have hf_98 := hts (.fieldLink RX4 98 "CutRows" "sealed" "Z") (by decide +kernel)
  have hf_106 := hts (.fieldLink RX4 106 "CutRows" "inputRows" "I") (by decide +kernel)
  have hf_113 := hts (.fieldLink RX4 113 "CutRows" "sumBegun" "Z") (by decide +kernel)
  refine lv_iload_n hx hb dX4_count_0 rfl (lv_at hl 1 rfl) ?_
  by_cases hno : what < 0 ∨ 5 < what
  · refine lv_tableOut (tgt := 92) hx hb dX4_count_1 (sw_out hno) (by decide) ?_
    rw [hQ]
    rw [hAe] at hM
    exact z_throw (is := 179) (st9 := sb) (text := "nothing of this number is counted") hx hb hl9 hown hnt (hts (.classLink RX4 158 nIA) (by decide +kernel)) (hts (.initialized nIA) (by decide +kernel)) hE.1.2 (fun w hw => hts w ((by decide +kernel : ∀ w ∈ (vx_atS RX4 162 nIA exN).filter goodWord, w ∈ wsX4_count) w hw)) hE hsz hK hM (by rw [hml]; exact hl.1) dX4_count_92 dX4_count_95 dX4_count_96 dX4_count_98 dX4_count_101 (Nat.le_of_ble_eq_true rfl) (Nat.le_of_ble_eq_true rfl) (Nat.le_of_ble_eq_true rfl) (Nat.le_of_ble_eq_true rfl) hlocks (⟨by simp only [op_count]; rw [if_pos hno], rfl⟩) (Nat.le_of_ble_eq_true rfl) (Nat.le_of_ble_eq_true rfl)
  · obtain ⟨wn, hwn, rfl⟩ : ∃ j : Nat, j < 2 ^ 31 ∧ what = nI j := nI_of (fun h => hno (Or.inl h))
    have hwl : wn ≤ 5 := by have := mt (nI_ltI (show 5 < 2 ^ 31 by decide) hwn).mpr (fun h => hno (Or.inr h)); omega
    rcases (show wn = 0 ∨ wn = 1 ∨ wn = 2 ∨ wn = 3 ∨ wn = 4 ∨ wn = 5 by omega) with rfl | rfl | rfl | rfl | rfl | rfl
    · refine lv_tableIn (off := 39) (tgt := 40) hx hb dX4_count_1 (by decide) (by decide) (by decide) (by decide) ?_
      refine lv_aload_n hx hb dX4_count_40 rfl (lv_at hl 0 rfl) ?_
      refine z_get (C := RX4) (T := TX4) (N := 16) (v := .ref (X 81)) hx hb hts hinX4 hown hK hM hB.1 1 hf_22 rfl rfl (by decide) rfl dX4_count_41 ?_
      refine z_calli0 (va_runV (As := []) (rest := []) ⟨hx, hb, hml, hown, hts⟩ (a_cellsLeft l Γ G _ X vars hX maxR nr used cz R C St hB.2.2.1) (cwV 0 hts gX4_count_X0_cellsLeft rfl rfl rfl (by decide +kernel) ⟨Nat.le_of_ble_eq_true rfl, Nat.le_of_ble_eq_true rfl⟩) (zM.preV hK hM hB.2.2.1.1.1 rfl rfl) rfl rfl hl.1 rfl (lv_room (Nat.le_of_ble_eq_true rfl)) dX4_count_44 ⟨Nat.le_of_ble_eq_true rfl, Nat.le_of_ble_eq_true rfl⟩) hM (fun r44 G44 H locs hp44 hM => ?_)
      obtain ⟨rfl, hGe⟩ := hp44
      rw [hGe] at hM
      rw [hQ]
      rw [hAe] at hM
      exact z_iretX (Nat.le_of_ble_eq_true rfl) (Nat.le_of_ble_eq_true rfl) hsz hx hb hr hlocks hK hM dX4_count_47 (⟨by simp only [op_count]; rw [if_neg hno, if_pos (show nI 0 = 0 by decide)]; all_goals exact congrArg (fun x => some (nI x)) (by omega), rfl⟩)
    · refine lv_tableIn (off := 47) (tgt := 48) hx hb dX4_count_1 (by decide) (by decide) (by decide) (by decide) ?_
      refine lv_aload_n hx hb dX4_count_48 rfl (lv_at hl 0 rfl) ?_
      refine z_get (C := RX4) (T := TX4) (N := 16) (v := .int (nI inp)) hx hb hts hinX4 hown hK hM hB.1 7 hf_106 rfl rfl (by decide) rfl dX4_count_49 ?_
      rw [hQ]
      rw [hAe] at hM
      exact z_iretX (Nat.le_of_ble_eq_true rfl) (Nat.le_of_ble_eq_true rfl) hsz hx hb hr hlocks hK hM dX4_count_52 (⟨by simp only [op_count]; rw [if_neg hno, if_neg (show ¬ nI 1 = 0 by decide), if_pos (show nI 1 = 1 by decide)]; all_goals exact rfl, rfl⟩)
    · refine lv_tableIn (off := 52) (tgt := 53) hx hb dX4_count_1 (by decide) (by decide) (by decide) (by decide) ?_
      refine lv_aload_n hx hb dX4_count_53 rfl (lv_at hl 0 rfl) ?_
      refine z_get (C := RX4) (T := TX4) (N := 16) (v := .int (nI fil)) hx hb hts hinX4 hown hK hM hB.1 6 hf_85 rfl rfl (by decide) rfl dX4_count_54 ?_
      rw [hQ]
      rw [hAe] at hM
      exact z_iretX (Nat.le_of_ble_eq_true rfl) (Nat.le_of_ble_eq_true rfl) hsz hx hb hr hlocks hK hM dX4_count_57 (⟨by simp only [op_count]; rw [if_neg hno, if_neg (show ¬ nI 2 = 0 by decide), if_neg (show ¬ nI 2 = 1 by decide), if_pos (show nI 2 = 2 by decide)]; all_goals exact rfl, rfl⟩)
    · refine lv_tableIn (off := 57) (tgt := 58) hx hb dX4_count_1 (by decide) (by decide) (by decide) (by decide) ?_
      refine lv_aload_n hx hb dX4_count_58 rfl (lv_at hl 0 rfl) ?_
      refine z_get (C := RX4) (T := TX4) (N := 16) (v := .int (nI se)) hx hb hts hinX4 hown hK hM hB.1 8 hf_98 rfl rfl (by decide) rfl dX4_count_59 ?_
      refine z_if_eq (tgt := 69) hx hb (by omega) dX4_count_62 (by decide) (fun hc62 => ?_) (fun hc62 => ?_)
      · refine lv_iconst (v := nI 0) hx hb dX4_count_69 rfl ?_
        rw [hQ]
        rw [hAe] at hM
        exact z_iretX (Nat.le_of_ble_eq_true rfl) (Nat.le_of_ble_eq_true rfl) hsz hx hb hr hlocks hK hM dX4_count_70 (⟨by simp only [op_count]; rw [if_neg hno, if_neg (show ¬ nI 3 = 0 by decide), if_neg (show ¬ nI 3 = 1 by decide), if_neg (show ¬ nI 3 = 2 by decide), if_pos (show nI 3 = 3 by decide)]; all_goals exact congrArg (fun x => some (nI x)) (by omega), rfl⟩)
      · refine lv_iconst (v := nI 1) hx hb dX4_count_65 rfl ?_
        refine lv_goto (tgt := 70) hx hb dX4_count_66 (by decide) ?_
        rw [hQ]
        rw [hAe] at hM
        exact z_iretX (Nat.le_of_ble_eq_true rfl) (Nat.le_of_ble_eq_true rfl) hsz hx hb hr hlocks hK hM dX4_count_70 (⟨by simp only [op_count]; rw [if_neg hno, if_neg (show ¬ nI 3 = 0 by decide), if_neg (show ¬ nI 3 = 1 by decide), if_neg (show ¬ nI 3 = 2 by decide), if_pos (show nI 3 = 3 by decide)]; all_goals exact congrArg (fun x => some (nI x)) (by omega), rfl⟩)
    · refine lv_tableIn (off := 70) (tgt := 71) hx hb dX4_count_1 (by decide) (by decide) (by decide) (by decide) ?_
      refine lv_aload_n hx hb dX4_count_71 rfl (lv_at hl 0 rfl) ?_
      refine z_get (C := RX4) (T := TX4) (N := 16) (v := .int (nI be)) hx hb hts hinX4 hown hK hM hB.1 9 hf_113 rfl rfl (by decide) rfl dX4_count_72 ?_
      refine z_if_eq (tgt := 82) hx hb (by omega) dX4_count_75 (by decide) (fun hc75 => ?_) (fun hc75 => ?_)
      · refine lv_iconst (v := nI 0) hx hb dX4_count_82 rfl ?_
        rw [hQ]
        rw [hAe] at hM
        exact z_iretX (Nat.le_of_ble_eq_true rfl) (Nat.le_of_ble_eq_true rfl) hsz hx hb hr hlocks hK hM dX4_count_83 (⟨by simp only [op_count]; rw [if_neg hno, if_neg (show ¬ nI 4 = 0 by decide), if_neg (show ¬ nI 4 = 1 by decide), if_neg (show ¬ nI 4 = 2 by decide), if_neg (show ¬ nI 4 = 3 by decide), if_pos (show nI 4 = 4 by decide)]; all_goals exact congrArg (fun x => some (nI x)) (by omega), rfl⟩)
      · refine lv_iconst (v := nI 1) hx hb dX4_count_78 rfl ?_
        refine lv_goto (tgt := 83) hx hb dX4_count_79 (by decide) ?_
        rw [hQ]
        rw [hAe] at hM
        exact z_iretX (Nat.le_of_ble_eq_true rfl) (Nat.le_of_ble_eq_true rfl) hsz hx hb hr hlocks hK hM dX4_count_83 (⟨by simp only [op_count]; rw [if_neg hno, if_neg (show ¬ nI 4 = 0 by decide), if_neg (show ¬ nI 4 = 1 by decide), if_neg (show ¬ nI 4 = 2 by decide), if_neg (show ¬ nI 4 = 3 by decide), if_pos (show nI 4 = 4 by decide)]; all_goals exact congrArg (fun x => some (nI x)) (by omega), rfl⟩)
    · refine lv_tableIn (off := 83) (tgt := 84) hx hb dX4_count_1 (by decide) (by decide) (by decide) (by decide) ?_
      refine lv_aload_n hx hb dX4_count_84 rfl (lv_at hl 0 rfl) ?_
      refine z_get (C := RX4) (T := TX4) (N := 16) (v := .ref (X 82)) hx hb hts hinX4 hown hK hM hB.1 2 hf_29 rfl rfl (by decide) rfl dX4_count_85 ?_
      refine z_get (C := RX2) (T := TX2) (N := 4) (v := .int (nI st)) hx hb hts hinX2 hown hK hM hB.2.2.2 1 hf_82 rfl rfl (by decide) rfl dX4_count_88 ?_
      rw [hQ]
      rw [hAe] at hM
      exact z_iretX (Nat.le_of_ble_eq_true rfl) (Nat.le_of_ble_eq_true rfl) hsz hx hb hr hlocks hK hM dX4_count_91 (⟨by simp only [op_count]; rw [if_neg hno, if_neg (show ¬ nI 5 = 0 by decide), if_neg (show ¬ nI 5 = 1 by decide), if_neg (show ¬ nI 5 = 2 by decide), if_neg (show ¬ nI 5 = 3 by decide), if_neg (show ¬ nI 5 = 4 by decide)]; all_goals exact rfl, rfl⟩)
