set_option maxRecDepth 100000 in
set_option maxHeartbeats 4000000 in
theorem lw_k14 {p : Program} {l : Launch} {e : Env} {s : State} {m : MethodId} {below : List Frame} {meth : Method} {c : Code} {b L : Nat} {xs : Nat → Int32} {Γ : zT} {X : Nat → Nat} {o lF lL lB lo vars sa sb : Nat} (hl9 : l.stackTraces = false) (hC : LC p s m c b L xs Γ X o lF lL lB lo vars sa sb) (i : Nat) (hi : i + 4 ≤ L) (G : zG) (σ : AS) (hI : LI Γ G X o lF lL lB lo vars σ) (ls : Array Slot) (H : Heap) (locs : List Loc) (hl : lv_has ls 7 [(4, .int (nI i)), (3, .ref lo), (2, .ref o), (1, .ref (X 80)), (0, .ref b)]) (hM : zM Γ (fun q : Nat => s.heap.size ≤ q) s.heap G H locs) (Q : State → Prop) (k526 : ∀ (G2 : zG) (σ2 : AS) (ls : Array Slot) (H : Heap) (locs : List Loc), LI Γ G2 X o lF lL lB lo vars σ2 → lv_has ls 7 [(4, .int (nI i)), (3, .ref lo), (2, .ref o), (1, .ref (X 80)), (0, .ref b)] → zM Γ (fun q : Nat => s.heap.size ≤ q) s.heap G2 H locs → W p l e room_1 s m #[Value.ref b] below meth c H locs (201 + i) (42006 + 6 * i) Q (F0 m 526 ls [])) : W p l e room_1 s m #[Value.ref b] below meth c H locs (200 + i) (42000 + 6 * i) Q (F0 m 390 ls []) := by
  obtain ⟨hx, hb, hml, hown, hts, hXs, hbl, hL, hK, hE, hd⟩ := hC
  have hbA : ¬ (fun q : Nat => s.heap.size ≤ q) b := Nat.not_le.mpr hbl
  obtain ⟨hJ, hv, hR, F9, L9, B9, rf, f, hLM⟩ := hI
  have hXv : XI X σ.1.1 := by rw [hv]; exact hd.1
  obtain ⟨fs, hO⟩ := hR.o
  refine lv_aload_n hx hb dL_law_390 rfl (lv_at hl 3 rfl) ?_
  refine lv_aload_n hx hb dL_law_391 rfl (lv_at hl 4 rfl) ?_
  refine lv_iload hx hb dL_law_392 (lv_at hl 0 rfl) ?_
  refine lv_iconst (v := nI 1) hx hb dL_law_394 rfl ?_
  refine z_iadd hx hb dL_law_395 ?_
  refine va_sld hx hb hXs hbl hbA hM.2.2.1 (vp_in_nI (by omega) (by omega)) dL_law_396 ?_
  refine z_asi (y := xs (i + 1)) (by rw [nI_clamp (by omega)]) ?_
  refine lv_aload_n hx hb dL_law_397 rfl (lv_at hl 4 rfl) ?_
  refine lv_iload hx hb dL_law_398 (lv_at hl 0 rfl) ?_
  refine lv_iconst (v := nI 2) hx hb dL_law_400 rfl ?_
  refine z_iadd hx hb dL_law_401 ?_
  refine va_sld hx hb hXs hbl hbA hM.2.2.1 (vp_in_nI (by omega) (by omega)) dL_law_402 ?_
  refine z_asi (y := xs (i + 2)) (by rw [nI_clamp (by omega)]) ?_
  refine lv_aload_n hx hb dL_law_403 rfl (lv_at hl 4 rfl) ?_
  refine lv_iload hx hb dL_law_404 (lv_at hl 0 rfl) ?_
  refine lv_iconst (v := nI 3) hx hb dL_law_406 rfl ?_
  refine z_iadd hx hb dL_law_407 ?_
  refine va_sld hx hb hXs hbl hbA hM.2.2.1 (vp_in_nI (by omega) (by omega)) dL_law_408 ?_
  refine z_asi (y := xs (i + 3)) (by rw [nI_clamp (by omega)]) ?_
  refine lv_aload_n hx hb dL_law_409 rfl (lv_at hl 1 rfl) ?_
  refine z_calli (vx_runSW (hh := [(0, 12, 15, 13)]) (As := [.ref (X 80), .int (xs (i + 1)), .int (xs (i + 2)), .int (xs (i + 3)), .ref lo]) (rest := []) ⟨hx, hb, hml, hown, hts⟩ (l_cell_ l hl9 Γ G _ sa sb X σ (xs (i + 1)) (xs (i + 2)) (xs (i + 3)) lo f hXv hJ.1 hR hLM.2.2.2.2.2) (vx_cwSW 5 hts gL_law_L_cell_ rfl rfl rfl (by decide +kernel) ⟨(Nat.le_of_ble_eq_true rfl), (Nat.le_of_ble_eq_true rfl)⟩) (zM.preE hE hK hM) rfl rfl hl.1 rfl (lv_room (Nat.le_of_ble_eq_true rfl)) dL_law_410 ⟨(by show _ ≤ 601024; omega), (by show _ ≤ 7293000; omega)⟩) hM (fun r1 G1 H locs hp1 hM => ?_)
  refine W.widen (k := 201 + i) (n := 42006 + 6 * i) (by omega) (by omega) ?_
  rcases hp1 with ⟨v, hop, hr1, hG1⟩ | ⟨hop, hr1, hG1⟩
  · refine z_asi (y := nI 0) hr1 ?_
    obtain ⟨hR1, hLM1⟩ := li_lo hd hv hR hLM hG1
    rw [← hLM1.self] at hM
    refine lv_istore (lv' := [(5, .int (nI 0)), (4, .int (nI i)), (3, .ref lo), (2, .ref o), (1, .ref (X 80)), (0, .ref b)]) hx hb dL_law_413 hl (by decide) rfl (fun ls hl => ?_)
    refine lv_aload_n hx hb dL_law_415 rfl (lv_at hl 3 rfl) ?_
    refine lv_aload_n hx hb dL_law_416 rfl (lv_at hl 5 rfl) ?_
    refine lv_iload hx hb dL_law_417 (lv_at hl 1 rfl) ?_
    refine lv_iconst (v := nI 1) hx hb dL_law_419 rfl ?_
    refine z_iadd hx hb dL_law_420 ?_
    refine va_sld hx hb hXs hbl hbA hM.2.2.1 (vp_in_nI (by omega) (by omega)) dL_law_421 ?_
    refine z_asi (y := xs (i + 1)) (by rw [nI_clamp (by omega)]) ?_
    refine lv_aload_n hx hb dL_law_422 rfl (lv_at hl 5 rfl) ?_
    refine lv_iload hx hb dL_law_423 (lv_at hl 1 rfl) ?_
    refine lv_iconst (v := nI 2) hx hb dL_law_425 rfl ?_
    refine z_iadd hx hb dL_law_426 ?_
    refine va_sld hx hb hXs hbl hbA hM.2.2.1 (vp_in_nI (by omega) (by omega)) dL_law_427 ?_
    refine z_asi (y := xs (i + 2)) (by rw [nI_clamp (by omega)]) ?_
    refine lv_aload_n hx hb dL_law_428 rfl (lv_at hl 5 rfl) ?_
    refine lv_iload hx hb dL_law_429 (lv_at hl 1 rfl) ?_
    refine lv_iconst (v := nI 3) hx hb dL_law_431 rfl ?_
    refine z_iadd hx hb dL_law_432 ?_
    refine va_sld hx hb hXs hbl hbA hM.2.2.1 (vp_in_nI (by omega) (by omega)) dL_law_433 ?_
    refine z_asi (y := xs (i + 3)) (by rw [nI_clamp (by omega)]) ?_
    refine z_calli0 (va_runV (As := [.int (xs (i + 1)), .int (xs (i + 2)), .int (xs (i + 3))]) (rest := []) ⟨hx, hb, hml, hown, hts⟩ (m_cell l Γ hd.2.1 G1 F9 L9 B9 _ rf σ (xs (i + 1)) (xs (i + 2)) (xs (i + 3)) hJ.1 hLM1.1) (cwV 3 hts gL_law_X5_cell rfl rfl rfl (by decide +kernel) ⟨(Nat.le_of_ble_eq_true rfl), (Nat.le_of_ble_eq_true rfl)⟩) (zM.preV hK hM (md_o hd.2.1) rfl rfl) rfl rfl hl.1 rfl (lv_room (Nat.le_of_ble_eq_true rfl)) dL_law_434 ⟨(by show _ ≤ 601024; omega), (by show _ ≤ 7293000; omega)⟩) hM (fun r2 G2 H locs hp2 hM => ?_)
    obtain ⟨hG2, e2⟩ := hp2
    rw [hop] at hG2 e2
    obtain ⟨hR2, hLM2⟩ := li_ref hd hv hR1 hLM1.1 hLM1.2.2.2.2.2 hG2
    rw [hG2] at hM
    refine z_asi (y := v) e2 ?_
    refine lv_istore (lv' := [(6, .int v), (5, .int (nI 0)), (4, .int (nI i)), (3, .ref lo), (2, .ref o), (1, .ref (X 80)), (0, .ref b)]) hx hb dL_law_437 hl (by decide) rfl (fun ls hl => ?_)
    refine lv_aload_n hx hb dL_law_439 rfl (lv_at hl 4 rfl) ?_
    refine z_calli0 (va_runV (As := []) (rest := []) ⟨hx, hb, hml, hown, hts⟩ (m_thrown l Γ hd.2.1 G1 _ F9 L9 B9 _) (cwV 0 hts gL_law_X5_thrown rfl rfl rfl (by decide +kernel) ⟨(Nat.le_of_ble_eq_true rfl), (Nat.le_of_ble_eq_true rfl)⟩) (zM.preV hK hM (md_o hd.2.1) rfl rfl) rfl rfl hl.1 rfl (lv_room (Nat.le_of_ble_eq_true rfl)) dL_law_440 ⟨(by show _ ≤ 601024; omega), (by show _ ≤ 7293000; omega)⟩) hM (fun r3 G3 H locs hp3 hM => ?_)
    obtain ⟨e3, hG3⟩ := hp3
    rw [mfs_0] at e3
    rw [← hG2] at hG3
    have hI2 : LI Γ G3 X o lF lL lB lo vars σ := by rw [hG3]; exact ⟨hJ, hv, hR2, _, _, _, _, _, hLM2⟩
    refine z_asi (y := nI 0) e3 ?_
    refine lv_iload hx hb dL_law_443 (lv_at hl 1 rfl) ?_
    refine z_icmp_eq (tgt := 450) hx hb (by omega) (by omega) dL_law_445 (by decide) (fun hc445 => ?_) (fun hc445 => ?_)
    · refine lv_iload hx hb dL_law_450 (lv_at hl 1 rfl) ?_
      refine z_if_ne (tgt := 467) hx hb (by omega) dL_law_452 (by decide) (fun hc452 => ?_) (fun hc452 => ?_)
      · exact absurd rfl hc452
      · refine lv_aload_n hx hb dL_law_455 rfl (lv_at hl 3 rfl) ?_
        refine lv_iconst (v := nI 0) hx hb dL_law_456 rfl ?_
        refine z_lld hx hb hK hM (by rw [hG3]; exact hLM2.2.2.2.2.2) (by omega) (by omega) dL_law_457 ?_
        refine z_asl (y := v.toInt64) (by simp [vp_updL]) ?_
        refine lv_iload hx hb dL_law_458 (lv_at hl 0 rfl) ?_
        refine lv_i2l hx hb dL_law_460 rfl ?_
        refine W.lcmp hx hb dL_law_461 ?_
        refine lv_if_eq (tgt := 467) hx hb dL_law_462 (by decide) (fun hc462 => ?_) (fun hc462 => ?_)
        · refine lv_goto (tgt := 526) hx hb dL_law_467 (by decide) ?_
          exact W.widen (by omega) (by omega) (k526 G3 _ ls H locs hI2 (lv_sub hl [2, 3, 4, 5, 6] rfl) hM)
        · exact absurd (lcmp_self _) hc462
    · exact absurd rfl hc445
  · refine z_asi (y := nI 1) hr1 ?_
    have hR1 : CRep Γ G1 X σ := by rw [hG1]; exact hR
    have hLM1 : LM Γ G1 o lF lL lB lo σ F9 L9 B9 rf f := by rw [hG1]; exact hLM
    rw [← hLM1.self] at hM
    refine lv_istore (lv' := [(5, .int (nI 1)), (4, .int (nI i)), (3, .ref lo), (2, .ref o), (1, .ref (X 80)), (0, .ref b)]) hx hb dL_law_413 hl (by decide) rfl (fun ls hl => ?_)
    refine lv_aload_n hx hb dL_law_415 rfl (lv_at hl 3 rfl) ?_
    refine lv_aload_n hx hb dL_law_416 rfl (lv_at hl 5 rfl) ?_
    refine lv_iload hx hb dL_law_417 (lv_at hl 1 rfl) ?_
    refine lv_iconst (v := nI 1) hx hb dL_law_419 rfl ?_
    refine z_iadd hx hb dL_law_420 ?_
    refine va_sld hx hb hXs hbl hbA hM.2.2.1 (vp_in_nI (by omega) (by omega)) dL_law_421 ?_
    refine z_asi (y := xs (i + 1)) (by rw [nI_clamp (by omega)]) ?_
    refine lv_aload_n hx hb dL_law_422 rfl (lv_at hl 5 rfl) ?_
    refine lv_iload hx hb dL_law_423 (lv_at hl 1 rfl) ?_
    refine lv_iconst (v := nI 2) hx hb dL_law_425 rfl ?_
    refine z_iadd hx hb dL_law_426 ?_
    refine va_sld hx hb hXs hbl hbA hM.2.2.1 (vp_in_nI (by omega) (by omega)) dL_law_427 ?_
    refine z_asi (y := xs (i + 2)) (by rw [nI_clamp (by omega)]) ?_
    refine lv_aload_n hx hb dL_law_428 rfl (lv_at hl 5 rfl) ?_
    refine lv_iload hx hb dL_law_429 (lv_at hl 1 rfl) ?_
    refine lv_iconst (v := nI 3) hx hb dL_law_431 rfl ?_
    refine z_iadd hx hb dL_law_432 ?_
    refine va_sld hx hb hXs hbl hbA hM.2.2.1 (vp_in_nI (by omega) (by omega)) dL_law_433 ?_
    refine z_asi (y := xs (i + 3)) (by rw [nI_clamp (by omega)]) ?_
    refine z_calli0 (va_runV (As := [.int (xs (i + 1)), .int (xs (i + 2)), .int (xs (i + 3))]) (rest := []) ⟨hx, hb, hml, hown, hts⟩ (m_cell l Γ hd.2.1 G1 F9 L9 B9 _ rf σ (xs (i + 1)) (xs (i + 2)) (xs (i + 3)) hJ.1 hLM1.1) (cwV 3 hts gL_law_X5_cell rfl rfl rfl (by decide +kernel) ⟨(Nat.le_of_ble_eq_true rfl), (Nat.le_of_ble_eq_true rfl)⟩) (zM.preV hK hM (md_o hd.2.1) rfl rfl) rfl rfl hl.1 rfl (lv_room (Nat.le_of_ble_eq_true rfl)) dL_law_434 ⟨(by show _ ≤ 601024; omega), (by show _ ≤ 7293000; omega)⟩) hM (fun r2 G2 H locs hp2 hM => ?_)
    obtain ⟨hG2, e2⟩ := hp2
    rw [hop] at hG2 e2
    obtain ⟨hR2, hLM2⟩ := li_ref hd hv hR1 hLM1.1 hLM1.2.2.2.2.2 hG2
    rw [hG2] at hM
    refine lv_istore (lv' := [(6, .int r2), (5, .int (nI 1)), (4, .int (nI i)), (3, .ref lo), (2, .ref o), (1, .ref (X 80)), (0, .ref b)]) hx hb dL_law_437 hl (by decide) rfl (fun ls hl => ?_)
    refine lv_aload_n hx hb dL_law_439 rfl (lv_at hl 4 rfl) ?_
    refine z_calli0 (va_runV (As := []) (rest := []) ⟨hx, hb, hml, hown, hts⟩ (m_thrown l Γ hd.2.1 G1 _ F9 L9 B9 _) (cwV 0 hts gL_law_X5_thrown rfl rfl rfl (by decide +kernel) ⟨(Nat.le_of_ble_eq_true rfl), (Nat.le_of_ble_eq_true rfl)⟩) (zM.preV hK hM (md_o hd.2.1) rfl rfl) rfl rfl hl.1 rfl (lv_room (Nat.le_of_ble_eq_true rfl)) dL_law_440 ⟨(by show _ ≤ 601024; omega), (by show _ ≤ 7293000; omega)⟩) hM (fun r3 G3 H locs hp3 hM => ?_)
    obtain ⟨e3, hG3⟩ := hp3
    rw [mfs_0] at e3
    rw [← hG2] at hG3
    have hI2 : LI Γ G3 X o lF lL lB lo vars σ := by rw [hG3]; exact ⟨hJ, hv, hR2, _, _, _, _, _, hLM2⟩
    refine z_asi (y := nI 1) e3 ?_
    refine lv_iload hx hb dL_law_443 (lv_at hl 1 rfl) ?_
    refine z_icmp_eq (tgt := 450) hx hb (by omega) (by omega) dL_law_445 (by decide) (fun hc445 => ?_) (fun hc445 => ?_)
    · refine lv_iload hx hb dL_law_450 (lv_at hl 1 rfl) ?_
      refine z_if_ne (tgt := 467) hx hb (by omega) dL_law_452 (by decide) (fun hc452 => ?_) (fun hc452 => ?_)
      · refine lv_goto (tgt := 526) hx hb dL_law_467 (by decide) ?_
        exact W.widen (by omega) (by omega) (k526 G3 _ ls H locs hI2 (lv_sub hl [2, 3, 4, 5, 6] rfl) hM)
      · exact absurd hc452 (by decide)
    · exact absurd rfl hc445

set_option maxRecDepth 100000 in
set_option maxHeartbeats 4000000 in
theorem lw_k15 {p : Program} {l : Launch} {e : Env} {s : State} {m : MethodId} {below : List Frame} {meth : Method} {c : Code} {b L : Nat} {xs : Nat → Int32} {Γ : zT} {X : Nat → Nat} {o lF lL lB lo vars sa sb : Nat} (hl9 : l.stackTraces = false) (hC : LC p s m c b L xs Γ X o lF lL lB lo vars sa sb) (i : Nat) (hi : i + 4 ≤ L) (G : zG) (σ : AS) (hI : LI Γ G X o lF lL lB lo vars σ) (ls : Array Slot) (H : Heap) (locs : List Loc) (hl : lv_has ls 7 [(4, .int (nI i)), (3, .ref lo), (2, .ref o), (1, .ref (X 80)), (0, .ref b)]) (hM : zM Γ (fun q : Nat => s.heap.size ≤ q) s.heap G H locs) (Q : State → Prop) (k526 : ∀ (G2 : zG) (σ2 : AS) (ls : Array Slot) (H : Heap) (locs : List Loc), LI Γ G2 X o lF lL lB lo vars σ2 → lv_has ls 7 [(4, .int (nI i)), (3, .ref lo), (2, .ref o), (1, .ref (X 80)), (0, .ref b)] → zM Γ (fun q : Nat => s.heap.size ≤ q) s.heap G2 H locs → W p l e room_1 s m #[Value.ref b] below meth c H locs (201 + i) (42006 + 6 * i) Q (F0 m 526 ls [])) : W p l e room_1 s m #[Value.ref b] below meth c H locs (200 + i) (42000 + 6 * i) Q (F0 m 470 ls []) := by
  obtain ⟨hx, hb, hml, hown, hts, hXs, hbl, hL, hK, hE, hd⟩ := hC
  have hbA : ¬ (fun q : Nat => s.heap.size ≤ q) b := Nat.not_le.mpr hbl
  obtain ⟨hJ, hv, hR, F9, L9, B9, rf, f, hLM⟩ := hI
  have hXv : XI X σ.1.1 := by rw [hv]; exact hd.1
  obtain ⟨fs, hO⟩ := hR.o
  refine lv_aload_n hx hb dL_law_470 rfl (lv_at hl 3 rfl) ?_
  refine lv_aload_n hx hb dL_law_471 rfl (lv_at hl 4 rfl) ?_
  refine lv_iload hx hb dL_law_472 (lv_at hl 0 rfl) ?_
  refine lv_iconst (v := nI 1) hx hb dL_law_474 rfl ?_
  refine z_iadd hx hb dL_law_475 ?_
  refine va_sld hx hb hXs hbl hbA hM.2.2.1 (vp_in_nI (by omega) (by omega)) dL_law_476 ?_
  refine z_asi (y := xs (i + 1)) (by rw [nI_clamp (by omega)]) ?_
  refine lv_aload_n hx hb dL_law_477 rfl (lv_at hl 1 rfl) ?_
  refine z_calli (vx_runSW (hh := [(0, 9, 12, 13)]) (As := [.ref (X 80), .int (xs (i + 1)), .ref lo]) (rest := []) ⟨hx, hb, hml, hown, hts⟩ (l_count l hl9 Γ G _ sa sb X σ (xs (i + 1)) lo f hXv hJ.1 hR hLM.2.2.2.2.2) (vx_cwSW 3 hts gL_law_L_count rfl rfl rfl (by decide +kernel) ⟨(Nat.le_of_ble_eq_true rfl), (Nat.le_of_ble_eq_true rfl)⟩) (zM.preE hE hK hM) rfl rfl hl.1 rfl (lv_room (Nat.le_of_ble_eq_true rfl)) dL_law_478 ⟨(by show _ ≤ 601024; omega), (by show _ ≤ 7293000; omega)⟩) hM (fun r1 G1 H locs hp1 hM => ?_)
  refine W.widen (k := 201 + i) (n := 42006 + 6 * i) (by omega) (by omega) ?_
  rcases hp1 with ⟨v, hop, hr1, hG1⟩ | ⟨hop, hr1, hG1⟩
  · refine z_asi (y := nI 0) hr1 ?_
    obtain ⟨hR1, hLM1⟩ := li_lo hd hv hR hLM hG1
    rw [← hLM1.self] at hM
    refine lv_istore (lv' := [(5, .int (nI 0)), (4, .int (nI i)), (3, .ref lo), (2, .ref o), (1, .ref (X 80)), (0, .ref b)]) hx hb dL_law_481 hl (by decide) rfl (fun ls hl => ?_)
    refine lv_aload_n hx hb dL_law_483 rfl (lv_at hl 3 rfl) ?_
    refine lv_aload_n hx hb dL_law_484 rfl (lv_at hl 5 rfl) ?_
    refine lv_iload hx hb dL_law_485 (lv_at hl 1 rfl) ?_
    refine lv_iconst (v := nI 1) hx hb dL_law_487 rfl ?_
    refine z_iadd hx hb dL_law_488 ?_
    refine va_sld hx hb hXs hbl hbA hM.2.2.1 (vp_in_nI (by omega) (by omega)) dL_law_489 ?_
    refine z_asi (y := xs (i + 1)) (by rw [nI_clamp (by omega)]) ?_
    refine z_calli0 (va_runV (As := [.int (xs (i + 1))]) (rest := []) ⟨hx, hb, hml, hown, hts⟩ (m_count l Γ hd.2.1 G1 F9 L9 B9 _ rf σ (xs (i + 1)) hJ.1 hLM1.1) (cwV 1 hts gL_law_X5_count rfl rfl rfl (by decide +kernel) ⟨(Nat.le_of_ble_eq_true rfl), (Nat.le_of_ble_eq_true rfl)⟩) (zM.preV hK hM (md_o hd.2.1) rfl rfl) rfl rfl hl.1 rfl (lv_room (Nat.le_of_ble_eq_true rfl)) dL_law_490 ⟨(by show _ ≤ 601024; omega), (by show _ ≤ 7293000; omega)⟩) hM (fun r2 G2 H locs hp2 hM => ?_)
    obtain ⟨hG2, e2⟩ := hp2
    rw [hop] at hG2 e2
    obtain ⟨hR2, hLM2⟩ := li_ref hd hv hR1 hLM1.1 hLM1.2.2.2.2.2 hG2
    rw [hG2] at hM
    refine z_asi (y := v) e2 ?_
    refine lv_istore (lv' := [(6, .int v), (5, .int (nI 0)), (4, .int (nI i)), (3, .ref lo), (2, .ref o), (1, .ref (X 80)), (0, .ref b)]) hx hb dL_law_493 hl (by decide) rfl (fun ls hl => ?_)
    refine lv_aload_n hx hb dL_law_495 rfl (lv_at hl 4 rfl) ?_
    refine z_calli0 (va_runV (As := []) (rest := []) ⟨hx, hb, hml, hown, hts⟩ (m_thrown l Γ hd.2.1 G1 _ F9 L9 B9 _) (cwV 0 hts gL_law_X5_thrown rfl rfl rfl (by decide +kernel) ⟨(Nat.le_of_ble_eq_true rfl), (Nat.le_of_ble_eq_true rfl)⟩) (zM.preV hK hM (md_o hd.2.1) rfl rfl) rfl rfl hl.1 rfl (lv_room (Nat.le_of_ble_eq_true rfl)) dL_law_496 ⟨(by show _ ≤ 601024; omega), (by show _ ≤ 7293000; omega)⟩) hM (fun r3 G3 H locs hp3 hM => ?_)
    obtain ⟨e3, hG3⟩ := hp3
    rw [mfs_0] at e3
    rw [← hG2] at hG3
    have hI2 : LI Γ G3 X o lF lL lB lo vars σ := by rw [hG3]; exact ⟨hJ, hv, hR2, _, _, _, _, _, hLM2⟩
    refine z_asi (y := nI 0) e3 ?_
    refine lv_iload hx hb dL_law_499 (lv_at hl 1 rfl) ?_
    refine z_icmp_eq (tgt := 506) hx hb (by omega) (by omega) dL_law_501 (by decide) (fun hc501 => ?_) (fun hc501 => ?_)
    · refine lv_iload hx hb dL_law_506 (lv_at hl 1 rfl) ?_
      refine z_if_ne (tgt := 523) hx hb (by omega) dL_law_508 (by decide) (fun hc508 => ?_) (fun hc508 => ?_)
      · exact absurd rfl hc508
      · refine lv_aload_n hx hb dL_law_511 rfl (lv_at hl 3 rfl) ?_
        refine lv_iconst (v := nI 0) hx hb dL_law_512 rfl ?_
        refine z_lld hx hb hK hM (by rw [hG3]; exact hLM2.2.2.2.2.2) (by omega) (by omega) dL_law_513 ?_
        refine z_asl (y := v.toInt64) (by simp [vp_updL]) ?_
        refine lv_iload hx hb dL_law_514 (lv_at hl 0 rfl) ?_
        refine lv_i2l hx hb dL_law_516 rfl ?_
        refine W.lcmp hx hb dL_law_517 ?_
        refine lv_if_eq (tgt := 523) hx hb dL_law_518 (by decide) (fun hc518 => ?_) (fun hc518 => ?_)
        · refine lv_goto (tgt := 526) hx hb dL_law_523 (by decide) ?_
          exact W.widen (by omega) (by omega) (k526 G3 _ ls H locs hI2 (lv_sub hl [2, 3, 4, 5, 6] rfl) hM)
        · exact absurd (lcmp_self _) hc518
    · exact absurd rfl hc501
  · refine z_asi (y := nI 1) hr1 ?_
    have hR1 : CRep Γ G1 X σ := by rw [hG1]; exact hR
    have hLM1 : LM Γ G1 o lF lL lB lo σ F9 L9 B9 rf f := by rw [hG1]; exact hLM
    rw [← hLM1.self] at hM
    refine lv_istore (lv' := [(5, .int (nI 1)), (4, .int (nI i)), (3, .ref lo), (2, .ref o), (1, .ref (X 80)), (0, .ref b)]) hx hb dL_law_481 hl (by decide) rfl (fun ls hl => ?_)
    refine lv_aload_n hx hb dL_law_483 rfl (lv_at hl 3 rfl) ?_
    refine lv_aload_n hx hb dL_law_484 rfl (lv_at hl 5 rfl) ?_
    refine lv_iload hx hb dL_law_485 (lv_at hl 1 rfl) ?_
    refine lv_iconst (v := nI 1) hx hb dL_law_487 rfl ?_
    refine z_iadd hx hb dL_law_488 ?_
    refine va_sld hx hb hXs hbl hbA hM.2.2.1 (vp_in_nI (by omega) (by omega)) dL_law_489 ?_
    refine z_asi (y := xs (i + 1)) (by rw [nI_clamp (by omega)]) ?_
    refine z_calli0 (va_runV (As := [.int (xs (i + 1))]) (rest := []) ⟨hx, hb, hml, hown, hts⟩ (m_count l Γ hd.2.1 G1 F9 L9 B9 _ rf σ (xs (i + 1)) hJ.1 hLM1.1) (cwV 1 hts gL_law_X5_count rfl rfl rfl (by decide +kernel) ⟨(Nat.le_of_ble_eq_true rfl), (Nat.le_of_ble_eq_true rfl)⟩) (zM.preV hK hM (md_o hd.2.1) rfl rfl) rfl rfl hl.1 rfl (lv_room (Nat.le_of_ble_eq_true rfl)) dL_law_490 ⟨(by show _ ≤ 601024; omega), (by show _ ≤ 7293000; omega)⟩) hM (fun r2 G2 H locs hp2 hM => ?_)
    obtain ⟨hG2, e2⟩ := hp2
    rw [hop] at hG2 e2
    obtain ⟨hR2, hLM2⟩ := li_ref hd hv hR1 hLM1.1 hLM1.2.2.2.2.2 hG2
    rw [hG2] at hM
    refine lv_istore (lv' := [(6, .int r2), (5, .int (nI 1)), (4, .int (nI i)), (3, .ref lo), (2, .ref o), (1, .ref (X 80)), (0, .ref b)]) hx hb dL_law_493 hl (by decide) rfl (fun ls hl => ?_)
    refine lv_aload_n hx hb dL_law_495 rfl (lv_at hl 4 rfl) ?_
    refine z_calli0 (va_runV (As := []) (rest := []) ⟨hx, hb, hml, hown, hts⟩ (m_thrown l Γ hd.2.1 G1 _ F9 L9 B9 _) (cwV 0 hts gL_law_X5_thrown rfl rfl rfl (by decide +kernel) ⟨(Nat.le_of_ble_eq_true rfl), (Nat.le_of_ble_eq_true rfl)⟩) (zM.preV hK hM (md_o hd.2.1) rfl rfl) rfl rfl hl.1 rfl (lv_room (Nat.le_of_ble_eq_true rfl)) dL_law_496 ⟨(by show _ ≤ 601024; omega), (by show _ ≤ 7293000; omega)⟩) hM (fun r3 G3 H locs hp3 hM => ?_)
    obtain ⟨e3, hG3⟩ := hp3
    rw [mfs_0] at e3
    rw [← hG2] at hG3
    have hI2 : LI Γ G3 X o lF lL lB lo vars σ := by rw [hG3]; exact ⟨hJ, hv, hR2, _, _, _, _, _, hLM2⟩
    refine z_asi (y := nI 1) e3 ?_
    refine lv_iload hx hb dL_law_499 (lv_at hl 1 rfl) ?_
    refine z_icmp_eq (tgt := 506) hx hb (by omega) (by omega) dL_law_501 (by decide) (fun hc501 => ?_) (fun hc501 => ?_)
    · refine lv_iload hx hb dL_law_506 (lv_at hl 1 rfl) ?_
      refine z_if_ne (tgt := 523) hx hb (by omega) dL_law_508 (by decide) (fun hc508 => ?_) (fun hc508 => ?_)
      · refine lv_goto (tgt := 526) hx hb dL_law_523 (by decide) ?_
        exact W.widen (by omega) (by omega) (k526 G3 _ ls H locs hI2 (lv_sub hl [2, 3, 4, 5, 6] rfl) hM)
      · exact absurd hc508 (by decide)
    · exact absurd rfl hc501
