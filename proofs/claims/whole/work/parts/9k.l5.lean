set_option maxRecDepth 100000 in
set_option maxHeartbeats 4000000 in
/-- THE LAW, from its entry -/
theorem whole_start {p : Program} {e : Env} {s : State} {m : MethodId} {below : List Frame} {meth : Method} {c : Code} (l : Launch) (hl9 : l.stackTraces = false) {b L : Nat} {xs : Nat → Int32} (hL : L ≤ 2051) (C0 : lw_At p s m meth c b L xs) : W p l e room_1 s m #[Value.ref b] below meth c s.heap [] 0 0 (lw_Z below #[Value.ref b] s) (entryFrame m ([Value.ref b] : List Value).toArray 7) := by
  obtain ⟨hx, hb, hr, hml, hown, hts0, hXs, hbl, hlocks, hgv⟩ := id C0
  have hts : ∀ w ∈ wsL_law, w.before #[Value.ref b] s = true := fun w h => hts0 w (wsL_law_in w h)
  have hown : s.vm.findClass RL = some m.cls := hown
  have hbA : ¬ (fun q : Nat => s.heap.size ≤ q) b := Nat.not_le.mpr hbl
  have hs := flat_of_before _ hgv
  obtain ⟨Γ, hK⟩ := lw_K hts0
  have hN : zN s := ⟨va_AO.of (hts0 (.arrayOver (.object RX3)) (by decide +kernel)), va_Nw.of rfl (hts0 (.methodLinkNest RX4 28 yX2_init RX4) (by decide +kernel)), va_Nw.of rfl (hts0 (.methodLinkNest RX4 46 yX1_init RX4) (by decide +kernel))⟩
  obtain ⟨sa, -, -, -, qa, -⟩ := Cond.exactly_spec (hs (.exactly (.string RX4 160) "java/lang/String") (by decide +kernel))
  obtain ⟨sb, -, -, -, qb, -⟩ := Cond.exactly_spec (hs (.exactly (.string RX4 179) "java/lang/String") (by decide +kernel))
  have hE : zE (fun q : Nat => s.heap.size ≤ q) sa sb s s.heap := ⟨⟨vk_R.of (hts0 (.stringRef RX4 160 "no such row, entry or part of a number") (by decide +kernel)) qa, vk_R.of (hts0 (.stringRef RX4 179 "nothing of this number is counted") (by decide +kernel)) qb⟩, ⟨vx_Zqof (hts0 (.laysStatic Bundle.tN "UNASSIGNED_STACK" Bundle.steD) (by decide +kernel)) (hts0 (.initialized Bundle.tN) (by decide +kernel)) (hs (.isRef (.static Bundle.tN "UNASSIGNED_STACK" Bundle.steD)) (by decide +kernel)) (fun a h9 => Nat.not_le.mpr h9), vx_Zqof (hts0 (.laysStatic Bundle.tN "SUPPRESSED_SENTINEL" Bundle.listD) (by decide +kernel)) (hts0 (.initialized Bundle.tN) (by decide +kernel)) (hs (.isRef (.static Bundle.tN "SUPPRESSED_SENTINEL" Bundle.listD)) (by decide +kernel)) (fun a h9 => Nat.not_le.mpr h9)⟩, va_Nw.of rfl (hts0 (.castable nIA nIA) (by decide +kernel)), va_Nw.of rfl (hts0 (.declares ⟨"java/lang/RuntimeException", "<init>", "(Ljava/lang/String;)V"⟩) (by decide +kernel)), va_Nw.of rfl (hts0 (.declares ⟨"java/lang/Exception", "<init>", "(Ljava/lang/String;)V"⟩) (by decide +kernel)), va_Nw.of rfl (hts0 (.declares ⟨"java/lang/Throwable", "<init>", "(Ljava/lang/String;)V"⟩) (by decide +kernel))⟩
  have hl := lv_entry ([.ref b]) (n := 7) (Nat.le_of_ble_eq_true rfl)
  rw [lg_entry_eq]
  generalize (lg_sl ([.ref b]) ++ List.replicate (7 - (lg_sl ([.ref b])).length) Slot.unset).toArray = ls at hl ⊢
  have hl : lv_has ls 7 [(0, .ref b)] := hl
  have hM : zM Γ (fun q : Nat => s.heap.size ≤ q) s.heap (fun _ => none) s.heap [] := ⟨fun a e h => (by cases h), fun a e h => (by cases h), va_S.rf, fun q h => h⟩
  obtain ⟨p0, hp0⟩ : ∃ v, v = (if 0 < L then xs 0 else nI 0) := ⟨_, rfl⟩
  obtain ⟨p1, hp1⟩ : ∃ v, v = (if 1 < L then xs 1 else nI 0) := ⟨_, rfl⟩
  obtain ⟨p2, hp2⟩ : ∃ v, v = (if 2 < L then xs 2 else nI 0) := ⟨_, rfl⟩
  refine z_newO (ci := 6) (fs := [.int (nI 0), .null, .null, .null, .null, .null, .int (nI 0), .int (nI 0), .int (nI 0), .int (nI 0), .int (nI 0), .null, .null, .null, .null, .null]) (C := RX4) (T := TX4) (N := 16) hx hb hts inlX4 tyX4 tyX4_ok hown (hts (.classLink RL 8 RX4) (by decide +kernel)) (hts (.instantiable RX4 16) (by decide +kernel)) (hts (.initialized RX4) (by decide +kernel)) hK hM rfl (fun j hj => by rcases (show j = 0 ∨ j = 1 ∨ j = 2 ∨ j = 3 ∨ j = 4 ∨ j = 5 ∨ j = 6 ∨ j = 7 ∨ j = 8 ∨ j = 9 ∨ j = 10 ∨ j = 11 ∨ j = 12 ∨ j = 13 ∨ j = 14 ∨ j = 15 by omega) with rfl | rfl | rfl | rfl | rfl | rfl | rfl | rfl | rfl | rfl | rfl | rfl | rfl | rfl | rfl | rfl <;> rfl) (by show _ ≤ 601024; omega) (by show _ ≤ 7293000; omega) dL_law_0 (fun qc H hqc hM => ?_)
  refine W.widen (k := 1) (n := 16) (by omega) (by omega) ?_
  refine lv_dup hx hb dL_law_3 rfl ?_
  refine lv_aload_n hx hb dL_law_4 rfl (lv_at hl 0 rfl) ?_
  refine lv_iconst (v := nI 0) hx hb dL_law_5 rfl ?_
  refine z_calli0 (va_runS (As := [.ref b, .int (nI 0)]) (rest := [.ref qc, .ref qc]) ⟨hx, hb, hml, hown, hts⟩ (l_cell l Γ _ _ b L xs 0 (by omega) (by omega)) (va_cwS 2 hts gL_law_L_cell rfl rfl rfl (by decide +kernel) ⟨(Nat.le_of_ble_eq_true rfl), (Nat.le_of_ble_eq_true rfl)⟩) (zM.preX hXs hbl hbA hK hM) rfl rfl hl.1 rfl (lv_room (Nat.le_of_ble_eq_true rfl)) dL_law_6 ⟨(by show _ ≤ 601024; omega), (by show _ ≤ 7293000; omega)⟩) hM (fun r9 G9 H locs hp9 hM => ?_)
  obtain ⟨e9, hG9⟩ := hp9
  rw [hG9] at hM
  refine z_asi (y := p0) (by rw [e9, hp0]) ?_
  refine lv_aload_n hx hb dL_law_9 rfl (lv_at hl 0 rfl) ?_
  refine lv_iconst (v := nI 1) hx hb dL_law_10 rfl ?_
  refine z_calli0 (va_runS (As := [.ref b, .int (nI 1)]) (rest := [.int p0, .ref qc, .ref qc]) ⟨hx, hb, hml, hown, hts⟩ (l_cell l Γ _ _ b L xs 1 (by omega) (by omega)) (va_cwS 2 hts gL_law_L_cell rfl rfl rfl (by decide +kernel) ⟨(Nat.le_of_ble_eq_true rfl), (Nat.le_of_ble_eq_true rfl)⟩) (zM.preX hXs hbl hbA hK hM) rfl rfl hl.1 rfl (lv_room (Nat.le_of_ble_eq_true rfl)) dL_law_11 ⟨(by show _ ≤ 601024; omega), (by show _ ≤ 7293000; omega)⟩) hM (fun r9 G9 H locs hp9 hM => ?_)
  obtain ⟨e9, hG9⟩ := hp9
  rw [hG9] at hM
  refine z_asi (y := p1) (by rw [e9, hp1]) ?_
  refine lv_aload_n hx hb dL_law_14 rfl (lv_at hl 0 rfl) ?_
  refine lv_iconst (v := nI 2) hx hb dL_law_15 rfl ?_
  refine z_calli0 (va_runS (As := [.ref b, .int (nI 2)]) (rest := [.int p1, .int p0, .ref qc, .ref qc]) ⟨hx, hb, hml, hown, hts⟩ (l_cell l Γ _ _ b L xs 2 (by omega) (by omega)) (va_cwS 2 hts gL_law_L_cell rfl rfl rfl (by decide +kernel) ⟨(Nat.le_of_ble_eq_true rfl), (Nat.le_of_ble_eq_true rfl)⟩) (zM.preX hXs hbl hbA hK hM) rfl rfl hl.1 rfl (lv_room (Nat.le_of_ble_eq_true rfl)) dL_law_16 ⟨(by show _ ≤ 601024; omega), (by show _ ≤ 7293000; omega)⟩) hM (fun r9 G9 H locs hp9 hM => ?_)
  obtain ⟨e9, hG9⟩ := hp9
  rw [hG9] at hM
  refine z_asi (y := p2) (by rw [e9, hp2]) ?_
  refine z_callv (va_runI (b := qc) (As := [.int p0, .int p1, .int p2]) (rest := [.ref qc]) ⟨hx, hb, hml, hown, hts⟩ (c_init l Γ _ _ qc p0 p1 p2 (zup_s _ _ _)) (cwI 3 hts gL_law_X4_init rfl rfl rfl (hts (.initialized RX4) (by decide +kernel)) (hts (.methodLink RL 24 yX4_init) (by decide +kernel)) (hts (.instanceMethod yX4_init) (by decide +kernel)) rfl (by decide +kernel) ⟨(Nat.le_of_ble_eq_true rfl), (Nat.le_of_ble_eq_true rfl)⟩) (zM.preN hN hK hM) rfl rfl hl.1 rfl (lv_room (Nat.le_of_ble_eq_true rfl)) dL_law_19 ⟨(by show _ ≤ 601024; omega), (by show _ ≤ 7293000; omega)⟩) hM (fun G1 H locs hp9 hM => ?_)
  refine W.widen (k := 91) (n := 7616) (by omega) (by omega) ?_
  obtain ⟨X, hX80, hX, hR, hex⟩ := hp9
  refine lv_astore_n (lv' := [(1, .ref qc), (0, .ref b)]) hx hb dL_law_22 rfl hl (by decide) rfl (fun ls hl => ?_)
  refine z_newO (ci := 7) (fs := [.int (nI 0), .int (nI 0), .int (nI 0), .int (nI 0), .null, .null, .null, .int (nI 0), .int (nI 0), .int (nI 0), .int (nI 0), .int (nI 0), .int (nI 0), .int (nI 0), .int (nI 0)]) (C := RX5) (T := TX5) (N := 15) hx hb hts inlX5 tyX5 tyX5_ok hown (hts (.classLink RL 27 RX5) (by decide +kernel)) (hts (.instantiable RX5 15) (by decide +kernel)) (hts (.initialized RX5) (by decide +kernel)) hK hM rfl (fun j hj => by rcases (show j = 0 ∨ j = 1 ∨ j = 2 ∨ j = 3 ∨ j = 4 ∨ j = 5 ∨ j = 6 ∨ j = 7 ∨ j = 8 ∨ j = 9 ∨ j = 10 ∨ j = 11 ∨ j = 12 ∨ j = 13 ∨ j = 14 by omega) with rfl | rfl | rfl | rfl | rfl | rfl | rfl | rfl | rfl | rfl | rfl | rfl | rfl | rfl | rfl <;> rfl) (by show _ ≤ 601024; omega) (by show _ ≤ 7293000; omega) dL_law_23 (fun o H ho hM => ?_)
  refine W.widen (k := 92) (n := 7631) (by omega) (by omega) ?_
  refine lv_dup hx hb dL_law_26 rfl ?_
  refine lv_aload_n hx hb dL_law_27 rfl (lv_at hl 1 rfl) ?_
  refine lv_iconst (v := nI 0) hx hb dL_law_28 rfl ?_
  refine z_calli0 (va_runS (As := [.ref b, .int (nI 0)]) (rest := [.ref o, .ref o]) ⟨hx, hb, hml, hown, hts⟩ (l_cell l Γ _ _ b L xs 0 (by omega) (by omega)) (va_cwS 2 hts gL_law_L_cell rfl rfl rfl (by decide +kernel) ⟨(Nat.le_of_ble_eq_true rfl), (Nat.le_of_ble_eq_true rfl)⟩) (zM.preX hXs hbl hbA hK hM) rfl rfl hl.1 rfl (lv_room (Nat.le_of_ble_eq_true rfl)) dL_law_29 ⟨(by show _ ≤ 601024; omega), (by show _ ≤ 7293000; omega)⟩) hM (fun r9 G9 H locs hp9 hM => ?_)
  obtain ⟨e9, hG9⟩ := hp9
  rw [hG9] at hM
  refine z_asi (y := p0) (by rw [e9, hp0]) ?_
  refine lv_aload_n hx hb dL_law_32 rfl (lv_at hl 1 rfl) ?_
  refine lv_iconst (v := nI 1) hx hb dL_law_33 rfl ?_
  refine z_calli0 (va_runS (As := [.ref b, .int (nI 1)]) (rest := [.int p0, .ref o, .ref o]) ⟨hx, hb, hml, hown, hts⟩ (l_cell l Γ _ _ b L xs 1 (by omega) (by omega)) (va_cwS 2 hts gL_law_L_cell rfl rfl rfl (by decide +kernel) ⟨(Nat.le_of_ble_eq_true rfl), (Nat.le_of_ble_eq_true rfl)⟩) (zM.preX hXs hbl hbA hK hM) rfl rfl hl.1 rfl (lv_room (Nat.le_of_ble_eq_true rfl)) dL_law_34 ⟨(by show _ ≤ 601024; omega), (by show _ ≤ 7293000; omega)⟩) hM (fun r9 G9 H locs hp9 hM => ?_)
  obtain ⟨e9, hG9⟩ := hp9
  rw [hG9] at hM
  refine z_asi (y := p1) (by rw [e9, hp1]) ?_
  refine lv_aload_n hx hb dL_law_37 rfl (lv_at hl 1 rfl) ?_
  refine lv_iconst (v := nI 2) hx hb dL_law_38 rfl ?_
  refine z_calli0 (va_runS (As := [.ref b, .int (nI 2)]) (rest := [.int p1, .int p0, .ref o, .ref o]) ⟨hx, hb, hml, hown, hts⟩ (l_cell l Γ _ _ b L xs 2 (by omega) (by omega)) (va_cwS 2 hts gL_law_L_cell rfl rfl rfl (by decide +kernel) ⟨(Nat.le_of_ble_eq_true rfl), (Nat.le_of_ble_eq_true rfl)⟩) (zM.preX hXs hbl hbA hK hM) rfl rfl hl.1 rfl (lv_room (Nat.le_of_ble_eq_true rfl)) dL_law_39 ⟨(by show _ ≤ 601024; omega), (by show _ ≤ 7293000; omega)⟩) hM (fun r9 G9 H locs hp9 hM => ?_)
  obtain ⟨e9, hG9⟩ := hp9
  rw [hG9] at hM
  refine z_asi (y := p2) (by rw [e9, hp2]) ?_
  refine z_callv (va_runI (b := o) (As := [.int p0, .int p1, .int p2]) (rest := [.ref o]) ⟨hx, hb, hml, hown, hts⟩ (m_init l Γ _ _ o p0 p1 p2 (zup_s _ _ _)) (cwI 3 hts gL_law_X5_init rfl rfl rfl (hts (.initialized RX5) (by decide +kernel)) (hts (.methodLink RL 29 yX5_init) (by decide +kernel)) (hts (.instanceMethod yX5_init) (by decide +kernel)) rfl (by decide +kernel) ⟨(Nat.le_of_ble_eq_true rfl), (Nat.le_of_ble_eq_true rfl)⟩) (zM.pre hK hM) rfl rfl hl.1 rfl (lv_room (Nat.le_of_ble_eq_true rfl)) dL_law_42 ⟨(by show _ ≤ 601024; omega), (by show _ ≤ 7293000; omega)⟩) hM (fun G2 H locs hp9 hM => ?_)
  refine W.widen (k := 95) (n := 41301) (by omega) (by omega) ?_
  obtain ⟨lF, lL, lB, F9, L9, B9, hok, ⟨nF, nL, nB⟩, hG2, hMR⟩ := hp9
  refine lv_astore_n (lv' := [(2, .ref o), (1, .ref qc), (0, .ref b)]) hx hb dL_law_45 rfl hl (by decide) rfl (fun ls hl => ?_)
  refine lv_iconst (v := nI 1) hx hb dL_law_46 rfl ?_
  refine z_newL (N := 1) hx hb (hts (.arrayClass .long) (by decide +kernel)) hK hM (by omega) (by show _ ≤ 601024; omega) (by show _ ≤ 7293000; omega) dL_law_47 (fun lo H hlo hM => ?_)
  refine W.widen (k := 96) (n := 41302) (by omega) (by omega) ?_
  refine lv_astore_n (lv' := [(3, .ref lo), (2, .ref o), (1, .ref qc), (0, .ref b)]) hx hb dL_law_49 rfl hl (by decide) rfl (fun ls hl => ?_)
  refine lv_iconst (v := nI 3) hx hb dL_law_50 rfl ?_
  refine lv_istore (lv' := [(4, .int (nI 3)), (3, .ref lo), (2, .ref o), (1, .ref qc), (0, .ref b)]) hx hb dL_law_51 hl (by decide) rfl (fun ls hl => ?_)
  rw [← hX80] at hl
  obtain ⟨hF, hI⟩ := lw_begin ⟨(clampI_le p0 (by omega) (by omega)).1, (clampI_le p0 (by omega) (by omega)).2, (clampI_le p1 (by omega) (by omega)).1, (clampI_le p1 (by omega) (by omega)).2, (clampI_le p2 (by omega) (by omega)).2⟩ hX hR ho hok ⟨nF, nL, nB⟩ hG2 hMR hlo
  exact W.widen (by omega) (by omega) (lw_loop hl9 ⟨hx, hb, hml, hown, hts, hXs, hbl, hL, hK, hE, hF⟩ hr hlocks _ 3 _ _ ls H locs rfl (by omega) hI hl hM)
