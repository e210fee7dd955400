set_option maxRecDepth 100000 in
set_option maxHeartbeats 4000000 in
/-- a number, 0 -/
theorem w_init (l : Launch) (Γ : zT) (G : zG) (sz : Nat) (a N : Nat) (hN69 : N ≤ 69) (ha : G a = some (.inr (5, [.null, .int (nI 0), .int (nI 0)]))) : zMv l yX3_init wsX3_init ({ frames := 1, cells := 1, slots := 69, locals := 64 } : Room) Γ G sz [.ref a, .int (nI N)] (fun G' => ∃ la, G la = none ∧ G' = zup (zup G la (zI Γ N (fun _ => 0))) a (wh la 0 (nI 0))) 1 69 := by
  refine z_start (cc := cX3_init) (maxL := 2) (ret := none) (by decide) rfl (Nat.le_of_ble_eq_true rfl) ?_
  intro p e s m args below meth c ls Q hQ hsz hx hb hr hml hown hts hlocks hnm hK hM hl
  obtain ⟨A, hAe⟩ : ∃ A, A = zA G s.heap.size := ⟨_, rfl⟩
  rw [← hAe] at hM
  have hl : lv_has ls 2 [(0, .ref a), (1, .int (nI N))] := hl
  have hinX3 : ∀ w ∈ wsX30, w ∈ wsX3_init := by decide +kernel
  have hf_9 := hts (.fieldLink RX3 9 "CutRows$Whole" "limbs" "[I") (by decide +kernel)
  refine lv_aload_n hx hb dX3_init_0 rfl (lv_at hl 0 rfl) ?_
  refine W.objInit hx hb hown (hts (.methodLink RX3 3 objectInit) (by decide +kernel)) (hts (.instanceMethod objectInit) (by decide +kernel)) (hts (.code objectInit ⟨#[0xb1]⟩ 1 none) (List.mem_of_getElem? (i := 3) rfl)) rfl (by rw [hml]; exact hl.1) rfl dX3_init_1 (Nat.le_of_ble_eq_true rfl) (Nat.le_of_ble_eq_true rfl) ?_
  refine W.eq (g2 := F0 m 4 ls []) rfl ?_
  refine lv_aload_n hx hb dX3_init_4 rfl (lv_at hl 0 rfl) ?_
  refine lv_iload_n hx hb dX3_init_5 rfl (lv_at hl 1 rfl) ?_
  refine z_newI (N := N) hx hb (hts (.arrayClass .int) (by decide +kernel)) hK hM (by omega) (by first | exact Nat.le_of_ble_eq_true rfl | (show _ ≤ 1; omega)) (by first | exact Nat.le_of_ble_eq_true rfl | (show _ ≤ 69; omega)) dX3_init_6 (fun q6 H hq6 hM => ?_)
  refine W.widen (k := 1) (n := 69) (by first | exact Nat.le_of_ble_eq_true rfl | omega) (by first | exact Nat.le_of_ble_eq_true rfl | omega) ?_
  have hn_a_q6 : a ≠ q6 := zfr hq6 ha
  refine z_putF (C := RX3) (T := TX3) (N := 3) (fs' := [.ref q6, .int (nI 0), .int (nI 0)]) hx hb hts hinX3 tyX3 tyX3_ok nmX3 hown hK hM ((zup_n _ _ hn_a_q6).trans ha) 0 hf_9 rfl rfl (by decide) rfl hnm rfl rfl rfl (Nat.le_of_ble_eq_true rfl) rfl dX3_init_8 (fun H locs hM => ?_)
  rw [hQ]
  rw [hAe] at hM
  exact z_vretW (Nat.le_of_ble_eq_true rfl) (Nat.le_of_ble_eq_true rfl) hsz hx hb hr hlocks hK hM dX3_init_11 (⟨q6, hq6, rfl⟩)

set_option maxRecDepth 100000 in
set_option maxHeartbeats 4000000 in
/-- the register -/
theorem g_init (l : Launch) (Γ : zT) (G : zG) (sz : Nat) (vars maxR cz : Nat) (a : Nat) (ha : G a = some (.inr (4, [.null, .int (nI 0), .int (nI 0), .int (nI 0)]))) : zMv l yX2_init wsX2_init ({ frames := 2, cells := 2, slots := 72, locals := 128 } : Room) Γ G sz [.ref a] (fun G' => ∃ Y, NWa Γ vars maxR cz G G' a Y (tW 31) ∧ G' a = some (KC Γ vars maxR cz Y 82)) 2 72 := by
  refine z_start (cc := cX2_init) (maxL := 1) (ret := none) (by decide) rfl (Nat.le_of_ble_eq_true rfl) ?_
  intro p e s m args below meth c ls Q hQ hsz hx hb hr hml hown hts hlocks hnm hK hM hl
  obtain ⟨A, hAe⟩ : ∃ A, A = zA G s.heap.size := ⟨_, rfl⟩
  rw [← hAe] at hM
  have hl : lv_has ls 1 [(0, .ref a)] := hl
  have hinX2 : ∀ w ∈ wsX20, w ∈ wsX2_init := by decide +kernel
  have hf_14 := hts (.fieldLink RX2 14 "CutRows$Register" "number" "LCutRows$Whole;") (by decide +kernel)
  have hf_20 := hts (.fieldLink RX2 20 "CutRows$Register" "state" "I") (by decide +kernel)
  have hinX3 : ∀ w ∈ wsX30, w ∈ wsX2_init := by decide +kernel
  have hS : NWa Γ vars maxR cz G G a (fun _ => 0) (fun _ => false) := NWa.nil ha
  refine lv_aload_n hx hb dX2_init_0 rfl (lv_at hl 0 rfl) ?_
  refine W.objInit hx hb hown (hts (.methodLink RX2 3 objectInit) (by decide +kernel)) (hts (.instanceMethod objectInit) (by decide +kernel)) (hts (.code objectInit ⟨#[0xb1]⟩ 1 none) (List.mem_of_getElem? (i := 3) rfl)) rfl (by rw [hml]; exact hl.1) rfl dX2_init_1 (Nat.le_of_ble_eq_true rfl) (Nat.le_of_ble_eq_true rfl) ?_
  refine W.eq (g2 := F0 m 4 ls []) rfl ?_
  refine lv_aload_n hx hb dX2_init_4 rfl (lv_at hl 0 rfl) ?_
  refine z_newO (ci := 5) (fs := [.null, .int (nI 0), .int (nI 0)]) (C := RX3) (T := TX3) (N := 3) hx hb hts hinX3 tyX3 tyX3_ok hown (hts (.classLink RX2 9 RX3) (by decide +kernel)) (hts (.instantiable RX3 3) (by decide +kernel)) (hts (.initialized RX3) (by decide +kernel)) hK hM rfl (fun j hj => by rcases (show j = 0 ∨ j = 1 ∨ j = 2 by omega) with rfl | rfl | rfl <;> rfl) (by first | exact Nat.le_of_ble_eq_true rfl | (show _ ≤ 2; omega)) (by first | exact Nat.le_of_ble_eq_true rfl | (show _ ≤ 72; omega)) dX2_init_5 (fun q5 H hq5 hM => ?_)
  refine W.widen (k := 1) (n := 3) (by first | exact Nat.le_of_ble_eq_true rfl | omega) (by first | exact Nat.le_of_ble_eq_true rfl | omega) ?_
  have hn_a_q5 : a ≠ q5 := zfr hq5 ha
  refine lv_dup hx hb dX2_init_8 rfl ?_
  refine lv_bipush (v := nI 20) hx hb dX2_init_9 rfl ?_
  refine z_callv (va_runI (b := q5) (As := [.int (nI 20)]) (rest := [.ref q5, .ref a]) ⟨hx, hb, hml, hown, hts⟩ (w_init l Γ _ _ q5 20 (by omega) (zup_s _ _ _)) (cwI 1 hts gX2_init_X3_init rfl rfl rfl (hts (.initialized RX3) (by decide +kernel)) (hts (.methodLink RX2 11 yX3_init) (by decide +kernel)) (hts (.instanceMethod yX3_init) (by decide +kernel)) rfl (by decide +kernel) ⟨Nat.le_of_ble_eq_true rfl, Nat.le_of_ble_eq_true rfl⟩) (zM.pre hK hM) rfl rfl hl.1 rfl (lv_room (Nat.le_of_ble_eq_true rfl)) dX2_init_11 ⟨(by first | exact Nat.le_of_ble_eq_true rfl | (show _ ≤ 2; omega)), (by first | exact Nat.le_of_ble_eq_true rfl | (show _ ≤ 72; omega))⟩) hM (fun G11 H locs hp11 hM => ?_)
  refine W.widen (k := 2) (n := 72) (by first | exact Nat.le_of_ble_eq_true rfl | omega) (by first | exact Nat.le_of_ble_eq_true rfl | omega) ?_
  obtain ⟨l11, hl11, rfl⟩ := hp11
  have hn_a_l11 : a ≠ l11 := zfr hl11 ((zup_n _ _ hn_a_q5).trans ha)
  have hn_q5_l11 : q5 ≠ l11 := zfr hl11 (zup_s _ _ _)
  have hM : zM Γ A s.heap (zup (zup G q5 (.inr (5, [.ref l11, .int (nI 0), .int (nI 0)]))) l11 (zI Γ 20 (fun _ => 0))) H locs := by
    rw [zup_comm _ _ _ (Ne.symm hn_q5_l11), zup_zup] at hM; exact hM
  have hS := hS.join (nw_whole (i := 31) (by omega) hq5 ((zfn hl11).2) (zfn hl11).1 rfl) (fun i hi => by cases hi)
  refine z_putF (C := RX2) (T := TX2) (N := 4) (fs' := [.ref q5, .int (nI 0), .int (nI 0), .int (nI 0)]) hx hb hts hinX2 tyX2 tyX2_ok nmX2 hown hK hM ((zup_n _ _ hn_a_l11).trans ((zup_n _ _ hn_a_q5).trans ha)) 0 hf_14 rfl rfl (by decide) rfl hnm rfl rfl rfl (Nat.le_of_ble_eq_true rfl) rfl dX2_init_14 (fun H locs hM => ?_)
  refine lv_aload_n hx hb dX2_init_17 rfl (lv_at hl 0 rfl) ?_
  refine lv_iconst (v := nI 0) hx hb dX2_init_18 rfl ?_
  refine z_put (C := RX2) (T := TX2) (N := 4) (fs' := [.ref q5, .int (nI 0), .int (nI 0), .int (nI 0)]) hx hb hts hinX2 tyX2 tyX2_ok nmX2 hown hK hM (zup_s _ _ _) 1 hf_20 rfl rfl (by decide) rfl rfl rfl (Nat.le_of_ble_eq_true rfl) rfl dX2_init_19 (fun H locs hM => ?_)
  have hM : zM Γ A s.heap (zup (zup (zup G q5 (.inr (5, [.ref l11, .int (nI 0), .int (nI 0)]))) l11 (zI Γ 20 (fun _ => 0))) a (.inr (4, [.ref q5, .int (nI 0), .int (nI 0), .int (nI 0)]))) H locs := by
    rw [zup_zup] at hM; exact hM
  rw [hQ]
  rw [hAe] at hM
  exact z_vretW (Nat.le_of_ble_eq_true rfl) (Nat.le_of_ble_eq_true rfl) hsz hx hb hr hlocks hK hM dX2_init_22 (⟨_, (hS.put _).set (fun i => rfl), zup_s _ _ _⟩)

set_option maxRecDepth 100000 in
set_option maxHeartbeats 4000000 in
/-- the arena -/
theorem a_init (l : Launch) (Γ : zT) (G : zG) (sz : Nat) (vars maxR cz : Nat) (hv6 : vars ≤ 6) (hm60 : maxR ≤ 60) (hz4 : cz ≤ 4000) (a : Nat) (ha : G a = some (.inr (2, [.null, .null, .int (nI 0), .int (nI 0), .int (nI 0), .int (nI 0)]))) : zMv l yX0_init wsX0_init ({ frames := 1, cells := 2, slots := 4420, locals := 64 } : Room) Γ G sz [.ref a, .int (nI (vars + 1)), .int (nI maxR), .int (nI cz)] (fun G' => ∃ Y, NWa Γ vars maxR cz G G' a Y (fun i => decide (i = 75) || decide (i = 76)) ∧ G' a = some (KC Γ vars maxR cz Y 81)) 2 4420 := by
  refine z_start (cc := cX0_init) (maxL := 4) (ret := none) (by decide) rfl (Nat.le_of_ble_eq_true rfl) ?_
  intro p e s m args below meth c ls Q hQ hsz hx hb hr hml hown hts hlocks hnm hK hM hl
  obtain ⟨A, hAe⟩ : ∃ A, A = zA G s.heap.size := ⟨_, rfl⟩
  rw [← hAe] at hM
  have hl : lv_has ls 4 [(0, .ref a), (1, .int (nI (vars + 1))), (2, .int (nI maxR)), (3, .int (nI cz))] := hl
  have hinX0 : ∀ w ∈ wsX00, w ∈ wsX0_init := by decide +kernel
  have hf_9 := hts (.fieldLink RX0 9 "CutRows$Arena" "width" "I") (by decide +kernel)
  have hf_15 := hts (.fieldLink RX0 15 "CutRows$Arena" "maxRows" "I") (by decide +kernel)
  have hf_18 := hts (.fieldLink RX0 18 "CutRows$Arena" "cells" "[I") (by decide +kernel)
  have hf_22 := hts (.fieldLink RX0 22 "CutRows$Arena" "starts" "[I") (by decide +kernel)
  have hvm : (vars + 1) * maxR ≤ 420 := Nat.le_trans (Nat.mul_le_mul (show vars + 1 ≤ 7 by omega) hm60) (by decide)
  refine lv_aload_n hx hb dX0_init_0 rfl (lv_at hl 0 rfl) ?_
  refine W.objInit hx hb hown (hts (.methodLink RX0 3 objectInit) (by decide +kernel)) (hts (.instanceMethod objectInit) (by decide +kernel)) (hts (.code objectInit ⟨#[0xb1]⟩ 1 none) (List.mem_of_getElem? (i := 3) rfl)) rfl (by rw [hml]; exact hl.1) rfl dX0_init_1 (Nat.le_of_ble_eq_true rfl) (Nat.le_of_ble_eq_true rfl) ?_
  refine W.eq (g2 := F0 m 4 ls []) rfl ?_
  refine lv_aload_n hx hb dX0_init_4 rfl (lv_at hl 0 rfl) ?_
  refine lv_iload_n hx hb dX0_init_5 rfl (lv_at hl 1 rfl) ?_
  refine z_putF (C := RX0) (T := TX0) (N := 6) (fs' := [.null, .null, .int (nI (vars + 1)), .int (nI 0), .int (nI 0), .int (nI 0)]) hx hb hts hinX0 tyX0 tyX0_ok nmX0 hown hK hM ha 2 hf_9 rfl rfl (by decide) rfl hnm rfl rfl rfl (Nat.le_of_ble_eq_true rfl) rfl dX0_init_6 (fun H locs hM => ?_)
  refine lv_aload_n hx hb dX0_init_9 rfl (lv_at hl 0 rfl) ?_
  refine lv_iload_n hx hb dX0_init_10 rfl (lv_at hl 2 rfl) ?_
  refine z_putF (C := RX0) (T := TX0) (N := 6) (fs' := [.null, .null, .int (nI (vars + 1)), .int (nI maxR), .int (nI 0), .int (nI 0)]) hx hb hts hinX0 tyX0 tyX0_ok nmX0 hown hK hM (zup_s _ _ _) 3 hf_15 rfl rfl (by decide) rfl hnm rfl rfl rfl (Nat.le_of_ble_eq_true rfl) rfl dX0_init_11 (fun H locs hM => ?_)
  have hM : zM Γ A s.heap (zup G a (.inr (2, [.null, .null, .int (nI (vars + 1)), .int (nI maxR), .int (nI 0), .int (nI 0)]))) H locs := by
    rw [zup_zup] at hM; exact hM
  refine lv_aload_n hx hb dX0_init_14 rfl (lv_at hl 0 rfl) ?_
  refine lv_iload_n hx hb dX0_init_15 rfl (lv_at hl 3 rfl) ?_
  refine z_newI (N := cz) hx hb (hts (.arrayClass .int) (by decide +kernel)) hK hM (by omega) (by first | exact Nat.le_of_ble_eq_true rfl | (show _ ≤ 2; omega)) (by first | exact Nat.le_of_ble_eq_true rfl | (show _ ≤ 4420; omega)) dX0_init_16 (fun q16 H hq16 hM => ?_)
  refine W.widen (k := 1) (n := 4000) (by first | exact Nat.le_of_ble_eq_true rfl | omega) (by first | exact Nat.le_of_ble_eq_true rfl | omega) ?_
  have hn_a_q16 : a ≠ q16 := zfr hq16 (zup_s _ _ _)
  refine z_putF (C := RX0) (T := TX0) (N := 6) (fs' := [.ref q16, .null, .int (nI (vars + 1)), .int (nI maxR), .int (nI 0), .int (nI 0)]) hx hb hts hinX0 tyX0 tyX0_ok nmX0 hown hK hM ((zup_n _ _ hn_a_q16).trans (zup_s _ _ _)) 0 hf_18 rfl rfl (by decide) rfl hnm rfl rfl rfl (Nat.le_of_ble_eq_true rfl) rfl dX0_init_18 (fun H locs hM => ?_)
  have hM : zM Γ A s.heap (zup (zup G a (.inr (2, [.ref q16, .null, .int (nI (vars + 1)), .int (nI maxR), .int (nI 0), .int (nI 0)]))) q16 (zI Γ cz (fun _ => 0))) H locs := by
    rw [zup_comm _ _ _ (Ne.symm hn_a_q16), zup_zup] at hM; exact hM
  refine lv_aload_n hx hb dX0_init_21 rfl (lv_at hl 0 rfl) ?_
  refine lv_iload_n hx hb dX0_init_22 rfl (lv_at hl 1 rfl) ?_
  refine lv_iload_n hx hb dX0_init_23 rfl (lv_at hl 2 rfl) ?_
  refine z_imul hx hb dX0_init_24 ?_
  refine z_newI (N := ((vars + 1) * maxR)) hx hb (hts (.arrayClass .int) (by decide +kernel)) hK hM (by omega) (by first | exact Nat.le_of_ble_eq_true rfl | (show _ ≤ 2; omega)) (by first | exact Nat.le_of_ble_eq_true rfl | (show _ ≤ 4420; omega)) dX0_init_25 (fun q25 H hq25 hM => ?_)
  refine W.widen (k := 2) (n := 4420) (by first | exact Nat.le_of_ble_eq_true rfl | omega) (by first | exact Nat.le_of_ble_eq_true rfl | omega) ?_
  have hn_a_q25 : a ≠ q25 := zfr hq25 ((zup_n _ _ hn_a_q16).trans (zup_s _ _ _))
  have hn_q16_q25 : q16 ≠ q25 := zfr hq25 (zup_s _ _ _)
  refine z_putF (C := RX0) (T := TX0) (N := 6) (fs' := [.ref q16, .ref q25, .int (nI (vars + 1)), .int (nI maxR), .int (nI 0), .int (nI 0)]) hx hb hts hinX0 tyX0 tyX0_ok nmX0 hown hK hM ((zup_n _ _ hn_a_q25).trans ((zup_n _ _ hn_a_q16).trans (zup_s _ _ _))) 1 hf_22 rfl rfl (by decide) rfl hnm rfl rfl rfl (Nat.le_of_ble_eq_true rfl) rfl dX0_init_27 (fun H locs hM => ?_)
  have hM : zM Γ A s.heap (zup (zup (zup G a (.inr (2, [.ref q16, .ref q25, .int (nI (vars + 1)), .int (nI maxR), .int (nI 0), .int (nI 0)]))) q16 (zI Γ cz (fun _ => 0))) q25 (zI Γ ((vars + 1) * maxR) (fun _ => 0))) H locs := by
    rw [zup_comm _ _ _ (Ne.symm hn_a_q25), zup_comm _ _ _ (Ne.symm hn_a_q16), zup_zup] at hM; exact hM
  have f1 := zfn hq16
  have f2 := zfn hq25
  have f3 := zfn f2.2
  rw [hQ]
  rw [hAe] at hM
  exact z_vretW (Nat.le_of_ble_eq_true rfl) (Nat.le_of_ble_eq_true rfl) hsz hx hb hr hlocks hK hM dX0_init_30 (⟨_, ((((NWa.nil (X := fun _ => 0) ha).put _).join (nw_one (i := 75) (fun _ => rfl) ((zup_n _ _ f1.1).trans f1.2)) (fun i hi => by cases hi)).join (nw_one (i := 76) (fun _ => rfl) ((zup_n _ _ f2.1).trans ((zup_n _ _ f3.1).trans f3.2))) (fun i hi => by simp only [tW, tZ, Bool.or_eq_true, decide_eq_true_eq, Bool.or_eq_false_iff, decide_eq_false_iff_not, Bool.false_or] at hi ⊢; omega)).set (fun i => rfl), ((zup_n _ _ hn_a_q25).trans ((zup_n _ _ hn_a_q16).trans (zup_s _ _ _)))⟩)

set_option maxRecDepth 100000 in
set_option maxHeartbeats 4000000 in
/-- the divider -/
theorem v_init (l : Launch) (Γ : zT) (G : zG) (sz : Nat) (vars maxR cz : Nat) (a : Nat) (ha : G a = some (.inr (3, [.null, .null, .null, .null, .null]))) : zMv l yX1_init wsX1_init ({ frames := 2, cells := 8, slots := 313, locals := 128 } : Room) Γ G sz [.ref a] (fun G' => ∃ Y, NWa Γ vars maxR cz G G' a Y (fun i => (((tW 32 i || tW 33 i) || tW 34 i) || decide (i = 77)) || decide (i = 78)) ∧ G' a = some (KC Γ vars maxR cz Y 83)) 8 313 := by
  refine z_start (cc := cX1_init) (maxL := 1) (ret := none) (by decide) rfl (Nat.le_of_ble_eq_true rfl) ?_
  intro p e s m args below meth c ls Q hQ hsz hx hb hr hml hown hts hlocks hnm hK hM hl
  obtain ⟨A, hAe⟩ : ∃ A, A = zA G s.heap.size := ⟨_, rfl⟩
  rw [← hAe] at hM
  have hl : lv_has ls 1 [(0, .ref a)] := hl
  have hinX1 : ∀ w ∈ wsX10, w ∈ wsX1_init := by decide +kernel
  have hf_14 := hts (.fieldLink RX1 14 "CutRows$Divider" "greatest" "LCutRows$Whole;") (by decide +kernel)
  have hf_20 := hts (.fieldLink RX1 20 "CutRows$Divider" "quotient" "LCutRows$Whole;") (by decide +kernel)
  have hf_23 := hts (.fieldLink RX1 23 "CutRows$Divider" "remainder" "LCutRows$Whole;") (by decide +kernel)
  have hf_26 := hts (.fieldLink RX1 26 "CutRows$Divider" "top" "[I") (by decide +kernel)
  have hf_30 := hts (.fieldLink RX1 30 "CutRows$Divider" "bottom" "[I") (by decide +kernel)
  have hinX3 : ∀ w ∈ wsX30, w ∈ wsX1_init := by decide +kernel
  have hS : NWa Γ vars maxR cz G G a (fun _ => 0) (fun _ => false) := NWa.nil ha
  refine lv_aload_n hx hb dX1_init_0 rfl (lv_at hl 0 rfl) ?_
  refine W.objInit hx hb hown (hts (.methodLink RX1 3 objectInit) (by decide +kernel)) (hts (.instanceMethod objectInit) (by decide +kernel)) (hts (.code objectInit ⟨#[0xb1]⟩ 1 none) (List.mem_of_getElem? (i := 3) rfl)) rfl (by rw [hml]; exact hl.1) rfl dX1_init_1 (Nat.le_of_ble_eq_true rfl) (Nat.le_of_ble_eq_true rfl) ?_
  refine W.eq (g2 := F0 m 4 ls []) rfl ?_
  refine lv_aload_n hx hb dX1_init_4 rfl (lv_at hl 0 rfl) ?_
  refine z_newO (ci := 5) (fs := [.null, .int (nI 0), .int (nI 0)]) (C := RX3) (T := TX3) (N := 3) hx hb hts hinX3 tyX3 tyX3_ok hown (hts (.classLink RX1 9 RX3) (by decide +kernel)) (hts (.instantiable RX3 3) (by decide +kernel)) (hts (.initialized RX3) (by decide +kernel)) hK hM rfl (fun j hj => by rcases (show j = 0 ∨ j = 1 ∨ j = 2 by omega) with rfl | rfl | rfl <;> rfl) (by first | exact Nat.le_of_ble_eq_true rfl | (show _ ≤ 8; omega)) (by first | exact Nat.le_of_ble_eq_true rfl | (show _ ≤ 313; omega)) dX1_init_5 (fun q5 H hq5 hM => ?_)
  refine W.widen (k := 1) (n := 3) (by first | exact Nat.le_of_ble_eq_true rfl | omega) (by first | exact Nat.le_of_ble_eq_true rfl | omega) ?_
  have hn_a_q5 : a ≠ q5 := zfr hq5 ha
  refine lv_dup hx hb dX1_init_8 rfl ?_
  refine lv_bipush (v := nI 48) hx hb dX1_init_9 rfl ?_
  refine z_callv (va_runI (b := q5) (As := [.int (nI 48)]) (rest := [.ref q5, .ref a]) ⟨hx, hb, hml, hown, hts⟩ (w_init l Γ _ _ q5 48 (by omega) (zup_s _ _ _)) (cwI 1 hts gX1_init_X3_init rfl rfl rfl (hts (.initialized RX3) (by decide +kernel)) (hts (.methodLink RX1 11 yX3_init) (by decide +kernel)) (hts (.instanceMethod yX3_init) (by decide +kernel)) rfl (by decide +kernel) ⟨Nat.le_of_ble_eq_true rfl, Nat.le_of_ble_eq_true rfl⟩) (zM.pre hK hM) rfl rfl hl.1 rfl (lv_room (Nat.le_of_ble_eq_true rfl)) dX1_init_11 ⟨(by first | exact Nat.le_of_ble_eq_true rfl | (show _ ≤ 8; omega)), (by first | exact Nat.le_of_ble_eq_true rfl | (show _ ≤ 313; omega))⟩) hM (fun G11 H locs hp11 hM => ?_)
  refine W.widen (k := 2) (n := 72) (by first | exact Nat.le_of_ble_eq_true rfl | omega) (by first | exact Nat.le_of_ble_eq_true rfl | omega) ?_
  obtain ⟨l11, hl11, rfl⟩ := hp11
  have hn_a_l11 : a ≠ l11 := zfr hl11 ((zup_n _ _ hn_a_q5).trans ha)
  have hn_q5_l11 : q5 ≠ l11 := zfr hl11 (zup_s _ _ _)
  have hM : zM Γ A s.heap (zup (zup G q5 (.inr (5, [.ref l11, .int (nI 0), .int (nI 0)]))) l11 (zI Γ 48 (fun _ => 0))) H locs := by
    rw [zup_comm _ _ _ (Ne.symm hn_q5_l11), zup_zup] at hM; exact hM
  refine z_putF (C := RX1) (T := TX1) (N := 5) (fs' := [.ref q5, .null, .null, .null, .null]) hx hb hts hinX1 tyX1 tyX1_ok nmX1 hown hK hM ((zup_n _ _ hn_a_l11).trans ((zup_n _ _ hn_a_q5).trans ha)) 0 hf_14 rfl rfl (by decide) rfl hnm rfl rfl rfl (Nat.le_of_ble_eq_true rfl) rfl dX1_init_14 (fun H locs hM => ?_)
  have hS := (hS.join (nw_whole (i := 32) (by omega) hq5 ((zfn hl11).2) (zfn hl11).1 rfl) (fun i hi => by cases hi)).put (.inr (3, [.ref q5, .null, .null, .null, .null]))
  have haa0 : (zup (zup (zup G q5 (.inr (5, [.ref l11, .int (nI 0), .int (nI 0)]))) l11 (zI Γ 48 (fun _ => 0))) a (.inr (3, [.ref q5, .null, .null, .null, .null]))) a = some (.inr (3, [.ref q5, .null, .null, .null, .null])) := (zup_s _ _ _)
  obtain ⟨GG0, hGG0⟩ : ∃ g, g = zup (zup (zup G q5 (.inr (5, [.ref l11, .int (nI 0), .int (nI 0)]))) l11 (zI Γ 48 (fun _ => 0))) a (.inr (3, [.ref q5, .null, .null, .null, .null])) := ⟨_, rfl⟩
  rw [← hGG0] at hM haa0
  have hS := hS.map hGG0
  refine lv_aload_n hx hb dX1_init_17 rfl (lv_at hl 0 rfl) ?_
  refine z_newO (ci := 5) (fs := [.null, .int (nI 0), .int (nI 0)]) (C := RX3) (T := TX3) (N := 3) hx hb hts hinX3 tyX3 tyX3_ok hown (hts (.classLink RX1 9 RX3) (by decide +kernel)) (hts (.instantiable RX3 3) (by decide +kernel)) (hts (.initialized RX3) (by decide +kernel)) hK hM rfl (fun j hj => by rcases (show j = 0 ∨ j = 1 ∨ j = 2 by omega) with rfl | rfl | rfl <;> rfl) (by first | exact Nat.le_of_ble_eq_true rfl | (show _ ≤ 8; omega)) (by first | exact Nat.le_of_ble_eq_true rfl | (show _ ≤ 313; omega)) dX1_init_18 (fun q18 H hq18 hM => ?_)
  refine W.widen (k := 3) (n := 75) (by first | exact Nat.le_of_ble_eq_true rfl | omega) (by first | exact Nat.le_of_ble_eq_true rfl | omega) ?_
  have hn_a_q18 : a ≠ q18 := zfr hq18 haa0
  refine lv_dup hx hb dX1_init_21 rfl ?_
  refine lv_bipush (v := nI 48) hx hb dX1_init_22 rfl ?_
  refine z_callv (va_runI (b := q18) (As := [.int (nI 48)]) (rest := [.ref q18, .ref a]) ⟨hx, hb, hml, hown, hts⟩ (w_init l Γ _ _ q18 48 (by omega) (zup_s _ _ _)) (cwI 1 hts gX1_init_X3_init rfl rfl rfl (hts (.initialized RX3) (by decide +kernel)) (hts (.methodLink RX1 11 yX3_init) (by decide +kernel)) (hts (.instanceMethod yX3_init) (by decide +kernel)) rfl (by decide +kernel) ⟨Nat.le_of_ble_eq_true rfl, Nat.le_of_ble_eq_true rfl⟩) (zM.pre hK hM) rfl rfl hl.1 rfl (lv_room (Nat.le_of_ble_eq_true rfl)) dX1_init_24 ⟨(by first | exact Nat.le_of_ble_eq_true rfl | (show _ ≤ 8; omega)), (by first | exact Nat.le_of_ble_eq_true rfl | (show _ ≤ 313; omega))⟩) hM (fun G24 H locs hp24 hM => ?_)
  refine W.widen (k := 4) (n := 144) (by first | exact Nat.le_of_ble_eq_true rfl | omega) (by first | exact Nat.le_of_ble_eq_true rfl | omega) ?_
  obtain ⟨l24, hl24, rfl⟩ := hp24
  have hn_a_l24 : a ≠ l24 := zfr hl24 ((zup_n _ _ hn_a_q18).trans haa0)
  have hn_q18_l24 : q18 ≠ l24 := zfr hl24 (zup_s _ _ _)
  have hM : zM Γ A s.heap (zup (zup GG0 q18 (.inr (5, [.ref l24, .int (nI 0), .int (nI 0)]))) l24 (zI Γ 48 (fun _ => 0))) H locs := by
    rw [zup_comm _ _ _ (Ne.symm hn_q18_l24), zup_zup] at hM; exact hM
  refine z_putF (C := RX1) (T := TX1) (N := 5) (fs' := [.ref q5, .ref q18, .null, .null, .null]) hx hb hts hinX1 tyX1 tyX1_ok nmX1 hown hK hM ((zup_n _ _ hn_a_l24).trans ((zup_n _ _ hn_a_q18).trans haa0)) 1 hf_20 rfl rfl (by decide) rfl hnm rfl rfl rfl (Nat.le_of_ble_eq_true rfl) rfl dX1_init_27 (fun H locs hM => ?_)
  have hS := (hS.join (nw_whole (i := 33) (by omega) hq18 ((zfn hl24).2) (zfn hl24).1 rfl) (fun i hi => by simp only [tW, tZ, Bool.or_eq_true, decide_eq_true_eq, Bool.or_eq_false_iff, decide_eq_false_iff_not, Bool.false_or] at hi ⊢; omega)).put (.inr (3, [.ref q5, .ref q18, .null, .null, .null]))
  have haa1 : (zup (zup (zup GG0 q18 (.inr (5, [.ref l24, .int (nI 0), .int (nI 0)]))) l24 (zI Γ 48 (fun _ => 0))) a (.inr (3, [.ref q5, .ref q18, .null, .null, .null]))) a = some (.inr (3, [.ref q5, .ref q18, .null, .null, .null])) := (zup_s _ _ _)
  obtain ⟨GG1, hGG1⟩ : ∃ g, g = zup (zup (zup GG0 q18 (.inr (5, [.ref l24, .int (nI 0), .int (nI 0)]))) l24 (zI Γ 48 (fun _ => 0))) a (.inr (3, [.ref q5, .ref q18, .null, .null, .null])) := ⟨_, rfl⟩
  rw [← hGG1] at hM haa1
  have hS := hS.map hGG1
  refine lv_aload_n hx hb dX1_init_30 rfl (lv_at hl 0 rfl) ?_
  refine z_newO (ci := 5) (fs := [.null, .int (nI 0), .int (nI 0)]) (C := RX3) (T := TX3) (N := 3) hx hb hts hinX3 tyX3 tyX3_ok hown (hts (.classLink RX1 9 RX3) (by decide +kernel)) (hts (.instantiable RX3 3) (by decide +kernel)) (hts (.initialized RX3) (by decide +kernel)) hK hM rfl (fun j hj => by rcases (show j = 0 ∨ j = 1 ∨ j = 2 by omega) with rfl | rfl | rfl <;> rfl) (by first | exact Nat.le_of_ble_eq_true rfl | (show _ ≤ 8; omega)) (by first | exact Nat.le_of_ble_eq_true rfl | (show _ ≤ 313; omega)) dX1_init_31 (fun q31 H hq31 hM => ?_)
  refine W.widen (k := 5) (n := 147) (by first | exact Nat.le_of_ble_eq_true rfl | omega) (by first | exact Nat.le_of_ble_eq_true rfl | omega) ?_
  have hn_a_q31 : a ≠ q31 := zfr hq31 haa1
  refine lv_dup hx hb dX1_init_34 rfl ?_
  refine lv_bipush (v := nI 48) hx hb dX1_init_35 rfl ?_
  refine z_callv (va_runI (b := q31) (As := [.int (nI 48)]) (rest := [.ref q31, .ref a]) ⟨hx, hb, hml, hown, hts⟩ (w_init l Γ _ _ q31 48 (by omega) (zup_s _ _ _)) (cwI 1 hts gX1_init_X3_init rfl rfl rfl (hts (.initialized RX3) (by decide +kernel)) (hts (.methodLink RX1 11 yX3_init) (by decide +kernel)) (hts (.instanceMethod yX3_init) (by decide +kernel)) rfl (by decide +kernel) ⟨Nat.le_of_ble_eq_true rfl, Nat.le_of_ble_eq_true rfl⟩) (zM.pre hK hM) rfl rfl hl.1 rfl (lv_room (Nat.le_of_ble_eq_true rfl)) dX1_init_37 ⟨(by first | exact Nat.le_of_ble_eq_true rfl | (show _ ≤ 8; omega)), (by first | exact Nat.le_of_ble_eq_true rfl | (show _ ≤ 313; omega))⟩) hM (fun G37 H locs hp37 hM => ?_)
  refine W.widen (k := 6) (n := 216) (by first | exact Nat.le_of_ble_eq_true rfl | omega) (by first | exact Nat.le_of_ble_eq_true rfl | omega) ?_
  obtain ⟨l37, hl37, rfl⟩ := hp37
  have hn_a_l37 : a ≠ l37 := zfr hl37 ((zup_n _ _ hn_a_q31).trans haa1)
  have hn_q31_l37 : q31 ≠ l37 := zfr hl37 (zup_s _ _ _)
  have hM : zM Γ A s.heap (zup (zup GG1 q31 (.inr (5, [.ref l37, .int (nI 0), .int (nI 0)]))) l37 (zI Γ 48 (fun _ => 0))) H locs := by
    rw [zup_comm _ _ _ (Ne.symm hn_q31_l37), zup_zup] at hM; exact hM
  refine z_putF (C := RX1) (T := TX1) (N := 5) (fs' := [.ref q5, .ref q18, .ref q31, .null, .null]) hx hb hts hinX1 tyX1 tyX1_ok nmX1 hown hK hM ((zup_n _ _ hn_a_l37).trans ((zup_n _ _ hn_a_q31).trans haa1)) 2 hf_23 rfl rfl (by decide) rfl hnm rfl rfl rfl (Nat.le_of_ble_eq_true rfl) rfl dX1_init_40 (fun H locs hM => ?_)
  have hS := (hS.join (nw_whole (i := 34) (by omega) hq31 ((zfn hl37).2) (zfn hl37).1 rfl) (fun i hi => by simp only [tW, tZ, Bool.or_eq_true, decide_eq_true_eq, Bool.or_eq_false_iff, decide_eq_false_iff_not, Bool.false_or] at hi ⊢; omega)).put (.inr (3, [.ref q5, .ref q18, .ref q31, .null, .null]))
  have haa2 : (zup (zup (zup GG1 q31 (.inr (5, [.ref l37, .int (nI 0), .int (nI 0)]))) l37 (zI Γ 48 (fun _ => 0))) a (.inr (3, [.ref q5, .ref q18, .ref q31, .null, .null]))) a = some (.inr (3, [.ref q5, .ref q18, .ref q31, .null, .null])) := (zup_s _ _ _)
  obtain ⟨GG2, hGG2⟩ : ∃ g, g = zup (zup (zup GG1 q31 (.inr (5, [.ref l37, .int (nI 0), .int (nI 0)]))) l37 (zI Γ 48 (fun _ => 0))) a (.inr (3, [.ref q5, .ref q18, .ref q31, .null, .null])) := ⟨_, rfl⟩
  rw [← hGG2] at hM haa2
  have hS := hS.map hGG2
  refine lv_aload_n hx hb dX1_init_43 rfl (lv_at hl 0 rfl) ?_
  refine lv_bipush (v := nI 49) hx hb dX1_init_44 rfl ?_
  refine z_newI (N := 49) hx hb (hts (.arrayClass .int) (by decide +kernel)) hK hM (by omega) (by first | exact Nat.le_of_ble_eq_true rfl | (show _ ≤ 8; omega)) (by first | exact Nat.le_of_ble_eq_true rfl | (show _ ≤ 313; omega)) dX1_init_46 (fun q46 H hq46 hM => ?_)
  refine W.widen (k := 7) (n := 265) (by first | exact Nat.le_of_ble_eq_true rfl | omega) (by first | exact Nat.le_of_ble_eq_true rfl | omega) ?_
  have hn_a_q46 : a ≠ q46 := zfr hq46 haa2
  refine z_putF (C := RX1) (T := TX1) (N := 5) (fs' := [.ref q5, .ref q18, .ref q31, .ref q46, .null]) hx hb hts hinX1 tyX1 tyX1_ok nmX1 hown hK hM ((zup_n _ _ hn_a_q46).trans haa2) 3 hf_26 rfl rfl (by decide) rfl hnm rfl rfl rfl (Nat.le_of_ble_eq_true rfl) rfl dX1_init_48 (fun H locs hM => ?_)
  have hS := (hS.join (nw_one (i := 77) (fun _ => rfl) hq46) (fun i hi => by simp only [tW, tZ, Bool.or_eq_true, decide_eq_true_eq, Bool.or_eq_false_iff, decide_eq_false_iff_not, Bool.false_or] at hi ⊢; omega)).put (.inr (3, [.ref q5, .ref q18, .ref q31, .ref q46, .null]))
  have haa3 : (zup (zup GG2 q46 (zI Γ 49 (fun _ => 0))) a (.inr (3, [.ref q5, .ref q18, .ref q31, .ref q46, .null]))) a = some (.inr (3, [.ref q5, .ref q18, .ref q31, .ref q46, .null])) := (zup_s _ _ _)
  obtain ⟨GG3, hGG3⟩ : ∃ g, g = zup (zup GG2 q46 (zI Γ 49 (fun _ => 0))) a (.inr (3, [.ref q5, .ref q18, .ref q31, .ref q46, .null])) := ⟨_, rfl⟩
  rw [← hGG3] at hM haa3
  have hS := hS.map hGG3
  refine lv_aload_n hx hb dX1_init_51 rfl (lv_at hl 0 rfl) ?_
  refine lv_bipush (v := nI 48) hx hb dX1_init_52 rfl ?_
  refine z_newI (N := 48) hx hb (hts (.arrayClass .int) (by decide +kernel)) hK hM (by omega) (by first | exact Nat.le_of_ble_eq_true rfl | (show _ ≤ 8; omega)) (by first | exact Nat.le_of_ble_eq_true rfl | (show _ ≤ 313; omega)) dX1_init_54 (fun q54 H hq54 hM => ?_)
  refine W.widen (k := 8) (n := 313) (by first | exact Nat.le_of_ble_eq_true rfl | omega) (by first | exact Nat.le_of_ble_eq_true rfl | omega) ?_
  have hn_a_q54 : a ≠ q54 := zfr hq54 haa3
  refine z_putF (C := RX1) (T := TX1) (N := 5) (fs' := [.ref q5, .ref q18, .ref q31, .ref q46, .ref q54]) hx hb hts hinX1 tyX1 tyX1_ok nmX1 hown hK hM ((zup_n _ _ hn_a_q54).trans haa3) 4 hf_30 rfl rfl (by decide) rfl hnm rfl rfl rfl (Nat.le_of_ble_eq_true rfl) rfl dX1_init_56 (fun H locs hM => ?_)
  rw [hQ]
  rw [hAe] at hM
  exact z_vretW (Nat.le_of_ble_eq_true rfl) (Nat.le_of_ble_eq_true rfl) hsz hx hb hr hlocks hK hM dX1_init_59 (⟨_, ((hS.join (nw_one (i := 78) (fun _ => rfl) hq54) (fun i hi => by simp only [tW, tZ, Bool.or_eq_true, decide_eq_true_eq, Bool.or_eq_false_iff, decide_eq_false_iff_not, Bool.false_or] at hi ⊢; omega)).put _).set (fun i => rfl), zup_s _ _ _⟩)

set_option maxRecDepth 100000 in
set_option maxHeartbeats 4000000 in
/-- an array of numbers -/
theorem c_zeros (l : Launch) (Γ : zT) (G : zG) (sz : Nat) (len rm9 : Nat) (hlen : len ≤ 7) (hrm : rm9 ≤ 69) : zMrN l yX4_zeros wsX4_zeros ({ frames := 2, cells := 15, slots := 511, locals := 128 } : Room) Γ G sz [.int (nI len), .int (nI rm9)] (fun r G' => ∃ Y Z, ZR Γ G G' r len rm9 len Y Z) 15 511 := by
  refine z_startN (cc := cX4_zeros) (maxL := 4) (ret := (some (.array (.object "CutRows$Whole")))) (by decide) rfl (Nat.le_of_ble_eq_true rfl) ?_
  intro p e s m args below meth c ls Q hN hQ hsz hx hb hr hml hown hts hlocks hnm hK hM hl
  obtain ⟨A, hAe⟩ : ∃ A, A = zA G s.heap.size := ⟨_, rfl⟩
  rw [← hAe] at hM
  have hl : lv_has ls 4 [(0, .int (nI len)), (1, .int (nI rm9))] := hl
  have hinX3 : ∀ w ∈ wsX30, w ∈ wsX4_zeros := by decide +kernel
  refine lv_iload_n hx hb dX4_zeros_0 rfl (lv_at hl 0 rfl) ?_
  refine z_newW (N := len) hx hb hown (hts (.classLink RX4 57 RX3) (by decide +kernel)) hN.1 hK hM (by omega) (by first | exact Nat.le_of_ble_eq_true rfl | (show _ ≤ 15; omega)) (by first | exact Nat.le_of_ble_eq_true rfl | (show _ ≤ 511; omega)) dX4_zeros_1 (fun q1 H hq1 hM => ?_)
  refine W.widen (k := 1) (n := 7) (by first | exact Nat.le_of_ble_eq_true rfl | omega) (by first | exact Nat.le_of_ble_eq_true rfl | omega) ?_
  refine lv_astore_n (lv' := [(2, .ref q1), (0, .int (nI len)), (1, .int (nI rm9))]) hx hb dX4_zeros_4 rfl hl (by decide) rfl (fun ls hl => ?_)
  refine lv_iconst (v := nI 0) hx hb dX4_zeros_5 rfl ?_
  refine lv_istore_n (lv' := [(3, .int (nI 0)), (2, .ref q1), (0, .int (nI len)), (1, .int (nI rm9))]) hx hb dX4_zeros_6 rfl hl (by decide) rfl (fun ls hl => ?_)
  have lp : ∀ (μ : Nat) (i : Nat) (G1 : zG) (Y : Nat → Nat) (Z : Nat → Nat), len - i = μ → (i ≤ len) → (ZR Γ G G1 q1 len rm9 i Y Z) → ∀ (ls : Array Slot) (H : Heap) (locs : List Loc), lv_has ls 4 [(3, .int (nI i)), (2, .ref q1), (0, .int (nI len)), (1, .int (nI rm9))] → zM Γ A s.heap (G1) H locs → W p l e ({ frames := 2, cells := 15, slots := 511, locals := 128 } : Room) s m args below meth c H locs (1 + 2 * i) (7 + 72 * i) Q (F0 m 7 ls []) := by
    intro μ
    induction μ using Nat.strongRecOn with
    | _ μ ihlp =>
      intro i G1 Y Z hμ hi hz ls H locs hl hM
      refine lv_iload_n hx hb dX4_zeros_7 rfl (lv_at hl 0 rfl) ?_
      refine lv_iload_n hx hb dX4_zeros_8 rfl (lv_at hl 2 rfl) ?_
      refine z_icmp_ge (tgt := 29) hx hb (by omega) (by omega) dX4_zeros_9 (by decide) (fun hc9 => ?_) (fun hc9 => ?_)
      · refine lv_aload_n hx hb dX4_zeros_29 rfl (lv_at hl 1 rfl) ?_
        rw [hQ]
        rw [hAe] at hM
        exact z_aretW (by omega) (by omega) hsz hx hb hr hlocks hK hM dX4_zeros_30 (⟨Y, Z, by rw [show i = len by omega] at hz; exact hz⟩)
      · refine lv_aload_n hx hb dX4_zeros_12 rfl (lv_at hl 1 rfl) ?_
        refine lv_iload_n hx hb dX4_zeros_13 rfl (lv_at hl 0 rfl) ?_
        refine z_newO (ci := 5) (fs := [.null, .int (nI 0), .int (nI 0)]) (C := RX3) (T := TX3) (N := 3) hx hb hts hinX3 tyX3 tyX3_ok hown (hts (.classLink RX4 57 RX3) (by decide +kernel)) (hts (.instantiable RX3 3) (by decide +kernel)) (hts (.initialized RX3) (by decide +kernel)) hK hM rfl (fun j hj => by rcases (show j = 0 ∨ j = 1 ∨ j = 2 by omega) with rfl | rfl | rfl <;> rfl) (by first | exact Nat.le_of_ble_eq_true rfl | (show _ ≤ 15; omega)) (by first | exact Nat.le_of_ble_eq_true rfl | (show _ ≤ 511; omega)) dX4_zeros_14 (fun q14 H hq14 hM => ?_)
        refine W.widen (k := 1 + 2 * i + 1) (n := 7 + 72 * i + 3) (by omega) (by omega) ?_
        have hn_q1_q14 : q1 ≠ q14 := zfr hq14 hz.1.2
        refine lv_dup hx hb dX4_zeros_17 rfl ?_
        refine lv_iload_n hx hb dX4_zeros_18 rfl (lv_at hl 3 rfl) ?_
        refine z_callv (va_runI (b := q14) (As := [.int (nI rm9)]) (rest := [.ref q14, .int (nI i), .ref q1]) ⟨hx, hb, hml, hown, hts⟩ (w_init l Γ _ _ q14 rm9 (by omega) (zup_s _ _ _)) (cwI 1 hts gX4_zeros_X3_init rfl rfl rfl (hts (.initialized RX3) (by decide +kernel)) (hts (.methodLink RX4 59 yX3_init) (by decide +kernel)) (hts (.instanceMethod yX3_init) (by decide +kernel)) rfl (by decide +kernel) ⟨Nat.le_of_ble_eq_true rfl, Nat.le_of_ble_eq_true rfl⟩) (zM.pre hK hM) rfl rfl hl.1 rfl (lv_room (Nat.le_of_ble_eq_true rfl)) dX4_zeros_19 ⟨(by first | exact Nat.le_of_ble_eq_true rfl | (show _ ≤ 15; omega)), (by first | exact Nat.le_of_ble_eq_true rfl | (show _ ≤ 511; omega))⟩) hM (fun G19 H locs hp19 hM => ?_)
        refine W.widen (k := 1 + 2 * (i + 1)) (n := 7 + 72 * (i + 1)) (by omega) (by omega) ?_
        obtain ⟨l19, hl19, rfl⟩ := hp19
        have hn_q1_l19 : q1 ≠ l19 := zfr hl19 ((zup_n _ _ hn_q1_q14).trans hz.1.2)
        have hn_q14_l19 : q14 ≠ l19 := zfr hl19 (zup_s _ _ _)
        have hM : zM Γ A s.heap (zup (zup G1 q14 (.inr (5, [.ref l19, .int (nI 0), .int (nI 0)]))) l19 (zI Γ rm9 (fun _ => 0))) H locs := by
          rw [zup_comm _ _ _ (Ne.symm hn_q14_l19), zup_zup] at hM; exact hM
        refine z_ast hx hb hK hM ((zup_n _ _ hn_q1_l19).trans ((zup_n _ _ hn_q1_q14).trans hz.1.2)) ((zup_n _ _ hn_q14_l19).trans (zup_s _ _ _)) (by omega) (by omega) dX4_zeros_22 (fun H locs hM => ?_)
        refine z_iinc (v := (i + 1)) (lv' := [(3, .int (nI (i + 1))), (2, .ref q1), (0, .int (nI len)), (1, .int (nI rm9))]) hx hb dX4_zeros_23 hl (k := 0) rfl (nI_p1 _) (by decide) rfl (fun ls hl => ?_)
        refine lv_goto (tgt := 7) hx hb dX4_zeros_26 (by decide) ?_
        exact ihlp _ (by omega) (i + 1) (zup (zup (zup G1 q14 (.inr (5, [.ref l19, .int (nI 0), .int (nI 0)]))) l19 (zI Γ rm9 (fun _ => 0))) q1 (zW Γ len (va_up (fun k => if k < i then some (Y k) else none) i (some q14)))) (va_up Y i q14) (va_up Z i l19) rfl (by omega) (ZR.step hz hq14 (zfn hl19).2 (zfn hl19).1 rfl) ls _ _ (lv_sub hl [0, 1, 2, 3] rfl) hM
  exact lp _ 0 (zup G q1 (zW Γ len (fun _ => none))) (fun _ => 0) (fun _ => 0) rfl (by omega) (ZR.nil hq1) ls _ _ (lv_sub hl [0, 1, 2, 3] rfl) hM
