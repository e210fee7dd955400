set_option maxRecDepth 100000 in
set_option maxHeartbeats 4000000 in
theorem w_setZero (l : Launch) (Γ : zT) (G : zG) (sz : Nat) (a la r n : Nat) (sg : Int32) (d : Nat → Nat) (ha : G a = some (wh la n sg)) (hla : G la = some (zI Γ r d)) : zMv l yX3_setZero wsX3_setZero (zR 1) Γ G sz [.ref a] (fun G' => G' = zup G a (wh la 0 (nI 0))) 0 0 := by
  refine z_start (cc := cX3_setZero) (maxL := 1) (ret := none) (by decide) rfl (Nat.le_of_ble_eq_true rfl) ?_
  intro p e s m args below meth c ls Q hQ hsz hx hb hr hml hown hts hlocks hnm hK hM hl
  obtain ⟨A, hAe⟩ : ∃ A, A = zA G s.heap.size := ⟨_, rfl⟩
  rw [← hAe] at hM
  have hl : lv_has ls 1 [(0, .ref a)] := hl
  have hinX3 : ∀ w ∈ wsX30, w ∈ wsX3_setZero := by decide +kernel
  have hf_15 := hts (.fieldLink RX3 15 "CutRows$Whole" "size" "I") (by decide +kernel)
  have hf_19 := hts (.fieldLink RX3 19 "CutRows$Whole" "sign" "I") (by decide +kernel)
  refine lv_aload_n hx hb dX3_setZero_0 rfl (lv_at hl 0 rfl) ?_
  refine lv_iconst (v := nI 0) hx hb dX3_setZero_1 rfl ?_
  refine z_put (C := RX3) (T := TX3) (N := 3) (fs' := [.ref la, .int (nI 0), .int sg]) hx hb hts hinX3 tyX3 tyX3_ok nmX3 hown hK hM ha 1 hf_15 rfl rfl (by decide) rfl rfl rfl (Nat.le_of_ble_eq_true rfl) rfl dX3_setZero_2 (fun H locs hM => ?_)
  refine lv_aload_n hx hb dX3_setZero_5 rfl (lv_at hl 0 rfl) ?_
  refine lv_iconst (v := nI 0) hx hb dX3_setZero_6 rfl ?_
  refine z_put (C := RX3) (T := TX3) (N := 3) (fs' := [.ref la, .int (nI 0), .int (nI 0)]) hx hb hts hinX3 tyX3 tyX3_ok nmX3 hown hK hM (zup_s _ _ _) 2 hf_19 rfl rfl (by decide) rfl rfl rfl (Nat.le_of_ble_eq_true rfl) rfl dX3_setZero_7 (fun H locs hM => ?_)
  have hM : zM Γ A s.heap (zup G a (.inr (5, [.ref la, .int (nI 0), .int (nI 0)]))) H locs := by
    rw [zup_zup] at hM; exact hM
  rw [hQ]
  rw [hAe] at hM
  exact z_vret hsz hx hb hr hlocks hK hM dX3_setZero_10 (rfl)

set_option maxRecDepth 100000 in
set_option maxHeartbeats 4000000 in
theorem j_compare_7cf53 (l : Launch) (Γ : zT) (G : zG) (sz : Nat) (x y : Nat) (hx1 : x < 2 ^ 31) (hy1 : y < 2 ^ 31) : zMi l yJ6_compare_7cf53 wsJ6_compare_7cf53 (zR 1) Γ G sz [.int (nI x), .int (nI y)] (fun r G' => r = cmp3 x y ∧ G' = G) 0 0 := by
  refine z_start (cc := cJ6_compare_7cf53) (maxL := 2) (ret := (some .int)) (by decide) rfl (Nat.le_of_ble_eq_true rfl) ?_
  intro p e s m args below meth c ls Q hQ hsz hx hb hr hml hown hts hlocks hnm hK hM hl
  obtain ⟨A, hAe⟩ : ∃ A, A = zA G s.heap.size := ⟨_, rfl⟩
  rw [← hAe] at hM
  have hl : lv_has ls 2 [(0, .int (nI x)), (1, .int (nI y))] := hl
  refine lv_iload_n hx hb dJ6_compare_7cf53_0 rfl (lv_at hl 0 rfl) ?_
  refine lv_iload_n hx hb dJ6_compare_7cf53_1 rfl (lv_at hl 1 rfl) ?_
  refine z_icmp_ge (tgt := 9) hx hb (by omega) (by omega) dJ6_compare_7cf53_2 (by decide) (fun hc2 => ?_) (fun hc2 => ?_)
  · refine lv_iload_n hx hb dJ6_compare_7cf53_9 rfl (lv_at hl 0 rfl) ?_
    refine lv_iload_n hx hb dJ6_compare_7cf53_10 rfl (lv_at hl 1 rfl) ?_
    refine z_icmp_ne (tgt := 18) hx hb (by omega) (by omega) dJ6_compare_7cf53_11 (by decide) (fun hc11 => ?_) (fun hc11 => ?_)
    · refine lv_iconst (v := nI 1) hx hb dJ6_compare_7cf53_18 rfl ?_
      rw [hQ]
      rw [hAe] at hM
      exact z_iret hsz hx hb hr hlocks hK hM dJ6_compare_7cf53_19 (⟨cmp3_gt (by omega), rfl⟩)
    · refine lv_iconst (v := nI 0) hx hb dJ6_compare_7cf53_14 rfl ?_
      refine lv_goto (tgt := 19) hx hb dJ6_compare_7cf53_15 (by decide) ?_
      rw [hQ]
      rw [hAe] at hM
      exact z_iret hsz hx hb hr hlocks hK hM dJ6_compare_7cf53_19 (⟨cmp3_eq (by omega), rfl⟩)
  · refine lv_iconst (v := -1) hx hb dJ6_compare_7cf53_5 rfl ?_
    refine lv_goto (tgt := 19) hx hb dJ6_compare_7cf53_6 (by decide) ?_
    rw [hQ]
    rw [hAe] at hM
    exact z_iret hsz hx hb hr hlocks hK hM dJ6_compare_7cf53_19 (⟨cmp3_lt (by omega), rfl⟩)

set_option maxRecDepth 100000 in
set_option maxHeartbeats 4000000 in
theorem w_copyFrom (l : Launch) (Γ : zT) (G : zG) (sz : Nat) (a la r n : Nat) (sg : Int32) (d : Nat → Nat) (ha : G a = some (wh la n sg)) (hla : G la = some (zI Γ r d)) (b lb rb nb : Nat) (sgb : Int32) (db : Nat → Nat) (hbw : G b = some (wh lb nb sgb)) (hlb : G lb = some (zI Γ rb db)) (hne : la ≠ lb) (hab : a ≠ b) (hn1 : nb ≤ r) (hn2 : nb ≤ rb) (hr : r < 2 ^ 31) (hrb : rb < 2 ^ 31) : zMv l yX3_copyFrom wsX3_copyFrom (zR 1) Γ G sz [.ref a, .ref b] (fun G' => G' = zup (zup G la (zI Γ r (va_cpy db d 0 0 nb))) a (wh la nb sgb)) 0 0 := by
  refine z_start (cc := cX3_copyFrom) (maxL := 2) (ret := none) (by decide) rfl (Nat.le_of_ble_eq_true rfl) ?_
  intro p e s m args below meth c ls Q hQ hsz hx hb hr hml hown hts hlocks hnm hK hM hl
  obtain ⟨A, hAe⟩ : ∃ A, A = zA G s.heap.size := ⟨_, rfl⟩
  rw [← hAe] at hM
  have hl : lv_has ls 2 [(0, .ref a), (1, .ref b)] := hl
  have hinX3 : ∀ w ∈ wsX30, w ∈ wsX3_copyFrom := by decide +kernel
  have hf_9 := hts (.fieldLink RX3 9 "CutRows$Whole" "limbs" "[I") (by decide +kernel)
  have hf_15 := hts (.fieldLink RX3 15 "CutRows$Whole" "size" "I") (by decide +kernel)
  have hf_19 := hts (.fieldLink RX3 19 "CutRows$Whole" "sign" "I") (by decide +kernel)
  refine lv_aload_n hx hb dX3_copyFrom_0 rfl (lv_at hl 1 rfl) ?_
  refine z_get (C := RX3) (T := TX3) (N := 3) (v := .ref lb) hx hb hts hinX3 hown hK hM hbw 0 hf_9 rfl rfl (by decide) rfl dX3_copyFrom_1 ?_
  refine lv_iconst (v := nI 0) hx hb dX3_copyFrom_4 rfl ?_
  refine lv_aload_n hx hb dX3_copyFrom_5 rfl (lv_at hl 0 rfl) ?_
  refine z_get (C := RX3) (T := TX3) (N := 3) (v := .ref la) hx hb hts hinX3 hown hK hM ha 0 hf_9 rfl rfl (by decide) rfl dX3_copyFrom_6 ?_
  refine lv_iconst (v := nI 0) hx hb dX3_copyFrom_9 rfl ?_
  refine lv_aload_n hx hb dX3_copyFrom_10 rfl (lv_at hl 1 rfl) ?_
  refine z_get (C := RX3) (T := TX3) (N := 3) (v := .int (nI nb)) hx hb hts hinX3 hown hK hM hbw 1 hf_15 rfl rfl (by decide) rfl dX3_copyFrom_11 ?_
  refine z_copy hx hb (by rw [hml]; exact hl.1.symm) hown (hts (.methodLink RX3 22 arraycopyName) (by decide +kernel)) (hts (.native arraycopyName) (by decide +kernel)) (hts (.static arraycopyName) (by decide +kernel)) (hts (.initialized "java/lang/System") (by decide +kernel)) hK hM hlb hla (by omega) (by omega) (by omega) (by omega) (Nat.le_of_ble_eq_true rfl) (Nat.le_of_ble_eq_true rfl) dX3_copyFrom_14 (fun H locs hM => ?_)
  refine lv_aload_n hx hb dX3_copyFrom_17 rfl (lv_at hl 0 rfl) ?_
  refine lv_aload_n hx hb dX3_copyFrom_18 rfl (lv_at hl 1 rfl) ?_
  refine z_get (C := RX3) (T := TX3) (N := 3) (v := .int (nI nb)) hx hb hts hinX3 hown hK hM ((zup_n _ _ (zne hbw hla (by intro h; cases h))).trans hbw) 1 hf_15 rfl rfl (by decide) rfl dX3_copyFrom_19 ?_
  refine z_put (C := RX3) (T := TX3) (N := 3) (fs' := [.ref la, .int (nI nb), .int sg]) hx hb hts hinX3 tyX3 tyX3_ok nmX3 hown hK hM ((zup_n _ _ (zne ha hla (by intro h; cases h))).trans ha) 1 hf_15 rfl rfl (by decide) rfl rfl rfl (Nat.le_of_ble_eq_true rfl) rfl dX3_copyFrom_22 (fun H locs hM => ?_)
  refine lv_aload_n hx hb dX3_copyFrom_25 rfl (lv_at hl 0 rfl) ?_
  refine lv_aload_n hx hb dX3_copyFrom_26 rfl (lv_at hl 1 rfl) ?_
  refine z_get (C := RX3) (T := TX3) (N := 3) (v := .int sgb) hx hb hts hinX3 hown hK hM ((zup_n _ _ (Ne.symm hab)).trans ((zup_n _ _ (zne hbw hla (by intro h; cases h))).trans hbw)) 2 hf_19 rfl rfl (by decide) rfl dX3_copyFrom_27 ?_
  refine z_put (C := RX3) (T := TX3) (N := 3) (fs' := [.ref la, .int (nI nb), .int sgb]) hx hb hts hinX3 tyX3 tyX3_ok nmX3 hown hK hM (zup_s _ _ _) 2 hf_19 rfl rfl (by decide) rfl rfl rfl (Nat.le_of_ble_eq_true rfl) rfl dX3_copyFrom_30 (fun H locs hM => ?_)
  have hM : zM Γ A s.heap (zup (zup G la (zI Γ r (va_cpy db d 0 0 nb))) a (.inr (5, [.ref la, .int (nI nb), .int sgb]))) H locs := by
    rw [zup_zup] at hM; exact hM
  rw [hQ]
  rw [hAe] at hM
  exact z_vret hsz hx hb hr hlocks hK hM dX3_copyFrom_33 (rfl)
