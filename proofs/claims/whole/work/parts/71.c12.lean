set_option maxRecDepth 100000 in
set_option maxHeartbeats 4000000 in
theorem g_open (l : Launch) (Γ : zT) (G : zG) (sz : Nat) (X : Nat → Nat) (vars : Nat) (Z : Nat → Int) (hX : XI X vars) (hC : CW Γ G X vars Z) (st : Nat) (sg : Int32) (gv : Nat) (hG : RG Γ G X st sg gv) (sign : Int32) : zMv l yX2_open wsX2_open (zR 2) Γ G sz [.ref (X 82), .int sign] (fun G' => fr X [31, 71, 82] G G' ∧ CW Γ G' X vars (va_up Z 31 0) ∧ RG Γ G' X 1 sign 0) 0 0 := by
  refine z_start (cc := cX2_open) (maxL := 2) (ret := none) (by decide) rfl (Nat.le_of_ble_eq_true rfl) ?_
  intro p e s m args below meth c ls Q hQ hsz hx hb hr hml hown hts hlocks hnm hK hM hl
  obtain ⟨A, hAe⟩ : ∃ A, A = zA G s.heap.size := ⟨_, rfl⟩
  rw [← hAe] at hM
  have hl : lv_has ls 2 [(0, .ref (X 82)), (1, .int sign)] := hl
  have hinX2 : ∀ w ∈ wsX20, w ∈ wsX2_open := by decide +kernel
  have hf_14 := hts (.fieldLink RX2 14 "CutRows$Register" "number" "LCutRows$Whole;") (by decide +kernel)
  have hf_20 := hts (.fieldLink RX2 20 "CutRows$Register" "state" "I") (by decide +kernel)
  have hf_27 := hts (.fieldLink RX2 27 "CutRows$Register" "givenSign" "I") (by decide +kernel)
  have hf_30 := hts (.fieldLink RX2 30 "CutRows$Register" "fed" "I") (by decide +kernel)
  refine lv_aload_n hx hb dX2_open_0 rfl (lv_at hl 0 rfl) ?_
  refine z_get (C := RX2) (T := TX2) (N := 4) (v := .ref (X 31)) hx hb hts hinX2 hown hK hM hG 0 hf_14 rfl rfl (by decide) rfl dX2_open_1 ?_
  refine z_callv0 (va_runV (As := []) (rest := []) ⟨hx, hb, hml, hown, hts⟩ (cw_setZero l _ hX hC (i := 31) (by unfold vw; omega)) (cwV 0 hts gX2_open_X3_setZero rfl rfl rfl (by decide +kernel) ⟨Nat.le_of_ble_eq_true rfl, Nat.le_of_ble_eq_true rfl⟩) (zM.preV hK hM (hC.o 31 (by unfold vw; omega)) rfl rfl) rfl rfl hl.1 rfl (lv_room (Nat.le_of_ble_eq_true rfl)) dX2_open_4 ⟨Nat.le_of_ble_eq_true rfl, Nat.le_of_ble_eq_true rfl⟩) hM (fun G4 H locs hp4 hM => ?_)
  obtain ⟨hC1, hf1⟩ := hp4
  refine lv_aload_n hx hb dX2_open_7 rfl (lv_at hl 0 rfl) ?_
  refine lv_iload_n hx hb dX2_open_8 rfl (lv_at hl 1 rfl) ?_
  refine z_put (C := RX2) (T := TX2) (N := 4) (fs' := [.ref (X 31), .int (nI st), .int sign, .int (nI gv)]) hx hb hts hinX2 tyX2 tyX2_ok nmX2 hown hK hM (RG.fr hX hG hf1 (fun q9 h9 => by simp only [List.mem_cons, List.not_mem_nil, or_false] at h9; exact ⟨by unfold vd vw; omega, by omega⟩)) 2 hf_27 rfl rfl (by decide) rfl rfl rfl (Nat.le_of_ble_eq_true rfl) rfl dX2_open_9 (fun H locs hM => ?_)
  refine lv_aload_n hx hb dX2_open_12 rfl (lv_at hl 0 rfl) ?_
  refine lv_iconst (v := nI 0) hx hb dX2_open_13 rfl ?_
  refine z_put (C := RX2) (T := TX2) (N := 4) (fs' := [.ref (X 31), .int (nI st), .int sign, .int (nI 0)]) hx hb hts hinX2 tyX2 tyX2_ok nmX2 hown hK hM (zup_s _ _ _) 3 hf_30 rfl rfl (by decide) rfl rfl rfl (Nat.le_of_ble_eq_true rfl) rfl dX2_open_14 (fun H locs hM => ?_)
  have hM : zM Γ A s.heap (zup G4 (X 82) (.inr (4, [.ref (X 31), .int (nI st), .int sign, .int (nI 0)]))) H locs := by
    rw [zup_zup] at hM; exact hM
  refine lv_aload_n hx hb dX2_open_17 rfl (lv_at hl 0 rfl) ?_
  refine lv_iconst (v := nI 1) hx hb dX2_open_18 rfl ?_
  refine z_put (C := RX2) (T := TX2) (N := 4) (fs' := [.ref (X 31), .int (nI 1), .int sign, .int (nI 0)]) hx hb hts hinX2 tyX2 tyX2_ok nmX2 hown hK hM (zup_s _ _ _) 1 hf_20 rfl rfl (by decide) rfl rfl rfl (Nat.le_of_ble_eq_true rfl) rfl dX2_open_19 (fun H locs hM => ?_)
  have hM : zM Γ A s.heap (zup G4 (X 82) (.inr (4, [.ref (X 31), .int (nI 1), .int sign, .int (nI 0)]))) H locs := by
    rw [zup_zup] at hM; exact hM
  rw [hQ]
  rw [hAe] at hM
  exact z_vret hsz hx hb hr hlocks hK hM dX2_open_22 (⟨(hf1.mono (fun q9 h9 => by simp only [List.mem_cons, List.not_mem_nil, or_false] at h9 ⊢; omega)).tr (fr.up (by simp)), hC1.same hX (S := [82]) (fr.up (by simp)) (fun q9 h9 => by simp only [List.mem_cons, List.not_mem_nil, or_false] at h9; omega), zup_s _ _ _⟩)

set_option maxRecDepth 100000 in
set_option maxHeartbeats 4000000 in
theorem g_takesMore (l : Launch) (Γ : zT) (G : zG) (sz : Nat) (X : Nat → Nat) (vars : Nat) (Z : Nat → Int) (hX : XI X vars) (hC : CW Γ G X vars Z) (st : Nat) (sg : Int32) (gv : Nat) (hG : RG Γ G X st sg gv) (hst : st < 3) (hgv : gv ≤ 20) : zMi l yX2_takesMore wsX2_takesMore (zR 1) Γ G sz [.ref (X 82)] (fun x G' => x = (if st = 1 ∧ gv < 20 then nI 1 else nI 0) ∧ G' = G) 0 0 := by
  refine z_start (cc := cX2_takesMore) (maxL := 1) (ret := (some .boolean)) (by decide) rfl (Nat.le_of_ble_eq_true rfl) ?_
  intro p e s m args below meth c ls Q hQ hsz hx hb hr hml hown hts hlocks hnm hK hM hl
  obtain ⟨A, hAe⟩ : ∃ A, A = zA G s.heap.size := ⟨_, rfl⟩
  rw [← hAe] at hM
  have hl : lv_has ls 1 [(0, .ref (X 82))] := hl
  have hinX2 : ∀ w ∈ wsX20, w ∈ wsX2_takesMore := by decide +kernel
  have hf_20 := hts (.fieldLink RX2 20 "CutRows$Register" "state" "I") (by decide +kernel)
  have hf_30 := hts (.fieldLink RX2 30 "CutRows$Register" "fed" "I") (by decide +kernel)
  refine lv_aload_n hx hb dX2_takesMore_0 rfl (lv_at hl 0 rfl) ?_
  refine z_get (C := RX2) (T := TX2) (N := 4) (v := .int (nI st)) hx hb hts hinX2 hown hK hM hG 1 hf_20 rfl rfl (by decide) rfl dX2_takesMore_1 ?_
  refine lv_iconst (v := nI 1) hx hb dX2_takesMore_4 rfl ?_
  refine z_icmp_ne (tgt := 21) hx hb (by omega) (by omega) dX2_takesMore_5 (by decide) (fun hc5 => ?_) (fun hc5 => ?_)
  · refine lv_iconst (v := nI 0) hx hb dX2_takesMore_21 rfl ?_
    rw [hQ]
    rw [hAe] at hM
    exact z_zret (by omega) hsz hx hb hr hlocks hK hM dX2_takesMore_22 (⟨by rw [if_neg (by omega)], rfl⟩)
  · refine lv_aload_n hx hb dX2_takesMore_8 rfl (lv_at hl 0 rfl) ?_
    refine z_get (C := RX2) (T := TX2) (N := 4) (v := .int (nI gv)) hx hb hts hinX2 hown hK hM hG 3 hf_30 rfl rfl (by decide) rfl dX2_takesMore_9 ?_
    refine lv_bipush (v := nI 20) hx hb dX2_takesMore_12 rfl ?_
    refine z_icmp_ge (tgt := 21) hx hb (by omega) (by omega) dX2_takesMore_14 (by decide) (fun hc14 => ?_) (fun hc14 => ?_)
    · refine lv_iconst (v := nI 0) hx hb dX2_takesMore_21 rfl ?_
      rw [hQ]
      rw [hAe] at hM
      exact z_zret (by omega) hsz hx hb hr hlocks hK hM dX2_takesMore_22 (⟨by rw [if_neg (by omega)], rfl⟩)
    · refine lv_iconst (v := nI 1) hx hb dX2_takesMore_17 rfl ?_
      refine lv_goto (tgt := 22) hx hb dX2_takesMore_18 (by decide) ?_
      rw [hQ]
      rw [hAe] at hM
      exact z_zret (by omega) hsz hx hb hr hlocks hK hM dX2_takesMore_22 (⟨by rw [if_pos (by omega)], rfl⟩)

set_option maxRecDepth 100000 in
set_option maxHeartbeats 4000000 in
theorem g_hasNumber (l : Launch) (Γ : zT) (G : zG) (sz : Nat) (X : Nat → Nat) (vars : Nat) (Z : Nat → Int) (hX : XI X vars) (hC : CW Γ G X vars Z) (st : Nat) (sg : Int32) (gv : Nat) (hG : RG Γ G X st sg gv) (hst : st < 3) : zMi l yX2_hasNumber wsX2_hasNumber (zR 1) Γ G sz [.ref (X 82)] (fun x G' => x = (if st = 0 then nI 0 else nI 1) ∧ G' = G) 0 0 := by
  refine z_start (cc := cX2_hasNumber) (maxL := 1) (ret := (some .boolean)) (by decide) rfl (Nat.le_of_ble_eq_true rfl) ?_
  intro p e s m args below meth c ls Q hQ hsz hx hb hr hml hown hts hlocks hnm hK hM hl
  obtain ⟨A, hAe⟩ : ∃ A, A = zA G s.heap.size := ⟨_, rfl⟩
  rw [← hAe] at hM
  have hl : lv_has ls 1 [(0, .ref (X 82))] := hl
  have hinX2 : ∀ w ∈ wsX20, w ∈ wsX2_hasNumber := by decide +kernel
  have hf_20 := hts (.fieldLink RX2 20 "CutRows$Register" "state" "I") (by decide +kernel)
  refine lv_aload_n hx hb dX2_hasNumber_0 rfl (lv_at hl 0 rfl) ?_
  refine z_get (C := RX2) (T := TX2) (N := 4) (v := .int (nI st)) hx hb hts hinX2 hown hK hM hG 1 hf_20 rfl rfl (by decide) rfl dX2_hasNumber_1 ?_
  refine z_if_eq (tgt := 11) hx hb (by omega) dX2_hasNumber_4 (by decide) (fun hc4 => ?_) (fun hc4 => ?_)
  · refine lv_iconst (v := nI 0) hx hb dX2_hasNumber_11 rfl ?_
    rw [hQ]
    rw [hAe] at hM
    exact z_zret (by omega) hsz hx hb hr hlocks hK hM dX2_hasNumber_12 (⟨by rw [if_pos (by omega)], rfl⟩)
  · refine lv_iconst (v := nI 1) hx hb dX2_hasNumber_7 rfl ?_
    refine lv_goto (tgt := 12) hx hb dX2_hasNumber_8 (by decide) ?_
    rw [hQ]
    rw [hAe] at hM
    exact z_zret (by omega) hsz hx hb hr hlocks hK hM dX2_hasNumber_12 (⟨by rw [if_neg (by omega)], rfl⟩)

set_option maxRecDepth 100000 in
set_option maxHeartbeats 4000000 in
theorem g_finish (l : Launch) (Γ : zT) (G : zG) (sz : Nat) (X : Nat → Nat) (vars : Nat) (Z : Nat → Int) (hX : XI X vars) (hC : CW Γ G X vars Z) (st : Nat) (sg : Int32) (gv : Nat) (hG : RG Γ G X st sg gv)  : zMv l yX2_finish wsX2_finish (zR 1) Γ G sz [.ref (X 82)] (fun G' => fr X [82] G G' ∧ RG Γ G' X 2 sg gv) 0 0 := by
  refine z_start (cc := cX2_finish) (maxL := 1) (ret := none) (by decide) rfl (Nat.le_of_ble_eq_true rfl) ?_
  intro p e s m args below meth c ls Q hQ hsz hx hb hr hml hown hts hlocks hnm hK hM hl
  obtain ⟨A, hAe⟩ : ∃ A, A = zA G s.heap.size := ⟨_, rfl⟩
  rw [← hAe] at hM
  have hl : lv_has ls 1 [(0, .ref (X 82))] := hl
  have hinX2 : ∀ w ∈ wsX20, w ∈ wsX2_finish := by decide +kernel
  have hf_20 := hts (.fieldLink RX2 20 "CutRows$Register" "state" "I") (by decide +kernel)
  refine lv_aload_n hx hb dX2_finish_0 rfl (lv_at hl 0 rfl) ?_
  refine lv_iconst (v := nI 2) hx hb dX2_finish_1 rfl ?_
  refine z_put (C := RX2) (T := TX2) (N := 4) (fs' := [.ref (X 31), .int (nI 2), .int sg, .int (nI gv)]) hx hb hts hinX2 tyX2 tyX2_ok nmX2 hown hK hM hG 1 hf_20 rfl rfl (by decide) rfl rfl rfl (Nat.le_of_ble_eq_true rfl) rfl dX2_finish_2 (fun H locs hM => ?_)
  rw [hQ]
  rw [hAe] at hM
  exact z_vret hsz hx hb hr hlocks hK hM dX2_finish_5 (⟨fr.up (by simp), zup_s _ _ _⟩)

set_option maxRecDepth 100000 in
set_option maxHeartbeats 4000000 in
theorem g_append (l : Launch) (Γ : zT) (G : zG) (sz : Nat) (X : Nat → Nat) (vars : Nat) (Z : Nat → Int) (hX : XI X vars) (hC : CW Γ G X vars Z) (st : Nat) (sg : Int32) (gv : Nat) (hG : RG Γ G X st sg gv) (w : Nat) (g : Nat → Nat) (h1 : st = 1) (hw31 : w < 2147483648) (hgv : gv < 20) (hsg : sg = -1 ∨ sg = 0 ∨ sg = 1) (hD : RD Γ G X gv g) (hgd : ∀ j, j < gv → g j < 2147483648) (hz : Z 31 = sg.toInt * (vl g gv : Nat)) : zMv l yX2_append wsX2_append (zR 1) Γ G sz [.ref (X 82), .int (nI w)] (took Γ G X vars Z sg gv g w) 0 0 := by
  refine z_start (cc := cX2_append) (maxL := 2) (ret := none) (by decide) rfl (Nat.le_of_ble_eq_true rfl) ?_
  intro p e s m args below meth c ls Q hQ hsz hx hb hr hml hown hts hlocks hnm hK hM hl
  obtain ⟨A, hAe⟩ : ∃ A, A = zA G s.heap.size := ⟨_, rfl⟩
  rw [← hAe] at hM
  have hl : lv_has ls 2 [(0, .ref (X 82)), (1, .int (nI w))] := hl
  have hinX2 : ∀ w ∈ wsX20, w ∈ wsX2_append := by decide +kernel
  have hinX3 : ∀ w ∈ wsX30, w ∈ wsX2_append := by decide +kernel
  have hf_14 := hts (.fieldLink RX2 14 "CutRows$Register" "number" "LCutRows$Whole;") (by decide +kernel)
  have hf_27 := hts (.fieldLink RX2 27 "CutRows$Register" "givenSign" "I") (by decide +kernel)
  have hf_30 := hts (.fieldLink RX2 30 "CutRows$Register" "fed" "I") (by decide +kernel)
  have hf_33 := hts (.fieldLink RX2 33 "CutRows$Whole" "limbs" "[I") (by decide +kernel)
  have hf_37 := hts (.fieldLink RX2 37 "CutRows$Whole" "size" "I") (by decide +kernel)
  have hf_40 := hts (.fieldLink RX2 40 "CutRows$Whole" "sign" "I") (by decide +kernel)
  obtain ⟨d, h71, hd⟩ := hD
  subst h1
  refine lv_aload_n hx hb dX2_append_0 rfl (lv_at hl 0 rfl) ?_
  refine z_get (C := RX2) (T := TX2) (N := 4) (v := .ref (X 31)) hx hb hts hinX2 hown hK hM hG 0 hf_14 rfl rfl (by decide) rfl dX2_append_1 ?_
  refine z_get (C := RX3) (T := TX3) (N := 3) (v := .ref (X (40 + 31))) hx hb hts hinX3 hown hK hM (hC.o 31 (by unfold vw; omega)) 0 hf_33 rfl rfl (by decide) rfl dX2_append_4 ?_
  refine lv_aload_n hx hb dX2_append_7 rfl (lv_at hl 0 rfl) ?_
  refine z_get (C := RX2) (T := TX2) (N := 4) (v := .int (nI gv)) hx hb hts hinX2 hown hK hM hG 3 hf_30 rfl rfl (by decide) rfl dX2_append_8 ?_
  refine lv_iload_n hx hb dX2_append_11 rfl (lv_at hl 1 rfl) ?_
  refine z_ist hx hb hK hM h71 (by omega) (by omega) dX2_append_12 (fun H locs hM => ?_)
  refine lv_aload_n hx hb dX2_append_13 rfl (lv_at hl 0 rfl) ?_
  refine lv_dup hx hb dX2_append_14 rfl ?_
  refine z_get (C := RX2) (T := TX2) (N := 4) (v := .int (nI gv)) hx hb hts hinX2 hown hK hM ((zup_n _ _ (hX.ne (by unfold vd vw; omega) (by unfold vd vw; omega) (by omega))).trans hG) 3 hf_30 rfl rfl (by decide) rfl dX2_append_15 ?_
  refine lv_iconst (v := nI 1) hx hb dX2_append_18 rfl ?_
  refine z_iadd hx hb dX2_append_19 ?_
  refine z_put (C := RX2) (T := TX2) (N := 4) (fs' := [.ref (X 31), .int (nI 1), .int sg, .int (nI (gv + 1))]) hx hb hts hinX2 tyX2 tyX2_ok nmX2 hown hK hM ((zup_n _ _ (hX.ne (by unfold vd vw; omega) (by unfold vd vw; omega) (by omega))).trans hG) 3 hf_30 rfl rfl (by decide) rfl rfl rfl (Nat.le_of_ble_eq_true rfl) rfl dX2_append_20 (fun H locs hM => ?_)
  refine lv_iload_n hx hb dX2_append_23 rfl (lv_at hl 1 rfl) ?_
  refine z_if_eq (tgt := 56) hx hb (by omega) dX2_append_24 (by decide) (fun hc24 => ?_) (fun hc24 => ?_)
  · rw [hQ]
    rw [hAe] at hM
    exact z_vret hsz hx hb hr hlocks hK hM dX2_append_56 (took_fin hX hC (fun x hx => by rw [zup_n _ _ (hx 82 (by simp)), zup_n _ _ (hx 71 (by simp))]) ((zup_n _ _ (hX.ne (by unfold vd vw; omega) (by unfold vd vw; omega) (by omega))).trans ((zup_n _ _ (hX.ne (by unfold vd vw; omega) (by unfold vd vw; omega) (by omega))).trans (hC.o 31 (by unfold vw; omega)))) ((zup_n _ _ (hX.ne (by unfold vd vw; omega) (by unfold vd vw; omega) (by omega))).trans (zup_s _ _ _)) (zup_s _ _ _) hd hgv hw31 hgd (by rw [hz]; rw [hc24, up_vl0]; simp) (by rw [hz]; rw [hc24, up_vl0]; simp) hsg)
  · refine lv_aload_n hx hb dX2_append_27 rfl (lv_at hl 0 rfl) ?_
    refine z_get (C := RX2) (T := TX2) (N := 4) (v := .int sg) hx hb hts hinX2 hown hK hM (zup_s _ _ _) 2 hf_27 rfl rfl (by decide) rfl dX2_append_28 ?_
    refine lv_if_eq (tgt := 56) hx hb dX2_append_31 (by decide) (fun hc31 => ?_) (fun hc31 => ?_)
    · rw [hQ]
      rw [hAe] at hM
      exact z_vret hsz hx hb hr hlocks hK hM dX2_append_56 (took_fin hX hC (fun x hx => by rw [zup_n _ _ (hx 82 (by simp)), zup_n _ _ (hx 71 (by simp))]) ((zup_n _ _ (hX.ne (by unfold vd vw; omega) (by unfold vd vw; omega) (by omega))).trans ((zup_n _ _ (hX.ne (by unfold vd vw; omega) (by unfold vd vw; omega) (by omega))).trans (hC.o 31 (by unfold vw; omega)))) ((zup_n _ _ (hX.ne (by unfold vd vw; omega) (by unfold vd vw; omega) (by omega))).trans (zup_s _ _ _)) (zup_s _ _ _) hd hgv hw31 hgd (by rw [hz, hc31]; simp) (by rw [hz, hc31]; simp) hsg)
    · refine lv_aload_n hx hb dX2_append_34 rfl (lv_at hl 0 rfl) ?_
      refine z_get (C := RX2) (T := TX2) (N := 4) (v := .ref (X 31)) hx hb hts hinX2 hown hK hM (zup_s _ _ _) 0 hf_14 rfl rfl (by decide) rfl dX2_append_35 ?_
      refine lv_aload_n hx hb dX2_append_38 rfl (lv_at hl 0 rfl) ?_
      refine z_get (C := RX2) (T := TX2) (N := 4) (v := .int (nI (gv + 1))) hx hb hts hinX2 hown hK hM (zup_s _ _ _) 3 hf_30 rfl rfl (by decide) rfl dX2_append_39 ?_
      refine z_put (C := RX3) (T := TX3) (N := 3) (fs' := [.ref (X (40 + 31)), .int (nI (gv + 1)), .int (sgI (Z 31))]) hx hb hts hinX3 tyX3 tyX3_ok nmX3 hown hK hM ((zup_n _ _ (hX.ne (by unfold vd vw; omega) (by unfold vd vw; omega) (by omega))).trans ((zup_n _ _ (hX.ne (by unfold vd vw; omega) (by unfold vd vw; omega) (by omega))).trans (hC.o 31 (by unfold vw; omega)))) 1 hf_37 rfl rfl (by decide) rfl rfl rfl (Nat.le_of_ble_eq_true rfl) rfl dX2_append_42 (fun H locs hM => ?_)
      refine lv_aload_n hx hb dX2_append_45 rfl (lv_at hl 0 rfl) ?_
      refine z_get (C := RX2) (T := TX2) (N := 4) (v := .ref (X 31)) hx hb hts hinX2 hown hK hM ((zup_n _ _ (hX.ne (by unfold vd vw; omega) (by unfold vd vw; omega) (by omega))).trans (zup_s _ _ _)) 0 hf_14 rfl rfl (by decide) rfl dX2_append_46 ?_
      refine lv_aload_n hx hb dX2_append_49 rfl (lv_at hl 0 rfl) ?_
      refine z_get (C := RX2) (T := TX2) (N := 4) (v := .int sg) hx hb hts hinX2 hown hK hM ((zup_n _ _ (hX.ne (by unfold vd vw; omega) (by unfold vd vw; omega) (by omega))).trans (zup_s _ _ _)) 2 hf_27 rfl rfl (by decide) rfl dX2_append_50 ?_
      refine z_put (C := RX3) (T := TX3) (N := 3) (fs' := [.ref (X (40 + 31)), .int (nI (gv + 1)), .int sg]) hx hb hts hinX3 tyX3 tyX3_ok nmX3 hown hK hM (zup_s _ _ _) 2 hf_40 rfl rfl (by decide) rfl rfl rfl (Nat.le_of_ble_eq_true rfl) rfl dX2_append_53 (fun H locs hM => ?_)
      have hM : zM Γ A s.heap (zup (zup (zup G (X (40 + 31)) (zI Γ 20 (va_up d gv w))) (X 82) (.inr (4, [.ref (X 31), .int (nI 1), .int sg, .int (nI (gv + 1))]))) (X 31) (.inr (5, [.ref (X (40 + 31)), .int (nI (gv + 1)), .int sg]))) H locs := by
        rw [zup_zup] at hM; exact hM
      rw [hQ]
      rw [hAe] at hM
      exact z_vret hsz hx hb hr hlocks hK hM dX2_append_56 (took_fin hX hC (fun x hx => by rw [zup_n _ _ (hx 31 (by simp)), zup_n _ _ (hx 82 (by simp)), zup_n _ _ (hx 71 (by simp))]) (zup_s _ _ _) ((zup_n _ _ (hX.ne (by unfold vd vw; omega) (by unfold vd vw; omega) (by omega))).trans ((zup_n _ _ (hX.ne (by unfold vd vw; omega) (by unfold vd vw; omega) (by omega))).trans (zup_s _ _ _))) ((zup_n _ _ (hX.ne (by unfold vd vw; omega) (by unfold vd vw; omega) (by omega))).trans (zup_s _ _ _)) hd hgv hw31 hgd (by have hs2 : sg = -1 ∨ sg = 1 := (by rcases hsg with h | h | h; exact Or.inl h; exact absurd h hc31; exact Or.inr h); rw [unit_abs hs2]; exact (nl_vl (up_dg0 hgd hw31) (fun _ => by rw [Nat.add_sub_cancel, va_up_self]; exact hc24)).symm) ((sgI_unit hsg (by rw [up_vl0]; have := bp_pos gv; have := Nat.mul_pos (Nat.pos_of_ne_zero hc24) this; omega)).symm) hsg)
