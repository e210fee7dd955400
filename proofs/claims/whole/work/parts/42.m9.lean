set_option maxRecDepth 100000 in
set_option maxHeartbeats 4000000 in
theorem m_thrown (l : Launch) (Γ : zT) {o lF lL lB : Nat} (hok : mdk o lF lL lB) (G0 : zG) (fl : Nat → Int32) (F L B : Nat → Nat) (sz : Nat)  : zMi l yX5_thrown wsX5_thrown (zR 1) Γ (md Γ o lF lL lB G0 fl F L B) sz [.ref o] (fun r G' => r = fl 0 ∧ G' = md Γ o lF lL lB G0 fl F L B) 0 0 := by
  refine z_start (cc := cX5_thrown) (maxL := 1) (ret := (some .int)) (by decide) rfl (Nat.le_of_ble_eq_true rfl) ?_
  intro p e s m args below meth c ls Q hQ hsz hx hb hr hml hown hts hlocks hnm hK hM hl
  obtain ⟨A, hAe⟩ : ∃ A, A = zA (md Γ o lF lL lB G0 fl F L B) s.heap.size := ⟨_, rfl⟩
  rw [← hAe] at hM
  have hl : lv_has ls 1 [(0, .ref o)] := hl
  have hin5 : ∀ w ∈ wsX50, w ∈ wsX5_thrown := by decide +kernel
  have hf_refusal := hts (.fieldLink RX5 34 "CutRowsModel" "refusal" "I") (by decide +kernel)
  refine lv_aload_n hx hb dX5_thrown_0 rfl (lv_at hl 0 rfl) ?_
  refine m_get hok hx hb hts hin5 hown hK hM 0 hf_refusal rfl (by decide) (v := .int (fl 0)) rfl dX5_thrown_1 ?_
  rw [hQ]
  rw [hAe] at hM
  exact z_iret hsz hx hb hr hlocks hK hM dX5_thrown_4 (⟨rfl, rfl⟩)

set_option maxRecDepth 100000 in
set_option maxHeartbeats 4000000 in
theorem m_placeOf (l : Launch) (Γ : zT) {o lF lL lB : Nat} (hok : mdk o lF lL lB) (G0 : zG) (fl : Nat → Int32) (F L B : Nat → Nat) (sz : Nat) (r k : Nat) : zMi l yX5_placeOf wsX5_placeOf (zR 1) Γ (md Γ o lF lL lB G0 fl F L B) sz [.int (nI r), .int (nI k)] (fun x G' => x = nI (7 * r + k) ∧ G' = md Γ o lF lL lB G0 fl F L B) 0 0 := by
  refine z_start (cc := cX5_placeOf) (maxL := 2) (ret := (some .int)) (by decide) rfl (Nat.le_of_ble_eq_true rfl) ?_
  intro p e s m args below meth c ls Q hQ hsz hx hb hr hml hown hts hlocks hnm hK hM hl
  obtain ⟨A, hAe⟩ : ∃ A, A = zA (md Γ o lF lL lB G0 fl F L B) s.heap.size := ⟨_, rfl⟩
  rw [← hAe] at hM
  have hl : lv_has ls 2 [(0, .int (nI r)), (1, .int (nI k))] := hl
  refine lv_bipush (v := nI 7) hx hb dX5_placeOf_0 rfl ?_
  refine lv_iload_n hx hb dX5_placeOf_2 rfl (lv_at hl 0 rfl) ?_
  refine z_imul hx hb dX5_placeOf_3 ?_
  refine lv_iload_n hx hb dX5_placeOf_4 rfl (lv_at hl 1 rfl) ?_
  refine z_iadd hx hb dX5_placeOf_5 ?_
  rw [hQ]
  rw [hAe] at hM
  exact z_iret hsz hx hb hr hlocks hK hM dX5_placeOf_6 (⟨rfl, rfl⟩)

set_option maxRecDepth 100000 in
set_option maxHeartbeats 4000000 in
theorem m_isRow (l : Launch) (Γ : zT) {o lF lL lB : Nat} (hok : mdk o lF lL lB) (G0 : zG) (fl : Nat → Int32) (F L B : Nat → Nat) (sz : Nat) (row : Int32) (nr : Nat) (hnr : fl 7 = nI nr) : zMi l yX5_isRow wsX5_isRow (zR 1) Γ (md Γ o lF lL lB G0 fl F L B) sz [.ref o, .int row] (fun x G' => x = nI (if row < 0 ∨ nI nr ≤ row then 0 else 1) ∧ G' = md Γ o lF lL lB G0 fl F L B) 0 0 := by
  refine z_start (cc := cX5_isRow) (maxL := 2) (ret := (some .boolean)) (by decide) rfl (Nat.le_of_ble_eq_true rfl) ?_
  intro p e s m args below meth c ls Q hQ hsz hx hb hr hml hown hts hlocks hnm hK hM hl
  obtain ⟨A, hAe⟩ : ∃ A, A = zA (md Γ o lF lL lB G0 fl F L B) s.heap.size := ⟨_, rfl⟩
  rw [← hAe] at hM
  have hl : lv_has ls 2 [(0, .ref o), (1, .int row)] := hl
  have hin5 : ∀ w ∈ wsX50, w ∈ wsX5_isRow := by decide +kernel
  have hf_rows := hts (.fieldLink RX5 96 "CutRowsModel" "rows" "I") (by decide +kernel)
  refine lv_iload_n hx hb dX5_isRow_0 rfl (lv_at hl 1 rfl) ?_
  refine lv_if_lt (tgt := 16) hx hb dX5_isRow_1 (by decide) (fun hc1 => ?_) (fun hc1 => ?_)
  · refine lv_iconst (v := nI 0) hx hb dX5_isRow_16 rfl ?_
    rw [hQ]
    rw [hAe] at hM
    exact z_zret (by omega) hsz hx hb hr hlocks hK hM dX5_isRow_17 (⟨congrArg nI ((if_pos (Or.inl hc1)).symm), rfl⟩)
  · refine lv_iload_n hx hb dX5_isRow_4 rfl (lv_at hl 1 rfl) ?_
    refine lv_aload_n hx hb dX5_isRow_5 rfl (lv_at hl 0 rfl) ?_
    refine m_get hok hx hb hts hin5 hown hK hM 7 hf_rows rfl (by decide) (v := .int (fl 7)) rfl dX5_isRow_6 ?_
    refine z_asi (y := nI nr) hnr ?_
    refine lv_icmp_ge (tgt := 16) hx hb dX5_isRow_9 (by decide) (fun hc9 => ?_) (fun hc9 => ?_)
    · refine lv_iconst (v := nI 0) hx hb dX5_isRow_16 rfl ?_
      rw [hQ]
      rw [hAe] at hM
      exact z_zret (by omega) hsz hx hb hr hlocks hK hM dX5_isRow_17 (⟨congrArg nI ((if_pos (Or.inr hc9)).symm), rfl⟩)
    · refine lv_iconst (v := nI 1) hx hb dX5_isRow_12 rfl ?_
      refine lv_goto (tgt := 17) hx hb dX5_isRow_13 (by decide) ?_
      rw [hQ]
      rw [hAe] at hM
      exact z_zret (by omega) hsz hx hb hr hlocks hK hM dX5_isRow_17 (⟨congrArg nI ((if_neg (fun h => h.elim hc1 hc9)).symm), rfl⟩)

set_option maxRecDepth 100000 in
set_option maxHeartbeats 4000000 in
theorem m_settle (l : Launch) (Γ : zT) {o lF lL lB : Nat} (hok : mdk o lF lL lB) (G0 : zG) (fl : Nat → Int32) (F L B : Nat → Nat) (sz : Nat) (sg : Int32) (gv : Nat) (h13 : fl 13 = sg) (h14 : fl 14 = nI gv) (hgv : gv ≤ 20) (hsg : sg = -1 ∨ sg = 0 ∨ sg = 1) (hd : dg (fun j => F (72 * 440 + j)) gv) : zMv l yX5_settle wsX5_settle (zR 2) Γ (md Γ o lF lL lB G0 fl F L B) sz [.ref o] (fun G' => G' = md Γ o lF lL lB G0 fl F (va_up L 440 (nl (sg.toInt * (vl (fun j => F (72 * 440 + j)) gv : Nat)).natAbs)) (va_up B 440 (sb (sg.toInt * (vl (fun j => F (72 * 440 + j)) gv : Nat)))) ∧ nv F (va_up L 440 (nl (sg.toInt * (vl (fun j => F (72 * 440 + j)) gv : Nat)).natAbs)) 440 (sg.toInt * (vl (fun j => F (72 * 440 + j)) gv : Nat)).natAbs) 0 0 := by
  refine z_start (cc := cX5_settle) (maxL := 1) (ret := none) (by decide) rfl (Nat.le_of_ble_eq_true rfl) ?_
  intro p e s m args below meth c ls Q hQ hsz hx hb hr hml hown hts hlocks hnm hK hM hl
  obtain ⟨A, hAe⟩ : ∃ A, A = zA (md Γ o lF lL lB G0 fl F L B) s.heap.size := ⟨_, rfl⟩
  rw [← hAe] at hM
  have hl : lv_has ls 1 [(0, .ref o)] := hl
  have hin5 : ∀ w ∈ wsX50, w ∈ wsX5_settle := by decide +kernel
  have hf_length := hts (.fieldLink RX5 13 "CutRowsModel" "length" "[I") (by decide +kernel)
  have hf_isBelow := hts (.fieldLink RX5 16 "CutRowsModel" "isBelow" "[Z") (by decide +kernel)
  have hf_sign := hts (.fieldLink RX5 81 "CutRowsModel" "sign" "I") (by decide +kernel)
  have hf_given := hts (.fieldLink RX5 87 "CutRowsModel" "given" "I") (by decide +kernel)
  refine lv_aload_n hx hb dX5_settle_0 rfl (lv_at hl 0 rfl) ?_
  refine m_get hok hx hb hts hin5 hown hK hM 5 hf_length rfl (by decide) (v := .ref lL) rfl dX5_settle_1 ?_
  refine lv_sipush (v := nI 440) hx hb dX5_settle_4 rfl ?_
  refine lv_aload_n hx hb dX5_settle_7 rfl (lv_at hl 0 rfl) ?_
  refine m_get hok hx hb hts hin5 hown hK hM 13 hf_sign rfl (by decide) (v := .int (fl 13)) rfl dX5_settle_8 ?_
  refine z_asi (y := sg) (h13) ?_
  refine lv_if_ne (tgt := 18) hx hb dX5_settle_11 (by decide) (fun hc11 => ?_) (fun hc11 => ?_)
  · refine lv_aload_n hx hb dX5_settle_18 rfl (lv_at hl 0 rfl) ?_
    refine m_get hok hx hb hts hin5 hown hK hM 14 hf_given rfl (by decide) (v := .int (fl 14)) rfl dX5_settle_19 ?_
    refine z_asi (y := nI gv) (h14) ?_
    refine m_stL hok hx hb hK hM (by omega) dX5_settle_22 (fun H locs hM => ?_)
    refine lv_aload_n hx hb dX5_settle_23 rfl (lv_at hl 0 rfl) ?_
    refine m_get hok hx hb hts hin5 hown hK hM 6 hf_isBelow rfl (by decide) (v := .ref lB) rfl dX5_settle_24 ?_
    refine lv_sipush (v := nI 440) hx hb dX5_settle_27 rfl ?_
    refine lv_aload_n hx hb dX5_settle_30 rfl (lv_at hl 0 rfl) ?_
    refine m_get hok hx hb hts hin5 hown hK hM 13 hf_sign rfl (by decide) (v := .int (fl 13)) rfl dX5_settle_31 ?_
    refine z_asi (y := sg) (h13) ?_
    refine lv_if_ge (tgt := 41) hx hb dX5_settle_34 (by decide) (fun hc34 => ?_) (fun hc34 => ?_)
    · refine lv_iconst (v := nI 0) hx hb dX5_settle_41 rfl ?_
      refine m_stB hok hx hb hK hM (by omega) (by omega) dX5_settle_42 (fun H locs hM => ?_)
      refine lv_aload_n hx hb dX5_settle_43 rfl (lv_at hl 0 rfl) ?_
      refine lv_sipush (v := nI 440) hx hb dX5_settle_44 rfl ?_
      have hd2 : dg (fun k => F (72 * 440 + k)) gv := hd
      refine z_callv0 (va_runV (As := [.int (nI 440)]) (rest := []) ⟨hx, hb, hml, hown, hts⟩ (m_trim2 l Γ hok G0 fl F (va_up L 440 gv) (va_up B 440 0) _ 440 gv _ (by omega) (va_up_self _ _ _) (by omega) hd2 rfl) (cwV 1 hts gX5_settle_X5_trim rfl rfl rfl (by decide +kernel) ⟨Nat.le_of_ble_eq_true rfl, Nat.le_of_ble_eq_true rfl⟩) (zM.preV hK hM (md_o hok) rfl rfl) rfl rfl hl.1 rfl (lv_room (Nat.le_of_ble_eq_true rfl)) dX5_settle_47 ⟨Nat.le_of_ble_eq_true rfl, Nat.le_of_ble_eq_true rfl⟩) hM (fun G47 H locs hp47 hM => ?_)
      obtain rfl := hp47
      rw [hQ]
      rw [hAe] at hM
      exact z_vret hsz hx hb hr hlocks hK hM dX5_settle_50 (by
            have hv : vl (fun j => F (72 * 440 + j)) gv = (sg.toInt * (vl (fun j => F (72 * 440 + j)) gv : Nat)).natAbs := by
              rcases hsg with rfl | rfl | rfl
              · rw [show (-1 : Int32).toInt = -1 from rfl]; omega
              · exact absurd rfl hc11
              · rw [show (1 : Int32).toInt = 1 from rfl]; omega
            have hx3 : sg.toInt * (vl (fun j => F (72 * 440 + j)) gv : Nat) ≠ 0 → 0 = sb (sg.toInt * (vl (fun j => F (72 * 440 + j)) gv : Nat)) := by
              intro hz
              have e3 := sb_or (sg.toInt * (vl (fun j => F (72 * 440 + j)) gv : Nat))
              rcases hsg with rfl | rfl | rfl
              · exact absurd hc34 (by decide)
              · rw [show (0 : Int32).toInt = 0 from rfl] at hz; omega
              · rw [show (1 : Int32).toInt = 1 from rfl] at e3 hz ⊢; omega
            exact ⟨by rw [va_up_up, ← hv, settle_B hv hx3], nv_of hd2 hv (by omega)⟩)
    · refine lv_iconst (v := nI 1) hx hb dX5_settle_37 rfl ?_
      refine lv_goto (tgt := 42) hx hb dX5_settle_38 (by decide) ?_
      refine m_stB hok hx hb hK hM (by omega) (by omega) dX5_settle_42 (fun H locs hM => ?_)
      refine lv_aload_n hx hb dX5_settle_43 rfl (lv_at hl 0 rfl) ?_
      refine lv_sipush (v := nI 440) hx hb dX5_settle_44 rfl ?_
      have hd2 : dg (fun k => F (72 * 440 + k)) gv := hd
      refine z_callv0 (va_runV (As := [.int (nI 440)]) (rest := []) ⟨hx, hb, hml, hown, hts⟩ (m_trim2 l Γ hok G0 fl F (va_up L 440 gv) (va_up B 440 1) _ 440 gv _ (by omega) (va_up_self _ _ _) (by omega) hd2 rfl) (cwV 1 hts gX5_settle_X5_trim rfl rfl rfl (by decide +kernel) ⟨Nat.le_of_ble_eq_true rfl, Nat.le_of_ble_eq_true rfl⟩) (zM.preV hK hM (md_o hok) rfl rfl) rfl rfl hl.1 rfl (lv_room (Nat.le_of_ble_eq_true rfl)) dX5_settle_47 ⟨Nat.le_of_ble_eq_true rfl, Nat.le_of_ble_eq_true rfl⟩) hM (fun G47 H locs hp47 hM => ?_)
      obtain rfl := hp47
      rw [hQ]
      rw [hAe] at hM
      exact z_vret hsz hx hb hr hlocks hK hM dX5_settle_50 (by
            have hv : vl (fun j => F (72 * 440 + j)) gv = (sg.toInt * (vl (fun j => F (72 * 440 + j)) gv : Nat)).natAbs := by
              rcases hsg with rfl | rfl | rfl
              · rw [show (-1 : Int32).toInt = -1 from rfl]; omega
              · exact absurd rfl hc11
              · rw [show (1 : Int32).toInt = 1 from rfl]; omega
            have hx3 : sg.toInt * (vl (fun j => F (72 * 440 + j)) gv : Nat) ≠ 0 → 1 = sb (sg.toInt * (vl (fun j => F (72 * 440 + j)) gv : Nat)) := by
              intro hz
              have e3 := sb_or (sg.toInt * (vl (fun j => F (72 * 440 + j)) gv : Nat))
              rcases hsg with rfl | rfl | rfl
              · rw [show (-1 : Int32).toInt = -1 from rfl] at e3 hz ⊢; omega
              · exact absurd (by decide) hc34
              · exact absurd (by decide) hc34
            exact ⟨by rw [va_up_up, ← hv, settle_B hv hx3], nv_of hd2 hv (by omega)⟩)
  · refine lv_iconst (v := nI 0) hx hb dX5_settle_14 rfl ?_
    refine lv_goto (tgt := 22) hx hb dX5_settle_15 (by decide) ?_
    refine m_stL hok hx hb hK hM (by omega) dX5_settle_22 (fun H locs hM => ?_)
    refine lv_aload_n hx hb dX5_settle_23 rfl (lv_at hl 0 rfl) ?_
    refine m_get hok hx hb hts hin5 hown hK hM 6 hf_isBelow rfl (by decide) (v := .ref lB) rfl dX5_settle_24 ?_
    refine lv_sipush (v := nI 440) hx hb dX5_settle_27 rfl ?_
    refine lv_aload_n hx hb dX5_settle_30 rfl (lv_at hl 0 rfl) ?_
    refine m_get hok hx hb hts hin5 hown hK hM 13 hf_sign rfl (by decide) (v := .int (fl 13)) rfl dX5_settle_31 ?_
    refine z_asi (y := sg) (h13) ?_
    refine lv_if_ge (tgt := 41) hx hb dX5_settle_34 (by decide) (fun hc34 => ?_) (fun hc34 => ?_)
    · refine lv_iconst (v := nI 0) hx hb dX5_settle_41 rfl ?_
      refine m_stB hok hx hb hK hM (by omega) (by omega) dX5_settle_42 (fun H locs hM => ?_)
      refine lv_aload_n hx hb dX5_settle_43 rfl (lv_at hl 0 rfl) ?_
      refine lv_sipush (v := nI 440) hx hb dX5_settle_44 rfl ?_
      have hd2 : dg (fun k => F (72 * 440 + k)) 0 := fun k hk => by omega
      refine z_callv0 (va_runV (As := [.int (nI 440)]) (rest := []) ⟨hx, hb, hml, hown, hts⟩ (m_trim2 l Γ hok G0 fl F (va_up L 440 0) (va_up B 440 0) _ 440 0 _ (by omega) (va_up_self _ _ _) (by omega) hd2 rfl) (cwV 1 hts gX5_settle_X5_trim rfl rfl rfl (by decide +kernel) ⟨Nat.le_of_ble_eq_true rfl, Nat.le_of_ble_eq_true rfl⟩) (zM.preV hK hM (md_o hok) rfl rfl) rfl rfl hl.1 rfl (lv_room (Nat.le_of_ble_eq_true rfl)) dX5_settle_47 ⟨Nat.le_of_ble_eq_true rfl, Nat.le_of_ble_eq_true rfl⟩) hM (fun G47 H locs hp47 hM => ?_)
      obtain rfl := hp47
      rw [hQ]
      rw [hAe] at hM
      exact z_vret hsz hx hb hr hlocks hK hM dX5_settle_50 (by
            have hv : vl (fun j => F (72 * 440 + j)) 0 = (sg.toInt * (vl (fun j => F (72 * 440 + j)) gv : Nat)).natAbs := by
              rcases hsg with rfl | rfl | rfl
              · exact absurd hc11 (by decide)
              · rw [show (0 : Int32).toInt = 0 from rfl]; rw [vl_0]; omega
              · exact absurd hc11 (by decide)
            have hx3 : sg.toInt * (vl (fun j => F (72 * 440 + j)) gv : Nat) ≠ 0 → 0 = sb (sg.toInt * (vl (fun j => F (72 * 440 + j)) gv : Nat)) := by
              intro hz
              have e3 := sb_or (sg.toInt * (vl (fun j => F (72 * 440 + j)) gv : Nat))
              rcases hsg with rfl | rfl | rfl
              · exact absurd hc34 (by decide)
              · rw [show (0 : Int32).toInt = 0 from rfl] at hz; omega
              · rw [show (1 : Int32).toInt = 1 from rfl] at e3 hz ⊢; omega
            exact ⟨by rw [va_up_up, ← hv, settle_B hv hx3], nv_of hd2 hv (by omega)⟩)
    · refine lv_iconst (v := nI 1) hx hb dX5_settle_37 rfl ?_
      refine lv_goto (tgt := 42) hx hb dX5_settle_38 (by decide) ?_
      refine m_stB hok hx hb hK hM (by omega) (by omega) dX5_settle_42 (fun H locs hM => ?_)
      refine lv_aload_n hx hb dX5_settle_43 rfl (lv_at hl 0 rfl) ?_
      refine lv_sipush (v := nI 440) hx hb dX5_settle_44 rfl ?_
      have hd2 : dg (fun k => F (72 * 440 + k)) 0 := fun k hk => by omega
      refine z_callv0 (va_runV (As := [.int (nI 440)]) (rest := []) ⟨hx, hb, hml, hown, hts⟩ (m_trim2 l Γ hok G0 fl F (va_up L 440 0) (va_up B 440 1) _ 440 0 _ (by omega) (va_up_self _ _ _) (by omega) hd2 rfl) (cwV 1 hts gX5_settle_X5_trim rfl rfl rfl (by decide +kernel) ⟨Nat.le_of_ble_eq_true rfl, Nat.le_of_ble_eq_true rfl⟩) (zM.preV hK hM (md_o hok) rfl rfl) rfl rfl hl.1 rfl (lv_room (Nat.le_of_ble_eq_true rfl)) dX5_settle_47 ⟨Nat.le_of_ble_eq_true rfl, Nat.le_of_ble_eq_true rfl⟩) hM (fun G47 H locs hp47 hM => ?_)
      obtain rfl := hp47
      rw [hQ]
      rw [hAe] at hM
      exact z_vret hsz hx hb hr hlocks hK hM dX5_settle_50 (by
            have hv : vl (fun j => F (72 * 440 + j)) 0 = (sg.toInt * (vl (fun j => F (72 * 440 + j)) gv : Nat)).natAbs := by
              rcases hsg with rfl | rfl | rfl
              · exact absurd hc11 (by decide)
              · rw [show (0 : Int32).toInt = 0 from rfl]; rw [vl_0]; omega
              · exact absurd hc11 (by decide)
            have hx3 : sg.toInt * (vl (fun j => F (72 * 440 + j)) gv : Nat) ≠ 0 → 1 = sb (sg.toInt * (vl (fun j => F (72 * 440 + j)) gv : Nat)) := by
              intro hz
              have e3 := sb_or (sg.toInt * (vl (fun j => F (72 * 440 + j)) gv : Nat))
              rcases hsg with rfl | rfl | rfl
              · rw [show (-1 : Int32).toInt = -1 from rfl] at e3 hz ⊢; omega
              · exact absurd (by decide) hc34
              · exact absurd (by decide) hc34
            exact ⟨by rw [va_up_up, ← hv, settle_B hv hx3], nv_of hd2 hv (by omega)⟩)
