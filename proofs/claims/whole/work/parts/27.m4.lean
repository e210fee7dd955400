set_option maxRecDepth 100000 in
set_option maxHeartbeats 4000000 in
theorem m_add (l : Launch) (Γ : zT) {o lF lL lB : Nat} (hok : mdk o lF lL lB) (G0 : zG) (fl : Nat → Int32) (F L B : Nat → Nat) (sz : Nat) (t a b : Nat) (za zb : Int) (ht : t < 455) (ha : a < 455) (hbb : b < 455) (na : nv F L a za.natAbs) (nb : nv F L b zb.natAbs) (hBa : B a = sb za) (hBb : B b = sb zb) (hLa : L a ≤ 71) (hLb : L b ≤ 71) : zMv l yX5_add wsX5_add (zR 3) Γ (md Γ o lF lL lB G0 fl F L B) sz [.ref o, .int (nI t), .int (nI a), .int (nI b)] (fun G' => ∃ F', G' = md Γ o lF lL lB G0 fl F' (va_up L t (nl (za + zb).natAbs)) (va_up B t (sb (za + zb))) ∧ fr72 F F' t ∧ nv F' (va_up L t (nl (za + zb).natAbs)) t (za + zb).natAbs) 0 0 := by
  refine z_start (cc := cX5_add) (maxL := 6) (ret := none) (by decide) rfl (Nat.le_of_ble_eq_true rfl) ?_
  intro p e s m args below meth c ls Q hQ hsz hx hb hr hml hown hts hlocks hnm hK hM hl
  obtain ⟨A, hAe⟩ : ∃ A, A = zA (md Γ o lF lL lB G0 fl F L B) s.heap.size := ⟨_, rfl⟩
  rw [← hAe] at hM
  have hl : lv_has ls 6 [(0, .ref o), (1, .int (nI t)), (2, .int (nI a)), (3, .int (nI b))] := hl
  have hin5 : ∀ w ∈ wsX50, w ∈ wsX5_add := by decide +kernel
  have hf_length := hts (.fieldLink RX5 13 "CutRowsModel" "length" "[I") (by decide +kernel)
  have hf_isBelow := hts (.fieldLink RX5 16 "CutRowsModel" "isBelow" "[Z") (by decide +kernel)
  have hsa := sb_lt za
  have hsb := sb_lt zb
  refine lv_aload_n hx hb dX5_add_0 rfl (lv_at hl 0 rfl) ?_
  refine m_get hok hx hb hts hin5 hown hK hM 6 hf_isBelow rfl (by decide) (v := .ref lB) rfl dX5_add_1 ?_
  refine lv_iload_n hx hb dX5_add_4 rfl (lv_at hl 2 rfl) ?_
  refine m_ldB hok hx hb hK hM (by omega) dX5_add_5 ?_
  refine lv_istore (lv' := [(4, .int (nI (B a))), (0, .ref o), (1, .int (nI t)), (2, .int (nI a)), (3, .int (nI b))]) hx hb dX5_add_6 hl (by decide) rfl (fun ls hl => ?_)
  refine lv_aload_n hx hb dX5_add_8 rfl (lv_at hl 1 rfl) ?_
  refine m_get hok hx hb hts hin5 hown hK hM 6 hf_isBelow rfl (by decide) (v := .ref lB) rfl dX5_add_9 ?_
  refine lv_iload_n hx hb dX5_add_12 rfl (lv_at hl 4 rfl) ?_
  refine m_ldB hok hx hb hK hM (by omega) dX5_add_13 ?_
  refine lv_istore (lv' := [(5, .int (nI (B b))), (4, .int (nI (B a))), (0, .ref o), (1, .int (nI t)), (2, .int (nI a)), (3, .int (nI b))]) hx hb dX5_add_14 hl (by decide) rfl (fun ls hl => ?_)
  refine lv_iload hx hb dX5_add_16 (lv_at hl 1 rfl) ?_
  refine lv_iload hx hb dX5_add_18 (lv_at hl 0 rfl) ?_
  refine z_icmp_ne (tgt := 58) hx hb (by omega) (by omega) dX5_add_20 (by decide) (fun hc20 => ?_) (fun hc20 => ?_)
  · refine lv_aload_n hx hb dX5_add_58 rfl (lv_at hl 2 rfl) ?_
    refine lv_iload_n hx hb dX5_add_59 rfl (lv_at hl 4 rfl) ?_
    refine lv_iload_n hx hb dX5_add_60 rfl (lv_at hl 5 rfl) ?_
    refine z_calli0 (va_runV (As := [.int (nI a), .int (nI b)]) (rest := []) ⟨hx, hb, hml, hown, hts⟩ (m_compareSizes l Γ hok G0 fl F L B _ a b za.natAbs zb.natAbs ha hbb na nb) (cwV 2 hts gX5_add_X5_compareSizes rfl rfl rfl (by decide +kernel) ⟨Nat.le_of_ble_eq_true rfl, Nat.le_of_ble_eq_true rfl⟩) (zM.preV hK hM (md_o hok) rfl rfl) rfl rfl hl.1 rfl (lv_room (Nat.le_of_ble_eq_true rfl)) dX5_add_61 ⟨Nat.le_of_ble_eq_true rfl, Nat.le_of_ble_eq_true rfl⟩) hM (fun r61 G61 H locs hp61 hM => ?_)
    obtain ⟨rfl, rfl⟩ := hp61
    refine lv_if_lt (tgt := 102) hx hb dX5_add_64 (by decide) (fun hc64 => ?_) (fun hc64 => ?_)
    · refine lv_aload_n hx hb dX5_add_102 rfl (lv_at hl 2 rfl) ?_
      refine lv_iload_n hx hb dX5_add_103 rfl (lv_at hl 3 rfl) ?_
      refine lv_iload_n hx hb dX5_add_104 rfl (lv_at hl 5 rfl) ?_
      refine lv_iload_n hx hb dX5_add_105 rfl (lv_at hl 4 rfl) ?_
      have hlt : za.natAbs < zb.natAbs := by
        rcases Nat.lt_or_ge za.natAbs zb.natAbs with g | g
        · exact g
        · rcases Nat.lt_or_ge zb.natAbs za.natAbs with g2 | g2
          · rw [← cmp3_gt g2] at hc64; exact absurd hc64 (by decide)
          · rw [← cmp3_eq (Nat.le_antisymm g2 g)] at hc64; exact absurd hc64 (by decide)
      refine z_callv0 (va_runV (As := [.int (nI t), .int (nI b), .int (nI a)]) (rest := []) ⟨hx, hb, hml, hown, hts⟩ (m_subtractSizes l Γ hok G0 fl F L B _ t b a zb.natAbs za.natAbs ht hbb ha nb na (by omega)) (cwV 3 hts gX5_add_X5_subtractSizes rfl rfl rfl (by decide +kernel) ⟨Nat.le_of_ble_eq_true rfl, Nat.le_of_ble_eq_true rfl⟩) (zM.preV hK hM (md_o hok) rfl rfl) rfl rfl hl.1 rfl (lv_room (Nat.le_of_ble_eq_true rfl)) dX5_add_106 ⟨Nat.le_of_ble_eq_true rfl, Nat.le_of_ble_eq_true rfl⟩) hM (fun G106 H locs hp106 hM => ?_)
      obtain ⟨F1, rfl, hfr, hn⟩ := hp106
      refine lv_aload_n hx hb dX5_add_109 rfl (lv_at hl 2 rfl) ?_
      refine m_get hok hx hb hts hin5 hown hK hM 6 hf_isBelow rfl (by decide) (v := .ref lB) rfl dX5_add_110 ?_
      refine lv_iload_n hx hb dX5_add_113 rfl (lv_at hl 3 rfl) ?_
      refine lv_iload hx hb dX5_add_114 (lv_at hl 0 rfl) ?_
      refine m_stB hok hx hb hK hM (by omega) (by omega) dX5_add_116 (fun H locs hM => ?_)
      rw [hQ]
      rw [hAe] at hM
      exact z_vret hsz hx hb hr hlocks hK hM dX5_add_117 (by
            have hz : zb.natAbs - za.natAbs = (za + zb).natAbs ∧ B b = sb (za + zb) := by
              have e1 := sb_or za; have e2 := sb_or zb; have e3 := sb_or (za + zb)
              have hp := @nl_pos (zb.natAbs - za.natAbs)
              omega
            exact ⟨F1, add_post hz.1 hz.2, hfr, by rw [← hz.1]; exact hn⟩)
    · refine lv_aload_n hx hb dX5_add_67 rfl (lv_at hl 2 rfl) ?_
      refine lv_iload_n hx hb dX5_add_68 rfl (lv_at hl 3 rfl) ?_
      refine lv_iload_n hx hb dX5_add_69 rfl (lv_at hl 4 rfl) ?_
      refine lv_iload_n hx hb dX5_add_70 rfl (lv_at hl 5 rfl) ?_
      have hle : zb.natAbs ≤ za.natAbs := by
        rcases Nat.lt_or_ge za.natAbs zb.natAbs with g | g
        · rw [← cmp3_lt g] at hc64; exact absurd (by decide) hc64
        · exact g
      refine z_callv0 (va_runV (As := [.int (nI t), .int (nI a), .int (nI b)]) (rest := []) ⟨hx, hb, hml, hown, hts⟩ (m_subtractSizes l Γ hok G0 fl F L B _ t a b za.natAbs zb.natAbs ht ha hbb na nb hle) (cwV 3 hts gX5_add_X5_subtractSizes rfl rfl rfl (by decide +kernel) ⟨Nat.le_of_ble_eq_true rfl, Nat.le_of_ble_eq_true rfl⟩) (zM.preV hK hM (md_o hok) rfl rfl) rfl rfl hl.1 rfl (lv_room (Nat.le_of_ble_eq_true rfl)) dX5_add_71 ⟨Nat.le_of_ble_eq_true rfl, Nat.le_of_ble_eq_true rfl⟩) hM (fun G71 H locs hp71 hM => ?_)
      obtain ⟨F1, rfl, hfr, hn⟩ := hp71
      have hx72 := hn.2.1
      refine lv_aload_n hx hb dX5_add_74 rfl (lv_at hl 2 rfl) ?_
      refine m_get hok hx hb hts hin5 hown hK hM 6 hf_isBelow rfl (by decide) (v := .ref lB) rfl dX5_add_75 ?_
      refine lv_iload_n hx hb dX5_add_78 rfl (lv_at hl 3 rfl) ?_
      refine lv_iload hx hb dX5_add_79 (lv_at hl 1 rfl) ?_
      refine z_if_eq (tgt := 97) hx hb (by omega) dX5_add_81 (by decide) (fun hc81 => ?_) (fun hc81 => ?_)
      · refine lv_iconst (v := nI 0) hx hb dX5_add_97 rfl ?_
        refine m_stB hok hx hb hK hM (by omega) (by omega) dX5_add_98 (fun H locs hM => ?_)
        refine lv_goto (tgt := 117) hx hb dX5_add_99 (by decide) ?_
        rw [hQ]
        rw [hAe] at hM
        exact z_vret hsz hx hb hr hlocks hK hM dX5_add_117 (by
              have hz : za.natAbs - zb.natAbs = (za + zb).natAbs ∧ 0 = sb (za + zb) := by
                have e1 := sb_or za; have e2 := sb_or zb; have e3 := sb_or (za + zb)
                have hp := @nl_pos (za.natAbs - zb.natAbs)
                omega
              exact ⟨F1, add_post hz.1 hz.2, hfr, by rw [← hz.1]; exact hn⟩)
      · refine lv_aload_n hx hb dX5_add_84 rfl (lv_at hl 2 rfl) ?_
        refine m_get hok hx hb hts hin5 hown hK hM 5 hf_length rfl (by decide) (v := .ref lL) rfl dX5_add_85 ?_
        refine lv_iload_n hx hb dX5_add_88 rfl (lv_at hl 3 rfl) ?_
        refine m_ldL hok hx hb hK hM (by omega) dX5_add_89 ?_
        refine z_asi (y := nI (nl (za.natAbs - zb.natAbs))) (congrArg nI (va_up_self _ _ _)) ?_
        refine z_if_le (tgt := 97) hx hb (by omega) dX5_add_90 (by decide) (fun hc90 => ?_) (fun hc90 => ?_)
        · refine lv_iconst (v := nI 0) hx hb dX5_add_97 rfl ?_
          refine m_stB hok hx hb hK hM (by omega) (by omega) dX5_add_98 (fun H locs hM => ?_)
          refine lv_goto (tgt := 117) hx hb dX5_add_99 (by decide) ?_
          rw [hQ]
          rw [hAe] at hM
          exact z_vret hsz hx hb hr hlocks hK hM dX5_add_117 (by
                have hz : za.natAbs - zb.natAbs = (za + zb).natAbs ∧ 0 = sb (za + zb) := by
                  have e1 := sb_or za; have e2 := sb_or zb; have e3 := sb_or (za + zb)
                  have hp := @nl_pos (za.natAbs - zb.natAbs)
                  omega
                exact ⟨F1, add_post hz.1 hz.2, hfr, by rw [← hz.1]; exact hn⟩)
        · refine lv_iconst (v := nI 1) hx hb dX5_add_93 rfl ?_
          refine lv_goto (tgt := 98) hx hb dX5_add_94 (by decide) ?_
          refine m_stB hok hx hb hK hM (by omega) (by omega) dX5_add_98 (fun H locs hM => ?_)
          refine lv_goto (tgt := 117) hx hb dX5_add_99 (by decide) ?_
          rw [hQ]
          rw [hAe] at hM
          exact z_vret hsz hx hb hr hlocks hK hM dX5_add_117 (by
                have hz : za.natAbs - zb.natAbs = (za + zb).natAbs ∧ 1 = sb (za + zb) := by
                  have e1 := sb_or za; have e2 := sb_or zb; have e3 := sb_or (za + zb)
                  have hp := @nl_pos (za.natAbs - zb.natAbs)
                  omega
                exact ⟨F1, add_post hz.1 hz.2, hfr, by rw [← hz.1]; exact hn⟩)
  · refine lv_aload_n hx hb dX5_add_23 rfl (lv_at hl 2 rfl) ?_
    refine lv_iload_n hx hb dX5_add_24 rfl (lv_at hl 3 rfl) ?_
    refine lv_iload_n hx hb dX5_add_25 rfl (lv_at hl 4 rfl) ?_
    refine lv_iload_n hx hb dX5_add_26 rfl (lv_at hl 5 rfl) ?_
    refine z_callv0 (va_runV (As := [.int (nI t), .int (nI a), .int (nI b)]) (rest := []) ⟨hx, hb, hml, hown, hts⟩ (m_addSizes l Γ hok G0 fl F L B _ t a b za.natAbs zb.natAbs ht ha hbb na nb hLa hLb) (cwV 3 hts gX5_add_X5_addSizes rfl rfl rfl (by decide +kernel) ⟨Nat.le_of_ble_eq_true rfl, Nat.le_of_ble_eq_true rfl⟩) (zM.preV hK hM (md_o hok) rfl rfl) rfl rfl hl.1 rfl (lv_room (Nat.le_of_ble_eq_true rfl)) dX5_add_27 ⟨Nat.le_of_ble_eq_true rfl, Nat.le_of_ble_eq_true rfl⟩) hM (fun G27 H locs hp27 hM => ?_)
    obtain ⟨F1, rfl, hfr, hn⟩ := hp27
    have hx72 := hn.2.1
    refine lv_aload_n hx hb dX5_add_30 rfl (lv_at hl 2 rfl) ?_
    refine m_get hok hx hb hts hin5 hown hK hM 6 hf_isBelow rfl (by decide) (v := .ref lB) rfl dX5_add_31 ?_
    refine lv_iload_n hx hb dX5_add_34 rfl (lv_at hl 3 rfl) ?_
    refine lv_iload hx hb dX5_add_35 (lv_at hl 1 rfl) ?_
    refine z_if_eq (tgt := 53) hx hb (by omega) dX5_add_37 (by decide) (fun hc37 => ?_) (fun hc37 => ?_)
    · refine lv_iconst (v := nI 0) hx hb dX5_add_53 rfl ?_
      refine m_stB hok hx hb hK hM (by omega) (by omega) dX5_add_54 (fun H locs hM => ?_)
      refine lv_goto (tgt := 117) hx hb dX5_add_55 (by decide) ?_
      rw [hQ]
      rw [hAe] at hM
      exact z_vret hsz hx hb hr hlocks hK hM dX5_add_117 (by
            have hz : za.natAbs + zb.natAbs = (za + zb).natAbs ∧ 0 = sb (za + zb) := by
              have e1 := sb_or za; have e2 := sb_or zb; have e3 := sb_or (za + zb)
              have hp := @nl_pos (za.natAbs + zb.natAbs)
              omega
            exact ⟨F1, add_post hz.1 hz.2, hfr, by rw [← hz.1]; exact hn⟩)
    · refine lv_aload_n hx hb dX5_add_40 rfl (lv_at hl 2 rfl) ?_
      refine m_get hok hx hb hts hin5 hown hK hM 5 hf_length rfl (by decide) (v := .ref lL) rfl dX5_add_41 ?_
      refine lv_iload_n hx hb dX5_add_44 rfl (lv_at hl 3 rfl) ?_
      refine m_ldL hok hx hb hK hM (by omega) dX5_add_45 ?_
      refine z_asi (y := nI (nl (za.natAbs + zb.natAbs))) (congrArg nI (va_up_self _ _ _)) ?_
      refine z_if_le (tgt := 53) hx hb (by omega) dX5_add_46 (by decide) (fun hc46 => ?_) (fun hc46 => ?_)
      · refine lv_iconst (v := nI 0) hx hb dX5_add_53 rfl ?_
        refine m_stB hok hx hb hK hM (by omega) (by omega) dX5_add_54 (fun H locs hM => ?_)
        refine lv_goto (tgt := 117) hx hb dX5_add_55 (by decide) ?_
        rw [hQ]
        rw [hAe] at hM
        exact z_vret hsz hx hb hr hlocks hK hM dX5_add_117 (by
              have hz : za.natAbs + zb.natAbs = (za + zb).natAbs ∧ 0 = sb (za + zb) := by
                have e1 := sb_or za; have e2 := sb_or zb; have e3 := sb_or (za + zb)
                have hp := @nl_pos (za.natAbs + zb.natAbs)
                omega
              exact ⟨F1, add_post hz.1 hz.2, hfr, by rw [← hz.1]; exact hn⟩)
      · refine lv_iconst (v := nI 1) hx hb dX5_add_49 rfl ?_
        refine lv_goto (tgt := 54) hx hb dX5_add_50 (by decide) ?_
        refine m_stB hok hx hb hK hM (by omega) (by omega) dX5_add_54 (fun H locs hM => ?_)
        refine lv_goto (tgt := 117) hx hb dX5_add_55 (by decide) ?_
        rw [hQ]
        rw [hAe] at hM
        exact z_vret hsz hx hb hr hlocks hK hM dX5_add_117 (by
              have hz : za.natAbs + zb.natAbs = (za + zb).natAbs ∧ 1 = sb (za + zb) := by
                have e1 := sb_or za; have e2 := sb_or zb; have e3 := sb_or (za + zb)
                have hp := @nl_pos (za.natAbs + zb.natAbs)
                omega
              exact ⟨F1, add_post hz.1 hz.2, hfr, by rw [← hz.1]; exact hn⟩)
