set_option maxRecDepth 100000 in
set_option maxHeartbeats 4000000 in
theorem m_compareSizes (l : Launch) (Γ : zT) {o lF lL lB : Nat} (hok : mdk o lF lL lB) (G0 : zG) (fl : Nat → Int32) (F L B : Nat → Nat) (sz : Nat) (a b va vb : Nat) (ha : a < 455) (hbb : b < 455) (na : nv F L a va) (nb : nv F L b vb) : zMi l yX5_compareSizes wsX5_compareSizes (zR 1) Γ (md Γ o lF lL lB G0 fl F L B) sz [.ref o, .int (nI a), .int (nI b)] (fun r G' => r = cmp3 va vb ∧ G' = md Γ o lF lL lB G0 fl F L B) 0 0 := by
  refine z_start (cc := cX5_compareSizes) (maxL := 4) (ret := (some .int)) (by decide) rfl (Nat.le_of_ble_eq_true rfl) ?_
  intro p e s m args below meth c ls Q hQ hsz hx hb hr hml hown hts hlocks hnm hK hM hl
  obtain ⟨A, hAe⟩ : ∃ A, A = zA (md Γ o lF lL lB G0 fl F L B) s.heap.size := ⟨_, rfl⟩
  rw [← hAe] at hM
  have hl : lv_has ls 4 [(0, .ref o), (1, .int (nI a)), (2, .int (nI b))] := hl
  have hin5 : ∀ w ∈ wsX50, w ∈ wsX5_compareSizes := by decide +kernel
  have hf_limbs := hts (.fieldLink RX5 7 "CutRowsModel" "limbs" "[I") (by decide +kernel)
  have hf_length := hts (.fieldLink RX5 13 "CutRowsModel" "length" "[I") (by decide +kernel)
  have hLa := na.le
  have hLb := nb.le
  refine lv_aload_n hx hb dX5_compareSizes_0 rfl (lv_at hl 0 rfl) ?_
  refine m_get hok hx hb hts hin5 hown hK hM 5 hf_length rfl (by decide) (v := .ref lL) rfl dX5_compareSizes_1 ?_
  refine lv_iload_n hx hb dX5_compareSizes_4 rfl (lv_at hl 1 rfl) ?_
  refine m_ldL hok hx hb hK hM (by omega) dX5_compareSizes_5 ?_
  refine lv_aload_n hx hb dX5_compareSizes_6 rfl (lv_at hl 0 rfl) ?_
  refine m_get hok hx hb hts hin5 hown hK hM 5 hf_length rfl (by decide) (v := .ref lL) rfl dX5_compareSizes_7 ?_
  refine lv_iload_n hx hb dX5_compareSizes_10 rfl (lv_at hl 2 rfl) ?_
  refine m_ldL hok hx hb hK hM (by omega) dX5_compareSizes_11 ?_
  refine z_icmp_eq (tgt := 36) hx hb (by omega) (by omega) dX5_compareSizes_12 (by decide) (fun hc12 => ?_) (fun hc12 => ?_)
  · refine lv_aload_n hx hb dX5_compareSizes_36 rfl (lv_at hl 0 rfl) ?_
    refine m_get hok hx hb hts hin5 hown hK hM 5 hf_length rfl (by decide) (v := .ref lL) rfl dX5_compareSizes_37 ?_
    refine lv_iload_n hx hb dX5_compareSizes_40 rfl (lv_at hl 1 rfl) ?_
    refine m_ldL hok hx hb hK hM (by omega) dX5_compareSizes_41 ?_
    refine lv_iconst (v := nI 1) hx hb dX5_compareSizes_42 rfl ?_
    refine lv_isub hx hb dX5_compareSizes_43 ?_
    refine lv_istore_n (lv' := [(3, .int ((nI (L a)) - (nI 1))), (0, .ref o), (1, .int (nI a)), (2, .int (nI b))]) hx hb dX5_compareSizes_44 rfl hl (by decide) rfl (fun ls hl => ?_)
    have lp : ∀ (μ : Nat) (k : Nat), k = μ → (k ≤ L a) → (∀ j, k ≤ j → j < L a → F (72 * a + j) = F (72 * b + j)) → ∀ (ls : Array Slot) (H : Heap) (locs : List Loc), lv_has ls 4 [(3, .int (nI k - 1)), (0, .ref o), (1, .int (nI a)), (2, .int (nI b))] → zM Γ A s.heap (md Γ o lF lL lB G0 fl F L B) H locs → W p l e (zR 1) s m args below meth c H locs 0 0 Q (F0 m 45 ls []) := by
      intro μ
      induction μ using Nat.strongRecOn with
      | _ μ ihlp =>
        intro k hμ hk hk2 ls H locs hl hM
        rcases Nat.eq_zero_or_pos k with hk0 | hk0
        · subst hk0
          rw [show nI 0 - 1 = (-1 : Int32) from rfl] at hl
          refine lv_iload_n hx hb dX5_compareSizes_45 rfl (lv_at hl 0 rfl) ?_
          refine lv_if_lt (tgt := 111) hx hb dX5_compareSizes_46 (by decide) (fun hc46 => ?_) (fun hc46 => ?_)
          · refine lv_iconst (v := nI 0) hx hb dX5_compareSizes_111 rfl ?_
            rw [hQ]
            rw [hAe] at hM
            exact z_iret hsz hx hb hr hlocks hK hM dX5_compareSizes_112 (⟨cmp3_eq (nv_eq na nb hc12 (fun j hj => hk2 j (by omega) hj)), rfl⟩)
          · exact absurd (by decide) hc46
        · obtain ⟨q, rfl⟩ : ∃ q, k = q + 1 := ⟨k - 1, by omega⟩
          rw [nI_pred] at hl
          refine lv_iload_n hx hb dX5_compareSizes_45 rfl (lv_at hl 0 rfl) ?_
          refine z_if_ltN hx hb (by omega) dX5_compareSizes_46 (tgt := 111) (by decide) ?_
          refine lv_aload_n hx hb dX5_compareSizes_49 rfl (lv_at hl 1 rfl) ?_
          refine m_get hok hx hb hts hin5 hown hK hM 4 hf_limbs rfl (by decide) (v := .ref lF) rfl dX5_compareSizes_50 ?_
          refine lv_bipush (v := nI 72) hx hb dX5_compareSizes_53 rfl ?_
          refine lv_iload_n hx hb dX5_compareSizes_55 rfl (lv_at hl 2 rfl) ?_
          refine z_imul hx hb dX5_compareSizes_56 ?_
          refine lv_iload_n hx hb dX5_compareSizes_57 rfl (lv_at hl 0 rfl) ?_
          refine z_iadd hx hb dX5_compareSizes_58 ?_
          refine m_ldF hok hx hb hK hM (by omega) dX5_compareSizes_59 ?_
          refine lv_aload_n hx hb dX5_compareSizes_60 rfl (lv_at hl 1 rfl) ?_
          refine m_get hok hx hb hts hin5 hown hK hM 4 hf_limbs rfl (by decide) (v := .ref lF) rfl dX5_compareSizes_61 ?_
          refine lv_bipush (v := nI 72) hx hb dX5_compareSizes_64 rfl ?_
          refine lv_iload_n hx hb dX5_compareSizes_66 rfl (lv_at hl 3 rfl) ?_
          refine z_imul hx hb dX5_compareSizes_67 ?_
          refine lv_iload_n hx hb dX5_compareSizes_68 rfl (lv_at hl 0 rfl) ?_
          refine z_iadd hx hb dX5_compareSizes_69 ?_
          refine m_ldF hok hx hb hK hM (by omega) dX5_compareSizes_70 ?_
          refine z_icmp_eq (tgt := 105) hx hb ((na.digs q (by omega))) ((nb.digs q (by omega))) dX5_compareSizes_71 (by decide) (fun hc71 => ?_) (fun hc71 => ?_)
          · refine lv_iinc (v := nI q - 1) (lv' := [(3, .int (nI q - 1)), (0, .ref o), (1, .int (nI a)), (2, .int (nI b))]) hx hb dX5_compareSizes_105 hl (k := 0) rfl (nI_dec _) (by decide) rfl (fun ls hl => ?_)
            refine lv_goto (tgt := 45) hx hb dX5_compareSizes_108 (by decide) ?_
            exact ihlp _ (by omega) q rfl (by omega) (fun j h1 h2 => by rcases Nat.lt_or_ge q j with g | g; exact hk2 j (by omega) h2; rw [show j = q by omega]; exact hc71) ls _ _ (lv_sub hl [0, 1, 2, 3] rfl) hM
          · refine lv_aload_n hx hb dX5_compareSizes_74 rfl (lv_at hl 1 rfl) ?_
            refine m_get hok hx hb hts hin5 hown hK hM 4 hf_limbs rfl (by decide) (v := .ref lF) rfl dX5_compareSizes_75 ?_
            refine lv_bipush (v := nI 72) hx hb dX5_compareSizes_78 rfl ?_
            refine lv_iload_n hx hb dX5_compareSizes_80 rfl (lv_at hl 2 rfl) ?_
            refine z_imul hx hb dX5_compareSizes_81 ?_
            refine lv_iload_n hx hb dX5_compareSizes_82 rfl (lv_at hl 0 rfl) ?_
            refine z_iadd hx hb dX5_compareSizes_83 ?_
            refine m_ldF hok hx hb hK hM (by omega) dX5_compareSizes_84 ?_
            refine lv_aload_n hx hb dX5_compareSizes_85 rfl (lv_at hl 1 rfl) ?_
            refine m_get hok hx hb hts hin5 hown hK hM 4 hf_limbs rfl (by decide) (v := .ref lF) rfl dX5_compareSizes_86 ?_
            refine lv_bipush (v := nI 72) hx hb dX5_compareSizes_89 rfl ?_
            refine lv_iload_n hx hb dX5_compareSizes_91 rfl (lv_at hl 3 rfl) ?_
            refine z_imul hx hb dX5_compareSizes_92 ?_
            refine lv_iload_n hx hb dX5_compareSizes_93 rfl (lv_at hl 0 rfl) ?_
            refine z_iadd hx hb dX5_compareSizes_94 ?_
            refine m_ldF hok hx hb hK hM (by omega) dX5_compareSizes_95 ?_
            refine z_icmp_ge (tgt := 103) hx hb ((na.digs q (by omega))) ((nb.digs q (by omega))) dX5_compareSizes_96 (by decide) (fun hc96 => ?_) (fun hc96 => ?_)
            · refine lv_iconst (v := nI 1) hx hb dX5_compareSizes_103 rfl ?_
              rw [hQ]
              rw [hAe] at hM
              exact z_iret hsz hx hb hr hlocks hK hM dX5_compareSizes_104 (⟨cmp3_gt (nv_lt_dig (q := q) nb na hc12.symm (by omega) (fun j h1 h2 => (hk2 j (by omega) (by omega)).symm) (by omega)), rfl⟩)
            · refine lv_iconst (v := -1) hx hb dX5_compareSizes_99 rfl ?_
              refine lv_goto (tgt := 104) hx hb dX5_compareSizes_100 (by decide) ?_
              rw [hQ]
              rw [hAe] at hM
              exact z_iret hsz hx hb hr hlocks hK hM dX5_compareSizes_104 (⟨cmp3_lt (nv_lt_dig (q := q) na nb hc12 (by omega) (fun j h1 h2 => hk2 j (by omega) h2) (by omega)), rfl⟩)
    exact lp _ (L a) rfl (by omega) (fun j h1 h2 => by omega) ls _ _ (lv_sub hl [0, 1, 2, 3] rfl) hM
  · refine lv_aload_n hx hb dX5_compareSizes_15 rfl (lv_at hl 0 rfl) ?_
    refine m_get hok hx hb hts hin5 hown hK hM 5 hf_length rfl (by decide) (v := .ref lL) rfl dX5_compareSizes_16 ?_
    refine lv_iload_n hx hb dX5_compareSizes_19 rfl (lv_at hl 1 rfl) ?_
    refine m_ldL hok hx hb hK hM (by omega) dX5_compareSizes_20 ?_
    refine lv_aload_n hx hb dX5_compareSizes_21 rfl (lv_at hl 0 rfl) ?_
    refine m_get hok hx hb hts hin5 hown hK hM 5 hf_length rfl (by decide) (v := .ref lL) rfl dX5_compareSizes_22 ?_
    refine lv_iload_n hx hb dX5_compareSizes_25 rfl (lv_at hl 2 rfl) ?_
    refine m_ldL hok hx hb hK hM (by omega) dX5_compareSizes_26 ?_
    refine z_icmp_ge (tgt := 34) hx hb (by omega) (by omega) dX5_compareSizes_27 (by decide) (fun hc27 => ?_) (fun hc27 => ?_)
    · refine lv_iconst (v := nI 1) hx hb dX5_compareSizes_34 rfl ?_
      rw [hQ]
      rw [hAe] at hM
      exact z_iret hsz hx hb hr hlocks hK hM dX5_compareSizes_35 (⟨cmp3_gt (nv_lt_len nb na (by omega)), rfl⟩)
    · refine lv_iconst (v := -1) hx hb dX5_compareSizes_30 rfl ?_
      refine lv_goto (tgt := 35) hx hb dX5_compareSizes_31 (by decide) ?_
      rw [hQ]
      rw [hAe] at hM
      exact z_iret hsz hx hb hr hlocks hK hM dX5_compareSizes_35 (⟨cmp3_lt (nv_lt_len na nb (by omega)), rfl⟩)
