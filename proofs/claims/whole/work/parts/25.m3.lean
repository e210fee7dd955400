set_option maxRecDepth 100000 in
set_option maxHeartbeats 4000000 in
theorem m_addSizes (l : Launch) (Γ : zT) {o lF lL lB : Nat} (hok : mdk o lF lL lB) (G0 : zG) (fl : Nat → Int32) (F L B : Nat → Nat) (sz : Nat) (t a b va vb : Nat) (ht : t < 455) (ha : a < 455) (hbb : b < 455) (na : nv F L a va) (nb : nv F L b vb) (hLa : L a ≤ 71) (hLb : L b ≤ 71) : zMv l yX5_addSizes wsX5_addSizes (zR 2) Γ (md Γ o lF lL lB G0 fl F L B) sz [.ref o, .int (nI t), .int (nI a), .int (nI b)] (fun G' => ∃ F', G' = md Γ o lF lL lB G0 fl F' (va_up L t (nl (va + vb))) (bz B t (va + vb)) ∧ fr72 F F' t ∧ nv F' (va_up L t (nl (va + vb))) t (va + vb)) 0 0 := by
  refine z_start (cc := cX5_addSizes) (maxL := 10) (ret := none) (by decide) rfl (Nat.le_of_ble_eq_true rfl) ?_
  intro p e s m args below meth c ls Q hQ hsz hx hb hr hml hown hts hlocks hnm hK hM hl
  obtain ⟨A, hAe⟩ : ∃ A, A = zA (md Γ o lF lL lB G0 fl F L B) s.heap.size := ⟨_, rfl⟩
  rw [← hAe] at hM
  have hl : lv_has ls 10 [(0, .ref o), (1, .int (nI t)), (2, .int (nI a)), (3, .int (nI b))] := hl
  have hin5 : ∀ w ∈ wsX50, w ∈ wsX5_addSizes := by decide +kernel
  have hf_limbs := hts (.fieldLink RX5 7 "CutRowsModel" "limbs" "[I") (by decide +kernel)
  have hf_length := hts (.fieldLink RX5 13 "CutRowsModel" "length" "[I") (by decide +kernel)
  have k30 : ∀ (x : Nat), (x = max (L a) (L b)) → ∀ (ls : Array Slot) (H : Heap) (locs : List Loc), lv_has ls 10 [(0, .ref o), (1, .int (nI t)), (2, .int (nI a)), (3, .int (nI b))] → zM Γ A s.heap (md Γ o lF lL lB G0 fl F L B) H locs → W p l e (zR 2) s m args below meth c H locs 0 0 Q (F0 m 30 ls [.int (nI x)]) := by
    intro x hxm ls H locs hl hM
    refine lv_iconst (v := nI 1) hx hb dX5_addSizes_30 rfl ?_
    refine z_iadd hx hb dX5_addSizes_31 ?_
    obtain ⟨n, hn⟩ : ∃ n, n = x + 1 := ⟨_, rfl⟩
    rw [← hn]
    refine lv_istore (lv' := [(4, .int (nI n)), (0, .ref o), (1, .int (nI t)), (2, .int (nI a)), (3, .int (nI b))]) hx hb dX5_addSizes_32 hl (by decide) rfl (fun ls hl => ?_)
    refine lv_lconst (v := lN 0) hx hb dX5_addSizes_34 rfl ?_
    refine lv_lstore (lv' := [(5, .long (lN 0)), (4, .int (nI n)), (0, .ref o), (1, .int (nI t)), (2, .int (nI a)), (3, .int (nI b))]) hx hb dX5_addSizes_35 hl (by decide) rfl (fun ls hl => ?_)
    refine lv_iconst (v := nI 0) hx hb dX5_addSizes_37 rfl ?_
    refine lv_istore (lv' := [(7, .int (nI 0)), (5, .long (lN 0)), (4, .int (nI n)), (0, .ref o), (1, .int (nI t)), (2, .int (nI a)), (3, .int (nI b))]) hx hb dX5_addSizes_38 hl (by decide) rfl (fun ls hl => ?_)
    have lp : ∀ (μ : Nat) (k : Nat) (cy : Nat) (F1 : Nat → Nat), n - k = μ → (k ≤ n) → (cy ≤ 1) → (∀ j, (j < 72 * t ∨ 72 * t + k ≤ j) → F1 j = F j) → (dg (fun j => F1 (72 * t + j)) k) → (vl (fun j => F1 (72 * t + j)) k + cy * bp k = vl (lmb F L a) k + vl (lmb F L b) k) → ∀ (ls : Array Slot) (H : Heap) (locs : List Loc), lv_has ls 10 [(7, .int (nI k)), (5, .long (lN cy)), (4, .int (nI n)), (0, .ref o), (1, .int (nI t)), (2, .int (nI a)), (3, .int (nI b))] → zM Γ A s.heap (md Γ o lF lL lB G0 fl F1 L B) H locs → W p l e (zR 2) s m args below meth c H locs 0 0 Q (F0 m 40 ls []) := by
      intro μ
      induction μ using Nat.strongRecOn with
      | _ μ ihlp =>
        intro k cy F1 hμ hk hc1 h1 h2 h3 ls H locs hl hM
        refine lv_iload hx hb dX5_addSizes_40 (lv_at hl 0 rfl) ?_
        refine lv_iload hx hb dX5_addSizes_42 (lv_at hl 2 rfl) ?_
        refine z_icmp_ge (tgt := 99) hx hb (by omega) (by omega) dX5_addSizes_44 (by decide) (fun hc44 => ?_) (fun hc44 => ?_)
        · have hkn : k = n := by omega
          subst hkn
          have hv : vl (fun j => F1 (72 * t + j)) k = va + vb := by
            have hA1 := lmb_vl na (n := k) (by omega)
            have hB1 := lmb_vl nb (n := k) (by omega)
            have hA2 := Nat.lt_of_lt_of_le na.lt (bp_le (show L a ≤ k - 1 by omega))
            have hB2 := Nat.lt_of_lt_of_le nb.lt (bp_le (show L b ≤ k - 1 by omega))
            have hbk := bp_s (k - 1)
            rw [show k - 1 + 1 = k by omega] at hbk
            rw [hA1, hB1] at h3
            rcases (show cy = 0 ∨ cy = 1 by omega) with rfl | rfl <;> omega
          refine lv_aload_n hx hb dX5_addSizes_99 rfl (lv_at hl 3 rfl) ?_
          refine m_get hok hx hb hts hin5 hown hK hM 5 hf_length rfl (by decide) (v := .ref lL) rfl dX5_addSizes_100 ?_
          refine lv_iload_n hx hb dX5_addSizes_103 rfl (lv_at hl 4 rfl) ?_
          refine lv_iload hx hb dX5_addSizes_104 (lv_at hl 2 rfl) ?_
          refine m_stL hok hx hb hK hM (by omega) dX5_addSizes_106 (fun H locs hM => ?_)
          refine lv_aload_n hx hb dX5_addSizes_107 rfl (lv_at hl 3 rfl) ?_
          refine lv_iload_n hx hb dX5_addSizes_108 rfl (lv_at hl 4 rfl) ?_
          refine z_callv0 (va_runV (As := [.int (nI t)]) (rest := []) ⟨hx, hb, hml, hown, hts⟩ (m_trim l Γ hok G0 fl F1 (va_up L t k) B _ t k ht (va_up_self _ _ _) (by omega) h2) (cwV 1 hts gX5_addSizes_X5_trim rfl rfl rfl (by decide +kernel) ⟨Nat.le_of_ble_eq_true rfl, Nat.le_of_ble_eq_true rfl⟩) (zM.preV hK hM (md_o hok) rfl rfl) rfl rfl hl.1 rfl (lv_room (Nat.le_of_ble_eq_true rfl)) dX5_addSizes_109 ⟨Nat.le_of_ble_eq_true rfl, Nat.le_of_ble_eq_true rfl⟩) hM (fun G109 H locs hp109 hM => ?_)
          obtain rfl := hp109
          rw [hQ]
          rw [hAe] at hM
          exact z_vret hsz hx hb hr hlocks hK hM dX5_addSizes_112 (⟨F1, by rw [va_up_up, tr_of h2 hv]; rfl, fun j hj => h1 j (by omega), nv_of h2 hv (by omega)⟩)
        · refine lv_aload_n hx hb dX5_addSizes_47 rfl (lv_at hl 3 rfl) ?_
          refine lv_iload_n hx hb dX5_addSizes_48 rfl (lv_at hl 5 rfl) ?_
          refine lv_iload hx hb dX5_addSizes_49 (lv_at hl 0 rfl) ?_
          refine z_calll0 (va_runV (As := [.int (nI a), .int (nI k)]) (rest := []) ⟨hx, hb, hml, hown, hts⟩ (m_limbOf l Γ hok G0 fl F1 L B _ a k (ha) (by omega) (na).le (mix_dg na h1 h2 (by omega))) (cwV 2 hts gX5_addSizes_X5_limbOf rfl rfl rfl (by decide +kernel) ⟨Nat.le_of_ble_eq_true rfl, Nat.le_of_ble_eq_true rfl⟩) (zM.preV hK hM (md_o hok) rfl rfl) rfl rfl hl.1 rfl (lv_room (Nat.le_of_ble_eq_true rfl)) dX5_addSizes_51 ⟨Nat.le_of_ble_eq_true rfl, Nat.le_of_ble_eq_true rfl⟩) hM (fun r51 G51 H locs hp51 hM => ?_)
          obtain ⟨rfl, rfl⟩ := hp51
          refine lv_aload_n hx hb dX5_addSizes_54 rfl (lv_at hl 3 rfl) ?_
          refine lv_iload_n hx hb dX5_addSizes_55 rfl (lv_at hl 6 rfl) ?_
          refine lv_iload hx hb dX5_addSizes_56 (lv_at hl 0 rfl) ?_
          refine z_calll0 (va_runV (As := [.int (nI b), .int (nI k)]) (rest := [.long (lN (lmb F1 L a k))]) ⟨hx, hb, hml, hown, hts⟩ (m_limbOf l Γ hok G0 fl F1 L B _ b k (hbb) (by omega) (nb).le (mix_dg nb h1 h2 (by omega))) (cwV 2 hts gX5_addSizes_X5_limbOf rfl rfl rfl (by decide +kernel) ⟨Nat.le_of_ble_eq_true rfl, Nat.le_of_ble_eq_true rfl⟩) (zM.preV hK hM (md_o hok) rfl rfl) rfl rfl hl.1 rfl (lv_room (Nat.le_of_ble_eq_true rfl)) dX5_addSizes_58 ⟨Nat.le_of_ble_eq_true rfl, Nat.le_of_ble_eq_true rfl⟩) hM (fun r58 G58 H locs hp58 hM => ?_)
          obtain ⟨rfl, rfl⟩ := hp58
          rw [mix_lmb na h1 (by omega), mix_lmb nb h1 (by omega)]
          have hla := lmb_lt na k
          have hlb := lmb_lt nb k
          refine z_ladd hx hb dX5_addSizes_61 ?_
          refine lv_lload hx hb dX5_addSizes_62 (lv_at hl 1 rfl) ?_
          refine z_ladd hx hb dX5_addSizes_64 ?_
          refine lv_lstore (lv' := [(8, .long (lN (lmb F L a k + (lmb F L b k) + cy))), (7, .int (nI k)), (5, .long (lN cy)), (4, .int (nI n)), (0, .ref o), (1, .int (nI t)), (2, .int (nI a)), (3, .int (nI b))]) hx hb dX5_addSizes_65 hl (by decide) rfl (fun ls hl => ?_)
          refine lv_aload_n hx hb dX5_addSizes_67 rfl (lv_at hl 4 rfl) ?_
          refine m_get hok hx hb hts hin5 hown hK hM 4 hf_limbs rfl (by decide) (v := .ref lF) rfl dX5_addSizes_68 ?_
          refine lv_bipush (v := nI 72) hx hb dX5_addSizes_71 rfl ?_
          refine lv_iload_n hx hb dX5_addSizes_73 rfl (lv_at hl 5 rfl) ?_
          refine z_imul hx hb dX5_addSizes_74 ?_
          refine lv_iload hx hb dX5_addSizes_75 (lv_at hl 1 rfl) ?_
          refine z_iadd hx hb dX5_addSizes_77 ?_
          refine lv_lload hx hb dX5_addSizes_78 (lv_at hl 0 rfl) ?_
          refine lv_ldc2 hx hb hown (hts (.constantLong RX5 41 (2147483647)) (by decide +kernel)) dX5_addSizes_80 ?_
          refine z_land31 hx hb (by omega) dX5_addSizes_83 ?_
          refine z_l2i hx hb dX5_addSizes_84 ?_
          refine m_stF hok hx hb hK hM (by omega) dX5_addSizes_85 (fun H locs hM => ?_)
          refine lv_lload hx hb dX5_addSizes_86 (lv_at hl 0 rfl) ?_
          refine lv_bipush (v := nI 31) hx hb dX5_addSizes_88 rfl ?_
          refine z_lshr31 hx hb (by omega) dX5_addSizes_90 ?_
          refine lv_lstore (lv' := [(5, .long (lN ((lmb F L a k + (lmb F L b k) + cy) / 2147483648))), (8, .long (lN (lmb F L a k + (lmb F L b k) + cy))), (7, .int (nI k)), (4, .int (nI n)), (0, .ref o), (1, .int (nI t)), (2, .int (nI a)), (3, .int (nI b))]) hx hb dX5_addSizes_91 hl (by decide) rfl (fun ls hl => ?_)
          refine z_iinc (v := (k + 1)) (lv' := [(7, .int (nI (k + 1))), (5, .long (lN ((lmb F L a k + (lmb F L b k) + cy) / 2147483648))), (8, .long (lN (lmb F L a k + (lmb F L b k) + cy))), (4, .int (nI n)), (0, .ref o), (1, .int (nI t)), (2, .int (nI a)), (3, .int (nI b))]) hx hb dX5_addSizes_93 hl (k := 2) rfl (nI_p1 _) (by decide) rfl (fun ls hl => ?_)
          refine lv_goto (tgt := 40) hx hb dX5_addSizes_96 (by decide) ?_
          exact ihlp _ (by omega) (k + 1) ((lmb F L a k + lmb F L b k + cy) / 2147483648) (va_up F1 (72 * t + k) ((lmb F L a k + lmb F L b k + cy) % 2147483648)) rfl (by omega) (by omega) (up_out h1) (up_dg h2 (by omega)) (by rw [up_vl, vl_s, vl_s]; exact add_step h3) ls _ _ (lv_sub hl [0, 1, 3, 4, 5, 6, 7] rfl) hM
    exact lp _ 0 0 F rfl (by omega) (by omega) (fun _ _ => rfl) (fun _ h => by omega) (by simp [vl_0]) ls _ _ (lv_sub hl [0, 1, 2, 3, 4, 5, 6] rfl) hM
  refine lv_aload_n hx hb dX5_addSizes_0 rfl (lv_at hl 0 rfl) ?_
  refine m_get hok hx hb hts hin5 hown hK hM 5 hf_length rfl (by decide) (v := .ref lL) rfl dX5_addSizes_1 ?_
  refine lv_iload_n hx hb dX5_addSizes_4 rfl (lv_at hl 2 rfl) ?_
  refine m_ldL hok hx hb hK hM (by omega) dX5_addSizes_5 ?_
  refine lv_aload_n hx hb dX5_addSizes_6 rfl (lv_at hl 0 rfl) ?_
  refine m_get hok hx hb hts hin5 hown hK hM 5 hf_length rfl (by decide) (v := .ref lL) rfl dX5_addSizes_7 ?_
  refine lv_iload_n hx hb dX5_addSizes_10 rfl (lv_at hl 3 rfl) ?_
  refine m_ldL hok hx hb hK hM (by omega) dX5_addSizes_11 ?_
  refine z_icmp_le (tgt := 24) hx hb (by omega) (by omega) dX5_addSizes_12 (by decide) (fun hc12 => ?_) (fun hc12 => ?_)
  · refine lv_aload_n hx hb dX5_addSizes_24 rfl (lv_at hl 0 rfl) ?_
    refine m_get hok hx hb hts hin5 hown hK hM 5 hf_length rfl (by decide) (v := .ref lL) rfl dX5_addSizes_25 ?_
    refine lv_iload_n hx hb dX5_addSizes_28 rfl (lv_at hl 3 rfl) ?_
    refine m_ldL hok hx hb hK hM (by omega) dX5_addSizes_29 ?_
    exact k30 (L b) (by omega) ls _ _ (lv_sub hl [0, 1, 2, 3] rfl) hM
  · refine lv_aload_n hx hb dX5_addSizes_15 rfl (lv_at hl 0 rfl) ?_
    refine m_get hok hx hb hts hin5 hown hK hM 5 hf_length rfl (by decide) (v := .ref lL) rfl dX5_addSizes_16 ?_
    refine lv_iload_n hx hb dX5_addSizes_19 rfl (lv_at hl 2 rfl) ?_
    refine m_ldL hok hx hb hK hM (by omega) dX5_addSizes_20 ?_
    refine lv_goto (tgt := 30) hx hb dX5_addSizes_21 (by decide) ?_
    exact k30 (L a) (by omega) ls _ _ (lv_sub hl [0, 1, 2, 3] rfl) hM

set_option maxRecDepth 100000 in
set_option maxHeartbeats 4000000 in
theorem m_subtractSizes (l : Launch) (Γ : zT) {o lF lL lB : Nat} (hok : mdk o lF lL lB) (G0 : zG) (fl : Nat → Int32) (F L B : Nat → Nat) (sz : Nat) (t a b va vb : Nat) (ht : t < 455) (ha : a < 455) (hbb : b < 455) (na : nv F L a va) (nb : nv F L b vb) (hle : vb ≤ va) : zMv l yX5_subtractSizes wsX5_subtractSizes (zR 2) Γ (md Γ o lF lL lB G0 fl F L B) sz [.ref o, .int (nI t), .int (nI a), .int (nI b)] (fun G' => ∃ F', G' = md Γ o lF lL lB G0 fl F' (va_up L t (nl (va - vb))) (bz B t (va - vb)) ∧ fr72 F F' t ∧ nv F' (va_up L t (nl (va - vb))) t (va - vb)) 0 0 := by
  refine z_start (cc := cX5_subtractSizes) (maxL := 10) (ret := none) (by decide) rfl (Nat.le_of_ble_eq_true rfl) ?_
  intro p e s m args below meth c ls Q hQ hsz hx hb hr hml hown hts hlocks hnm hK hM hl
  obtain ⟨A, hAe⟩ : ∃ A, A = zA (md Γ o lF lL lB G0 fl F L B) s.heap.size := ⟨_, rfl⟩
  rw [← hAe] at hM
  have hl : lv_has ls 10 [(0, .ref o), (1, .int (nI t)), (2, .int (nI a)), (3, .int (nI b))] := hl
  have hin5 : ∀ w ∈ wsX50, w ∈ wsX5_subtractSizes := by decide +kernel
  have hf_limbs := hts (.fieldLink RX5 7 "CutRowsModel" "limbs" "[I") (by decide +kernel)
  have hf_length := hts (.fieldLink RX5 13 "CutRowsModel" "length" "[I") (by decide +kernel)
  have hLa := na.le
  have hLba : L b ≤ L a := by rw [na.1, nb.1]; exact nl_mono hle
  refine lv_aload_n hx hb dX5_subtractSizes_0 rfl (lv_at hl 0 rfl) ?_
  refine m_get hok hx hb hts hin5 hown hK hM 5 hf_length rfl (by decide) (v := .ref lL) rfl dX5_subtractSizes_1 ?_
  refine lv_iload_n hx hb dX5_subtractSizes_4 rfl (lv_at hl 2 rfl) ?_
  refine m_ldL hok hx hb hK hM (by omega) dX5_subtractSizes_5 ?_
  refine lv_istore (lv' := [(4, .int (nI (L a))), (0, .ref o), (1, .int (nI t)), (2, .int (nI a)), (3, .int (nI b))]) hx hb dX5_subtractSizes_6 hl (by decide) rfl (fun ls hl => ?_)
  refine lv_lconst (v := lN 0) hx hb dX5_subtractSizes_8 rfl ?_
  refine lv_lstore (lv' := [(5, .long (lN 0)), (4, .int (nI (L a))), (0, .ref o), (1, .int (nI t)), (2, .int (nI a)), (3, .int (nI b))]) hx hb dX5_subtractSizes_9 hl (by decide) rfl (fun ls hl => ?_)
  refine lv_iconst (v := nI 0) hx hb dX5_subtractSizes_11 rfl ?_
  refine lv_istore (lv' := [(7, .int (nI 0)), (5, .long (lN 0)), (4, .int (nI (L a))), (0, .ref o), (1, .int (nI t)), (2, .int (nI a)), (3, .int (nI b))]) hx hb dX5_subtractSizes_12 hl (by decide) rfl (fun ls hl => ?_)
  have lp : ∀ (μ : Nat) (k : Nat) (cy : Nat) (F1 : Nat → Nat), L a - k = μ → (k ≤ L a) → (cy ≤ 1) → (∀ j, (j < 72 * t ∨ 72 * t + k ≤ j) → F1 j = F j) → (dg (fun j => F1 (72 * t + j)) k) → (vl (fun j => F1 (72 * t + j)) k + vl (lmb F L b) k = vl (lmb F L a) k + cy * bp k) → ∀ (ls : Array Slot) (H : Heap) (locs : List Loc), lv_has ls 10 [(7, .int (nI k)), (5, .long (bor cy)), (4, .int (nI (L a))), (0, .ref o), (1, .int (nI t)), (2, .int (nI a)), (3, .int (nI b))] → zM Γ A s.heap (md Γ o lF lL lB G0 fl F1 L B) H locs → W p l e (zR 2) s m args below meth c H locs 0 0 Q (F0 m 14 ls []) := by
    intro μ
    induction μ using Nat.strongRecOn with
    | _ μ ihlp =>
      intro k cy F1 hμ hk hc1 h1 h2 h3 ls H locs hl hM
      refine lv_iload hx hb dX5_subtractSizes_14 (lv_at hl 0 rfl) ?_
      refine lv_iload hx hb dX5_subtractSizes_16 (lv_at hl 2 rfl) ?_
      refine z_icmp_ge (tgt := 73) hx hb (by omega) (by omega) dX5_subtractSizes_18 (by decide) (fun hc18 => ?_) (fun hc18 => ?_)
      · have hkn : k = L a := by omega
        subst hkn
        have hv : vl (fun j => F1 (72 * t + j)) (L a) = va - vb := by
          have hA1 := lmb_vl na (n := L a) (by omega)
          have hB1 := lmb_vl nb (n := L a) (by omega)
          have hD := vl_lt h2
          rw [hA1, hB1] at h3
          rcases (show cy = 0 ∨ cy = 1 by omega) with rfl | rfl <;> omega
        refine lv_aload_n hx hb dX5_subtractSizes_73 rfl (lv_at hl 3 rfl) ?_
        refine m_get hok hx hb hts hin5 hown hK hM 5 hf_length rfl (by decide) (v := .ref lL) rfl dX5_subtractSizes_74 ?_
        refine lv_iload_n hx hb dX5_subtractSizes_77 rfl (lv_at hl 4 rfl) ?_
        refine lv_iload hx hb dX5_subtractSizes_78 (lv_at hl 2 rfl) ?_
        refine m_stL hok hx hb hK hM (by omega) dX5_subtractSizes_80 (fun H locs hM => ?_)
        refine lv_aload_n hx hb dX5_subtractSizes_81 rfl (lv_at hl 3 rfl) ?_
        refine lv_iload_n hx hb dX5_subtractSizes_82 rfl (lv_at hl 4 rfl) ?_
        refine z_callv0 (va_runV (As := [.int (nI t)]) (rest := []) ⟨hx, hb, hml, hown, hts⟩ (m_trim l Γ hok G0 fl F1 (va_up L t (L a)) B _ t (L a) ht (va_up_self _ _ _) (by omega) h2) (cwV 1 hts gX5_subtractSizes_X5_trim rfl rfl rfl (by decide +kernel) ⟨Nat.le_of_ble_eq_true rfl, Nat.le_of_ble_eq_true rfl⟩) (zM.preV hK hM (md_o hok) rfl rfl) rfl rfl hl.1 rfl (lv_room (Nat.le_of_ble_eq_true rfl)) dX5_subtractSizes_83 ⟨Nat.le_of_ble_eq_true rfl, Nat.le_of_ble_eq_true rfl⟩) hM (fun G83 H locs hp83 hM => ?_)
        obtain rfl := hp83
        rw [hQ]
        rw [hAe] at hM
        exact z_vret hsz hx hb hr hlocks hK hM dX5_subtractSizes_86 (⟨F1, by rw [va_up_up, tr_of h2 hv]; rfl, fun j hj => h1 j (by omega), nv_of h2 hv (by omega)⟩)
      · refine lv_aload_n hx hb dX5_subtractSizes_21 rfl (lv_at hl 3 rfl) ?_
        refine lv_iload_n hx hb dX5_subtractSizes_22 rfl (lv_at hl 5 rfl) ?_
        refine lv_iload hx hb dX5_subtractSizes_23 (lv_at hl 0 rfl) ?_
        refine z_calll0 (va_runV (As := [.int (nI a), .int (nI k)]) (rest := []) ⟨hx, hb, hml, hown, hts⟩ (m_limbOf l Γ hok G0 fl F1 L B _ a k (ha) (by omega) (na).le (mix_dg na h1 h2 (by omega))) (cwV 2 hts gX5_subtractSizes_X5_limbOf rfl rfl rfl (by decide +kernel) ⟨Nat.le_of_ble_eq_true rfl, Nat.le_of_ble_eq_true rfl⟩) (zM.preV hK hM (md_o hok) rfl rfl) rfl rfl hl.1 rfl (lv_room (Nat.le_of_ble_eq_true rfl)) dX5_subtractSizes_25 ⟨Nat.le_of_ble_eq_true rfl, Nat.le_of_ble_eq_true rfl⟩) hM (fun r25 G25 H locs hp25 hM => ?_)
        obtain ⟨rfl, rfl⟩ := hp25
        refine lv_aload_n hx hb dX5_subtractSizes_28 rfl (lv_at hl 3 rfl) ?_
        refine lv_iload_n hx hb dX5_subtractSizes_29 rfl (lv_at hl 6 rfl) ?_
        refine lv_iload hx hb dX5_subtractSizes_30 (lv_at hl 0 rfl) ?_
        refine z_calll0 (va_runV (As := [.int (nI b), .int (nI k)]) (rest := [.long (lN (lmb F1 L a k))]) ⟨hx, hb, hml, hown, hts⟩ (m_limbOf l Γ hok G0 fl F1 L B _ b k (hbb) (by omega) (nb).le (mix_dg nb h1 h2 (by omega))) (cwV 2 hts gX5_subtractSizes_X5_limbOf rfl rfl rfl (by decide +kernel) ⟨Nat.le_of_ble_eq_true rfl, Nat.le_of_ble_eq_true rfl⟩) (zM.preV hK hM (md_o hok) rfl rfl) rfl rfl hl.1 rfl (lv_room (Nat.le_of_ble_eq_true rfl)) dX5_subtractSizes_32 ⟨Nat.le_of_ble_eq_true rfl, Nat.le_of_ble_eq_true rfl⟩) hM (fun r32 G32 H locs hp32 hM => ?_)
        obtain ⟨rfl, rfl⟩ := hp32
        rw [mix_lmb na h1 (by omega), mix_lmb nb h1 (by omega)]
        have hla := lmb_lt na k
        have hlb := lmb_lt nb k
        refine lv_lsub hx hb dX5_subtractSizes_35 ?_
        refine lv_lload hx hb dX5_subtractSizes_36 (lv_at hl 1 rfl) ?_
        refine lv_ladd hx hb dX5_subtractSizes_38 ?_
        refine lv_lstore (lv' := [(8, .long (((lN (lmb F L a k)) - (lN (lmb F L b k))) + (bor cy))), (7, .int (nI k)), (5, .long (bor cy)), (4, .int (nI (L a))), (0, .ref o), (1, .int (nI t)), (2, .int (nI a)), (3, .int (nI b))]) hx hb dX5_subtractSizes_39 hl (by decide) rfl (fun ls hl => ?_)
        refine lv_aload_n hx hb dX5_subtractSizes_41 rfl (lv_at hl 4 rfl) ?_
        refine m_get hok hx hb hts hin5 hown hK hM 4 hf_limbs rfl (by decide) (v := .ref lF) rfl dX5_subtractSizes_42 ?_
        refine lv_bipush (v := nI 72) hx hb dX5_subtractSizes_45 rfl ?_
        refine lv_iload_n hx hb dX5_subtractSizes_47 rfl (lv_at hl 5 rfl) ?_
        refine z_imul hx hb dX5_subtractSizes_48 ?_
        refine lv_iload hx hb dX5_subtractSizes_49 (lv_at hl 1 rfl) ?_
        refine z_iadd hx hb dX5_subtractSizes_51 ?_
        refine lv_lload hx hb dX5_subtractSizes_52 (lv_at hl 0 rfl) ?_
        refine lv_ldc2 hx hb hown (hts (.constantLong RX5 41 (2147483647)) (by decide +kernel)) dX5_subtractSizes_54 ?_
        refine lv_land hx hb dX5_subtractSizes_57 ?_
        refine z_asl (y := lN ((lmb F L a k + 2147483648 - lmb F L b k - cy) % 2147483648)) (bor_and hla hlb hc1) ?_
        refine z_l2i hx hb dX5_subtractSizes_58 ?_
        refine m_stF hok hx hb hK hM (by omega) dX5_subtractSizes_59 (fun H locs hM => ?_)
        refine lv_lload hx hb dX5_subtractSizes_60 (lv_at hl 0 rfl) ?_
        refine lv_bipush (v := nI 31) hx hb dX5_subtractSizes_62 rfl ?_
        refine lv_lshr hx hb dX5_subtractSizes_64 rfl ?_
        refine z_asl (bor_shr hla hlb hc1) ?_
        refine lv_lstore (lv' := [(5, .long (bor (if lmb F L a k < lmb F L b k + cy then 1 else 0))), (8, .long (((lN (lmb F L a k)) - (lN (lmb F L b k))) + (bor cy))), (7, .int (nI k)), (4, .int (nI (L a))), (0, .ref o), (1, .int (nI t)), (2, .int (nI a)), (3, .int (nI b))]) hx hb dX5_subtractSizes_65 hl (by decide) rfl (fun ls hl => ?_)
        refine z_iinc (v := (k + 1)) (lv' := [(7, .int (nI (k + 1))), (5, .long (bor (if lmb F L a k < lmb F L b k + cy then 1 else 0))), (8, .long (((lN (lmb F L a k)) - (lN (lmb F L b k))) + (bor cy))), (4, .int (nI (L a))), (0, .ref o), (1, .int (nI t)), (2, .int (nI a)), (3, .int (nI b))]) hx hb dX5_subtractSizes_67 hl (k := 2) rfl (nI_p1 _) (by decide) rfl (fun ls hl => ?_)
        refine lv_goto (tgt := 14) hx hb dX5_subtractSizes_70 (by decide) ?_
        exact ihlp _ (by omega) (k + 1) (if lmb F L a k < lmb F L b k + cy then 1 else 0) (va_up F1 (72 * t + k) ((lmb F L a k + 2147483648 - lmb F L b k - cy) % 2147483648)) rfl (by omega) (by split <;> omega) (up_out h1) (up_dg h2 (by omega)) (by rw [up_vl, vl_s, vl_s]; exact sub_step hc1 hla hlb h3) ls _ _ (lv_sub hl [0, 1, 3, 4, 5, 6, 7] rfl) hM
  rw [show lN 0 = bor 0 from by decide] at hl
  exact lp _ 0 0 F rfl (by omega) (by omega) (fun _ _ => rfl) (fun _ h => by omega) (by simp [vl_0]) ls _ _ (lv_sub hl [0, 1, 2, 3, 4, 5, 6] rfl) hM
