set_option maxRecDepth 100000 in
set_option maxHeartbeats 4000000 in
theorem v_divideByDigit (l : Launch) (Γ : zT) (G : zG) (sz : Nat) (v gr qu re tp bt : Nat) (T U : Nat → Nat) (hv : G v = some (.inr (3, [.ref gr, .ref qu, .ref re, .ref tp, .ref bt]))) (htp : G tp = some (zI Γ 49 T)) (hbt : G bt = some (zI Γ 48 U)) (lqu n0 : Nat) (s0 : Int32) (q0 : Nat → Nat) (hqu : G qu = some (wh lqu n0 s0)) (hlqu : G lqu = some (zI Γ 48 q0)) (lre n1 : Nat) (s1 : Int32) (r0 : Nat → Nat) (hre : G re = some (wh lre n1 s1)) (hlre : G lre = some (zI Γ 48 r0)) (a la ra na : Nat) (sga : Int32) (da : Nat → Nat) (ha : G a = some (wh la na sga)) (hla : G la = some (zI Γ ra da)) (lb b : Nat) (hap : ap6 la lb lqu lre tp bt) (hap4 : ap4 a b qu re) (dgi : Nat) (hna : na ≤ 48) (hra : na ≤ ra) (hra31 : ra < 2 ^ 31) (hda : dg da na) (hg0 : 0 < dgi) (hg31 : dgi < 2147483648) : zMv l yX1_divideByDigit wsX1_divideByDigit (zR 2) Γ G sz [.ref v, .ref a, .int (nI dgi)] (fun G' => (∀ x, x ≠ qu → x ≠ lqu → x ≠ re → x ≠ lre → x ≠ tp → x ≠ bt → G' x = G x) ∧ (∃ T', G' tp = some (zI Γ 49 T')) ∧ (∃ U', G' bt = some (zI Γ 48 U')) ∧ NUM Γ G' qu lqu 48 ((vl da na / dgi : Nat) : Int) ∧ NUM Γ G' re lre 48 ((vl da na % dgi : Nat) : Int)) 0 0 := by
  obtain ⟨⟨ne1, ne2, ne3, ne4⟩, ⟨ne5, ne6, ne7, ne8⟩, ⟨ne9, ne10, ne11, ne12, ne13, ne14⟩⟩ := hap
  obtain ⟨nf1, nf2, nf3, nf4, nf5⟩ := hap4
  refine z_start (cc := cX1_divideByDigit) (maxL := 6) (ret := none) (by decide) rfl (Nat.le_of_ble_eq_true rfl) ?_
  intro p e s m args below meth c ls Q hQ hsz hx hb hr hml hown hts hlocks hnm hK hM hl
  obtain ⟨A, hAe⟩ : ∃ A, A = zA G s.heap.size := ⟨_, rfl⟩
  rw [← hAe] at hM
  have hl : lv_has ls 6 [(0, .ref v), (1, .ref a), (2, .int (nI dgi))] := hl
  have hinX1 : ∀ w ∈ wsX10, w ∈ wsX1_divideByDigit := by decide +kernel
  have hinX3 : ∀ w ∈ wsX30, w ∈ wsX1_divideByDigit := by decide +kernel
  have hf_20 := hts (.fieldLink RX1 20 "CutRows$Divider" "quotient" "LCutRows$Whole;") (by decide +kernel)
  have hf_23 := hts (.fieldLink RX1 23 "CutRows$Divider" "remainder" "LCutRows$Whole;") (by decide +kernel)
  have hf_34 := hts (.fieldLink RX1 34 "CutRows$Whole" "size" "I") (by decide +kernel)
  have hf_59 := hts (.fieldLink RX1 59 "CutRows$Whole" "limbs" "[I") (by decide +kernel)
  refine lv_lconst (v := lN 0) hx hb dX1_divideByDigit_0 rfl ?_
  refine lv_lstore_n (lv' := [(3, .long (lN 0)), (0, .ref v), (1, .ref a), (2, .int (nI dgi))]) hx hb dX1_divideByDigit_1 rfl hl (by decide) rfl (fun ls hl => ?_)
  refine lv_aload_n hx hb dX1_divideByDigit_2 rfl (lv_at hl 2 rfl) ?_
  refine z_get (C := RX3) (T := TX3) (N := 3) (v := .int (nI na)) hx hb hts hinX3 hown hK hM ha 1 hf_34 rfl rfl (by decide) rfl dX1_divideByDigit_3 ?_
  refine lv_iconst (v := nI 1) hx hb dX1_divideByDigit_6 rfl ?_
  refine lv_isub hx hb dX1_divideByDigit_7 ?_
  refine lv_istore (lv' := [(5, .int ((nI na) - (nI 1))), (3, .long (lN 0)), (0, .ref v), (1, .ref a), (2, .int (nI dgi))]) hx hb dX1_divideByDigit_8 hl (by decide) rfl (fun ls hl => ?_)
  have lp : ∀ (μ : Nat) (k : Nat) (left : Nat) (q1 : Nat → Nat), k = μ → (k ≤ na) → (left < dgi) → (∀ j, k ≤ j → j < na → q1 j < 2147483648) → (vl (fun j => q1 (k + j)) (na - k) = vl (fun j => da (k + j)) (na - k) / dgi ∧ left = vl (fun j => da (k + j)) (na - k) % dgi) → ∀ (ls : Array Slot) (H : Heap) (locs : List Loc), lv_has ls 6 [(5, .int (nI k - 1)), (3, .long (lN left)), (0, .ref v), (1, .ref a), (2, .int (nI dgi))] → zM Γ A s.heap (zup G lqu (zI Γ 48 q1)) H locs → W p l e (zR 2) s m args below meth c H locs 0 0 Q (F0 m 10 ls []) := by
    intro μ
    induction μ using Nat.strongRecOn with
    | _ μ ihlp =>
      intro k left q1 hμ hk hlt h2k h3 ls H locs hl hM
      rcases Nat.eq_zero_or_pos k with hk0 | hk0
      · subst hk0
        rw [show nI 0 - 1 = (-1 : Int32) from rfl] at hl
        refine lv_iload hx hb dX1_divideByDigit_10 (lv_at hl 0 rfl) ?_
        refine lv_if_lt (tgt := 55) hx hb dX1_divideByDigit_12 (by decide) (fun hc12 => ?_) (fun hc12 => ?_)
        · simp only [Nat.zero_add, Nat.sub_zero] at h3
          have h2 : dg q1 na := fun j hj => h2k j (Nat.zero_le _) hj
          refine lv_aload_n hx hb dX1_divideByDigit_55 rfl (lv_at hl 2 rfl) ?_
          refine z_get (C := RX1) (T := TX1) (N := 5) (v := .ref qu) hx hb hts hinX1 hown hK hM ((zup_n _ _ (zne hv hlqu (by intro h; cases h))).trans hv) 1 hf_20 rfl rfl (by decide) rfl dX1_divideByDigit_56 ?_
          refine lv_aload_n hx hb dX1_divideByDigit_59 rfl (lv_at hl 3 rfl) ?_
          refine z_get (C := RX3) (T := TX3) (N := 3) (v := .int (nI na)) hx hb hts hinX3 hown hK hM ((zup_n _ _ (zne ha hlqu (by intro h; cases h))).trans ha) 1 hf_34 rfl rfl (by decide) rfl dX1_divideByDigit_60 ?_
          refine lv_iconst (v := nI 1) hx hb dX1_divideByDigit_63 rfl ?_
          refine z_callv0 (va_runV (As := [.int (nI na), .int (nI 1)]) (rest := []) ⟨hx, hb, hml, hown, hts⟩ (w_settle l Γ (zup G lqu (zI Γ 48 q1)) _ qu lqu 48 n0 s0 q1 ((zup_n _ _ (zne hqu hlqu (by intro h; cases h))).trans hqu) (zup_s _ _ _) na (nI 1) hna (by decide) h2) (cwV 2 hts gX1_divideByDigit_X3_settle rfl rfl rfl (by decide +kernel) ⟨Nat.le_of_ble_eq_true rfl, Nat.le_of_ble_eq_true rfl⟩) (zM.preV hK hM ((zup_n _ _ (zne hqu hlqu (by intro h; cases h))).trans hqu) rfl rfl) rfl rfl hl.1 rfl (lv_room (Nat.le_of_ble_eq_true rfl)) dX1_divideByDigit_64 ⟨Nat.le_of_ble_eq_true rfl, Nat.le_of_ble_eq_true rfl⟩) hM (fun G64 H locs hp64 hM => ?_)
          obtain rfl := hp64
          refine lv_aload_n hx hb dX1_divideByDigit_67 rfl (lv_at hl 2 rfl) ?_
          refine z_get (C := RX1) (T := TX1) (N := 5) (v := .ref re) hx hb hts hinX1 hown hK hM ((zup_n _ _ (zne hv hqu (by intro h; cases h))).trans ((zup_n _ _ (zne hv hlqu (by intro h; cases h))).trans hv)) 2 hf_23 rfl rfl (by decide) rfl dX1_divideByDigit_68 ?_
          refine z_get (C := RX3) (T := TX3) (N := 3) (v := .ref lre) hx hb hts hinX3 hown hK hM ((zup_n _ _ (Ne.symm nf5)).trans ((zup_n _ _ (zne hre hlqu (by intro h; cases h))).trans hre)) 0 hf_59 rfl rfl (by decide) rfl dX1_divideByDigit_71 ?_
          refine lv_iconst (v := nI 0) hx hb dX1_divideByDigit_74 rfl ?_
          refine lv_lload_n hx hb dX1_divideByDigit_75 rfl (lv_at hl 1 rfl) ?_
          refine z_l2i hx hb dX1_divideByDigit_76 ?_
          refine z_ist hx hb hK hM ((zup_n _ _ (zne hlre hqu (by intro h; cases h))).trans ((zup_n _ _ (Ne.symm ne9)).trans hlre)) (by omega) (by omega) dX1_divideByDigit_77 (fun H locs hM => ?_)
          refine lv_aload_n hx hb dX1_divideByDigit_78 rfl (lv_at hl 2 rfl) ?_
          refine z_get (C := RX1) (T := TX1) (N := 5) (v := .ref re) hx hb hts hinX1 hown hK hM ((zup_n _ _ (zne hv hlre (by intro h; cases h))).trans ((zup_n _ _ (zne hv hqu (by intro h; cases h))).trans ((zup_n _ _ (zne hv hlqu (by intro h; cases h))).trans hv))) 2 hf_23 rfl rfl (by decide) rfl dX1_divideByDigit_79 ?_
          refine lv_iconst (v := nI 1) hx hb dX1_divideByDigit_82 rfl ?_
          refine lv_iconst (v := nI 1) hx hb dX1_divideByDigit_83 rfl ?_
          have d4 : dg (va_up r0 0 left) 1 := fun j hj => by rw [show j = 0 by omega, va_up_self]; omega
          have v4 : vl (va_up r0 0 left) 1 = vl da na % dgi := by rw [vl_one, va_up_self]; exact h3.2
          refine z_callv0 (va_runV (As := [.int (nI 1), .int (nI 1)]) (rest := []) ⟨hx, hb, hml, hown, hts⟩ (w_settle l Γ (zup (zup (zup G lqu (zI Γ 48 q1)) qu (.inr (5, [.ref lqu, .int (nI (tr q1 na)), .int (if tr q1 na = 0 then nI 0 else nI 1)]))) lre (zI Γ 48 (va_up r0 0 left))) _ re lre 48 n1 s1 (va_up r0 0 left) ((zup_n _ _ (zne hre hlre (by intro h; cases h))).trans ((zup_n _ _ (Ne.symm nf5)).trans ((zup_n _ _ (zne hre hlqu (by intro h; cases h))).trans hre))) (zup_s _ _ _) 1 (nI 1) (by decide) (by decide) d4) (cwV 2 hts gX1_divideByDigit_X3_settle rfl rfl rfl (by decide +kernel) ⟨Nat.le_of_ble_eq_true rfl, Nat.le_of_ble_eq_true rfl⟩) (zM.preV hK hM ((zup_n _ _ (zne hre hlre (by intro h; cases h))).trans ((zup_n _ _ (Ne.symm nf5)).trans ((zup_n _ _ (zne hre hlqu (by intro h; cases h))).trans hre))) rfl rfl) rfl rfl hl.1 rfl (lv_room (Nat.le_of_ble_eq_true rfl)) dX1_divideByDigit_84 ⟨Nat.le_of_ble_eq_true rfl, Nat.le_of_ble_eq_true rfl⟩) hM (fun G84 H locs hp84 hM => ?_)
          obtain rfl := hp84
          rw [hQ]
          rw [hAe] at hM
          exact z_vret hsz hx hb hr hlocks hK hM dX1_divideByDigit_87 (⟨fun x g1 g2 g3 g4 g5 g6 => by rw [zup_n _ _ g3, zup_n _ _ g4, zup_n _ _ g1, zup_n _ _ g2], ⟨T, ((zup_n _ _ (zne htp hre (by intro h; cases h))).trans ((zup_n _ _ (Ne.symm ne12)).trans ((zup_n _ _ (zne htp hqu (by intro h; cases h))).trans ((zup_n _ _ (Ne.symm ne10)).trans htp))))⟩, ⟨U, ((zup_n _ _ (zne hbt hre (by intro h; cases h))).trans ((zup_n _ _ (Ne.symm ne13)).trans ((zup_n _ _ (zne hbt hqu (by intro h; cases h))).trans ((zup_n _ _ (Ne.symm ne11)).trans hbt))))⟩, ⟨q1, ((zup_n _ _ nf5).trans ((zup_n _ _ (zne hqu hlre (by intro h; cases h))).trans (zup_s _ _ _))).trans (congrArg some (num_of h2 h3.1)), ((zup_n _ _ (zne hlqu hre (by intro h; cases h))).trans ((zup_n _ _ ne9).trans ((zup_n _ _ (zne hlqu hqu (by intro h; cases h))).trans (zup_s _ _ _)))), num_le h2 h3.1 hna, num_hd h2 h3.1⟩, ⟨_, (zup_s _ _ _).trans (congrArg some (num_of d4 v4)), ((zup_n _ _ (zne hlre hre (by intro h; cases h))).trans (zup_s _ _ _)), num_le d4 v4 (by omega), num_hd d4 v4⟩⟩)
        · exact absurd (by decide) hc12
      · obtain ⟨q, rfl⟩ : ∃ q, k = q + 1 := ⟨k - 1, by omega⟩
        rw [nI_pred] at hl
        have hq1 : da q < 2147483648 := hda q (by omega)
        have hlv : left * 2147483648 + da q < dgi * 2147483648 := by have := mul_le_r 2147483648 (show left + 1 ≤ dgi by omega); omega
        have hdl := div_digit_lt hg0 hlt hq1
        refine lv_iload hx hb dX1_divideByDigit_10 (lv_at hl 0 rfl) ?_
        refine z_if_ltN hx hb (by omega) dX1_divideByDigit_12 (tgt := 55) (by decide) ?_
        refine lv_lload_n hx hb dX1_divideByDigit_15 rfl (lv_at hl 1 rfl) ?_
        refine lv_bipush (v := nI 31) hx hb dX1_divideByDigit_16 rfl ?_
        refine z_lshl31 hx hb dX1_divideByDigit_18 ?_
        refine lv_aload_n hx hb dX1_divideByDigit_19 rfl (lv_at hl 3 rfl) ?_
        refine z_get (C := RX3) (T := TX3) (N := 3) (v := .ref la) hx hb hts hinX3 hown hK hM ((zup_n _ _ (zne ha hlqu (by intro h; cases h))).trans ha) 0 hf_59 rfl rfl (by decide) rfl dX1_divideByDigit_20 ?_
        refine lv_iload hx hb dX1_divideByDigit_23 (lv_at hl 0 rfl) ?_
        refine z_ild hx hb hK hM ((zup_n _ _ ne1).trans hla) (by omega) (by omega) dX1_divideByDigit_25 ?_
        refine z_i2l hx hb (by omega) dX1_divideByDigit_26 ?_
        refine z_lor31 hx hb (by omega) (by omega) dX1_divideByDigit_27 ?_
        refine lv_lstore_n (lv' := [(3, .long (lN (left * 2147483648 + (da q)))), (5, .int (nI q)), (0, .ref v), (1, .ref a), (2, .int (nI dgi))]) hx hb dX1_divideByDigit_28 rfl hl (by decide) rfl (fun ls hl => ?_)
        refine lv_aload_n hx hb dX1_divideByDigit_29 rfl (lv_at hl 2 rfl) ?_
        refine z_get (C := RX1) (T := TX1) (N := 5) (v := .ref qu) hx hb hts hinX1 hown hK hM ((zup_n _ _ (zne hv hlqu (by intro h; cases h))).trans hv) 1 hf_20 rfl rfl (by decide) rfl dX1_divideByDigit_30 ?_
        refine z_get (C := RX3) (T := TX3) (N := 3) (v := .ref lqu) hx hb hts hinX3 hown hK hM ((zup_n _ _ (zne hqu hlqu (by intro h; cases h))).trans hqu) 0 hf_59 rfl rfl (by decide) rfl dX1_divideByDigit_33 ?_
        refine lv_iload hx hb dX1_divideByDigit_36 (lv_at hl 1 rfl) ?_
        refine lv_lload_n hx hb dX1_divideByDigit_38 rfl (lv_at hl 0 rfl) ?_
        refine lv_iload_n hx hb dX1_divideByDigit_39 rfl (lv_at hl 4 rfl) ?_
        refine z_i2l hx hb (by omega) dX1_divideByDigit_40 ?_
        refine z_ldiv hx hb (by omega) (by omega) (by omega) dX1_divideByDigit_41 ?_
        refine z_l2i hx hb dX1_divideByDigit_42 ?_
        refine z_ist hx hb hK hM (zup_s _ _ _) (by omega) (by omega) dX1_divideByDigit_43 (fun H locs hM => ?_)
        have hM : zM Γ A s.heap (zup G lqu (zI Γ 48 (va_up q1 q ((left * 2147483648 + (da q)) / dgi)))) H locs := by
          rw [zup_zup] at hM; exact hM
        refine lv_lload_n hx hb dX1_divideByDigit_44 rfl (lv_at hl 0 rfl) ?_
        refine lv_iload_n hx hb dX1_divideByDigit_45 rfl (lv_at hl 4 rfl) ?_
        refine z_i2l hx hb (by omega) dX1_divideByDigit_46 ?_
        refine z_lrem hx hb (by omega) (by omega) (by omega) dX1_divideByDigit_47 ?_
        refine lv_lstore_n (lv' := [(3, .long (lN ((left * 2147483648 + (da q)) % dgi))), (5, .int (nI q)), (0, .ref v), (1, .ref a), (2, .int (nI dgi))]) hx hb dX1_divideByDigit_48 rfl hl (by decide) rfl (fun ls hl => ?_)
        refine lv_iinc (v := nI q - 1) (lv' := [(5, .int (nI q - 1)), (3, .long (lN ((left * 2147483648 + (da q)) % dgi))), (0, .ref v), (1, .ref a), (2, .int (nI dgi))]) hx hb dX1_divideByDigit_49 hl (k := 1) rfl (nI_dec _) (by decide) rfl (fun ls hl => ?_)
        refine lv_goto (tgt := 10) hx hb dX1_divideByDigit_52 (by decide) ?_
        exact ihlp _ (by omega) q ((left * 2147483648 + da q) % dgi) (va_up q1 q ((left * 2147483648 + da q) / dgi)) rfl (by omega) (Nat.mod_lt _ hg0) (fun j h5 h6 => by by_cases hc : j = q; subst hc; rw [va_up_self]; exact hdl; rw [va_up_ne _ _ hc]; exact h2k j (by omega) h6) (dd_inv hg0 hk h3) ls _ _ (lv_sub hl [0, 1, 2, 3, 4] rfl) hM
  exact lp _ na 0 q0 rfl (Nat.le_refl _) hg0 (fun j h5 h6 => by omega) (by simp [vl_0]) ls _ _ (lv_sub hl [0, 1, 2, 3, 4] rfl) (by rw [zup_self _ hlqu]; exact hM)
