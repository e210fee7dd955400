set_option maxRecDepth 100000 in
set_option maxHeartbeats 4000000 in
theorem w_addTimes (l : Launch) (Γ : zT) (G : zG) (sz : Nat) (a la r n : Nat) (sg : Int32) (d : Nat → Nat) (ha : G a = some (wh la n sg)) (hla : G la = some (zI Γ r d)) (b lb rb nb : Nat) (sgb : Int32) (db : Nat → Nat) (hbw : G b = some (wh lb nb sgb)) (hlb : G lb = some (zI Γ rb db)) (hne : la ≠ lb) (hab : a ≠ b) (x at_ : Nat) (hx31 : x < 2147483648) (hat : at_ + nb < r) (hr31 : r < 2 ^ 31) (hnb : nb ≤ rb) (hrb31 : rb < 2 ^ 31) (hdd : ∀ j, j < nb → d (at_ + j) < 2147483648) (hdb : dg db nb) : zMv l yX3_addTimes wsX3_addTimes (zR 1) Γ G sz [.ref a, .long (lN x), .ref b, .int (nI at_)] (fun G' => ∃ d', G' = zup G la (zI Γ r d') ∧ (∀ j, (j < at_ ∨ at_ + nb < j) → d' j = d j) ∧ dg (fun j => d' (at_ + j)) (nb + 1) ∧ vl (fun j => d' (at_ + j)) (nb + 1) = vl (fun j => d (at_ + j)) nb + x * vl db nb) 0 0 := by
  refine z_start (cc := cX3_addTimes) (maxL := 8) (ret := none) (by decide) rfl (Nat.le_of_ble_eq_true rfl) ?_
  intro p e s m args below meth c ls Q hQ hsz hx hb hr hml hown hts hlocks hnm hK hM hl
  obtain ⟨A, hAe⟩ : ∃ A, A = zA G s.heap.size := ⟨_, rfl⟩
  rw [← hAe] at hM
  have hl : lv_has ls 8 [(0, .ref a), (1, .long (lN x)), (3, .ref b), (4, .int (nI at_))] := hl
  have hinX3 : ∀ w ∈ wsX30, w ∈ wsX3_addTimes := by decide +kernel
  have hf_9 := hts (.fieldLink RX3 9 "CutRows$Whole" "limbs" "[I") (by decide +kernel)
  have hf_15 := hts (.fieldLink RX3 15 "CutRows$Whole" "size" "I") (by decide +kernel)
  refine lv_lconst (v := lN 0) hx hb dX3_addTimes_0 rfl ?_
  refine lv_lstore (lv' := [(5, .long (lN 0)), (0, .ref a), (1, .long (lN x)), (3, .ref b), (4, .int (nI at_))]) hx hb dX3_addTimes_1 hl (by decide) rfl (fun ls hl => ?_)
  refine lv_iconst (v := nI 0) hx hb dX3_addTimes_3 rfl ?_
  refine lv_istore (lv' := [(7, .int (nI 0)), (5, .long (lN 0)), (0, .ref a), (1, .long (lN x)), (3, .ref b), (4, .int (nI at_))]) hx hb dX3_addTimes_4 hl (by decide) rfl (fun ls hl => ?_)
  have lp : ∀ (μ : Nat) (k : Nat) (cy : Nat) (d1 : Nat → Nat), nb - k = μ → (k ≤ nb) → (cy < 2147483648) → (∀ j, (j < at_ ∨ at_ + k ≤ j) → d1 j = d j) → (dg (fun j => d1 (at_ + j)) k) → (vl (fun j => d1 (at_ + j)) k + cy * bp k = vl (fun j => d (at_ + j)) k + x * vl db k) → ∀ (ls : Array Slot) (H : Heap) (locs : List Loc), lv_has ls 8 [(7, .int (nI k)), (5, .long (lN cy)), (0, .ref a), (1, .long (lN x)), (3, .ref b), (4, .int (nI at_))] → zM Γ A s.heap (zup G la (zI Γ r d1)) H locs → W p l e (zR 1) s m args below meth c H locs 0 0 Q (F0 m 6 ls []) := by
    intro μ
    induction μ using Nat.strongRecOn with
    | _ μ ihlp =>
      intro k cy d1 hμ hk hcy h1 h2 h3 ls H locs hl hM
      refine lv_iload hx hb dX3_addTimes_6 (lv_at hl 0 rfl) ?_
      refine lv_aload_n hx hb dX3_addTimes_8 rfl (lv_at hl 4 rfl) ?_
      refine z_get (C := RX3) (T := TX3) (N := 3) (v := .int (nI nb)) hx hb hts hinX3 hown hK hM ((zup_n _ _ (zne hbw hla (by intro h; cases h))).trans hbw) 1 hf_15 rfl rfl (by decide) rfl dX3_addTimes_9 ?_
      refine z_icmp_ge (tgt := 71) hx hb (by omega) (by omega) dX3_addTimes_12 (by decide) (fun hc12 => ?_) (fun hc12 => ?_)
      · have hkn : k = nb := by omega
        rw [hkn] at h1 h2 h3
        refine lv_aload_n hx hb dX3_addTimes_71 rfl (lv_at hl 2 rfl) ?_
        refine z_get (C := RX3) (T := TX3) (N := 3) (v := .ref la) hx hb hts hinX3 hown hK hM ((zup_n _ _ (zne ha hla (by intro h; cases h))).trans ha) 0 hf_9 rfl rfl (by decide) rfl dX3_addTimes_72 ?_
        refine lv_iload hx hb dX3_addTimes_75 (lv_at hl 5 rfl) ?_
        refine lv_aload_n hx hb dX3_addTimes_77 rfl (lv_at hl 4 rfl) ?_
        refine z_get (C := RX3) (T := TX3) (N := 3) (v := .int (nI nb)) hx hb hts hinX3 hown hK hM ((zup_n _ _ (zne hbw hla (by intro h; cases h))).trans hbw) 1 hf_15 rfl rfl (by decide) rfl dX3_addTimes_78 ?_
        refine z_iadd hx hb dX3_addTimes_81 ?_
        refine lv_lload hx hb dX3_addTimes_82 (lv_at hl 1 rfl) ?_
        refine z_l2i hx hb dX3_addTimes_84 ?_
        refine z_ist hx hb hK hM (zup_s _ _ _) (by omega) (by omega) dX3_addTimes_85 (fun H locs hM => ?_)
        have hM : zM Γ A s.heap (zup G la (zI Γ r (va_up d1 (at_ + nb) cy))) H locs := by
          rw [zup_zup] at hM; exact hM
        rw [hQ]
        rw [hAe] at hM
        exact z_vret hsz hx hb hr hlocks hK hM dX3_addTimes_86 (⟨_, rfl, fun j hj => by rw [va_up_ne _ _ (by omega)]; exact h1 j (by omega), fun j hj => by show va_up d1 _ _ _ < _; by_cases hc : j = nb; subst hc; rw [va_up_self]; exact hcy; rw [va_up_ne _ _ (by omega)]; exact h2 j (by omega), by rw [vl_s, va_up_self, vl_congr (d' := fun j => d1 (at_ + j)) (fun j hj => va_up_ne _ _ (by omega))]; exact h3⟩)
      · have hb1 : db k < 2147483648 := hdb k (by omega)
        have he : d1 (at_ + k) = d (at_ + k) := h1 _ (by omega)
        have hd1 : d1 (at_ + k) < 2147483648 := by rw [he]; exact hdd k (by omega)
        have hxy : x * db k ≤ 2147483647 * 2147483647 := Nat.mul_le_mul (by omega) (by omega)
        refine lv_lload hx hb dX3_addTimes_15 (lv_at hl 1 rfl) ?_
        refine lv_lload_n hx hb dX3_addTimes_17 rfl (lv_at hl 3 rfl) ?_
        refine lv_aload_n hx hb dX3_addTimes_18 rfl (lv_at hl 4 rfl) ?_
        refine z_get (C := RX3) (T := TX3) (N := 3) (v := .ref lb) hx hb hts hinX3 hown hK hM ((zup_n _ _ (zne hbw hla (by intro h; cases h))).trans hbw) 0 hf_9 rfl rfl (by decide) rfl dX3_addTimes_19 ?_
        refine lv_iload hx hb dX3_addTimes_22 (lv_at hl 0 rfl) ?_
        refine z_ild hx hb hK hM ((zup_n _ _ (Ne.symm hne)).trans hlb) (by omega) (by omega) dX3_addTimes_24 ?_
        refine z_i2l hx hb (by omega) dX3_addTimes_25 ?_
        refine z_lmul hx hb dX3_addTimes_26 ?_
        refine lv_aload_n hx hb dX3_addTimes_27 rfl (lv_at hl 2 rfl) ?_
        refine z_get (C := RX3) (T := TX3) (N := 3) (v := .ref la) hx hb hts hinX3 hown hK hM ((zup_n _ _ (zne ha hla (by intro h; cases h))).trans ha) 0 hf_9 rfl rfl (by decide) rfl dX3_addTimes_28 ?_
        refine lv_iload hx hb dX3_addTimes_31 (lv_at hl 5 rfl) ?_
        refine lv_iload hx hb dX3_addTimes_33 (lv_at hl 0 rfl) ?_
        refine z_iadd hx hb dX3_addTimes_35 ?_
        refine z_ild hx hb hK hM (zup_s _ _ _) (by omega) (by omega) dX3_addTimes_36 ?_
        refine z_i2l hx hb (by omega) dX3_addTimes_37 ?_
        refine z_ladd hx hb dX3_addTimes_38 ?_
        refine z_ladd hx hb dX3_addTimes_39 ?_
        refine lv_lstore (lv' := [(5, .long (lN (cy + (x * (db k) + (d1 (at_ + k)))))), (7, .int (nI k)), (0, .ref a), (1, .long (lN x)), (3, .ref b), (4, .int (nI at_))]) hx hb dX3_addTimes_40 hl (by decide) rfl (fun ls hl => ?_)
        refine lv_aload_n hx hb dX3_addTimes_42 rfl (lv_at hl 2 rfl) ?_
        refine z_get (C := RX3) (T := TX3) (N := 3) (v := .ref la) hx hb hts hinX3 hown hK hM ((zup_n _ _ (zne ha hla (by intro h; cases h))).trans ha) 0 hf_9 rfl rfl (by decide) rfl dX3_addTimes_43 ?_
        refine lv_iload hx hb dX3_addTimes_46 (lv_at hl 5 rfl) ?_
        refine lv_iload hx hb dX3_addTimes_48 (lv_at hl 1 rfl) ?_
        refine z_iadd hx hb dX3_addTimes_50 ?_
        refine lv_lload hx hb dX3_addTimes_51 (lv_at hl 0 rfl) ?_
        refine z_l2i hx hb dX3_addTimes_53 ?_
        refine lv_ldc hx hb hown (hts (.constant RX3 48 (2147483647)) (by decide +kernel)) dX3_addTimes_54 ?_
        refine z_asi (y := nI 2147483647) (rfl) ?_
        refine z_iandU hx hb dX3_addTimes_56 ?_
        refine z_ist hx hb hK hM (zup_s _ _ _) (by omega) (by omega) dX3_addTimes_57 (fun H locs hM => ?_)
        have hM : zM Γ A s.heap (zup G la (zI Γ r (va_up d1 (at_ + k) ((cy + (x * (db k) + (d1 (at_ + k)))) % 2147483648)))) H locs := by
          rw [zup_zup] at hM; exact hM
        refine lv_lload hx hb dX3_addTimes_58 (lv_at hl 0 rfl) ?_
        refine lv_bipush (v := nI 31) hx hb dX3_addTimes_60 rfl ?_
        refine z_lushr31 hx hb (by omega) dX3_addTimes_62 ?_
        refine lv_lstore (lv' := [(5, .long (lN ((cy + (x * (db k) + (d1 (at_ + k)))) / 2147483648))), (7, .int (nI k)), (0, .ref a), (1, .long (lN x)), (3, .ref b), (4, .int (nI at_))]) hx hb dX3_addTimes_63 hl (by decide) rfl (fun ls hl => ?_)
        refine z_iinc (v := (k + 1)) (lv' := [(7, .int (nI (k + 1))), (5, .long (lN ((cy + (x * (db k) + (d1 (at_ + k)))) / 2147483648))), (0, .ref a), (1, .long (lN x)), (3, .ref b), (4, .int (nI at_))]) hx hb dX3_addTimes_65 hl (k := 1) rfl (nI_p1 _) (by decide) rfl (fun ls hl => ?_)
        refine lv_goto (tgt := 6) hx hb dX3_addTimes_68 (by decide) ?_
        exact ihlp _ (by omega) (k + 1) ((cy + (x * db k + d1 (at_ + k))) / 2147483648) (va_up d1 (at_ + k) ((cy + (x * db k + d1 (at_ + k))) % 2147483648)) rfl (by omega) (by omega) (fun j hj => by rw [va_up_ne _ _ (by omega)]; exact h1 j (by omega)) (fun j hj => by show va_up d1 _ _ _ < _; by_cases hc : j = k; subst hc; rw [va_up_self]; omega; rw [va_up_ne _ _ (by omega)]; exact h2 j (by omega)) (at_step h3 he) ls _ _ (lv_sub hl [0, 1, 2, 3, 4, 5] rfl) hM
  exact lp _ 0 0 d rfl (by omega) (by omega) (fun _ _ => rfl) (fun _ h => by omega) (by simp [vl_0]) ls _ _ (lv_sub hl [0, 1, 2, 3, 4, 5] rfl) (by rw [zup_self _ hla]; exact hM)

set_option maxRecDepth 100000 in
set_option maxHeartbeats 4000000 in
theorem w_setProduct (l : Launch) (Γ : zT) (G : zG) (sz : Nat) (a la r n : Nat) (sg : Int32) (d : Nat → Nat) (ha : G a = some (wh la n sg)) (hla : G la = some (zI Γ r d)) (b lb rb nb : Nat) (sgb : Int32) (db : Nat → Nat) (hbw : G b = some (wh lb nb sgb)) (hlb : G lb = some (zI Γ rb db)) (q lq rq nq : Nat) (sgq : Int32) (dq : Nat → Nat) (hqw : G q = some (wh lq nq sgq)) (hlq : G lq = some (zI Γ rq dq)) (hne : la ≠ lb) (hab : a ≠ b) (hnq : la ≠ lq) (haq : a ≠ q) (hr31 : r < 2 ^ 31) (hnbr : nb ≤ rb) (hrb31 : rb < 2 ^ 31) (hnqr : nq ≤ rq) (hrq31 : rq < 2 ^ 31) (hfit : nb + nq ≤ r) (hdb : dg db nb) (hdq : dg dq nq) : zMv l yX3_setProduct wsX3_setProduct (zR 3) Γ G sz [.ref a, .ref b, .ref q] (fun G' => ∃ d', G' = zup (zup G la (zI Γ r d')) a (wh la (nl (vl db nb * vl dq nq)) (if nl (vl db nb * vl dq nq) = 0 then nI 0 else sgb * sgq)) ∧ dg d' (nb + nq) ∧ vl d' (nb + nq) = vl db nb * vl dq nq) 0 0 := by
  refine z_start (cc := cX3_setProduct) (maxL := 4) (ret := none) (by decide) rfl (Nat.le_of_ble_eq_true rfl) ?_
  intro p e s m args below meth c ls Q hQ hsz hx hb hr hml hown hts hlocks hnm hK hM hl
  obtain ⟨A, hAe⟩ : ∃ A, A = zA G s.heap.size := ⟨_, rfl⟩
  rw [← hAe] at hM
  have hl : lv_has ls 4 [(0, .ref a), (1, .ref b), (2, .ref q)] := hl
  have hinX3 : ∀ w ∈ wsX30, w ∈ wsX3_setProduct := by decide +kernel
  have hf_9 := hts (.fieldLink RX3 9 "CutRows$Whole" "limbs" "[I") (by decide +kernel)
  have hf_15 := hts (.fieldLink RX3 15 "CutRows$Whole" "size" "I") (by decide +kernel)
  have hf_19 := hts (.fieldLink RX3 19 "CutRows$Whole" "sign" "I") (by decide +kernel)
  refine lv_aload_n hx hb dX3_setProduct_0 rfl (lv_at hl 0 rfl) ?_
  refine z_get (C := RX3) (T := TX3) (N := 3) (v := .ref la) hx hb hts hinX3 hown hK hM ha 0 hf_9 rfl rfl (by decide) rfl dX3_setProduct_1 ?_
  refine lv_iconst (v := nI 0) hx hb dX3_setProduct_4 rfl ?_
  refine lv_aload_n hx hb dX3_setProduct_5 rfl (lv_at hl 1 rfl) ?_
  refine z_get (C := RX3) (T := TX3) (N := 3) (v := .int (nI nb)) hx hb hts hinX3 hown hK hM hbw 1 hf_15 rfl rfl (by decide) rfl dX3_setProduct_6 ?_
  refine lv_aload_n hx hb dX3_setProduct_9 rfl (lv_at hl 2 rfl) ?_
  refine z_get (C := RX3) (T := TX3) (N := 3) (v := .int (nI nq)) hx hb hts hinX3 hown hK hM hqw 1 hf_15 rfl rfl (by decide) rfl dX3_setProduct_10 ?_
  refine z_iadd hx hb dX3_setProduct_13 ?_
  refine lv_iconst (v := nI 0) hx hb dX3_setProduct_14 rfl ?_
  refine z_callv0 (va_runS (As := [.ref la, .int (nI 0), .int (nI (nb + nq)), .int (nI 0)]) (rest := []) ⟨hx, hb, hml, hown, hts⟩ (j_fill_fda19 l Γ G _ la r 0 (nb + nq) 0 d hla (by omega) hfit hr31) (va_cwS 4 hts gX3_setProduct_J7_fill_fda19 rfl rfl rfl (by decide +kernel) ⟨Nat.le_of_ble_eq_true rfl, Nat.le_of_ble_eq_true rfl⟩) (zM.pre hK hM) rfl rfl hl.1 rfl (lv_room (Nat.le_of_ble_eq_true rfl)) dX3_setProduct_15 ⟨Nat.le_of_ble_eq_true rfl, Nat.le_of_ble_eq_true rfl⟩) hM (fun G15 H locs hp15 hM => ?_)
  obtain rfl := hp15
  refine lv_iconst (v := nI 0) hx hb dX3_setProduct_18 rfl ?_
  refine lv_istore_n (lv' := [(3, .int (nI 0)), (0, .ref a), (1, .ref b), (2, .ref q)]) hx hb dX3_setProduct_19 rfl hl (by decide) rfl (fun ls hl => ?_)
  have lp : ∀ (μ : Nat) (i : Nat) (d1 : Nat → Nat), nb - i = μ → (i ≤ nb) → (dg d1 (i + nq)) → (vl d1 (i + nq) = vl db i * vl dq nq) → (∀ j, i + nq ≤ j → j < nb + nq → d1 j = 0) → ∀ (ls : Array Slot) (H : Heap) (locs : List Loc), lv_has ls 4 [(3, .int (nI i)), (0, .ref a), (1, .ref b), (2, .ref q)] → zM Γ A s.heap (zup G la (zI Γ r d1)) H locs → W p l e (zR 3) s m args below meth c H locs 0 0 Q (F0 m 20 ls []) := by
    intro μ
    induction μ using Nat.strongRecOn with
    | _ μ ihlp =>
      intro i d1 hμ hi h2 h3 h4 ls H locs hl hM
      refine lv_iload_n hx hb dX3_setProduct_20 rfl (lv_at hl 0 rfl) ?_
      refine lv_aload_n hx hb dX3_setProduct_21 rfl (lv_at hl 2 rfl) ?_
      refine z_get (C := RX3) (T := TX3) (N := 3) (v := .int (nI nb)) hx hb hts hinX3 hown hK hM ((zup_n _ _ (zne hbw hla (by intro h; cases h))).trans hbw) 1 hf_15 rfl rfl (by decide) rfl dX3_setProduct_22 ?_
      refine z_icmp_ge (tgt := 47) hx hb (by omega) (by omega) dX3_setProduct_25 (by decide) (fun hc25 => ?_) (fun hc25 => ?_)
      · have hin : i = nb := by omega
        rw [hin] at h2 h3
        refine lv_aload_n hx hb dX3_setProduct_47 rfl (lv_at hl 1 rfl) ?_
        refine lv_aload_n hx hb dX3_setProduct_48 rfl (lv_at hl 2 rfl) ?_
        refine z_get (C := RX3) (T := TX3) (N := 3) (v := .int (nI nb)) hx hb hts hinX3 hown hK hM ((zup_n _ _ (zne hbw hla (by intro h; cases h))).trans hbw) 1 hf_15 rfl rfl (by decide) rfl dX3_setProduct_49 ?_
        refine lv_aload_n hx hb dX3_setProduct_52 rfl (lv_at hl 3 rfl) ?_
        refine z_get (C := RX3) (T := TX3) (N := 3) (v := .int (nI nq)) hx hb hts hinX3 hown hK hM ((zup_n _ _ (zne hqw hla (by intro h; cases h))).trans hqw) 1 hf_15 rfl rfl (by decide) rfl dX3_setProduct_53 ?_
        refine z_iadd hx hb dX3_setProduct_56 ?_
        refine lv_aload_n hx hb dX3_setProduct_57 rfl (lv_at hl 2 rfl) ?_
        refine z_get (C := RX3) (T := TX3) (N := 3) (v := .int sgb) hx hb hts hinX3 hown hK hM ((zup_n _ _ (zne hbw hla (by intro h; cases h))).trans hbw) 2 hf_19 rfl rfl (by decide) rfl dX3_setProduct_58 ?_
        refine lv_aload_n hx hb dX3_setProduct_61 rfl (lv_at hl 3 rfl) ?_
        refine z_get (C := RX3) (T := TX3) (N := 3) (v := .int sgq) hx hb hts hinX3 hown hK hM ((zup_n _ _ (zne hqw hla (by intro h; cases h))).trans hqw) 2 hf_19 rfl rfl (by decide) rfl dX3_setProduct_62 ?_
        refine lv_imul hx hb dX3_setProduct_65 ?_
        refine z_callv0 (va_runV (As := [.int (nI (nb + nq)), .int (sgb * sgq)]) (rest := []) ⟨hx, hb, hml, hown, hts⟩ (w_settle l Γ (zup G la (zI Γ r d1)) _ a la r n sg d1 ((zup_n _ _ (zne ha hla (by intro h; cases h))).trans ha) (zup_s _ _ _) (nb + nq) (sgb * sgq) hfit hr31 h2) (cwV 2 hts gX3_setProduct_X3_settle rfl rfl rfl (by decide +kernel) ⟨Nat.le_of_ble_eq_true rfl, Nat.le_of_ble_eq_true rfl⟩) (zM.preV hK hM ((zup_n _ _ (zne ha hla (by intro h; cases h))).trans ha) rfl rfl) rfl rfl hl.1 rfl (lv_room (Nat.le_of_ble_eq_true rfl)) dX3_setProduct_66 ⟨Nat.le_of_ble_eq_true rfl, Nat.le_of_ble_eq_true rfl⟩) hM (fun G66 H locs hp66 hM => ?_)
        obtain rfl := hp66
        rw [hQ]
        rw [hAe] at hM
        exact z_vret hsz hx hb hr hlocks hK hM dX3_setProduct_69 (⟨d1, by rw [tr_of h2 h3], h2, h3⟩)
      · refine lv_aload_n hx hb dX3_setProduct_28 rfl (lv_at hl 1 rfl) ?_
        refine lv_aload_n hx hb dX3_setProduct_29 rfl (lv_at hl 2 rfl) ?_
        refine z_get (C := RX3) (T := TX3) (N := 3) (v := .ref lb) hx hb hts hinX3 hown hK hM ((zup_n _ _ (zne hbw hla (by intro h; cases h))).trans hbw) 0 hf_9 rfl rfl (by decide) rfl dX3_setProduct_30 ?_
        refine lv_iload_n hx hb dX3_setProduct_33 rfl (lv_at hl 0 rfl) ?_
        refine z_ild hx hb hK hM ((zup_n _ _ (Ne.symm hne)).trans hlb) (by omega) (by omega) dX3_setProduct_34 ?_
        refine z_i2l hx hb (hdb i (by omega)) dX3_setProduct_35 ?_
        refine lv_aload_n hx hb dX3_setProduct_36 rfl (lv_at hl 3 rfl) ?_
        refine lv_iload_n hx hb dX3_setProduct_37 rfl (lv_at hl 0 rfl) ?_
        refine z_callv0 (va_runV (As := [.long (lN (db i)), .ref q, .int (nI i)]) (rest := []) ⟨hx, hb, hml, hown, hts⟩ (w_addTimes l Γ (zup G la (zI Γ r d1)) _ a la r n sg d1 ((zup_n _ _ (zne ha hla (by intro h; cases h))).trans ha) (zup_s _ _ _) q lq rq nq sgq dq ((zup_n _ _ (zne hqw hla (by intro h; cases h))).trans hqw) ((zup_n _ _ (Ne.symm hnq)).trans hlq) hnq haq (db i) i (hdb i (by omega)) (by omega) hr31 hnqr hrq31 (fun j hj => h2 _ (by omega)) hdq) (cwV 3 hts gX3_setProduct_X3_addTimes rfl rfl rfl (by decide +kernel) ⟨Nat.le_of_ble_eq_true rfl, Nat.le_of_ble_eq_true rfl⟩) (zM.preV hK hM ((zup_n _ _ (zne ha hla (by intro h; cases h))).trans ha) rfl rfl) rfl rfl hl.1 rfl (lv_room (Nat.le_of_ble_eq_true rfl)) dX3_setProduct_38 ⟨Nat.le_of_ble_eq_true rfl, Nat.le_of_ble_eq_true rfl⟩) hM (fun G38 H locs hp38 hM => ?_)
        obtain ⟨d2, rfl, g1, g2, g3⟩ := hp38
        rw [zup_zup] at hM
        refine z_iinc (v := (i + 1)) (lv' := [(3, .int (nI (i + 1))), (0, .ref a), (1, .ref b), (2, .ref q)]) hx hb dX3_setProduct_41 hl (k := 0) rfl (nI_p1 _) (by decide) rfl (fun ls hl => ?_)
        refine lv_goto (tgt := 20) hx hb dX3_setProduct_44 (by decide) ?_
        exact ihlp _ (by omega) (i + 1) d2 rfl (by omega) (fun j hj => by rcases Nat.lt_or_ge j i with g | g; rw [g1 j (Or.inl g)]; exact h2 j (by omega); obtain ⟨t, rfl⟩ : ∃ t, j = i + t := ⟨j - i, by omega⟩; exact g2 t (by omega)) (prod_step g1 g3 h3) (fun j h5 h6 => by rw [g1 j (by omega)]; exact h4 j (by omega) h6) ls _ _ (lv_sub hl [0, 1, 2, 3] rfl) hM
  exact lp _ 0 _ rfl (by omega) (fun j hj => by show (if _ then _ else _) < _; rw [if_pos (by omega)]; decide) (by rw [vl_0, Nat.zero_mul, vl_pad (Nat.zero_le _) (fun j _ hj => if_pos (by omega))]; rfl) (fun j h1 h2 => if_pos (by omega)) ls _ _ (lv_sub hl [0, 1, 2, 3] rfl) hM

set_option maxRecDepth 100000 in
set_option maxHeartbeats 4000000 in
theorem w_addLimbs (l : Launch) (Γ : zT) (G : zG) (sz : Nat) (a la r n : Nat) (sg : Int32) (d : Nat → Nat) (ha : G a = some (wh la n sg)) (hla : G la = some (zI Γ r d)) (b lb rb nb : Nat) (sgb : Int32) (db : Nat → Nat) (hbw : G b = some (wh lb nb sgb)) (hlb : G lb = some (zI Γ rb db)) (ns : Int32) (hne : la ≠ lb) (hab : a ≠ b) (hnr : n ≤ r) (hr31 : r < 2 ^ 31) (hnb : nb ≤ rb) (hrb31 : rb < 2 ^ 31) (fa : sf d n) (fb : sf db nb) (hfit : nl (vl d n + vl db nb) ≤ r) : zMv l yX3_addLimbs wsX3_addLimbs (zR 2) Γ G sz [.ref a, .ref b, .int ns] (fun G' => ∃ d', G' = zup (zup G la (zI Γ r d')) a (wh la (nl (vl d n + vl db nb)) (if nl (vl d n + vl db nb) = 0 then nI 0 else ns)) ∧ dg d' (nl (vl d n + vl db nb)) ∧ vl d' (nl (vl d n + vl db nb)) = vl d n + vl db nb) 0 0 := by
  refine z_start (cc := cX3_addLimbs) (maxL := 7) (ret := none) (by decide) rfl (Nat.le_of_ble_eq_true rfl) ?_
  intro p e s m args below meth c ls Q hQ hsz hx hb hr hml hown hts hlocks hnm hK hM hl
  obtain ⟨A, hAe⟩ : ∃ A, A = zA G s.heap.size := ⟨_, rfl⟩
  rw [← hAe] at hM
  have hl : lv_has ls 7 [(0, .ref a), (1, .ref b), (2, .int ns)] := hl
  have hinX3 : ∀ w ∈ wsX30, w ∈ wsX3_addLimbs := by decide +kernel
  have hf_9 := hts (.fieldLink RX3 9 "CutRows$Whole" "limbs" "[I") (by decide +kernel)
  have hf_15 := hts (.fieldLink RX3 15 "CutRows$Whole" "size" "I") (by decide +kernel)
  have hmx : max n nb ≤ r := by have g1 := nl_mono (Nat.le_add_right (vl d n) (vl db nb)); have g2 := nl_mono (Nat.le_add_left (vl db nb) (vl d n)); rw [fa.nl] at g1; rw [fb.nl] at g2; omega
  refine lv_aload_n hx hb dX3_addLimbs_0 rfl (lv_at hl 0 rfl) ?_
  refine z_get (C := RX3) (T := TX3) (N := 3) (v := .int (nI n)) hx hb hts hinX3 hown hK hM ha 1 hf_15 rfl rfl (by decide) rfl dX3_addLimbs_1 ?_
  refine lv_aload_n hx hb dX3_addLimbs_4 rfl (lv_at hl 1 rfl) ?_
  refine z_get (C := RX3) (T := TX3) (N := 3) (v := .int (nI nb)) hx hb hts hinX3 hown hK hM hbw 1 hf_15 rfl rfl (by decide) rfl dX3_addLimbs_5 ?_
  refine z_max hx hb (by rw [hml]; exact hl.1.symm) hown (hts (.methodLink RX3 61 Lib.Math.max.name) (by decide +kernel)) (hts (.static Lib.Math.max.name) (by decide +kernel)) (hts (.initialized "java/lang/Math") (by decide +kernel)) (hts (.code Lib.Math.max.name Lib.Math.max.code 2 (some .int)) (by decide +kernel)) (Nat.le_of_ble_eq_true rfl) (Nat.le_of_ble_eq_true rfl) (Nat.le_refl _) (Nat.le_refl _) (by omega) (by omega) dX3_addLimbs_8 ?_
  obtain ⟨len, hlen⟩ : ∃ len, len = max n nb := ⟨_, rfl⟩
  rw [← hlen]
  refine lv_istore_n (lv' := [(3, .int (nI len)), (0, .ref a), (1, .ref b), (2, .int ns)]) hx hb dX3_addLimbs_11 rfl hl (by decide) rfl (fun ls hl => ?_)
  refine lv_lconst (v := lN 0) hx hb dX3_addLimbs_12 rfl ?_
  refine lv_lstore (lv' := [(4, .long (lN 0)), (3, .int (nI len)), (0, .ref a), (1, .ref b), (2, .int ns)]) hx hb dX3_addLimbs_13 hl (by decide) rfl (fun ls hl => ?_)
  refine lv_iconst (v := nI 0) hx hb dX3_addLimbs_15 rfl ?_
  refine lv_istore (lv' := [(6, .int (nI 0)), (4, .long (lN 0)), (3, .int (nI len)), (0, .ref a), (1, .ref b), (2, .int ns)]) hx hb dX3_addLimbs_16 hl (by decide) rfl (fun ls hl => ?_)
  have lp : ∀ (μ : Nat) (i : Nat) (cy : Nat) (d1 : Nat → Nat), len - i = μ → (i ≤ len) → (cy ≤ 1) → (∀ j, i ≤ j → d1 j = d j) → (dg d1 i) → (vl d1 i + cy * bp i = vl (dgt d n) i + vl (dgt db nb) i) → ∀ (ls : Array Slot) (H : Heap) (locs : List Loc), lv_has ls 7 [(6, .int (nI i)), (4, .long (lN cy)), (3, .int (nI len)), (0, .ref a), (1, .ref b), (2, .int ns)] → zM Γ A s.heap (zup G la (zI Γ r d1)) H locs → W p l e (zR 2) s m args below meth c H locs 0 0 Q (F0 m 18 ls []) := by
    intro μ
    induction μ using Nat.strongRecOn with
    | _ μ ihlp =>
      intro i cy d1 hμ hi hcy h1 h2 h3 ls H locs hl hM
      refine lv_iload hx hb dX3_addLimbs_18 (lv_at hl 0 rfl) ?_
      refine lv_iload_n hx hb dX3_addLimbs_20 rfl (lv_at hl 2 rfl) ?_
      refine z_icmp_ge (tgt := 70) hx hb (by omega) (by omega) dX3_addLimbs_21 (by decide) (fun hc21 => ?_) (fun hc21 => ?_)
      · have hin : i = len := by omega
        refine lv_lload hx hb dX3_addLimbs_70 (lv_at hl 1 rfl) ?_
        refine lv_lconst (v := lN 0) hx hb dX3_addLimbs_72 rfl ?_
        refine W.lcmp hx hb dX3_addLimbs_73 ?_
        refine lv_if_eq (tgt := 89) hx hb dX3_addLimbs_74 (by decide) (fun hc74 => ?_) (fun hc74 => ?_)
        · have hcy0 : cy = 0 := (pk_lEQ (show cy < 2 ^ 63 by omega) (show 0 < 2 ^ 63 by decide)).mp ((lg_cmp_eq _ _).mp hc74)
          have hv : vl d1 len = vl d n + vl db nb := by rw [hin, dgt_vl (by omega), dgt_vl (by omega), hcy0] at h3; omega
          have h2l : dg d1 len := by rw [← hin]; exact h2
          refine lv_aload_n hx hb dX3_addLimbs_89 rfl (lv_at hl 3 rfl) ?_
          refine lv_iload_n hx hb dX3_addLimbs_90 rfl (lv_at hl 2 rfl) ?_
          refine lv_iload_n hx hb dX3_addLimbs_91 rfl (lv_at hl 5 rfl) ?_
          refine z_callv0 (va_runV (As := [.int (nI len), .int ns]) (rest := []) ⟨hx, hb, hml, hown, hts⟩ (w_settle l Γ (zup G la (zI Γ r d1)) _ a la r n sg d1 ((zup_n _ _ (zne ha hla (by intro h; cases h))).trans ha) (zup_s _ _ _) len ns (by omega) hr31 h2l) (cwV 2 hts gX3_addLimbs_X3_settle rfl rfl rfl (by decide +kernel) ⟨Nat.le_of_ble_eq_true rfl, Nat.le_of_ble_eq_true rfl⟩) (zM.preV hK hM ((zup_n _ _ (zne ha hla (by intro h; cases h))).trans ha) rfl rfl) rfl rfl hl.1 rfl (lv_room (Nat.le_of_ble_eq_true rfl)) dX3_addLimbs_92 ⟨Nat.le_of_ble_eq_true rfl, Nat.le_of_ble_eq_true rfl⟩) hM (fun G92 H locs hp92 hM => ?_)
          obtain rfl := hp92
          rw [hQ]
          rw [hAe] at hM
          exact z_vret hsz hx hb hr hlocks hK hM dX3_addLimbs_95 (⟨d1, by rw [tr_of h2l hv], h2l.le (by rw [← tr_of h2l hv]; exact tr_le _ _), by rw [← tr_of h2l hv, tr_vl]; exact hv⟩)
        · have hcy0 : cy ≠ 0 := fun h9 => hc74 ((lg_cmp_eq _ _).mpr (by rw [h9]))
          have hvc : vl d1 len + cy * bp len = vl d n + vl db nb := by rw [hin, dgt_vl (by omega), dgt_vl (by omega)] at h3; exact h3
          have hlr : len < r := by
            have g1 := mul_le_r (bp len) (show 1 ≤ cy by omega)
            have g2 := nl_gt (show bp len ≤ vl d n + vl db nb by omega)
            omega
          refine lv_aload_n hx hb dX3_addLimbs_77 rfl (lv_at hl 3 rfl) ?_
          refine z_get (C := RX3) (T := TX3) (N := 3) (v := .ref la) hx hb hts hinX3 hown hK hM ((zup_n _ _ (zne ha hla (by intro h; cases h))).trans ha) 0 hf_9 rfl rfl (by decide) rfl dX3_addLimbs_78 ?_
          refine lv_iload_n hx hb dX3_addLimbs_81 rfl (lv_at hl 2 rfl) ?_
          refine lv_lload hx hb dX3_addLimbs_82 (lv_at hl 1 rfl) ?_
          refine z_l2i hx hb dX3_addLimbs_84 ?_
          refine z_ist hx hb hK hM (zup_s _ _ _) (by omega) (by omega) dX3_addLimbs_85 (fun H locs hM => ?_)
          have hM : zM Γ A s.heap (zup G la (zI Γ r (va_up d1 len cy))) H locs := by
            rw [zup_zup] at hM; exact hM
          refine z_iinc (v := (len + 1)) (lv' := [(3, .int (nI (len + 1))), (6, .int (nI i)), (4, .long (lN cy)), (0, .ref a), (1, .ref b), (2, .int ns)]) hx hb dX3_addLimbs_86 hl (k := 2) rfl (nI_p1 _) (by decide) rfl (fun ls hl => ?_)
          refine lv_aload_n hx hb dX3_addLimbs_89 rfl (lv_at hl 3 rfl) ?_
          refine lv_iload_n hx hb dX3_addLimbs_90 rfl (lv_at hl 0 rfl) ?_
          refine lv_iload_n hx hb dX3_addLimbs_91 rfl (lv_at hl 5 rfl) ?_
          have h2c : dg (va_up d1 len cy) (len + 1) := up_dg0 (by rw [← hin]; exact h2) (by omega)
          have hvv : vl (va_up d1 len cy) (len + 1) = vl d n + vl db nb := by rw [up_vl0]; exact hvc
          refine z_callv0 (va_runV (As := [.int (nI (len + 1)), .int ns]) (rest := []) ⟨hx, hb, hml, hown, hts⟩ (w_settle l Γ (zup G la (zI Γ r (va_up d1 len cy))) _ a la r n sg (va_up d1 len cy) ((zup_n _ _ (zne ha hla (by intro h; cases h))).trans ha) (zup_s _ _ _) (len + 1) ns (by omega) hr31 h2c) (cwV 2 hts gX3_addLimbs_X3_settle rfl rfl rfl (by decide +kernel) ⟨Nat.le_of_ble_eq_true rfl, Nat.le_of_ble_eq_true rfl⟩) (zM.preV hK hM ((zup_n _ _ (zne ha hla (by intro h; cases h))).trans ha) rfl rfl) rfl rfl hl.1 rfl (lv_room (Nat.le_of_ble_eq_true rfl)) dX3_addLimbs_92 ⟨Nat.le_of_ble_eq_true rfl, Nat.le_of_ble_eq_true rfl⟩) hM (fun G92 H locs hp92 hM => ?_)
          obtain rfl := hp92
          rw [hQ]
          rw [hAe] at hM
          exact z_vret hsz hx hb hr hlocks hK hM dX3_addLimbs_95 (⟨(va_up d1 len cy), by rw [tr_of h2c hvv], h2c.le (by rw [← tr_of h2c hvv]; exact tr_le _ _), by rw [← tr_of h2c hvv, tr_vl]; exact hvv⟩)
      · refine lv_lload hx hb dX3_addLimbs_24 (lv_at hl 1 rfl) ?_
        refine lv_aload_n hx hb dX3_addLimbs_26 rfl (lv_at hl 3 rfl) ?_
        refine lv_iload hx hb dX3_addLimbs_27 (lv_at hl 0 rfl) ?_
        refine z_calli0 (va_runV (As := [.int (nI i)]) (rest := [.long (lN cy)]) ⟨hx, hb, hml, hown, hts⟩ (w_digit l Γ (zup G la (zI Γ r d1)) _ a la r n sg d1 ((zup_n _ _ (zne ha hla (by intro h; cases h))).trans ha) (zup_s _ _ _) i (by omega) hnr hr31) (cwV 1 hts gX3_addLimbs_X3_digit rfl rfl rfl (by decide +kernel) ⟨Nat.le_of_ble_eq_true rfl, Nat.le_of_ble_eq_true rfl⟩) (zM.preV hK hM ((zup_n _ _ (zne ha hla (by intro h; cases h))).trans ha) rfl rfl) rfl rfl hl.1 rfl (lv_room (Nat.le_of_ble_eq_true rfl)) dX3_addLimbs_29 ⟨Nat.le_of_ble_eq_true rfl, Nat.le_of_ble_eq_true rfl⟩) hM (fun r29 G29 H locs hp29 hM => ?_)
        obtain ⟨rfl, hGe⟩ := hp29
        rw [hGe] at hM
        refine z_asi (y := nI (dgt d n i)) (congrArg nI (dgt_mix h1)) ?_
        have hx1 := dgt_lt fa.1 i
        refine z_i2l hx hb (by omega) dX3_addLimbs_32 ?_
        refine lv_aload_n hx hb dX3_addLimbs_33 rfl (lv_at hl 4 rfl) ?_
        refine lv_iload hx hb dX3_addLimbs_34 (lv_at hl 0 rfl) ?_
        refine z_calli0 (va_runV (As := [.int (nI i)]) (rest := [.long (lN (dgt d n i)), .long (lN cy)]) ⟨hx, hb, hml, hown, hts⟩ (w_digit l Γ (zup G la (zI Γ r d1)) _ b lb rb nb sgb db ((zup_n _ _ (zne hbw hla (by intro h; cases h))).trans hbw) ((zup_n _ _ (Ne.symm hne)).trans hlb) i (by omega) hnb hrb31) (cwV 1 hts gX3_addLimbs_X3_digit rfl rfl rfl (by decide +kernel) ⟨Nat.le_of_ble_eq_true rfl, Nat.le_of_ble_eq_true rfl⟩) (zM.preV hK hM ((zup_n _ _ (zne hbw hla (by intro h; cases h))).trans hbw) rfl rfl) rfl rfl hl.1 rfl (lv_room (Nat.le_of_ble_eq_true rfl)) dX3_addLimbs_36 ⟨Nat.le_of_ble_eq_true rfl, Nat.le_of_ble_eq_true rfl⟩) hM (fun r36 G36 H locs hp36 hM => ?_)
        obtain ⟨rfl, hGe⟩ := hp36
        rw [hGe] at hM
        have hy1 := dgt_lt fb.1 i
        refine z_i2l hx hb (by omega) dX3_addLimbs_39 ?_
        refine z_ladd hx hb dX3_addLimbs_40 ?_
        refine z_ladd hx hb dX3_addLimbs_41 ?_
        refine lv_lstore (lv' := [(4, .long (lN (cy + (dgt d n i + (dgt db nb i))))), (6, .int (nI i)), (3, .int (nI len)), (0, .ref a), (1, .ref b), (2, .int ns)]) hx hb dX3_addLimbs_42 hl (by decide) rfl (fun ls hl => ?_)
        refine lv_aload_n hx hb dX3_addLimbs_44 rfl (lv_at hl 3 rfl) ?_
        refine z_get (C := RX3) (T := TX3) (N := 3) (v := .ref la) hx hb hts hinX3 hown hK hM ((zup_n _ _ (zne ha hla (by intro h; cases h))).trans ha) 0 hf_9 rfl rfl (by decide) rfl dX3_addLimbs_45 ?_
        refine lv_iload hx hb dX3_addLimbs_48 (lv_at hl 1 rfl) ?_
        refine lv_lload hx hb dX3_addLimbs_50 (lv_at hl 0 rfl) ?_
        refine z_l2i hx hb dX3_addLimbs_52 ?_
        refine lv_ldc hx hb hown (hts (.constant RX3 48 (2147483647)) (by decide +kernel)) dX3_addLimbs_53 ?_
        refine z_asi (y := nI 2147483647) (rfl) ?_
        refine z_iandU hx hb dX3_addLimbs_55 ?_
        refine z_ist hx hb hK hM (zup_s _ _ _) (by omega) (by omega) dX3_addLimbs_56 (fun H locs hM => ?_)
        have hM : zM Γ A s.heap (zup G la (zI Γ r (va_up d1 i ((cy + (dgt d n i + (dgt db nb i))) % 2147483648)))) H locs := by
          rw [zup_zup] at hM; exact hM
        refine lv_lload hx hb dX3_addLimbs_57 (lv_at hl 0 rfl) ?_
        refine lv_bipush (v := nI 31) hx hb dX3_addLimbs_59 rfl ?_
        refine z_lushr31 hx hb (by omega) dX3_addLimbs_61 ?_
        refine lv_lstore (lv' := [(4, .long (lN ((cy + (dgt d n i + (dgt db nb i))) / 2147483648))), (6, .int (nI i)), (3, .int (nI len)), (0, .ref a), (1, .ref b), (2, .int ns)]) hx hb dX3_addLimbs_62 hl (by decide) rfl (fun ls hl => ?_)
        refine z_iinc (v := (i + 1)) (lv' := [(6, .int (nI (i + 1))), (4, .long (lN ((cy + (dgt d n i + (dgt db nb i))) / 2147483648))), (3, .int (nI len)), (0, .ref a), (1, .ref b), (2, .int ns)]) hx hb dX3_addLimbs_64 hl (k := 1) rfl (nI_p1 _) (by decide) rfl (fun ls hl => ?_)
        refine lv_goto (tgt := 18) hx hb dX3_addLimbs_67 (by decide) ?_
        exact ihlp _ (by omega) (i + 1) ((cy + (dgt d n i + dgt db nb i)) / 2147483648) (va_up d1 i ((cy + (dgt d n i + dgt db nb i)) % 2147483648)) rfl (by omega) (by omega) (fun j hj => by rw [va_up_ne _ _ (by omega)]; exact h1 j (by omega)) (up_dg0 h2 (by omega)) (by rw [up_vl0, vl_s, vl_s, show cy + (dgt d n i + dgt db nb i) = dgt d n i + dgt db nb i + cy by omega]; exact add_step h3) ls _ _ (lv_sub hl [0, 1, 2, 3, 4, 5] rfl) hM
  exact lp _ 0 0 d rfl (by omega) (by omega) (fun _ _ => rfl) (fun _ h => by omega) (by simp [vl_0]) ls _ _ (lv_sub hl [0, 1, 2, 3, 4, 5] rfl) (by rw [zup_self _ hla]; exact hM)

set_option maxRecDepth 100000 in
set_option maxHeartbeats 4000000 in
theorem w_setDifferenceA (l : Launch) (Γ : zT) (G : zG) (sz : Nat) (a la r n : Nat) (sg : Int32) (d : Nat → Nat) (ha : G a = some (wh la n sg)) (hla : G la = some (zI Γ r d)) (b lb rb nb : Nat) (sgb : Int32) (db : Nat → Nat) (hbw : G b = some (wh lb nb sgb)) (hlb : G lb = some (zI Γ rb db)) (ns : Int32) (hne : la ≠ lb) (hab : a ≠ b) (hnr : n ≤ r) (hr31 : r < 2 ^ 31) (hnb : nb ≤ rb) (hrb31 : rb < 2 ^ 31) (fa : sf d n) (fb : sf db nb) (hle : vl db nb ≤ vl d n) (hBr : n ≤ r) : zMv l yX3_setDifference wsX3_setDifference (zR 2) Γ G sz [.ref a, .ref a, .ref b, .int ns] (fun G' => ∃ d', G' = zup (zup G la (zI Γ r d')) a (wh la (nl (vl d n - vl db nb)) (if nl (vl d n - vl db nb) = 0 then nI 0 else ns)) ∧ dg d' (nl (vl d n - vl db nb)) ∧ vl d' (nl (vl d n - vl db nb)) = vl d n - vl db nb) 0 0 := by
  refine z_start (cc := cX3_setDifference) (maxL := 8) (ret := none) (by decide) rfl (Nat.le_of_ble_eq_true rfl) ?_
  intro p e s m args below meth c ls Q hQ hsz hx hb hr hml hown hts hlocks hnm hK hM hl
  obtain ⟨A, hAe⟩ : ∃ A, A = zA G s.heap.size := ⟨_, rfl⟩
  rw [← hAe] at hM
  have hl : lv_has ls 8 [(0, .ref a), (1, .ref a), (2, .ref b), (3, .int ns)] := hl
  have hinX3 : ∀ w ∈ wsX30, w ∈ wsX3_setDifference := by decide +kernel
  have hf_9 := hts (.fieldLink RX3 9 "CutRows$Whole" "limbs" "[I") (by decide +kernel)
  have hf_15 := hts (.fieldLink RX3 15 "CutRows$Whole" "size" "I") (by decide +kernel)
  have hSB : nb ≤ n := by have g1 := nl_mono hle; rw [fa.nl, fb.nl] at g1; exact g1
  refine lv_aload_n hx hb dX3_setDifference_0 rfl (lv_at hl 1 rfl) ?_
  refine z_get (C := RX3) (T := TX3) (N := 3) (v := .int (nI n)) hx hb hts hinX3 hown hK hM ha 1 hf_15 rfl rfl (by decide) rfl dX3_setDifference_1 ?_
  refine lv_istore (lv' := [(4, .int (nI n)), (0, .ref a), (1, .ref a), (2, .ref b), (3, .int ns)]) hx hb dX3_setDifference_4 hl (by decide) rfl (fun ls hl => ?_)
  refine lv_iconst (v := nI 0) hx hb dX3_setDifference_6 rfl ?_
  refine lv_istore (lv' := [(5, .int (nI 0)), (4, .int (nI n)), (0, .ref a), (1, .ref a), (2, .ref b), (3, .int ns)]) hx hb dX3_setDifference_7 hl (by decide) rfl (fun ls hl => ?_)
  refine lv_iconst (v := nI 0) hx hb dX3_setDifference_9 rfl ?_
  refine lv_istore (lv' := [(6, .int (nI 0)), (5, .int (nI 0)), (4, .int (nI n)), (0, .ref a), (1, .ref a), (2, .ref b), (3, .int ns)]) hx hb dX3_setDifference_10 hl (by decide) rfl (fun ls hl => ?_)
  have lp : ∀ (μ : Nat) (i : Nat) (cy : Nat) (d1 : Nat → Nat), n - i = μ → (i ≤ n) → (cy ≤ 1) → (∀ j, i ≤ j → d1 j = d j) → (dg d1 i) → (vl d1 i + vl (dgt db nb) i = vl d i + cy * bp i) → ∀ (ls : Array Slot) (H : Heap) (locs : List Loc), lv_has ls 8 [(6, .int (nI i)), (5, .int (nI cy)), (4, .int (nI n)), (0, .ref a), (1, .ref a), (2, .ref b), (3, .int ns)] → zM Γ A s.heap (zup G la (zI Γ r d1)) H locs → W p l e (zR 2) s m args below meth c H locs 0 0 Q (F0 m 12 ls []) := by
    intro μ
    induction μ using Nat.strongRecOn with
    | _ μ ihlp =>
      intro i cy d1 hμ hi hcy h1 h2 h3 ls H locs hl hM
      refine lv_iload hx hb dX3_setDifference_12 (lv_at hl 0 rfl) ?_
      refine lv_iload hx hb dX3_setDifference_14 (lv_at hl 2 rfl) ?_
      refine z_icmp_ge (tgt := 63) hx hb (by omega) (by omega) dX3_setDifference_16 (by decide) (fun hc16 => ?_) (fun hc16 => ?_)
      · have hin : i = n := by omega
        have hv : vl d1 n = vl d n - vl db nb := by
          rw [hin, dgt_vl hSB] at h3
          have g1 := vl_lt (h2.le (Nat.le_refl _))
          rw [hin] at g1
          rcases (show cy = 0 ∨ cy = 1 by omega) with rfl | rfl <;> omega
        have h2l : dg d1 n := by rw [← hin]; exact h2
        refine lv_aload_n hx hb dX3_setDifference_63 rfl (lv_at hl 3 rfl) ?_
        refine lv_iload hx hb dX3_setDifference_64 (lv_at hl 2 rfl) ?_
        refine lv_iload_n hx hb dX3_setDifference_66 rfl (lv_at hl 6 rfl) ?_
        refine z_callv0 (va_runV (As := [.int (nI n), .int ns]) (rest := []) ⟨hx, hb, hml, hown, hts⟩ (w_settle l Γ (zup G la (zI Γ r d1)) _ a la r n sg d1 ((zup_n _ _ (zne ha hla (by intro h; cases h))).trans ha) (zup_s _ _ _) n ns hBr hr31 h2l) (cwV 2 hts gX3_setDifference_X3_settle rfl rfl rfl (by decide +kernel) ⟨Nat.le_of_ble_eq_true rfl, Nat.le_of_ble_eq_true rfl⟩) (zM.preV hK hM ((zup_n _ _ (zne ha hla (by intro h; cases h))).trans ha) rfl rfl) rfl rfl hl.1 rfl (lv_room (Nat.le_of_ble_eq_true rfl)) dX3_setDifference_67 ⟨Nat.le_of_ble_eq_true rfl, Nat.le_of_ble_eq_true rfl⟩) hM (fun G67 H locs hp67 hM => ?_)
        obtain rfl := hp67
        rw [hQ]
        rw [hAe] at hM
        exact z_vret hsz hx hb hr hlocks hK hM dX3_setDifference_70 (⟨d1, by rw [tr_of h2l hv], h2l.le (by rw [← tr_of h2l hv]; exact tr_le _ _), by rw [← tr_of h2l hv, tr_vl]; exact hv⟩)
      · refine lv_aload_n hx hb dX3_setDifference_19 rfl (lv_at hl 4 rfl) ?_
        refine z_get (C := RX3) (T := TX3) (N := 3) (v := .ref la) hx hb hts hinX3 hown hK hM ((zup_n _ _ (zne ha hla (by intro h; cases h))).trans ha) 0 hf_9 rfl rfl (by decide) rfl dX3_setDifference_20 ?_
        refine lv_iload hx hb dX3_setDifference_23 (lv_at hl 0 rfl) ?_
        refine z_ild hx hb hK hM (zup_s _ _ _) (by omega) (by omega) dX3_setDifference_25 ?_
        refine z_asi (y := nI (d i)) (congrArg nI (h1 i (Nat.le_refl _))) ?_
        have hx1 : d i < 2147483648 := fa.1 i (by omega)
        refine lv_aload_n hx hb dX3_setDifference_26 rfl (lv_at hl 5 rfl) ?_
        refine lv_iload hx hb dX3_setDifference_27 (lv_at hl 0 rfl) ?_
        refine z_calli0 (va_runV (As := [.int (nI i)]) (rest := [.int (nI (d i))]) ⟨hx, hb, hml, hown, hts⟩ (w_digit l Γ (zup G la (zI Γ r d1)) _ b lb rb nb sgb db ((zup_n _ _ (zne hbw hla (by intro h; cases h))).trans hbw) ((zup_n _ _ (Ne.symm hne)).trans hlb) i (by omega) hnb hrb31) (cwV 1 hts gX3_setDifference_X3_digit rfl rfl rfl (by decide +kernel) ⟨Nat.le_of_ble_eq_true rfl, Nat.le_of_ble_eq_true rfl⟩) (zM.preV hK hM ((zup_n _ _ (zne hbw hla (by intro h; cases h))).trans hbw) rfl rfl) rfl rfl hl.1 rfl (lv_room (Nat.le_of_ble_eq_true rfl)) dX3_setDifference_29 ⟨Nat.le_of_ble_eq_true rfl, Nat.le_of_ble_eq_true rfl⟩) hM (fun r29 G29 H locs hp29 hM => ?_)
        obtain ⟨rfl, hGe⟩ := hp29
        rw [hGe] at hM
        have hy1 := dgt_lt fb.1 i
        refine lv_isub hx hb dX3_setDifference_32 ?_
        refine lv_iload hx hb dX3_setDifference_33 (lv_at hl 1 rfl) ?_
        refine lv_isub hx hb dX3_setDifference_35 ?_
        refine z_asi (y := nI ((d i + 4294967296 - dgt db nb i - cy) % 4294967296)) (nI_sub3 hx1 hy1 hcy) ?_
        refine lv_istore (lv' := [(7, .int (nI ((d i + 4294967296 - dgt db nb i - cy) % 4294967296))), (6, .int (nI i)), (5, .int (nI cy)), (4, .int (nI n)), (0, .ref a), (1, .ref a), (2, .ref b), (3, .int ns)]) hx hb dX3_setDifference_36 hl (by decide) rfl (fun ls hl => ?_)
        refine lv_aload_n hx hb dX3_setDifference_38 rfl (lv_at hl 4 rfl) ?_
        refine z_get (C := RX3) (T := TX3) (N := 3) (v := .ref la) hx hb hts hinX3 hown hK hM ((zup_n _ _ (zne ha hla (by intro h; cases h))).trans ha) 0 hf_9 rfl rfl (by decide) rfl dX3_setDifference_39 ?_
        refine lv_iload hx hb dX3_setDifference_42 (lv_at hl 1 rfl) ?_
        refine lv_iload hx hb dX3_setDifference_44 (lv_at hl 0 rfl) ?_
        refine lv_ldc hx hb hown (hts (.constant RX3 48 (2147483647)) (by decide +kernel)) dX3_setDifference_46 ?_
        refine z_asi (y := nI 2147483647) (rfl) ?_
        refine z_iandU hx hb dX3_setDifference_48 ?_
        refine z_asi (y := nI ((d i + 2147483648 - dgt db nb i - cy) % 2147483648)) (congrArg nI (isub_and hy1 hcy)) ?_
        refine z_ist hx hb hK hM (zup_s _ _ _) (by omega) (by omega) dX3_setDifference_49 (fun H locs hM => ?_)
        have hM : zM Γ A s.heap (zup G la (zI Γ r (va_up d1 i ((d i + 2147483648 - dgt db nb i - cy) % 2147483648)))) H locs := by
          rw [zup_zup] at hM; exact hM
        refine lv_iload hx hb dX3_setDifference_50 (lv_at hl 0 rfl) ?_
        refine lv_bipush (v := nI 31) hx hb dX3_setDifference_52 rfl ?_
        refine z_iushr31 hx hb (by omega) dX3_setDifference_54 ?_
        refine z_asi (y := nI (if d i < dgt db nb i + cy then 1 else 0)) (congrArg nI (isub_ushr hx1 hy1 hcy)) ?_
        refine lv_istore (lv' := [(5, .int (nI (if d i < dgt db nb i + cy then 1 else 0))), (7, .int (nI ((d i + 4294967296 - dgt db nb i - cy) % 4294967296))), (6, .int (nI i)), (4, .int (nI n)), (0, .ref a), (1, .ref a), (2, .ref b), (3, .int ns)]) hx hb dX3_setDifference_55 hl (by decide) rfl (fun ls hl => ?_)
        refine z_iinc (v := (i + 1)) (lv' := [(6, .int (nI (i + 1))), (5, .int (nI (if d i < dgt db nb i + cy then 1 else 0))), (7, .int (nI ((d i + 4294967296 - dgt db nb i - cy) % 4294967296))), (4, .int (nI n)), (0, .ref a), (1, .ref a), (2, .ref b), (3, .int ns)]) hx hb dX3_setDifference_57 hl (k := 2) rfl (nI_p1 _) (by decide) rfl (fun ls hl => ?_)
        refine lv_goto (tgt := 12) hx hb dX3_setDifference_60 (by decide) ?_
        exact ihlp _ (by omega) (i + 1) (if d i < dgt db nb i + cy then 1 else 0) (va_up d1 i ((d i + 2147483648 - dgt db nb i - cy) % 2147483648)) rfl (by omega) (by split <;> omega) (fun j hj => by rw [va_up_ne _ _ (by omega)]; exact h1 j (by omega)) (up_dg0 h2 (by omega)) (by rw [up_vl0, vl_s, vl_s]; exact sub_step hcy hx1 hy1 h3) ls _ _ (lv_sub hl [0, 1, 3, 4, 5, 6, 7] rfl) hM
  exact lp _ 0 0 d rfl (by omega) (by omega) (fun _ _ => rfl) (fun _ h => by omega) (by simp [vl_0]) ls _ _ (lv_sub hl [0, 1, 2, 3, 4, 5, 6] rfl) (by rw [zup_self _ hla]; exact hM)

set_option maxRecDepth 100000 in
set_option maxHeartbeats 4000000 in
theorem w_setDifferenceB (l : Launch) (Γ : zT) (G : zG) (sz : Nat) (a la r n : Nat) (sg : Int32) (d : Nat → Nat) (ha : G a = some (wh la n sg)) (hla : G la = some (zI Γ r d)) (b lb rb nb : Nat) (sgb : Int32) (db : Nat → Nat) (hbw : G b = some (wh lb nb sgb)) (hlb : G lb = some (zI Γ rb db)) (ns : Int32) (hne : la ≠ lb) (hab : a ≠ b) (hnr : n ≤ r) (hr31 : r < 2 ^ 31) (hnb : nb ≤ rb) (hrb31 : rb < 2 ^ 31) (fa : sf d n) (fb : sf db nb) (hle : vl d n ≤ vl db nb) (hBr : nb ≤ r) : zMv l yX3_setDifference wsX3_setDifference (zR 2) Γ G sz [.ref a, .ref b, .ref a, .int ns] (fun G' => ∃ d', G' = zup (zup G la (zI Γ r d')) a (wh la (nl (vl db nb - vl d n)) (if nl (vl db nb - vl d n) = 0 then nI 0 else ns)) ∧ dg d' (nl (vl db nb - vl d n)) ∧ vl d' (nl (vl db nb - vl d n)) = vl db nb - vl d n) 0 0 := by
  refine z_start (cc := cX3_setDifference) (maxL := 8) (ret := none) (by decide) rfl (Nat.le_of_ble_eq_true rfl) ?_
  intro p e s m args below meth c ls Q hQ hsz hx hb hr hml hown hts hlocks hnm hK hM hl
  obtain ⟨A, hAe⟩ : ∃ A, A = zA G s.heap.size := ⟨_, rfl⟩
  rw [← hAe] at hM
  have hl : lv_has ls 8 [(0, .ref a), (1, .ref b), (2, .ref a), (3, .int ns)] := hl
  have hinX3 : ∀ w ∈ wsX30, w ∈ wsX3_setDifference := by decide +kernel
  have hf_9 := hts (.fieldLink RX3 9 "CutRows$Whole" "limbs" "[I") (by decide +kernel)
  have hf_15 := hts (.fieldLink RX3 15 "CutRows$Whole" "size" "I") (by decide +kernel)
  have hSB : n ≤ nb := by have g1 := nl_mono hle; rw [fa.nl, fb.nl] at g1; exact g1
  refine lv_aload_n hx hb dX3_setDifference_0 rfl (lv_at hl 1 rfl) ?_
  refine z_get (C := RX3) (T := TX3) (N := 3) (v := .int (nI nb)) hx hb hts hinX3 hown hK hM hbw 1 hf_15 rfl rfl (by decide) rfl dX3_setDifference_1 ?_
  refine lv_istore (lv' := [(4, .int (nI nb)), (0, .ref a), (1, .ref b), (2, .ref a), (3, .int ns)]) hx hb dX3_setDifference_4 hl (by decide) rfl (fun ls hl => ?_)
  refine lv_iconst (v := nI 0) hx hb dX3_setDifference_6 rfl ?_
  refine lv_istore (lv' := [(5, .int (nI 0)), (4, .int (nI nb)), (0, .ref a), (1, .ref b), (2, .ref a), (3, .int ns)]) hx hb dX3_setDifference_7 hl (by decide) rfl (fun ls hl => ?_)
  refine lv_iconst (v := nI 0) hx hb dX3_setDifference_9 rfl ?_
  refine lv_istore (lv' := [(6, .int (nI 0)), (5, .int (nI 0)), (4, .int (nI nb)), (0, .ref a), (1, .ref b), (2, .ref a), (3, .int ns)]) hx hb dX3_setDifference_10 hl (by decide) rfl (fun ls hl => ?_)
  have lp : ∀ (μ : Nat) (i : Nat) (cy : Nat) (d1 : Nat → Nat), nb - i = μ → (i ≤ nb) → (cy ≤ 1) → (∀ j, i ≤ j → d1 j = d j) → (dg d1 i) → (vl d1 i + vl (dgt d n) i = vl db i + cy * bp i) → ∀ (ls : Array Slot) (H : Heap) (locs : List Loc), lv_has ls 8 [(6, .int (nI i)), (5, .int (nI cy)), (4, .int (nI nb)), (0, .ref a), (1, .ref b), (2, .ref a), (3, .int ns)] → zM Γ A s.heap (zup G la (zI Γ r d1)) H locs → W p l e (zR 2) s m args below meth c H locs 0 0 Q (F0 m 12 ls []) := by
    intro μ
    induction μ using Nat.strongRecOn with
    | _ μ ihlp =>
      intro i cy d1 hμ hi hcy h1 h2 h3 ls H locs hl hM
      refine lv_iload hx hb dX3_setDifference_12 (lv_at hl 0 rfl) ?_
      refine lv_iload hx hb dX3_setDifference_14 (lv_at hl 2 rfl) ?_
      refine z_icmp_ge (tgt := 63) hx hb (by omega) (by omega) dX3_setDifference_16 (by decide) (fun hc16 => ?_) (fun hc16 => ?_)
      · have hin : i = nb := by omega
        have hv : vl d1 nb = vl db nb - vl d n := by
          rw [hin, dgt_vl hSB] at h3
          have g1 := vl_lt (h2.le (Nat.le_refl _))
          rw [hin] at g1
          rcases (show cy = 0 ∨ cy = 1 by omega) with rfl | rfl <;> omega
        have h2l : dg d1 nb := by rw [← hin]; exact h2
        refine lv_aload_n hx hb dX3_setDifference_63 rfl (lv_at hl 3 rfl) ?_
        refine lv_iload hx hb dX3_setDifference_64 (lv_at hl 2 rfl) ?_
        refine lv_iload_n hx hb dX3_setDifference_66 rfl (lv_at hl 6 rfl) ?_
        refine z_callv0 (va_runV (As := [.int (nI nb), .int ns]) (rest := []) ⟨hx, hb, hml, hown, hts⟩ (w_settle l Γ (zup G la (zI Γ r d1)) _ a la r n sg d1 ((zup_n _ _ (zne ha hla (by intro h; cases h))).trans ha) (zup_s _ _ _) nb ns hBr hr31 h2l) (cwV 2 hts gX3_setDifference_X3_settle rfl rfl rfl (by decide +kernel) ⟨Nat.le_of_ble_eq_true rfl, Nat.le_of_ble_eq_true rfl⟩) (zM.preV hK hM ((zup_n _ _ (zne ha hla (by intro h; cases h))).trans ha) rfl rfl) rfl rfl hl.1 rfl (lv_room (Nat.le_of_ble_eq_true rfl)) dX3_setDifference_67 ⟨Nat.le_of_ble_eq_true rfl, Nat.le_of_ble_eq_true rfl⟩) hM (fun G67 H locs hp67 hM => ?_)
        obtain rfl := hp67
        rw [hQ]
        rw [hAe] at hM
        exact z_vret hsz hx hb hr hlocks hK hM dX3_setDifference_70 (⟨d1, by rw [tr_of h2l hv], h2l.le (by rw [← tr_of h2l hv]; exact tr_le _ _), by rw [← tr_of h2l hv, tr_vl]; exact hv⟩)
      · refine lv_aload_n hx hb dX3_setDifference_19 rfl (lv_at hl 4 rfl) ?_
        refine z_get (C := RX3) (T := TX3) (N := 3) (v := .ref lb) hx hb hts hinX3 hown hK hM ((zup_n _ _ (zne hbw hla (by intro h; cases h))).trans hbw) 0 hf_9 rfl rfl (by decide) rfl dX3_setDifference_20 ?_
        refine lv_iload hx hb dX3_setDifference_23 (lv_at hl 0 rfl) ?_
        refine z_ild hx hb hK hM ((zup_n _ _ (Ne.symm hne)).trans hlb) (by omega) (by omega) dX3_setDifference_25 ?_
        have hx1 : db i < 2147483648 := fb.1 i (by omega)
        refine lv_aload_n hx hb dX3_setDifference_26 rfl (lv_at hl 5 rfl) ?_
        refine lv_iload hx hb dX3_setDifference_27 (lv_at hl 0 rfl) ?_
        refine z_calli0 (va_runV (As := [.int (nI i)]) (rest := [.int (nI (db i))]) ⟨hx, hb, hml, hown, hts⟩ (w_digit l Γ (zup G la (zI Γ r d1)) _ a la r n sg d1 ((zup_n _ _ (zne ha hla (by intro h; cases h))).trans ha) (zup_s _ _ _) i (by omega) hnr hr31) (cwV 1 hts gX3_setDifference_X3_digit rfl rfl rfl (by decide +kernel) ⟨Nat.le_of_ble_eq_true rfl, Nat.le_of_ble_eq_true rfl⟩) (zM.preV hK hM ((zup_n _ _ (zne ha hla (by intro h; cases h))).trans ha) rfl rfl) rfl rfl hl.1 rfl (lv_room (Nat.le_of_ble_eq_true rfl)) dX3_setDifference_29 ⟨Nat.le_of_ble_eq_true rfl, Nat.le_of_ble_eq_true rfl⟩) hM (fun r29 G29 H locs hp29 hM => ?_)
        obtain ⟨rfl, hGe⟩ := hp29
        rw [hGe] at hM
        refine z_asi (y := nI (dgt d n i)) (congrArg nI (dgt_mix h1)) ?_
        have hy1 := dgt_lt fa.1 i
        refine lv_isub hx hb dX3_setDifference_32 ?_
        refine lv_iload hx hb dX3_setDifference_33 (lv_at hl 1 rfl) ?_
        refine lv_isub hx hb dX3_setDifference_35 ?_
        refine z_asi (y := nI ((db i + 4294967296 - dgt d n i - cy) % 4294967296)) (nI_sub3 hx1 hy1 hcy) ?_
        refine lv_istore (lv' := [(7, .int (nI ((db i + 4294967296 - dgt d n i - cy) % 4294967296))), (6, .int (nI i)), (5, .int (nI cy)), (4, .int (nI nb)), (0, .ref a), (1, .ref b), (2, .ref a), (3, .int ns)]) hx hb dX3_setDifference_36 hl (by decide) rfl (fun ls hl => ?_)
        refine lv_aload_n hx hb dX3_setDifference_38 rfl (lv_at hl 4 rfl) ?_
        refine z_get (C := RX3) (T := TX3) (N := 3) (v := .ref la) hx hb hts hinX3 hown hK hM ((zup_n _ _ (zne ha hla (by intro h; cases h))).trans ha) 0 hf_9 rfl rfl (by decide) rfl dX3_setDifference_39 ?_
        refine lv_iload hx hb dX3_setDifference_42 (lv_at hl 1 rfl) ?_
        refine lv_iload hx hb dX3_setDifference_44 (lv_at hl 0 rfl) ?_
        refine lv_ldc hx hb hown (hts (.constant RX3 48 (2147483647)) (by decide +kernel)) dX3_setDifference_46 ?_
        refine z_asi (y := nI 2147483647) (rfl) ?_
        refine z_iandU hx hb dX3_setDifference_48 ?_
        refine z_asi (y := nI ((db i + 2147483648 - dgt d n i - cy) % 2147483648)) (congrArg nI (isub_and hy1 hcy)) ?_
        refine z_ist hx hb hK hM (zup_s _ _ _) (by omega) (by omega) dX3_setDifference_49 (fun H locs hM => ?_)
        have hM : zM Γ A s.heap (zup G la (zI Γ r (va_up d1 i ((db i + 2147483648 - dgt d n i - cy) % 2147483648)))) H locs := by
          rw [zup_zup] at hM; exact hM
        refine lv_iload hx hb dX3_setDifference_50 (lv_at hl 0 rfl) ?_
        refine lv_bipush (v := nI 31) hx hb dX3_setDifference_52 rfl ?_
        refine z_iushr31 hx hb (by omega) dX3_setDifference_54 ?_
        refine z_asi (y := nI (if db i < dgt d n i + cy then 1 else 0)) (congrArg nI (isub_ushr hx1 hy1 hcy)) ?_
        refine lv_istore (lv' := [(5, .int (nI (if db i < dgt d n i + cy then 1 else 0))), (7, .int (nI ((db i + 4294967296 - dgt d n i - cy) % 4294967296))), (6, .int (nI i)), (4, .int (nI nb)), (0, .ref a), (1, .ref b), (2, .ref a), (3, .int ns)]) hx hb dX3_setDifference_55 hl (by decide) rfl (fun ls hl => ?_)
        refine z_iinc (v := (i + 1)) (lv' := [(6, .int (nI (i + 1))), (5, .int (nI (if db i < dgt d n i + cy then 1 else 0))), (7, .int (nI ((db i + 4294967296 - dgt d n i - cy) % 4294967296))), (4, .int (nI nb)), (0, .ref a), (1, .ref b), (2, .ref a), (3, .int ns)]) hx hb dX3_setDifference_57 hl (k := 2) rfl (nI_p1 _) (by decide) rfl (fun ls hl => ?_)
        refine lv_goto (tgt := 12) hx hb dX3_setDifference_60 (by decide) ?_
        exact ihlp _ (by omega) (i + 1) (if db i < dgt d n i + cy then 1 else 0) (va_up d1 i ((db i + 2147483648 - dgt d n i - cy) % 2147483648)) rfl (by omega) (by split <;> omega) (fun j hj => by rw [va_up_ne _ _ (by omega)]; exact h1 j (by omega)) (up_dg0 h2 (by omega)) (by rw [up_vl0, vl_s, vl_s]; exact sub_step hcy hx1 hy1 h3) ls _ _ (lv_sub hl [0, 1, 3, 4, 5, 6, 7] rfl) hM
  exact lp _ 0 0 d rfl (by omega) (by omega) (fun _ _ => rfl) (fun _ h => by omega) (by simp [vl_0]) ls _ _ (lv_sub hl [0, 1, 2, 3, 4, 5, 6] rfl) (by rw [zup_self _ hla]; exact hM)
