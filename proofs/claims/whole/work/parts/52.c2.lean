set_option maxRecDepth 100000 in
set_option maxHeartbeats 4000000 in
theorem w_settle (l : Launch) (Γ : zT) (G : zG) (sz : Nat) (a la r n : Nat) (sg : Int32) (d : Nat → Nat) (ha : G a = some (wh la n sg)) (hla : G la = some (zI Γ r d)) (len : Nat) (ns : Int32) (hlr : len ≤ r) (hr31 : r < 2 ^ 31) (hd : dg d len) : zMv l yX3_settle wsX3_settle (zR 1) Γ G sz [.ref a, .int (nI len), .int ns] (fun G' => G' = zup G a (wh la (tr d len) (if tr d len = 0 then nI 0 else ns))) 0 0 := by
  refine z_start (cc := cX3_settle) (maxL := 3) (ret := none) (by decide) rfl (Nat.le_of_ble_eq_true rfl) ?_
  intro p e s m args below meth c ls Q hQ hsz hx hb hr hml hown hts hlocks hnm hK hM hl
  obtain ⟨A, hAe⟩ : ∃ A, A = zA G s.heap.size := ⟨_, rfl⟩
  rw [← hAe] at hM
  have hl : lv_has ls 3 [(0, .ref a), (1, .int (nI len)), (2, .int ns)] := hl
  have hinX3 : ∀ w ∈ wsX30, w ∈ wsX3_settle := by decide +kernel
  have hf_9 := hts (.fieldLink RX3 9 "CutRows$Whole" "limbs" "[I") (by decide +kernel)
  have hf_15 := hts (.fieldLink RX3 15 "CutRows$Whole" "size" "I") (by decide +kernel)
  have hf_19 := hts (.fieldLink RX3 19 "CutRows$Whole" "sign" "I") (by decide +kernel)
  refine lv_aload_n hx hb dX3_settle_0 rfl (lv_at hl 0 rfl) ?_
  refine lv_iload_n hx hb dX3_settle_1 rfl (lv_at hl 1 rfl) ?_
  refine z_put (C := RX3) (T := TX3) (N := 3) (fs' := [.ref la, .int (nI len), .int sg]) hx hb hts hinX3 tyX3 tyX3_ok nmX3 hown hK hM ha 1 hf_15 rfl rfl (by decide) rfl rfl rfl (Nat.le_of_ble_eq_true rfl) rfl dX3_settle_2 (fun H locs hM => ?_)
  generalize hT : tr d len = T at hQ
  have lp : ∀ (μ : Nat) (n1 : Nat), n1 = μ → (n1 ≤ len) → (tr d n1 = T) → ∀ (ls : Array Slot) (H : Heap) (locs : List Loc), lv_has ls 3 [(0, .ref a), (1, .int (nI len)), (2, .int ns)] → zM Γ A s.heap (zup G a (.inr (5, [.ref la, .int (nI n1), .int sg]))) H locs → W p l e (zR 1) s m args below meth c H locs 0 0 Q (F0 m 5 ls []) := by
    intro μ
    induction μ using Nat.strongRecOn with
    | _ μ ihlp =>
      intro n1 hμ hn1 hT1 ls H locs hl hM
      have k39 : (T = n1) → ∀ (ls : Array Slot) (H : Heap) (locs : List Loc), lv_has ls 3 [(0, .ref a), (1, .int (nI len)), (2, .int ns)] → zM Γ A s.heap (zup G a (.inr (5, [.ref la, .int (nI n1), .int sg]))) H locs → W p l e (zR 1) s m args below meth c H locs 0 0 Q (F0 m 39 ls []) := by
        intro  hTn ls H locs hl hM
        refine lv_aload_n hx hb dX3_settle_39 rfl (lv_at hl 0 rfl) ?_
        refine lv_aload_n hx hb dX3_settle_40 rfl (lv_at hl 0 rfl) ?_
        refine z_get (C := RX3) (T := TX3) (N := 3) (v := .int (nI n1)) hx hb hts hinX3 hown hK hM (zup_s _ _ _) 1 hf_15 rfl rfl (by decide) rfl dX3_settle_41 ?_
        refine z_if_ne (tgt := 51) hx hb (by omega) dX3_settle_44 (by decide) (fun hc44 => ?_) (fun hc44 => ?_)
        · refine lv_iload_n hx hb dX3_settle_51 rfl (lv_at hl 2 rfl) ?_
          refine z_put (C := RX3) (T := TX3) (N := 3) (fs' := [.ref la, .int (nI n1), .int ns]) hx hb hts hinX3 tyX3 tyX3_ok nmX3 hown hK hM (zup_s _ _ _) 2 hf_19 rfl rfl (by decide) rfl rfl rfl (Nat.le_of_ble_eq_true rfl) rfl dX3_settle_52 (fun H locs hM => ?_)
          have hM : zM Γ A s.heap (zup G a (.inr (5, [.ref la, .int (nI n1), .int ns]))) H locs := by
            rw [zup_zup] at hM; exact hM
          rw [hQ]
          rw [hAe] at hM
          exact z_vret hsz hx hb hr hlocks hK hM dX3_settle_55 (by rw [hTn]; rw [if_neg (by omega)])
        · refine lv_iconst (v := nI 0) hx hb dX3_settle_47 rfl ?_
          refine lv_goto (tgt := 52) hx hb dX3_settle_48 (by decide) ?_
          refine z_put (C := RX3) (T := TX3) (N := 3) (fs' := [.ref la, .int (nI n1), .int (nI 0)]) hx hb hts hinX3 tyX3 tyX3_ok nmX3 hown hK hM (zup_s _ _ _) 2 hf_19 rfl rfl (by decide) rfl rfl rfl (Nat.le_of_ble_eq_true rfl) rfl dX3_settle_52 (fun H locs hM => ?_)
          have hM : zM Γ A s.heap (zup G a (.inr (5, [.ref la, .int (nI n1), .int (nI 0)]))) H locs := by
            rw [zup_zup] at hM; exact hM
          rw [hQ]
          rw [hAe] at hM
          exact z_vret hsz hx hb hr hlocks hK hM dX3_settle_55 (by rw [hTn]; rw [if_pos (by omega)])
      refine lv_aload_n hx hb dX3_settle_5 rfl (lv_at hl 0 rfl) ?_
      refine z_get (C := RX3) (T := TX3) (N := 3) (v := .int (nI n1)) hx hb hts hinX3 hown hK hM (zup_s _ _ _) 1 hf_15 rfl rfl (by decide) rfl dX3_settle_6 ?_
      refine z_if_le (tgt := 39) hx hb (by omega) dX3_settle_9 (by decide) (fun hc9 => ?_) (fun hc9 => ?_)
      · exact k39  (by rw [← hT1, show n1 = 0 by omega]; rfl) ls _ _ (lv_sub hl [0, 1, 2] rfl) hM
      · refine lv_aload_n hx hb dX3_settle_12 rfl (lv_at hl 0 rfl) ?_
        refine z_get (C := RX3) (T := TX3) (N := 3) (v := .ref la) hx hb hts hinX3 hown hK hM (zup_s _ _ _) 0 hf_9 rfl rfl (by decide) rfl dX3_settle_13 ?_
        refine lv_aload_n hx hb dX3_settle_16 rfl (lv_at hl 0 rfl) ?_
        refine z_get (C := RX3) (T := TX3) (N := 3) (v := .int (nI n1)) hx hb hts hinX3 hown hK hM (zup_s _ _ _) 1 hf_15 rfl rfl (by decide) rfl dX3_settle_17 ?_
        refine lv_iconst (v := nI 1) hx hb dX3_settle_20 rfl ?_
        refine z_isub hx hb (by omega) dX3_settle_21 ?_
        refine z_ild hx hb hK hM ((zup_n _ _ (zne hla ha (by intro h; cases h))).trans hla) (by omega) (by omega) dX3_settle_22 ?_
        refine z_if_ne (tgt := 39) hx hb (hd (n1 - 1) (by omega)) dX3_settle_23 (by decide) (fun hc23 => ?_) (fun hc23 => ?_)
        · exact k39  (by rw [← hT1]; obtain ⟨q, rfl⟩ : ∃ q, n1 = q + 1 := ⟨n1 - 1, by omega⟩; simp only [tr]; rw [if_neg (by simpa using hc23)]) ls _ _ (lv_sub hl [0, 1, 2] rfl) hM
        · refine lv_aload_n hx hb dX3_settle_26 rfl (lv_at hl 0 rfl) ?_
          refine lv_dup hx hb dX3_settle_27 rfl ?_
          refine z_get (C := RX3) (T := TX3) (N := 3) (v := .int (nI n1)) hx hb hts hinX3 hown hK hM (zup_s _ _ _) 1 hf_15 rfl rfl (by decide) rfl dX3_settle_28 ?_
          refine lv_iconst (v := nI 1) hx hb dX3_settle_31 rfl ?_
          refine z_isub hx hb (by omega) dX3_settle_32 ?_
          refine z_put (C := RX3) (T := TX3) (N := 3) (fs' := [.ref la, .int (nI (n1 - 1)), .int sg]) hx hb hts hinX3 tyX3 tyX3_ok nmX3 hown hK hM (zup_s _ _ _) 1 hf_15 rfl rfl (by decide) rfl rfl rfl (Nat.le_of_ble_eq_true rfl) rfl dX3_settle_33 (fun H locs hM => ?_)
          have hM : zM Γ A s.heap (zup G a (.inr (5, [.ref la, .int (nI (n1 - 1)), .int sg]))) H locs := by
            rw [zup_zup] at hM; exact hM
          refine lv_goto (tgt := 5) hx hb dX3_settle_36 (by decide) ?_
          exact ihlp _ (by omega) (n1 - 1) rfl (by omega) (by rw [← hT1]; obtain ⟨q, rfl⟩ : ∃ q, n1 = q + 1 := ⟨n1 - 1, by omega⟩; simp only [tr]; rw [if_pos (by simpa using hc23)]; rfl) ls _ _ (lv_sub hl [0, 1, 2] rfl) hM
  exact lp _ len rfl (Nat.le_refl _) hT ls _ _ (lv_sub hl [0, 1, 2] rfl) hM

set_option maxRecDepth 100000 in
set_option maxHeartbeats 4000000 in
theorem w_digit (l : Launch) (Γ : zT) (G : zG) (sz : Nat) (a la r n : Nat) (sg : Int32) (d : Nat → Nat) (ha : G a = some (wh la n sg)) (hla : G la = some (zI Γ r d)) (i : Nat) (hi : i < 2 ^ 31) (hnr : n ≤ r) (hr31 : r < 2 ^ 31) : zMi l yX3_digit wsX3_digit (zR 1) Γ G sz [.ref a, .int (nI i)] (fun x G' => x = nI (dgt d n i) ∧ G' = G) 0 0 := by
  refine z_start (cc := cX3_digit) (maxL := 2) (ret := (some .int)) (by decide) rfl (Nat.le_of_ble_eq_true rfl) ?_
  intro p e s m args below meth c ls Q hQ hsz hx hb hr hml hown hts hlocks hnm hK hM hl
  obtain ⟨A, hAe⟩ : ∃ A, A = zA G s.heap.size := ⟨_, rfl⟩
  rw [← hAe] at hM
  have hl : lv_has ls 2 [(0, .ref a), (1, .int (nI i))] := hl
  have hinX3 : ∀ w ∈ wsX30, w ∈ wsX3_digit := by decide +kernel
  have hf_9 := hts (.fieldLink RX3 9 "CutRows$Whole" "limbs" "[I") (by decide +kernel)
  have hf_15 := hts (.fieldLink RX3 15 "CutRows$Whole" "size" "I") (by decide +kernel)
  refine lv_iload_n hx hb dX3_digit_0 rfl (lv_at hl 1 rfl) ?_
  refine lv_aload_n hx hb dX3_digit_1 rfl (lv_at hl 0 rfl) ?_
  refine z_get (C := RX3) (T := TX3) (N := 3) (v := .int (nI n)) hx hb hts hinX3 hown hK hM ha 1 hf_15 rfl rfl (by decide) rfl dX3_digit_2 ?_
  refine z_icmp_ge (tgt := 17) hx hb (by omega) (by omega) dX3_digit_5 (by decide) (fun hc5 => ?_) (fun hc5 => ?_)
  · refine lv_iconst (v := nI 0) hx hb dX3_digit_17 rfl ?_
    rw [hQ]
    rw [hAe] at hM
    exact z_iret hsz hx hb hr hlocks hK hM dX3_digit_18 (⟨congrArg nI (by unfold dgt; rw [if_neg (by omega)]), rfl⟩)
  · refine lv_aload_n hx hb dX3_digit_8 rfl (lv_at hl 0 rfl) ?_
    refine z_get (C := RX3) (T := TX3) (N := 3) (v := .ref la) hx hb hts hinX3 hown hK hM ha 0 hf_9 rfl rfl (by decide) rfl dX3_digit_9 ?_
    refine lv_iload_n hx hb dX3_digit_12 rfl (lv_at hl 1 rfl) ?_
    refine z_ild hx hb hK hM hla (by omega) (by omega) dX3_digit_13 ?_
    refine lv_goto (tgt := 18) hx hb dX3_digit_14 (by decide) ?_
    rw [hQ]
    rw [hAe] at hM
    exact z_iret hsz hx hb hr hlocks hK hM dX3_digit_18 (⟨congrArg nI (by unfold dgt; rw [if_pos (by omega)]), rfl⟩)

theorem cmp3_same {x y X Y : Nat} (h1 : x < y → X < Y) (h2 : y < x → Y < X) (hne : x ≠ y) : cmp3 x y = cmp3 X Y := by
  rcases Nat.lt_or_ge x y with c | c
  · rw [← cmp3_lt c, ← cmp3_lt (h1 c)]
  · rw [← cmp3_gt (show y < x by omega), ← cmp3_gt (h2 (by omega))]

set_option maxRecDepth 100000 in
set_option maxHeartbeats 4000000 in
theorem w_compareSize (l : Launch) (Γ : zT) (G : zG) (sz : Nat) (a la r n : Nat) (sg : Int32) (d : Nat → Nat) (ha : G a = some (wh la n sg)) (hla : G la = some (zI Γ r d)) (b lb rb nb : Nat) (sgb : Int32) (db : Nat → Nat) (hbw : G b = some (wh lb nb sgb)) (hlb : G lb = some (zI Γ rb db)) (hnr : n ≤ r) (hnb : nb ≤ rb) (hr31 : r < 2 ^ 31) (hrb31 : rb < 2 ^ 31) (fa : sf d n) (fb : sf db nb) : zMi l yX3_compareSize wsX3_compareSize (zR 2) Γ G sz [.ref a, .ref b] (fun x G' => x = cmp3 (vl d n) (vl db nb) ∧ G' = G) 0 0 := by
  refine z_start (cc := cX3_compareSize) (maxL := 3) (ret := (some .int)) (by decide) rfl (Nat.le_of_ble_eq_true rfl) ?_
  intro p e s m args below meth c ls Q hQ hsz hx hb hr hml hown hts hlocks hnm hK hM hl
  obtain ⟨A, hAe⟩ : ∃ A, A = zA G s.heap.size := ⟨_, rfl⟩
  rw [← hAe] at hM
  have hl : lv_has ls 3 [(0, .ref a), (1, .ref b)] := hl
  have hinX3 : ∀ w ∈ wsX30, w ∈ wsX3_compareSize := by decide +kernel
  have hf_9 := hts (.fieldLink RX3 9 "CutRows$Whole" "limbs" "[I") (by decide +kernel)
  have hf_15 := hts (.fieldLink RX3 15 "CutRows$Whole" "size" "I") (by decide +kernel)
  refine lv_aload_n hx hb dX3_compareSize_0 rfl (lv_at hl 0 rfl) ?_
  refine z_get (C := RX3) (T := TX3) (N := 3) (v := .int (nI n)) hx hb hts hinX3 hown hK hM ha 1 hf_15 rfl rfl (by decide) rfl dX3_compareSize_1 ?_
  refine lv_aload_n hx hb dX3_compareSize_4 rfl (lv_at hl 1 rfl) ?_
  refine z_get (C := RX3) (T := TX3) (N := 3) (v := .int (nI nb)) hx hb hts hinX3 hown hK hM hbw 1 hf_15 rfl rfl (by decide) rfl dX3_compareSize_5 ?_
  refine z_icmp_eq (tgt := 23) hx hb (by omega) (by omega) dX3_compareSize_8 (by decide) (fun hc8 => ?_) (fun hc8 => ?_)
  · refine lv_aload_n hx hb dX3_compareSize_23 rfl (lv_at hl 0 rfl) ?_
    refine z_get (C := RX3) (T := TX3) (N := 3) (v := .int (nI n)) hx hb hts hinX3 hown hK hM ha 1 hf_15 rfl rfl (by decide) rfl dX3_compareSize_24 ?_
    refine lv_iconst (v := nI 1) hx hb dX3_compareSize_27 rfl ?_
    refine lv_isub hx hb dX3_compareSize_28 ?_
    refine lv_istore_n (lv' := [(2, .int ((nI n) - (nI 1))), (0, .ref a), (1, .ref b)]) hx hb dX3_compareSize_29 rfl hl (by decide) rfl (fun ls hl => ?_)
    have lp : ∀ (μ : Nat) (k : Nat), k = μ → (k ≤ n) → (∀ j, k ≤ j → j < n → d j = db j) → ∀ (ls : Array Slot) (H : Heap) (locs : List Loc), lv_has ls 3 [(2, .int (nI k - 1)), (0, .ref a), (1, .ref b)] → zM Γ A s.heap (G) H locs → W p l e (zR 2) s m args below meth c H locs 0 0 Q (F0 m 30 ls []) := by
      intro μ
      induction μ using Nat.strongRecOn with
      | _ μ ihlp =>
        intro k hμ hk hk2 ls H locs hl hM
        rcases Nat.eq_zero_or_pos k with hk0 | hk0
        · subst hk0
          rw [show nI 0 - 1 = (-1 : Int32) from rfl] at hl
          refine lv_iload_n hx hb dX3_compareSize_30 rfl (lv_at hl 0 rfl) ?_
          refine lv_if_lt (tgt := 71) hx hb dX3_compareSize_31 (by decide) (fun hc31 => ?_) (fun hc31 => ?_)
          · refine lv_iconst (v := nI 0) hx hb dX3_compareSize_71 rfl ?_
            rw [hQ]
            rw [hAe] at hM
            exact z_iret hsz hx hb hr hlocks hK hM dX3_compareSize_72 (⟨cmp3_eq (by rw [← hc8]; exact vl_congr (fun j hj => hk2 j (by omega) hj)), rfl⟩)
          · exact absurd (by decide) hc31
        · obtain ⟨q, rfl⟩ : ∃ q, k = q + 1 := ⟨k - 1, by omega⟩
          rw [nI_pred] at hl
          have hq1 : d q < 2147483648 := fa.1 q (by omega)
          have hq2 : db q < 2147483648 := fb.1 q (by omega)
          refine lv_iload_n hx hb dX3_compareSize_30 rfl (lv_at hl 0 rfl) ?_
          refine z_if_ltN hx hb (by omega) dX3_compareSize_31 (tgt := 71) (by decide) ?_
          refine lv_aload_n hx hb dX3_compareSize_34 rfl (lv_at hl 1 rfl) ?_
          refine z_get (C := RX3) (T := TX3) (N := 3) (v := .ref la) hx hb hts hinX3 hown hK hM ha 0 hf_9 rfl rfl (by decide) rfl dX3_compareSize_35 ?_
          refine lv_iload_n hx hb dX3_compareSize_38 rfl (lv_at hl 0 rfl) ?_
          refine z_ild hx hb hK hM hla (by omega) (by omega) dX3_compareSize_39 ?_
          refine lv_aload_n hx hb dX3_compareSize_40 rfl (lv_at hl 2 rfl) ?_
          refine z_get (C := RX3) (T := TX3) (N := 3) (v := .ref lb) hx hb hts hinX3 hown hK hM hbw 0 hf_9 rfl rfl (by decide) rfl dX3_compareSize_41 ?_
          refine lv_iload_n hx hb dX3_compareSize_44 rfl (lv_at hl 0 rfl) ?_
          refine z_ild hx hb hK hM hlb (by omega) (by omega) dX3_compareSize_45 ?_
          refine z_icmp_eq (tgt := 65) hx hb (by omega) (by omega) dX3_compareSize_46 (by decide) (fun hc46 => ?_) (fun hc46 => ?_)
          · refine lv_iinc (v := nI q - 1) (lv' := [(2, .int (nI q - 1)), (0, .ref a), (1, .ref b)]) hx hb dX3_compareSize_65 hl (k := 0) rfl (nI_dec _) (by decide) rfl (fun ls hl => ?_)
            refine lv_goto (tgt := 30) hx hb dX3_compareSize_68 (by decide) ?_
            exact ihlp _ (by omega) q rfl (by omega) (fun j h1 h2 => by rcases Nat.lt_or_ge q j with g | g; exact hk2 j (by omega) h2; rw [show j = q by omega]; exact hc46) ls _ _ (lv_sub hl [0, 1, 2] rfl) hM
          · refine lv_aload_n hx hb dX3_compareSize_49 rfl (lv_at hl 1 rfl) ?_
            refine z_get (C := RX3) (T := TX3) (N := 3) (v := .ref la) hx hb hts hinX3 hown hK hM ha 0 hf_9 rfl rfl (by decide) rfl dX3_compareSize_50 ?_
            refine lv_iload_n hx hb dX3_compareSize_53 rfl (lv_at hl 0 rfl) ?_
            refine z_ild hx hb hK hM hla (by omega) (by omega) dX3_compareSize_54 ?_
            refine lv_aload_n hx hb dX3_compareSize_55 rfl (lv_at hl 2 rfl) ?_
            refine z_get (C := RX3) (T := TX3) (N := 3) (v := .ref lb) hx hb hts hinX3 hown hK hM hbw 0 hf_9 rfl rfl (by decide) rfl dX3_compareSize_56 ?_
            refine lv_iload_n hx hb dX3_compareSize_59 rfl (lv_at hl 0 rfl) ?_
            refine z_ild hx hb hK hM hlb (by omega) (by omega) dX3_compareSize_60 ?_
            refine z_calli0 (va_runS (As := [.int (nI (d q)), .int (nI (db q))]) (rest := []) ⟨hx, hb, hml, hown, hts⟩ (j_compare_7cf53 l Γ G _ (d q) (db q) (by omega) (by omega)) (va_cwS 2 hts gX3_compareSize_J6_compare_7cf53 rfl rfl rfl (by decide +kernel) ⟨Nat.le_of_ble_eq_true rfl, Nat.le_of_ble_eq_true rfl⟩) (zM.pre hK hM) rfl rfl hl.1 rfl (lv_room (Nat.le_of_ble_eq_true rfl)) dX3_compareSize_61 ⟨Nat.le_of_ble_eq_true rfl, Nat.le_of_ble_eq_true rfl⟩) hM (fun r61 G61 H locs hp61 hM => ?_)
            obtain ⟨rfl, hGe⟩ := hp61
            rw [hGe] at hM
            rw [hQ]
            rw [hAe] at hM
            exact z_iret hsz hx hb hr hlocks hK hM dX3_compareSize_64 (⟨cmp3_same (fun h => by rw [← hc8]; exact vl_cmp_lt (i := q) (by omega) fa.1 (fun j hj => fb.1 j (by omega)) (fun j h1 h2 => hk2 j (by omega) h2) h) (fun h => by rw [← hc8]; exact vl_cmp_lt (i := q) (by omega) (fun j hj => fb.1 j (by omega)) fa.1 (fun j h1 h2 => (hk2 j (by omega) h2).symm) h) hc46, rfl⟩)
    exact lp _ n rfl (by omega) (fun j h1 h2 => by omega) ls _ _ (lv_sub hl [0, 1, 2] rfl) hM
  · refine lv_aload_n hx hb dX3_compareSize_11 rfl (lv_at hl 0 rfl) ?_
    refine z_get (C := RX3) (T := TX3) (N := 3) (v := .int (nI n)) hx hb hts hinX3 hown hK hM ha 1 hf_15 rfl rfl (by decide) rfl dX3_compareSize_12 ?_
    refine lv_aload_n hx hb dX3_compareSize_15 rfl (lv_at hl 1 rfl) ?_
    refine z_get (C := RX3) (T := TX3) (N := 3) (v := .int (nI nb)) hx hb hts hinX3 hown hK hM hbw 1 hf_15 rfl rfl (by decide) rfl dX3_compareSize_16 ?_
    refine z_calli0 (va_runS (As := [.int (nI n), .int (nI nb)]) (rest := []) ⟨hx, hb, hml, hown, hts⟩ (j_compare_7cf53 l Γ G _ (n) (nb) (by omega) (by omega)) (va_cwS 2 hts gX3_compareSize_J6_compare_7cf53 rfl rfl rfl (by decide +kernel) ⟨Nat.le_of_ble_eq_true rfl, Nat.le_of_ble_eq_true rfl⟩) (zM.pre hK hM) rfl rfl hl.1 rfl (lv_room (Nat.le_of_ble_eq_true rfl)) dX3_compareSize_19 ⟨Nat.le_of_ble_eq_true rfl, Nat.le_of_ble_eq_true rfl⟩) hM (fun r19 G19 H locs hp19 hM => ?_)
    obtain ⟨rfl, hGe⟩ := hp19
    rw [hGe] at hM
    rw [hQ]
    rw [hAe] at hM
    exact z_iret hsz hx hb hr hlocks hK hM dX3_compareSize_22 (⟨cmp3_same (fun h => vl_cmp_len fa.1 fb.2 h) (fun h => vl_cmp_len fb.1 fa.2 h) hc8, rfl⟩)

set_option maxRecDepth 100000 in
set_option maxHeartbeats 4000000 in
theorem j_rangeCheck_23922 (l : Launch) (Γ : zT) (G : zG) (sz : Nat) (n fr to : Nat) (h1 : fr ≤ to) (h2 : to ≤ n) (h3 : n < 2 ^ 31) : zMv l yJ7_rangeCheck_23922 wsJ7_rangeCheck_23922 (zR 1) Γ G sz [.int (nI n), .int (nI fr), .int (nI to)] (fun G' => G' = G) 0 0 := by
  refine z_start (cc := cJ7_rangeCheck_23922) (maxL := 3) (ret := none) (by decide) rfl (Nat.le_of_ble_eq_true rfl) ?_
  intro p e s m args below meth c ls Q hQ hsz hx hb hr hml hown hts hlocks hnm hK hM hl
  obtain ⟨A, hAe⟩ : ∃ A, A = zA G s.heap.size := ⟨_, rfl⟩
  rw [← hAe] at hM
  have hl : lv_has ls 3 [(0, .int (nI n)), (1, .int (nI fr)), (2, .int (nI to))] := hl
  refine lv_iload_n hx hb dJ7_rangeCheck_23922_0 rfl (lv_at hl 1 rfl) ?_
  refine lv_iload_n hx hb dJ7_rangeCheck_23922_1 rfl (lv_at hl 2 rfl) ?_
  refine z_icmp_le (tgt := 46) hx hb (by omega) (by omega) dJ7_rangeCheck_23922_2 (by decide) (fun hc2 => ?_) (fun hc2 => ?_)
  · refine lv_iload_n hx hb dJ7_rangeCheck_23922_46 rfl (lv_at hl 1 rfl) ?_
    refine z_if_geN hx hb (by omega) dJ7_rangeCheck_23922_47 (tgt := 59) (by decide) ?_
    refine lv_iload_n hx hb dJ7_rangeCheck_23922_59 rfl (lv_at hl 2 rfl) ?_
    refine lv_iload_n hx hb dJ7_rangeCheck_23922_60 rfl (lv_at hl 0 rfl) ?_
    refine z_icmp_le (tgt := 73) hx hb (by omega) (by omega) dJ7_rangeCheck_23922_61 (by decide) (fun hc61 => ?_) (fun hc61 => ?_)
    · rw [hQ]
      rw [hAe] at hM
      exact z_vret hsz hx hb hr hlocks hK hM dJ7_rangeCheck_23922_73 (rfl)
    · exact absurd hc61 (by omega)
  · exact absurd hc2 (by omega)

set_option maxRecDepth 100000 in
set_option maxHeartbeats 4000000 in
theorem j_fill_fda19 (l : Launch) (Γ : zT) (G : zG) (sz : Nat) (a n fr to x : Nat) (d : Nat → Nat) (ha : G a = some (zI Γ n d)) (h1 : fr ≤ to) (h2 : to ≤ n) (h3 : n < 2 ^ 31) : zMv l yJ7_fill_fda19 wsJ7_fill_fda19 (zR 2) Γ G sz [.ref a, .int (nI fr), .int (nI to), .int (nI x)] (fun G' => G' = zup G a (zI Γ n (fun j => if fr ≤ j ∧ j < to then x else d j))) 0 0 := by
  refine z_start (cc := cJ7_fill_fda19) (maxL := 5) (ret := none) (by decide) rfl (Nat.le_of_ble_eq_true rfl) ?_
  intro p e s m args below meth c ls Q hQ hsz hx hb hr hml hown hts hlocks hnm hK hM hl
  obtain ⟨A, hAe⟩ : ∃ A, A = zA G s.heap.size := ⟨_, rfl⟩
  rw [← hAe] at hM
  have hl : lv_has ls 5 [(0, .ref a), (1, .int (nI fr)), (2, .int (nI to)), (3, .int (nI x))] := hl
  refine lv_aload_n hx hb dJ7_fill_fda19_0 rfl (lv_at hl 0 rfl) ?_
  refine z_alenI hx hb hK hM ha dJ7_fill_fda19_1 ?_
  refine lv_iload_n hx hb dJ7_fill_fda19_2 rfl (lv_at hl 1 rfl) ?_
  refine lv_iload_n hx hb dJ7_fill_fda19_3 rfl (lv_at hl 2 rfl) ?_
  refine z_callv0 (va_runS (As := [.int (nI n), .int (nI fr), .int (nI to)]) (rest := []) ⟨hx, hb, hml, hown, hts⟩ (j_rangeCheck_23922 l Γ G _ n fr to h1 h2 h3) (va_cwS 3 hts gJ7_fill_fda19_J7_rangeCheck_23922 rfl rfl rfl (by decide +kernel) ⟨Nat.le_of_ble_eq_true rfl, Nat.le_of_ble_eq_true rfl⟩) (zM.pre hK hM) rfl rfl hl.1 rfl (lv_room (Nat.le_of_ble_eq_true rfl)) dJ7_fill_fda19_4 ⟨Nat.le_of_ble_eq_true rfl, Nat.le_of_ble_eq_true rfl⟩) hM (fun G4 H locs hp4 hM => ?_)
  have hGe := hp4
  rw [hGe] at hM
  refine lv_iload_n hx hb dJ7_fill_fda19_7 rfl (lv_at hl 1 rfl) ?_
  refine lv_istore (lv' := [(4, .int (nI fr)), (0, .ref a), (1, .int (nI fr)), (2, .int (nI to)), (3, .int (nI x))]) hx hb dJ7_fill_fda19_8 hl (by decide) rfl (fun ls hl => ?_)
  have lp : ∀ (μ : Nat) (k : Nat) (d1 : Nat → Nat), to - k = μ → (fr ≤ k) → (k ≤ to) → (d1 = fun j => if fr ≤ j ∧ j < k then x else d j) → ∀ (ls : Array Slot) (H : Heap) (locs : List Loc), lv_has ls 5 [(4, .int (nI k)), (0, .ref a), (1, .int (nI fr)), (2, .int (nI to)), (3, .int (nI x))] → zM Γ A s.heap (zup G a (zI Γ n d1)) H locs → W p l e (zR 2) s m args below meth c H locs 0 0 Q (F0 m 10 ls []) := by
    intro μ
    induction μ using Nat.strongRecOn with
    | _ μ ihlp =>
      intro k d1 hμ hk1 hk2 g1 ls H locs hl hM
      refine lv_iload hx hb dJ7_fill_fda19_10 (lv_at hl 0 rfl) ?_
      refine lv_iload_n hx hb dJ7_fill_fda19_12 rfl (lv_at hl 3 rfl) ?_
      refine z_icmp_ge (tgt := 27) hx hb (by omega) (by omega) dJ7_fill_fda19_13 (by decide) (fun hc13 => ?_) (fun hc13 => ?_)
      · rw [hQ]
        rw [hAe] at hM
        exact z_vret hsz hx hb hr hlocks hK hM dJ7_fill_fda19_27 (by rw [g1, show k = to by omega])
      · refine lv_aload_n hx hb dJ7_fill_fda19_16 rfl (lv_at hl 1 rfl) ?_
        refine lv_iload hx hb dJ7_fill_fda19_17 (lv_at hl 0 rfl) ?_
        refine lv_iload_n hx hb dJ7_fill_fda19_19 rfl (lv_at hl 4 rfl) ?_
        refine z_ist hx hb hK hM (zup_s _ _ _) (by omega) (by omega) dJ7_fill_fda19_20 (fun H locs hM => ?_)
        have hM : zM Γ A s.heap (zup G a (zI Γ n (va_up d1 k x))) H locs := by
          rw [zup_zup] at hM; exact hM
        refine z_iinc (v := (k + 1)) (lv' := [(4, .int (nI (k + 1))), (0, .ref a), (1, .int (nI fr)), (2, .int (nI to)), (3, .int (nI x))]) hx hb dJ7_fill_fda19_21 hl (k := 0) rfl (nI_p1 _) (by decide) rfl (fun ls hl => ?_)
        refine lv_goto (tgt := 10) hx hb dJ7_fill_fda19_24 (by decide) ?_
        exact ihlp _ (by omega) (k + 1) (va_up d1 k x) rfl (by omega) (by omega) (by funext j; rw [g1]; by_cases hc : j = k; subst hc; rw [va_up_self, if_pos (by omega)]; rw [va_up_ne _ _ hc]; by_cases h9 : fr ≤ j ∧ j < k; rw [if_pos h9, if_pos (by omega)]; rw [if_neg h9, if_neg (by omega)]) ls _ _ (lv_sub hl [0, 1, 2, 3, 4] rfl) hM
  exact lp _ fr d rfl (Nat.le_refl _) h1 (by funext j; rw [if_neg (by omega)]) ls _ _ (lv_sub hl [0, 1, 2, 3, 4] rfl) (by rw [zup_self _ ha]; exact hM)
