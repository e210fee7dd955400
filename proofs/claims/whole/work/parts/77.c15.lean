set_option maxRecDepth 100000 in
set_option maxHeartbeats 4000000 in
theorem c_evalSatisfied (l : Launch) (Γ : zT) (G : zG) (sz : Nat) (X : Nat → Nat) (σ : AS)  (hX : XI X σ.1.1) (hI : AI σ) (hR : CRep Γ G X σ) : zMi l yX4_evalSatisfied wsX4_evalSatisfied (zR 5) Γ G sz [.ref (X 80)] (fun x G' => x = op_sat σ ∧ CRep Γ G' X σ ∧ frA X σ.1.1 G G') 0 0 := by
  obtain ⟨⟨vars, maxR, cells⟩, ⟨nr, inp, R⟩, ⟨fil, V⟩, ⟨se, be, S⟩, P, st, sg, gv, g, z⟩ := σ
  have hX : XI X vars := hX
  have hR0 := hR
  obtain ⟨Z, used, cz, sw, C, St, hB, ⟨hsw, hcz⟩, hrd, hV, hS, hPt, hzr⟩ := hR
  obtain ⟨ct, hct⟩ : ∃ ct, ct = (if anyBot R vars inp nr then 1 else 0) := ⟨_, rfl⟩
  rw [← hct] at hB
  have hct1 : ct ≤ 1 := by rw [hct]; split <;> omega
  obtain ⟨⟨i1, i2, i3, i4, i5⟩, ⟨j1, j2, j3, j4⟩, ⟨f1, f2⟩, ⟨s1, s2, s3⟩, p1, r1, r2, r3, r4, r5, r6⟩ := hI
  refine z_start (cc := cX4_evalSatisfied) (maxL := 2) (ret := (some .int)) (by decide) rfl (Nat.le_of_ble_eq_true rfl) ?_
  intro p e s m args below meth c ls Q hQ hsz hx hb hr hml hown hts hlocks hnm hK hM hl
  obtain ⟨A, hAe⟩ : ∃ A, A = zA G s.heap.size := ⟨_, rfl⟩
  rw [← hAe] at hM
  have hl : lv_has ls 2 [(0, .ref (X 80))] := hl
  have hinX4 : ∀ w ∈ wsX40, w ∈ wsX4_evalSatisfied := by decide +kernel
  have hf_106 := hts (.fieldLink RX4 106 "CutRows" "inputRows" "I") (by decide +kernel)
  refine lv_iconst (v := nI 0) hx hb dX4_evalSatisfied_0 rfl ?_
  refine lv_istore_n (lv' := [(1, .int (nI 0)), (0, .ref (X 80))]) hx hb dX4_evalSatisfied_1 rfl hl (by decide) rfl (fun ls hl => ?_)
  have lp : ∀ (μ : Nat) (i : Nat) (G1 : zG) (Z1 : Nat → Int), inp - i = μ → (i ≤ inp) → (CW Γ G1 X vars Z1) → (frN X vars G G1) → (∀ k, k < 28 ∨ 30 < k → Z1 k = Z k) → (allHold R P vars i = true) → ∀ (ls : Array Slot) (H : Heap) (locs : List Loc), lv_has ls 2 [(1, .int (nI i)), (0, .ref (X 80))] → zM Γ A s.heap (G1) H locs → W p l e (zR 5) s m args below meth c H locs 0 0 Q (F0 m 2 ls []) := by
    intro μ
    induction μ using Nat.strongRecOn with
    | _ μ ihlp =>
      intro i G1 Z1 hμ hi hC1 hf1 hk1 hal ls H locs hl hM
      have hB1 := hB.num hX hC1 hf1
      have hR1 : CRep Γ G1 X ((vars, maxR, cells), (nr, inp, R), (fil, V), (se, be, S), P, (st, sg, gv, g, z)) := ⟨Z1, used, cz, sw, C, St, by rw [← hct]; exact hB1, ⟨hsw, hcz⟩, fun h => hf1.rd hX (hrd h), fun k hk => by rw [hk1 k (by omega)]; exact hV k hk, fun h k hk => by rw [hk1 _ (by omega)]; exact hS h k hk, fun k hk => by rw [hk1 _ (by omega)]; exact hPt k hk, fun h => by rw [hk1 _ (by omega)]; exact hzr h⟩
      refine lv_iload_n hx hb dX4_evalSatisfied_2 rfl (lv_at hl 0 rfl) ?_
      refine lv_aload_n hx hb dX4_evalSatisfied_3 rfl (lv_at hl 1 rfl) ?_
      refine z_get (C := RX4) (T := TX4) (N := 16) (v := .int (nI inp)) hx hb hts hinX4 hown hK hM hB1.1 7 hf_106 rfl rfl (by decide) rfl dX4_evalSatisfied_4 ?_
      refine z_icmp_ge (tgt := 26) hx hb (by omega) (by omega) dX4_evalSatisfied_7 (by decide) (fun hc7 => ?_) (fun hc7 => ?_)
      · refine lv_iconst (v := nI 1) hx hb dX4_evalSatisfied_26 rfl ?_
        rw [hQ]
        rw [hAe] at hM
        exact z_iret hsz hx hb hr hlocks hK hM dX4_evalSatisfied_27 (⟨by show _ = bI (allHold R P vars inp); rw [show inp = i by omega, hal]; rfl, hR1, hf1.a⟩)
      · refine lv_aload_n hx hb dX4_evalSatisfied_10 rfl (lv_at hl 1 rfl) ?_
        refine lv_iload_n hx hb dX4_evalSatisfied_11 rfl (lv_at hl 0 rfl) ?_
        refine z_calli0 (va_runV (As := [.int (nI i)]) (rest := []) ⟨hx, hb, hml, hown, hts⟩ (c_holdsAtPoint l Γ G1 _ X vars maxR nr used cz R C St Z1 fil inp se be ct sw st sg gv hX hB1 i (by omega)) (cwV 1 hts gX4_evalSatisfied_X4_holdsAtPoint rfl rfl rfl (by decide +kernel) ⟨Nat.le_of_ble_eq_true rfl, Nat.le_of_ble_eq_true rfl⟩) (zM.preV hK hM hB1.1 rfl rfl) rfl rfl hl.1 rfl (lv_room (Nat.le_of_ble_eq_true rfl)) dX4_evalSatisfied_12 ⟨Nat.le_of_ble_eq_true rfl, Nat.le_of_ble_eq_true rfl⟩) hM (fun r12 G12 H locs hp12 hM => ?_)
        obtain ⟨hf2, ⟨Z2, hC2, hk2⟩, h2⟩ := hp12
        have hdt : dotN (fun k => Z1 (7 + k)) (R i) vars = dotN P (R i) vars := dotN_congr (fun k hk => by show Z1 (7 + k) = P k; rw [hk1 _ (by omega)]; exact hPt k hk)
        rw [hdt] at h2
        have hB2 := hB1.num hX hC2 hf2
        rw [h2]
        have hf3 := hf1.tr hf2
        have hk3 : ∀ k, k < 28 ∨ 30 < k → Z2 k = Z k := fun k hk => by rw [hk2 k hk]; exact hk1 k hk
        refine lv_if_ne (tgt := 20) hx hb dX4_evalSatisfied_15 (by decide) (fun hc15 => ?_) (fun hc15 => ?_)
        · have hye : dotN P (R i) vars ≤ R i vars := by by_cases h9 : dotN P (R i) vars ≤ R i vars; exact h9; rw [if_neg h9] at hc15; exact absurd rfl hc15
          refine z_iinc (v := (i + 1)) (lv' := [(1, .int (nI (i + 1))), (0, .ref (X 80))]) hx hb dX4_evalSatisfied_20 hl (k := 0) rfl (nI_p1 _) (by decide) rfl (fun ls hl => ?_)
          refine lv_goto (tgt := 2) hx hb dX4_evalSatisfied_23 (by decide) ?_
          exact ihlp _ (by omega) (i + 1) G12 Z2 rfl (by omega) (hC2) (hf3) (hk3) (by unfold allHold; rw [hal, decide_eq_true hye]; rfl) ls _ _ (lv_sub hl [0, 1] rfl) hM
        · have hno : ¬ dotN P (R i) vars ≤ R i vars := fun h9 => by rw [if_pos h9] at hc15; exact absurd hc15 (by decide)
          refine lv_iconst (v := nI 0) hx hb dX4_evalSatisfied_18 rfl ?_
          rw [hQ]
          rw [hAe] at hM
          exact z_iret hsz hx hb hr hlocks hK hM dX4_evalSatisfied_19 (⟨by show _ = bI (allHold R P vars inp); rw [allHold_ne (k := i) (by omega) hno]; rfl, ⟨Z2, used, cz, sw, C, St, by rw [← hct]; exact hB2, ⟨hsw, hcz⟩, fun h => hf3.rd hX (hrd h), fun k hk => by rw [hk3 k (by omega)]; exact hV k hk, fun h k hk => by rw [hk3 _ (by omega)]; exact hS h k hk, fun k hk => by rw [hk3 _ (by omega)]; exact hPt k hk, fun h => by rw [hk3 _ (by omega)]; exact hzr h⟩, hf3.a⟩)
  exact lp _ 0 G Z rfl (by omega) hB.2.1 frN.rf (fun _ _ => rfl) rfl ls _ _ (lv_sub hl [0, 1] rfl) hM

set_option maxRecDepth 100000 in
set_option maxHeartbeats 4000000 in
theorem c_divideRound (l : Launch) (Γ : zT) (G : zG) (sz : Nat) (X : Nat → Nat) (σ : AS) (row : Int32) (hX : XI X σ.1.1) (hI : AI σ) (hR : CRep Γ G X σ) : zMi l yX4_divideRound wsX4_divideRound (zR 7) Γ G sz [.ref (X 80), .int row] (fun x G' => x = (op_divide row σ).1 ∧ CRep Γ G' X (op_divide row σ).2 ∧ frA X σ.1.1 G G') 0 0 := by
  obtain ⟨⟨vars, maxR, cells⟩, ⟨nr, inp, R⟩, ⟨fil, V⟩, ⟨se, be, S⟩, P, st, sg, gv, g, z⟩ := σ
  have hX : XI X vars := hX
  have hR0 := hR
  obtain ⟨Z, used, cz, sw, C, St, hB, ⟨hsw, hcz⟩, hrd, hV, hS, hPt, hzr⟩ := hR
  obtain ⟨ct, hct⟩ : ∃ ct, ct = (if anyBot R vars inp nr then 1 else 0) := ⟨_, rfl⟩
  rw [← hct] at hB
  have hct1 : ct ≤ 1 := by rw [hct]; split <;> omega
  obtain ⟨⟨i1, i2, i3, i4, i5⟩, ⟨j1, j2, j3, j4⟩, ⟨f1, f2⟩, ⟨s1, s2, s3⟩, p1, r1, r2, r3, r4, r5, r6⟩ := hI
  refine z_start (cc := cX4_divideRound) (maxL := 3) (ret := (some .int)) (by decide) rfl (Nat.le_of_ble_eq_true rfl) ?_
  intro p e s m args below meth c ls Q hQ hsz hx hb hr hml hown hts hlocks hnm hK hM hl
  obtain ⟨A, hAe⟩ : ∃ A, A = zA G s.heap.size := ⟨_, rfl⟩
  rw [← hAe] at hM
  have hl : lv_has ls 3 [(0, .ref (X 80)), (1, .int row)] := hl
  have hinX4 : ∀ w ∈ wsX40, w ∈ wsX4_divideRound := by decide +kernel
  have hf_13 := hts (.fieldLink RX4 13 "CutRows" "vars" "I") (by decide +kernel)
  have hf_22 := hts (.fieldLink RX4 22 "CutRows" "arena" "LCutRows$Arena;") (by decide +kernel)
  have hf_47 := hts (.fieldLink RX4 47 "CutRows" "divider" "LCutRows$Divider;") (by decide +kernel)
  have hf_54 := hts (.fieldLink RX4 54 "CutRows" "draft" "[LCutRows$Whole;") (by decide +kernel)
  have hf_62 := hts (.fieldLink RX4 62 "CutRows" "factor" "LCutRows$Whole;") (by decide +kernel)
  have hf_98 := hts (.fieldLink RX4 98 "CutRows" "sealed" "Z") (by decide +kernel)
  refine lv_aload_n hx hb dX4_divideRound_0 rfl (lv_at hl 0 rfl) ?_
  refine z_get (C := RX4) (T := TX4) (N := 16) (v := .int (nI se)) hx hb hts hinX4 hown hK hM hB.1 8 hf_98 rfl rfl (by decide) rfl dX4_divideRound_1 ?_
  refine z_if_eq (tgt := 18) hx hb (by omega) dX4_divideRound_4 (by decide) (fun hc4 => ?_) (fun hc4 => ?_)
  · refine lv_bipush (v := -5) hx hb dX4_divideRound_18 rfl ?_
    rw [hQ]
    rw [hAe] at hM
    exact z_iret hsz hx hb hr hlocks hK hM dX4_divideRound_20 (by simp only [op_divide]; rw [if_pos (Or.inr (Or.inr (by omega)))]; exact ⟨rfl, hR0, frA.rf⟩)
  · refine lv_aload_n hx hb dX4_divideRound_7 rfl (lv_at hl 0 rfl) ?_
    refine z_get (C := RX4) (T := TX4) (N := 16) (v := .ref (X 81)) hx hb hts hinX4 hown hK hM hB.1 1 hf_22 rfl rfl (by decide) rfl dX4_divideRound_8 ?_
    refine lv_iload_n hx hb dX4_divideRound_11 rfl (lv_at hl 1 rfl) ?_
    refine z_calli0 (va_runV (As := [.int row]) (rest := []) ⟨hx, hb, hml, hown, hts⟩ (a_has l Γ G _ X vars hX maxR nr used cz R C St hB.2.2.1 row) (cwV 1 hts gX4_divideRound_X0_has rfl rfl rfl (by decide +kernel) ⟨Nat.le_of_ble_eq_true rfl, Nat.le_of_ble_eq_true rfl⟩) (zM.preV hK hM hB.2.2.1.1.1 rfl rfl) rfl rfl hl.1 rfl (lv_room (Nat.le_of_ble_eq_true rfl)) dX4_divideRound_12 ⟨Nat.le_of_ble_eq_true rfl, Nat.le_of_ble_eq_true rfl⟩) hM (fun r12 G12 H locs hp12 hM => ?_)
    obtain ⟨rfl, hGe⟩ := hp12
    rw [hGe] at hM
    refine lv_if_ne (tgt := 21) hx hb dX4_divideRound_15 (by decide) (fun hc15 => ?_) (fun hc15 => ?_)
    · have hyes : ¬ (row < 0 ∨ nI nr ≤ row) := fun h9 => by rw [if_pos h9] at hc15; exact absurd rfl hc15
      obtain ⟨rn, hrn31, rfl⟩ : ∃ j : Nat, j < 2 ^ 31 ∧ row = nI j := nI_of (fun h9 => hyes (Or.inl h9))
      have hrn : rn < nr := by rcases Nat.lt_or_ge rn nr with q | q; exact q; exact absurd (Or.inr ((nI_leI (by omega) hrn31).mpr q)) hyes
      refine lv_aload_n hx hb dX4_divideRound_21 rfl (lv_at hl 0 rfl) ?_
      refine lv_iload_n hx hb dX4_divideRound_22 rfl (lv_at hl 1 rfl) ?_
      refine z_calli0 (va_runV (As := [.int (nI rn)]) (rest := []) ⟨hx, hb, hml, hown, hts⟩ (c_hasCoefficient l Γ G _ X vars maxR nr used cz R C St Z fil inp se be ct sw st sg gv hX hB rn hrn) (cwV 1 hts gX4_divideRound_X4_hasCoefficient rfl rfl rfl (by decide +kernel) ⟨Nat.le_of_ble_eq_true rfl, Nat.le_of_ble_eq_true rfl⟩) (zM.preV hK hM hB.1 rfl rfl) rfl rfl hl.1 rfl (lv_room (Nat.le_of_ble_eq_true rfl)) dX4_divideRound_23 ⟨Nat.le_of_ble_eq_true rfl, Nat.le_of_ble_eq_true rfl⟩) hM (fun r23 G23 H locs hp23 hM => ?_)
      obtain ⟨rfl, hGe⟩ := hp23
      rw [hGe] at hM
      refine lv_if_ne (tgt := 32) hx hb dX4_divideRound_26 (by decide) (fun hc26 => ?_) (fun hc26 => ?_)
      · have hg0 : gcdN (R rn) vars ≠ 0 := fun h9 => by rw [gcdN_zero.mp h9] at hc26; exact absurd rfl hc26
        refine lv_aload_n hx hb dX4_divideRound_32 rfl (lv_at hl 0 rfl) ?_
        refine z_get (C := RX4) (T := TX4) (N := 16) (v := .ref (X 81)) hx hb hts hinX4 hown hK hM hB.1 1 hf_22 rfl rfl (by decide) rfl dX4_divideRound_33 ?_
        refine z_calli0 (va_runV (As := []) (rest := []) ⟨hx, hb, hml, hown, hts⟩ (a_isFull l Γ G _ X vars hX maxR nr used cz R C St hB.2.2.1) (cwV 0 hts gX4_divideRound_X0_isFull rfl rfl rfl (by decide +kernel) ⟨Nat.le_of_ble_eq_true rfl, Nat.le_of_ble_eq_true rfl⟩) (zM.preV hK hM hB.2.2.1.1.1 rfl rfl) rfl rfl hl.1 rfl (lv_room (Nat.le_of_ble_eq_true rfl)) dX4_divideRound_36 ⟨Nat.le_of_ble_eq_true rfl, Nat.le_of_ble_eq_true rfl⟩) hM (fun r36 G36 H locs hp36 hM => ?_)
        obtain ⟨rfl, hGe⟩ := hp36
        rw [hGe] at hM
        refine lv_if_eq (tgt := 45) hx hb dX4_divideRound_39 (by decide) (fun hc39 => ?_) (fun hc39 => ?_)
        · have hfu : nr < maxR := by rcases Nat.lt_or_ge nr maxR with g9 | g9; exact g9; rw [if_neg (by omega)] at hc39; exact absurd hc39 (by decide)
          refine lv_aload_n hx hb dX4_divideRound_45 rfl (lv_at hl 0 rfl) ?_
          refine lv_iload_n hx hb dX4_divideRound_46 rfl (lv_at hl 1 rfl) ?_
          refine z_callv0 (va_runV (As := [.int (nI rn)]) (rest := []) ⟨hx, hb, hml, hown, hts⟩ (c_findGreatestDivisor l Γ G _ X vars maxR nr used cz R C St Z fil inp se be ct sw st sg gv hX hB rn hrn) (cwV 1 hts gX4_divideRound_X4_findGreatestDivisor rfl rfl rfl (by decide +kernel) ⟨Nat.le_of_ble_eq_true rfl, Nat.le_of_ble_eq_true rfl⟩) (zM.preV hK hM hB.1 rfl rfl) rfl rfl hl.1 rfl (lv_room (Nat.le_of_ble_eq_true rfl)) dX4_divideRound_47 ⟨Nat.le_of_ble_eq_true rfl, Nat.le_of_ble_eq_true rfl⟩) hM (fun G47 H locs hp47 hM => ?_)
          obtain ⟨hf1, Z1, hC1, k1, g1⟩ := hp47
          have hB1 := hB.num hX hC1 hf1
          refine lv_iconst (v := nI 0) hx hb dX4_divideRound_50 rfl ?_
          refine lv_istore_n (lv' := [(2, .int (nI 0)), (0, .ref (X 80)), (1, .int (nI rn))]) hx hb dX4_divideRound_51 rfl hl (by decide) rfl (fun ls hl => ?_)
          have lp : ∀ (μ : Nat) (i : Nat) (G2 : zG) (Z2 : Nat → Int), vars + 1 - i = μ → (i ≤ vars + 1) → (CW Γ G2 X vars Z2) → (frN X vars G G2) → (∀ k, (k < 21 - 7 * sw ∨ 28 - 7 * sw ≤ k) → (k < 28 ∨ 28 < k ∧ k < 32) → Z2 k = Z k) → ((Z2 32).natAbs = gcdN (R rn) vars) → (∀ k, k < i → Z2 (21 - 7 * sw + k) = (fun k => R rn k / (gcdN (R rn) vars : Nat)) k) → ∀ (ls : Array Slot) (H : Heap) (locs : List Loc), lv_has ls 3 [(2, .int (nI i)), (0, .ref (X 80)), (1, .int (nI rn))] → zM Γ A s.heap (G2) H locs → W p l e (zR 7) s m args below meth c H locs 0 0 Q (F0 m 52 ls []) := by
            intro μ
            induction μ using Nat.strongRecOn with
            | _ μ ihlp =>
              intro i G2 Z2 hμ hi hC2 hf2 hk2 hg2 hd2 ls H locs hl hM
              have hB2 := hB.num hX hC2 hf2
              refine lv_iload_n hx hb dX4_divideRound_52 rfl (lv_at hl 0 rfl) ?_
              refine lv_aload_n hx hb dX4_divideRound_53 rfl (lv_at hl 1 rfl) ?_
              refine z_get (C := RX4) (T := TX4) (N := 16) (v := .int (nI vars)) hx hb hts hinX4 hown hK hM hB2.1 0 hf_13 rfl rfl (by decide) rfl dX4_divideRound_54 ?_
              refine z_icmp_gt (tgt := 96) hx hb (by omega) (by omega) dX4_divideRound_57 (by decide) (fun hc57 => ?_) (fun hc57 => ?_)
              · refine lv_aload_n hx hb dX4_divideRound_96 rfl (lv_at hl 1 rfl) ?_
                refine lv_aload_n hx hb dX4_divideRound_97 rfl (lv_at hl 1 rfl) ?_
                refine z_get (C := RX4) (T := TX4) (N := 16) (v := .ref (X (87 - sw))) hx hb hts hinX4 hown hK hM hB2.1 12 hf_54 rfl rfl (by decide) rfl dX4_divideRound_98 ?_
                have hFe : ∀ k, k ≤ vars → Z2 (21 - 7 * sw + k) = (fun k => R rn k / (gcdN (R rn) vars : Nat)) k := fun k hk => hd2 k (by omega)
                have hF48 : ∀ k, k ≤ vars → nl ((fun k => R rn k / (gcdN (R rn) vars : Nat)) k).natAbs ≤ 48 := fun k hk => by show nl (R rn k / (gcdN (R rn) vars : Nat)).natAbs ≤ 48; exact nl_quo (by omega) (j4 rn k hrn hk)
                have hnd : need (fun k => Z2 (21 - 7 * sw + k)) (vars + 1) = need (fun k => R rn k / (gcdN (R rn) vars : Nat)) (vars + 1) := need_congr (fun k hk => hFe k (by omega))
                have hbe : bot (fun k => Z2 (21 - 7 * sw + k)) vars = bot (fun k => R rn k / (gcdN (R rn) vars : Nat)) vars := bot_congr hFe
                refine z_calli0 (va_runV (As := [.ref (X (87 - sw))]) (rest := []) ⟨hx, hb, hml, hown, hts⟩ (c_keepMade l Γ G2 _ X vars maxR nr used cz R C St Z2 fil inp se be ct sw st sg gv hX hB2 (87 - sw) (21 - 7 * sw) (fun G9 Z9 h9 => h9.df hsw) (fun k hk => by unfold vw; omega) (by unfold vd; omega) (by omega) (fun k hk => by rw [hFe k hk]; exact hF48 k hk)) (cwV 1 hts gX4_divideRound_X4_keepMade rfl rfl rfl (by decide +kernel) ⟨Nat.le_of_ble_eq_true rfl, Nat.le_of_ble_eq_true rfl⟩) (zM.preV hK hM hB2.1 rfl rfl) rfl rfl hl.1 rfl (lv_room (Nat.le_of_ble_eq_true rfl)) dX4_divideRound_101 ⟨Nat.le_of_ble_eq_true rfl, Nat.le_of_ble_eq_true rfl⟩) hM (fun r101 G101 H locs hp101 hM => ?_)
                obtain ⟨hf6, hp6⟩ := hp101
                rw [hnd, hbe] at hp6
                by_cases hno : nr = maxR ∨ cz - used < need (fun k => R rn k / (gcdN (R rn) vars : Nat)) (vars + 1)
                · rw [if_pos hno] at hp6
                  obtain ⟨hx5, hGe⟩ := hp6
                  rw [hx5]
                  rw [hGe] at hM
                  rw [hQ]
                  rw [hAe] at hM
                  exact z_iret hsz hx hb hr hlocks hK hM dX4_divideRound_104 (by
                        have hno2 : nr = maxR ∨ cells < need (fun k => R rn k / (gcdN (R rn) vars : Nat)) (vars + 1) := by omega
                        simp only [op_divide, op_store]; rw [if_neg (by rintro (h | h | h); exact hyes (Or.inl h); exact hyes (Or.inr h); omega), nI_clamp hrn31, if_neg hg0, if_pos hno2]; exact ⟨rfl, ⟨Z2, used, cz, sw, C, St, by rw [← hct]; exact hB2, ⟨hsw, hcz⟩, fun h => hf2.rd hX (hrd h), fun k hk => by rw [hk2 k (by omega) (by omega)]; exact hV k hk, fun h k hk => by rw [hk2 _ (by omega) (by omega)]; exact hS h k hk, fun k hk => by rw [hk2 _ (by omega) (by omega)]; exact hPt k hk, fun h => by rw [hk2 _ (by omega) (by omega)]; exact hzr h⟩, hf2.a⟩)
                · rw [if_neg hno] at hp6
                  obtain ⟨hx5, C2, S2, hB6⟩ := hp6
                  rw [hx5]
                  have hupe : ∀ r k, r < nr + 1 → k ≤ vars → va_up R nr (fun k => Z2 (21 - 7 * sw + k)) r k = va_up R nr (fun k => R rn k / (gcdN (R rn) vars : Nat)) r k := fun r k h1 h2 => by by_cases hc : r = nr; rw [hc, va_up_self, va_up_self]; exact hFe k h2; rw [va_up_ne _ _ hc, va_up_ne _ _ hc]
                  have hct0 : (if bot (fun k => R rn k / (gcdN (R rn) vars : Nat)) vars then 1 else ct) = (if anyBot (va_up R nr (fun k => R rn k / (gcdN (R rn) vars : Nat))) vars inp (nr + 1) then 1 else 0) := by rw [anyBot_c j2, hct]
                  rw [hQ]
                  rw [hAe] at hM
                  exact z_iret hsz hx hb hr hlocks hK hM dX4_divideRound_104 (by
                        have hno2 : ¬ (nr = maxR ∨ cells < need (fun k => R rn k / (gcdN (R rn) vars : Nat)) (vars + 1)) := by omega
                        simp only [op_divide, op_store]; rw [if_neg (by rintro (h | h | h); exact hyes (Or.inl h); exact hyes (Or.inr h); omega), nI_clamp hrn31, if_neg hg0, if_neg hno2]; exact ⟨rfl, ⟨Z2, _, cz, sw, C2, S2, hB6.congr hupe hct0, ⟨hsw, by omega⟩, fun h => (hf2.rd hX (hrd h)).fr hX hf6 (fun q9 h9 => by simp only [List.mem_cons, List.not_mem_nil, or_false] at h9; exact ⟨by unfold vd vw; omega, by omega⟩), fun k hk => by rw [hk2 k (by omega) (by omega)]; exact hV k hk, fun h k hk => by rw [hk2 _ (by omega) (by omega)]; exact hS h k hk, fun k hk => by rw [hk2 _ (by omega) (by omega)]; exact hPt k hk, fun h => by rw [hk2 _ (by omega) (by omega)]; exact hzr h⟩, hf2.a.tr (hf6.a (fun q9 h9 => by simp only [List.mem_cons, List.not_mem_nil, or_false] at h9; unfold vd vw; omega))⟩)
              · refine lv_aload_n hx hb dX4_divideRound_60 rfl (lv_at hl 1 rfl) ?_
                refine z_get (C := RX4) (T := TX4) (N := 16) (v := .ref (X 81)) hx hb hts hinX4 hown hK hM hB2.1 1 hf_22 rfl rfl (by decide) rfl dX4_divideRound_61 ?_
                refine lv_iload_n hx hb dX4_divideRound_64 rfl (lv_at hl 2 rfl) ?_
                refine lv_iload_n hx hb dX4_divideRound_65 rfl (lv_at hl 0 rfl) ?_
                refine lv_aload_n hx hb dX4_divideRound_66 rfl (lv_at hl 1 rfl) ?_
                refine z_get (C := RX4) (T := TX4) (N := 16) (v := .ref (X 28)) hx hb hts hinX4 hown hK hM hB2.1 13 hf_62 rfl rfl (by decide) rfl dX4_divideRound_67 ?_
                refine z_callv0 (va_runV (As := [.int (nI rn), .int (nI i), .ref (X 28)]) (rest := []) ⟨hx, hb, hml, hown, hts⟩ (a_load l Γ G2 _ X vars hX maxR nr used cz R C St hB2.2.2.1 Z2 hC2 rn i hrn (by omega)) (cwV 3 hts gX4_divideRound_X0_load rfl rfl rfl (by decide +kernel) ⟨Nat.le_of_ble_eq_true rfl, Nat.le_of_ble_eq_true rfl⟩) (zM.preV hK hM hB2.2.2.1.1.1 rfl rfl) rfl rfl hl.1 rfl (lv_room (Nat.le_of_ble_eq_true rfl)) dX4_divideRound_70 ⟨Nat.le_of_ble_eq_true rfl, Nat.le_of_ble_eq_true rfl⟩) hM (fun G70 H locs hp70 hM => ?_)
                have hw3 := hp70
                have hB3 := hB2.num hX hw3.1 (hw3.n (by unfold vw; omega) (by omega))
                refine lv_aload_n hx hb dX4_divideRound_73 rfl (lv_at hl 1 rfl) ?_
                refine z_get (C := RX4) (T := TX4) (N := 16) (v := .ref (X 83)) hx hb hts hinX4 hown hK hM hB3.1 5 hf_47 rfl rfl (by decide) rfl dX4_divideRound_74 ?_
                refine lv_aload_n hx hb dX4_divideRound_77 rfl (lv_at hl 1 rfl) ?_
                refine z_get (C := RX4) (T := TX4) (N := 16) (v := .ref (X 28)) hx hb hts hinX4 hown hK hM hB3.1 13 hf_62 rfl rfl (by decide) rfl dX4_divideRound_78 ?_
                refine lv_aload_n hx hb dX4_divideRound_81 rfl (lv_at hl 1 rfl) ?_
                refine z_get (C := RX4) (T := TX4) (N := 16) (v := .ref (X (87 - sw))) hx hb hts hinX4 hown hK hM hB3.1 12 hf_54 rfl rfl (by decide) rfl dX4_divideRound_82 ?_
                refine lv_iload_n hx hb dX4_divideRound_85 rfl (lv_at hl 0 rfl) ?_
                refine z_aldW hx hb hK hM (hB3.2.1.df hsw) (by omega) (by omega) dX4_divideRound_86 ?_
                have vr : vw vars (21 - 7 * sw + i) := by unfold vw; omega
                have y32 : va_up Z2 28 (R rn i) 32 = Z2 32 := va_up_ne _ _ (by omega)
                refine z_callv0 (va_runV (As := [.ref (X 28), .ref (X (21 - 7 * sw + i))]) (rest := []) ⟨hx, hb, hml, hown, hts⟩ (v_floorByGreatest l Γ G70 _ X vars _ hX hw3.1 (21 - 7 * sw + i) vr (by omega) (by rw [y32, hg2]; omega)) (cwV 2 hts gX4_divideRound_X1_floorByGreatest rfl rfl rfl (by decide +kernel) ⟨Nat.le_of_ble_eq_true rfl, Nat.le_of_ble_eq_true rfl⟩) (zM.preV hK hM hB3.2.1.2.1 rfl rfl) rfl rfl hl.1 rfl (lv_room (Nat.le_of_ble_eq_true rfl)) dX4_divideRound_87 ⟨Nat.le_of_ble_eq_true rfl, Nat.le_of_ble_eq_true rfl⟩) hM (fun G87 H locs hp87 hM => ?_)
                obtain ⟨hf4, Z4, hC4, k4, e4⟩ := hp87
                rw [y32, va_up_self, hg2] at e4
                have hf5 : frN X vars G G87 := (hf2.tr (hw3.n (by unfold vw; omega) (by omega))).tr (hf4.n (fun q9 h9 => by simp only [List.mem_cons, List.not_mem_nil, or_false] at h9; exact ⟨by unfold vd vw; omega, by omega, by omega, by omega⟩))
                refine z_iinc (v := (i + 1)) (lv' := [(2, .int (nI (i + 1))), (0, .ref (X 80)), (1, .int (nI rn))]) hx hb dX4_divideRound_90 hl (k := 0) rfl (nI_p1 _) (by decide) rfl (fun ls hl => ?_)
                refine lv_goto (tgt := 52) hx hb dX4_divideRound_93 (by decide) ?_
                exact ihlp _ (by omega) (i + 1) G87 Z4 rfl (by omega) (hC4) (hf5) (fun k a1 a2 => by rw [k4 k (by omega) (by omega), va_up_ne _ _ (by omega)]; exact hk2 k a1 a2) (by rw [k4 32 (by omega) (by omega), y32]; exact hg2) (fun k hk => by by_cases hc : k = i; rw [hc]; exact e4; rw [k4 _ (by omega) (by omega), va_up_ne _ _ (by omega)]; exact hd2 k (by omega)) ls _ _ (lv_sub hl [0, 1, 2] rfl) hM
          exact lp _ 0 _ _ rfl (by omega) hC1 hf1 (fun k a1 a2 => k1 k (by omega) (by omega)) g1 (fun _ h => by omega) ls _ _ (lv_sub hl [0, 1, 2] rfl) hM
        · have hfu : nr = maxR := by rcases Nat.lt_or_ge nr maxR with g9 | g9; rw [if_pos g9] at hc39; exact absurd rfl hc39; omega
          refine lv_bipush (v := -4) hx hb dX4_divideRound_42 rfl ?_
          rw [hQ]
          rw [hAe] at hM
          exact z_iret hsz hx hb hr hlocks hK hM dX4_divideRound_44 (by simp only [op_divide, op_store]; rw [if_neg (by rintro (h | h | h); exact hyes (Or.inl h); exact hyes (Or.inr h); omega), nI_clamp hrn31, if_neg hg0, if_pos (Or.inl hfu)]; exact ⟨rfl, hR0, frA.rf⟩)
      · have hg0 : gcdN (R rn) vars = 0 := gcdN_zero.mpr (by rcases hzz : zeroN (R rn) vars with _ | _; rw [hzz] at hc26; exact absurd hc26 (by decide); rfl)
        refine lv_bipush (v := -8) hx hb dX4_divideRound_29 rfl ?_
        rw [hQ]
        rw [hAe] at hM
        exact z_iret hsz hx hb hr hlocks hK hM dX4_divideRound_31 (by simp only [op_divide]; rw [if_neg (by rintro (h | h | h); exact hyes (Or.inl h); exact hyes (Or.inr h); omega), nI_clamp hrn31, if_pos hg0]; exact ⟨rfl, hR0, frA.rf⟩)
    · have hno : row < 0 ∨ nI nr ≤ row := by by_cases h9 : row < 0 ∨ nI nr ≤ row; exact h9; rw [if_neg h9] at hc15; exact absurd hc15 (by decide)
      refine lv_bipush (v := -5) hx hb dX4_divideRound_18 rfl ?_
      rw [hQ]
      rw [hAe] at hM
      exact z_iret hsz hx hb hr hlocks hK hM dX4_divideRound_20 (by simp only [op_divide]; rw [if_pos (hno.elim Or.inl (fun h => Or.inr (Or.inl h)))]; exact ⟨rfl, hR0, frA.rf⟩)
