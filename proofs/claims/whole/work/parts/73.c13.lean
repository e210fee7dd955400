set_option maxRecDepth 100000 in
set_option maxHeartbeats 4000000 in
theorem c_setAllZero (l : Launch) (Γ : zT) (G : zG) (sz : Nat) (X : Nat → Nat) (vars : Nat) (Z : Nat → Int) (wa n b : Nat) (hX : XI X vars) (hC : CW Γ G X vars Z) (hn : n < 100) (hW : ∀ G2 Z2, CW Γ G2 X vars Z2 → WA Γ G2 X (X wa) n b) (hb1 : ∀ k, k < n → vw vars (b + k) ∧ b + k ≠ 31) : zMv l yX4_setAllZero wsX4_setAllZero (zR 2) Γ G sz [.ref (X wa)] (fun G' => frN X vars G G' ∧ CW Γ G' X vars (fun i => if b ≤ i ∧ i < b + n then 0 else Z i)) 0 0 := by
  refine z_start (cc := cX4_setAllZero) (maxL := 2) (ret := none) (by decide) rfl (Nat.le_of_ble_eq_true rfl) ?_
  intro p e s m args below meth c ls Q hQ hsz hx hb hr hml hown hts hlocks hnm hK hM hl
  obtain ⟨A, hAe⟩ : ∃ A, A = zA G s.heap.size := ⟨_, rfl⟩
  rw [← hAe] at hM
  have hl : lv_has ls 2 [(0, .ref (X wa))] := hl
  refine lv_iconst (v := nI 0) hx hb dX4_setAllZero_0 rfl ?_
  refine lv_istore_n (lv' := [(1, .int (nI 0)), (0, .ref (X wa))]) hx hb dX4_setAllZero_1 rfl hl (by decide) rfl (fun ls hl => ?_)
  have lp : ∀ (μ : Nat) (i : Nat) (G1 : zG) (Z1 : Nat → Int), n - i = μ → (i ≤ n) → (CW Γ G1 X vars Z1) → (frN X vars G G1) → (Z1 = fun q => if b ≤ q ∧ q < b + i then 0 else Z q) → ∀ (ls : Array Slot) (H : Heap) (locs : List Loc), lv_has ls 2 [(1, .int (nI i)), (0, .ref (X wa))] → zM Γ A s.heap (G1) H locs → W p l e (zR 2) s m args below meth c H locs 0 0 Q (F0 m 2 ls []) := by
    intro μ
    induction μ using Nat.strongRecOn with
    | _ μ ihlp =>
      intro i G1 Z1 hμ hi hC1 hf1 hz1 ls H locs hl hM
      refine lv_iload_n hx hb dX4_setAllZero_2 rfl (lv_at hl 0 rfl) ?_
      refine lv_aload_n hx hb dX4_setAllZero_3 rfl (lv_at hl 1 rfl) ?_
      refine z_alenV hx hb hK hM (hW _ _ hC1) dX4_setAllZero_4 ?_
      refine z_icmp_ge (tgt := 20) hx hb (by omega) (by omega) dX4_setAllZero_5 (by decide) (fun hc5 => ?_) (fun hc5 => ?_)
      · rw [hQ]
        rw [hAe] at hM
        exact z_vret hsz hx hb hr hlocks hK hM dX4_setAllZero_20 (⟨hf1, by have hz2 : Z1 = (fun i => if b ≤ i ∧ i < b + n then 0 else Z i) := (by rw [hz1, show i = n by omega]); rw [← hz2]; exact hC1⟩)
      · refine lv_aload_n hx hb dX4_setAllZero_8 rfl (lv_at hl 1 rfl) ?_
        refine lv_iload_n hx hb dX4_setAllZero_9 rfl (lv_at hl 0 rfl) ?_
        refine z_aldW hx hb hK hM (hW _ _ hC1) (by omega) (by omega) dX4_setAllZero_10 ?_
        refine z_callv0 (va_runV (As := []) (rest := []) ⟨hx, hb, hml, hown, hts⟩ (cw_setZero l _ hX hC1 (i := b + i) (hb1 i (by omega)).1) (cwV 0 hts gX4_setAllZero_X3_setZero rfl rfl rfl (by decide +kernel) ⟨Nat.le_of_ble_eq_true rfl, Nat.le_of_ble_eq_true rfl⟩) (zM.preV hK hM (hC1.o (b + i) (hb1 i (by omega)).1) rfl rfl) rfl rfl hl.1 rfl (lv_room (Nat.le_of_ble_eq_true rfl)) dX4_setAllZero_11 ⟨Nat.le_of_ble_eq_true rfl, Nat.le_of_ble_eq_true rfl⟩) hM (fun G11 H locs hp11 hM => ?_)
        have hw2 := hp11
        refine z_iinc (v := (i + 1)) (lv' := [(1, .int (nI (i + 1))), (0, .ref (X wa))]) hx hb dX4_setAllZero_14 hl (k := 0) rfl (nI_p1 _) (by decide) rfl (fun ls hl => ?_)
        refine lv_goto (tgt := 2) hx hb dX4_setAllZero_17 (by decide) ?_
        exact ihlp _ (by omega) (i + 1) G11 (va_up Z1 (b + i) 0) rfl (by omega) (hw2.1) (hf1.tr (hw2.n (hb1 i (by omega)).1 (hb1 i (by omega)).2)) (by rw [hz1]; funext q; by_cases hq : q = b + i; rw [hq, va_up_self, if_pos (by omega)]; rw [va_up_ne _ _ hq]; by_cases h5 : b ≤ q ∧ q < b + i; rw [if_pos h5, if_pos (by omega)]; rw [if_neg h5, if_neg (by omega)]) ls _ _ (lv_sub hl [0, 1] rfl) hM
  exact lp _ 0 G Z rfl (by omega) hC frN.rf (by funext q; rw [if_neg (by omega)]) ls _ _ (lv_sub hl [0, 1] rfl) hM

set_option maxRecDepth 100000 in
set_option maxHeartbeats 4000000 in
theorem c_hasCoefficient (l : Launch) (Γ : zT) (G : zG) (sz : Nat) (X : Nat → Nat) (vars maxR nr used cz : Nat) (R : Nat → Nat → Int) (C St : Nat → Nat) (Z : Nat → Int) (fil inp se be ct sw st : Nat) (sg : Int32) (gv : Nat) (hX : XI X vars) (hB : CB Γ G X vars maxR nr used cz R C St Z fil inp se be ct sw st sg gv) (r : Nat) (hrn : r < nr) : zMi l yX4_hasCoefficient wsX4_hasCoefficient (zR 3) Γ G sz [.ref (X 80), .int (nI r)] (fun x G' => x = (if zeroN (R r) vars then nI 0 else nI 1) ∧ G' = G) 0 0 := by
  refine z_start (cc := cX4_hasCoefficient) (maxL := 3) (ret := (some .boolean)) (by decide) rfl (Nat.le_of_ble_eq_true rfl) ?_
  intro p e s m args below meth c ls Q hQ hsz hx hb hr hml hown hts hlocks hnm hK hM hl
  obtain ⟨A, hAe⟩ : ∃ A, A = zA G s.heap.size := ⟨_, rfl⟩
  rw [← hAe] at hM
  have hl : lv_has ls 3 [(0, .ref (X 80)), (1, .int (nI r))] := hl
  have hinX4 : ∀ w ∈ wsX40, w ∈ wsX4_hasCoefficient := by decide +kernel
  have hf_13 := hts (.fieldLink RX4 13 "CutRows" "vars" "I") (by decide +kernel)
  have hf_22 := hts (.fieldLink RX4 22 "CutRows" "arena" "LCutRows$Arena;") (by decide +kernel)
  have hv6 : vars ≤ 6 := hB.2.2.1.1.2.2.2.2.2.2.2
  have hnr : nr ≤ maxR := hB.2.2.1.1.2.2.2.2.2.1
  have hm60 : maxR ≤ 60 := hB.2.2.1.1.2.2.2.2.2.2.1
  refine lv_iconst (v := nI 0) hx hb dX4_hasCoefficient_0 rfl ?_
  refine lv_istore_n (lv' := [(2, .int (nI 0)), (0, .ref (X 80)), (1, .int (nI r))]) hx hb dX4_hasCoefficient_1 rfl hl (by decide) rfl (fun ls hl => ?_)
  have lp : ∀ (μ : Nat) (i : Nat), vars - i = μ → (i ≤ vars) → (zeroN (R r) i = true) → ∀ (ls : Array Slot) (H : Heap) (locs : List Loc), lv_has ls 3 [(2, .int (nI i)), (0, .ref (X 80)), (1, .int (nI r))] → zM Γ A s.heap (G) H locs → W p l e (zR 3) s m args below meth c H locs 0 0 Q (F0 m 2 ls []) := by
    intro μ
    induction μ using Nat.strongRecOn with
    | _ μ ihlp =>
      intro i hμ hi hz ls H locs hl hM
      refine lv_iload_n hx hb dX4_hasCoefficient_2 rfl (lv_at hl 0 rfl) ?_
      refine lv_aload_n hx hb dX4_hasCoefficient_3 rfl (lv_at hl 1 rfl) ?_
      refine z_get (C := RX4) (T := TX4) (N := 16) (v := .int (nI vars)) hx hb hts hinX4 hown hK hM hB.1 0 hf_13 rfl rfl (by decide) rfl dX4_hasCoefficient_4 ?_
      refine z_icmp_ge (tgt := 30) hx hb (by omega) (by omega) dX4_hasCoefficient_7 (by decide) (fun hc7 => ?_) (fun hc7 => ?_)
      · refine lv_iconst (v := nI 0) hx hb dX4_hasCoefficient_30 rfl ?_
        rw [hQ]
        rw [hAe] at hM
        exact z_zret (by omega) hsz hx hb hr hlocks hK hM dX4_hasCoefficient_31 (⟨by rw [show vars = i by omega, if_pos hz], rfl⟩)
      · refine lv_aload_n hx hb dX4_hasCoefficient_10 rfl (lv_at hl 1 rfl) ?_
        refine z_get (C := RX4) (T := TX4) (N := 16) (v := .ref (X 81)) hx hb hts hinX4 hown hK hM hB.1 1 hf_22 rfl rfl (by decide) rfl dX4_hasCoefficient_11 ?_
        refine lv_iload_n hx hb dX4_hasCoefficient_14 rfl (lv_at hl 2 rfl) ?_
        refine lv_iload_n hx hb dX4_hasCoefficient_15 rfl (lv_at hl 0 rfl) ?_
        refine z_calli0 (va_runV (As := [.int (nI r), .int (nI i)]) (rest := []) ⟨hx, hb, hml, hown, hts⟩ (a_signOf l Γ G _ X vars hX maxR nr used cz R C St hB.2.2.1 r i hrn (by omega)) (cwV 2 hts gX4_hasCoefficient_X0_signOf rfl rfl rfl (by decide +kernel) ⟨Nat.le_of_ble_eq_true rfl, Nat.le_of_ble_eq_true rfl⟩) (zM.preV hK hM hB.2.2.1.1.1 rfl rfl) rfl rfl hl.1 rfl (lv_room (Nat.le_of_ble_eq_true rfl)) dX4_hasCoefficient_16 ⟨Nat.le_of_ble_eq_true rfl, Nat.le_of_ble_eq_true rfl⟩) hM (fun r16 G16 H locs hp16 hM => ?_)
        obtain ⟨rfl, hGe⟩ := hp16
        rw [hGe] at hM
        refine lv_if_eq (tgt := 24) hx hb dX4_hasCoefficient_19 (by decide) (fun hc19 => ?_) (fun hc19 => ?_)
        · refine z_iinc (v := (i + 1)) (lv' := [(2, .int (nI (i + 1))), (0, .ref (X 80)), (1, .int (nI r))]) hx hb dX4_hasCoefficient_24 hl (k := 0) rfl (nI_p1 _) (by decide) rfl (fun ls hl => ?_)
          refine lv_goto (tgt := 2) hx hb dX4_hasCoefficient_27 (by decide) ?_
          exact ihlp _ (by omega) (i + 1) rfl (by omega) (by unfold zeroN; rw [hz, decide_eq_true (sgI_0.mp hc19)]; rfl) ls _ _ (lv_sub hl [0, 1, 2] rfl) hM
        · refine lv_iconst (v := nI 1) hx hb dX4_hasCoefficient_22 rfl ?_
          rw [hQ]
          rw [hAe] at hM
          exact z_zret (by omega) hsz hx hb hr hlocks hK hM dX4_hasCoefficient_23 (⟨by rw [zeroN_ne (show i < vars by omega) (fun h9 => hc19 (sgI_0.mpr h9))]; rfl, rfl⟩)
  exact lp _ 0 rfl (by omega) rfl ls _ _ (lv_sub hl [0, 1, 2] rfl) hM

set_option maxRecDepth 100000 in
set_option maxHeartbeats 4000000 in
theorem c_draftSumWith (l : Launch) (Γ : zT) (G : zG) (sz : Nat) (X : Nat → Nat) (vars maxR nr used cz : Nat) (R : Nat → Nat → Int) (C St : Nat → Nat) (Z : Nat → Int) (fil inp se be ct sw st : Nat) (sg : Int32) (gv : Nat) (hX : XI X vars) (hB : CB Γ G X vars maxR nr used cz R C St Z fil inp se be ct sw st sg gv) (hsw : sw ≤ 1) (r : Nat) (hrn : r < nr) (hS48 : ∀ k, k ≤ vars → nl (Z (14 + 7 * sw + k)).natAbs ≤ 48) : zMi l yX4_draftSumWith wsX4_draftSumWith (zR 4) Γ G sz [.ref (X 80), .int (nI r)] (fun x G' => frN X vars G G' ∧ ∃ Z', CW Γ G' X vars Z' ∧ (∀ k, (k < 21 - 7 * sw ∨ 28 - 7 * sw ≤ k) → k ≠ 28 → Z' k = Z k) ∧ if fit48 (fun k => Z (14 + 7 * sw + k) + Z 31 * R r k) (vars + 1) then x = nI 1 ∧ ∀ k, k ≤ vars → Z' (21 - 7 * sw + k) = (fun k => Z (14 + 7 * sw + k) + Z 31 * R r k) k else x = nI 0) 0 0 := by
  refine z_start (cc := cX4_draftSumWith) (maxL := 3) (ret := (some .boolean)) (by decide) rfl (Nat.le_of_ble_eq_true rfl) ?_
  intro p e s m args below meth c ls Q hQ hsz hx hb hr hml hown hts hlocks hnm hK hM hl
  obtain ⟨A, hAe⟩ : ∃ A, A = zA G s.heap.size := ⟨_, rfl⟩
  rw [← hAe] at hM
  have hl : lv_has ls 3 [(0, .ref (X 80)), (1, .int (nI r))] := hl
  have hinX4 : ∀ w ∈ wsX40, w ∈ wsX4_draftSumWith := by decide +kernel
  have hinX2 : ∀ w ∈ wsX20, w ∈ wsX4_draftSumWith := by decide +kernel
  have hinX3 : ∀ w ∈ wsX30, w ∈ wsX4_draftSumWith := by decide +kernel
  have hf_13 := hts (.fieldLink RX4 13 "CutRows" "vars" "I") (by decide +kernel)
  have hf_22 := hts (.fieldLink RX4 22 "CutRows" "arena" "LCutRows$Arena;") (by decide +kernel)
  have hf_29 := hts (.fieldLink RX4 29 "CutRows" "register" "LCutRows$Register;") (by decide +kernel)
  have hf_51 := hts (.fieldLink RX4 51 "CutRows" "sum" "[LCutRows$Whole;") (by decide +kernel)
  have hf_54 := hts (.fieldLink RX4 54 "CutRows" "draft" "[LCutRows$Whole;") (by decide +kernel)
  have hf_62 := hts (.fieldLink RX4 62 "CutRows" "factor" "LCutRows$Whole;") (by decide +kernel)
  have hf_88 := hts (.fieldLink RX4 88 "CutRows$Register" "number" "LCutRows$Whole;") (by decide +kernel)
  have hf_198 := hts (.fieldLink RX4 198 "CutRows$Whole" "size" "I") (by decide +kernel)
  have hv6 : vars ≤ 6 := hB.2.2.1.1.2.2.2.2.2.2.2
  have hnr : nr ≤ maxR := hB.2.2.1.1.2.2.2.2.2.1
  have hm60 : maxR ≤ 60 := hB.2.2.1.1.2.2.2.2.2.2.1
  refine lv_iconst (v := nI 0) hx hb dX4_draftSumWith_0 rfl ?_
  refine lv_istore_n (lv' := [(2, .int (nI 0)), (0, .ref (X 80)), (1, .int (nI r))]) hx hb dX4_draftSumWith_1 rfl hl (by decide) rfl (fun ls hl => ?_)
  have lp : ∀ (μ : Nat) (i : Nat) (G1 : zG) (Z1 : Nat → Int), vars + 1 - i = μ → (i ≤ vars + 1) → (CW Γ G1 X vars Z1) → (frN X vars G G1) → (∀ k, (k < 21 - 7 * sw ∨ 28 - 7 * sw ≤ k) → k ≠ 28 → Z1 k = Z k) → (fit48 (fun k => Z (14 + 7 * sw + k) + Z 31 * R r k) i = true) → (∀ k, k < i → Z1 (21 - 7 * sw + k) = (fun k => Z (14 + 7 * sw + k) + Z 31 * R r k) k) → ∀ (ls : Array Slot) (H : Heap) (locs : List Loc), lv_has ls 3 [(2, .int (nI i)), (0, .ref (X 80)), (1, .int (nI r))] → zM Γ A s.heap (G1) H locs → W p l e (zR 4) s m args below meth c H locs 0 0 Q (F0 m 2 ls []) := by
    intro μ
    induction μ using Nat.strongRecOn with
    | _ μ ihlp =>
      intro i G1 Z1 hμ hi hC1 hf1 hz1 hft hd1 ls H locs hl hM
      have hB1 := hB.num hX hC1 hf1
      refine lv_iload_n hx hb dX4_draftSumWith_2 rfl (lv_at hl 0 rfl) ?_
      refine lv_aload_n hx hb dX4_draftSumWith_3 rfl (lv_at hl 1 rfl) ?_
      refine z_get (C := RX4) (T := TX4) (N := 16) (v := .int (nI vars)) hx hb hts hinX4 hown hK hM hB1.1 0 hf_13 rfl rfl (by decide) rfl dX4_draftSumWith_4 ?_
      refine z_icmp_gt (tgt := 80) hx hb (by omega) (by omega) dX4_draftSumWith_7 (by decide) (fun hc7 => ?_) (fun hc7 => ?_)
      · refine lv_iconst (v := nI 1) hx hb dX4_draftSumWith_80 rfl ?_
        rw [hQ]
        rw [hAe] at hM
        exact z_zret (by omega) hsz hx hb hr hlocks hK hM dX4_draftSumWith_81 (⟨hf1, Z1, hC1, hz1, by rw [show vars + 1 = i by omega, if_pos hft]; exact ⟨rfl, fun k hk => hd1 k (by omega)⟩⟩)
      · have vs : vw vars (14 + 7 * sw + i) := by unfold vw; omega
        have vr : vw vars (21 - 7 * sw + i) := by unfold vw; omega
        have wr : wrm (21 - 7 * sw + i) = 69 := by unfold wrm; rw [if_neg (by omega), if_pos (by omega)]
        refine lv_aload_n hx hb dX4_draftSumWith_10 rfl (lv_at hl 1 rfl) ?_
        refine z_get (C := RX4) (T := TX4) (N := 16) (v := .ref (X 81)) hx hb hts hinX4 hown hK hM hB1.1 1 hf_22 rfl rfl (by decide) rfl dX4_draftSumWith_11 ?_
        refine lv_iload_n hx hb dX4_draftSumWith_14 rfl (lv_at hl 2 rfl) ?_
        refine lv_iload_n hx hb dX4_draftSumWith_15 rfl (lv_at hl 0 rfl) ?_
        refine lv_aload_n hx hb dX4_draftSumWith_16 rfl (lv_at hl 1 rfl) ?_
        refine z_get (C := RX4) (T := TX4) (N := 16) (v := .ref (X 28)) hx hb hts hinX4 hown hK hM hB1.1 13 hf_62 rfl rfl (by decide) rfl dX4_draftSumWith_17 ?_
        refine z_callv0 (va_runV (As := [.int (nI r), .int (nI i), .ref (X 28)]) (rest := []) ⟨hx, hb, hml, hown, hts⟩ (a_load l Γ G1 _ X vars hX maxR nr used cz R C St hB1.2.2.1 Z1 hC1 r i hrn (by omega)) (cwV 3 hts gX4_draftSumWith_X0_load rfl rfl rfl (by decide +kernel) ⟨Nat.le_of_ble_eq_true rfl, Nat.le_of_ble_eq_true rfl⟩) (zM.preV hK hM hB1.2.2.1.1.1 rfl rfl) rfl rfl hl.1 rfl (lv_room (Nat.le_of_ble_eq_true rfl)) dX4_draftSumWith_20 ⟨Nat.le_of_ble_eq_true rfl, Nat.le_of_ble_eq_true rfl⟩) hM (fun G20 H locs hp20 hM => ?_)
        have hw2 := hp20
        have hB2 := hB1.num hX hw2.1 (hw2.n (by unfold vw; omega) (by omega))
        refine lv_aload_n hx hb dX4_draftSumWith_23 rfl (lv_at hl 1 rfl) ?_
        refine z_get (C := RX4) (T := TX4) (N := 16) (v := .ref (X (87 - sw))) hx hb hts hinX4 hown hK hM hB2.1 12 hf_54 rfl rfl (by decide) rfl dX4_draftSumWith_24 ?_
        refine lv_iload_n hx hb dX4_draftSumWith_27 rfl (lv_at hl 0 rfl) ?_
        refine z_aldW hx hb hK hM (hB2.2.1.df hsw) (by omega) (by omega) dX4_draftSumWith_28 ?_
        refine lv_aload_n hx hb dX4_draftSumWith_29 rfl (lv_at hl 1 rfl) ?_
        refine z_get (C := RX4) (T := TX4) (N := 16) (v := .ref (X 82)) hx hb hts hinX4 hown hK hM hB2.1 2 hf_29 rfl rfl (by decide) rfl dX4_draftSumWith_30 ?_
        refine z_get (C := RX2) (T := TX2) (N := 4) (v := .ref (X 31)) hx hb hts hinX2 hown hK hM hB2.2.2.2 0 hf_88 rfl rfl (by decide) rfl dX4_draftSumWith_33 ?_
        refine lv_aload_n hx hb dX4_draftSumWith_36 rfl (lv_at hl 1 rfl) ?_
        refine z_get (C := RX4) (T := TX4) (N := 16) (v := .ref (X 28)) hx hb hts hinX4 hown hK hM hB2.1 13 hf_62 rfl rfl (by decide) rfl dX4_draftSumWith_37 ?_
        have y31 : va_up Z1 28 (R r i) 31 = Z 31 := by rw [va_up_ne _ _ (by omega), hz1 31 (by omega) (by omega)]
        have y28 : va_up Z1 28 (R r i) 28 = R r i := va_up_self _ _ _
        have z20 : nl (Z 31).natAbs ≤ 20 := hB.2.1.le 31 (by unfold vw; omega)
        have r48 : nl (R r i).natAbs ≤ 48 := (hB.2.2.1.2 r i hrn (by omega)).2.2.2
        refine z_callv0 (va_runV (As := [.ref (X 31), .ref (X 28)]) (rest := []) ⟨hx, hb, hml, hown, hts⟩ (cw_prod l _ hX hw2.1 (i := 21 - 7 * sw + i) (j := 31) (k := 28) vr (by unfold vw; omega) (by unfold vw; omega) (by omega) (by omega) (by rw [y31, y28, wr]; omega)) (cwV 2 hts gX4_draftSumWith_X3_setProduct rfl rfl rfl (by decide +kernel) ⟨Nat.le_of_ble_eq_true rfl, Nat.le_of_ble_eq_true rfl⟩) (zM.preV hK hM (hB2.2.1.o (21 - 7 * sw + i) vr) rfl rfl) rfl rfl hl.1 rfl (lv_room (Nat.le_of_ble_eq_true rfl)) dX4_draftSumWith_40 ⟨Nat.le_of_ble_eq_true rfl, Nat.le_of_ble_eq_true rfl⟩) hM (fun G40 H locs hp40 hM => ?_)
        have hw3 := hp40
        rw [y31, y28] at hw3
        have hB3 := hB2.num hX hw3.1 (hw3.n vr (by omega))
        obtain ⟨Z3, hZ3⟩ : ∃ Z3, Z3 = va_up (va_up Z1 28 (R r i)) (21 - 7 * sw + i) (Z 31 * R r i) := ⟨_, rfl⟩
        rw [← hZ3] at hB3
        refine lv_aload_n hx hb dX4_draftSumWith_43 rfl (lv_at hl 1 rfl) ?_
        refine z_get (C := RX4) (T := TX4) (N := 16) (v := .ref (X (87 - sw))) hx hb hts hinX4 hown hK hM hB3.1 12 hf_54 rfl rfl (by decide) rfl dX4_draftSumWith_44 ?_
        refine lv_iload_n hx hb dX4_draftSumWith_47 rfl (lv_at hl 0 rfl) ?_
        refine z_aldW hx hb hK hM (hB3.2.1.df hsw) (by omega) (by omega) dX4_draftSumWith_48 ?_
        refine lv_aload_n hx hb dX4_draftSumWith_49 rfl (lv_at hl 1 rfl) ?_
        refine z_get (C := RX4) (T := TX4) (N := 16) (v := .ref (X (86 + sw))) hx hb hts hinX4 hown hK hM hB3.1 11 hf_51 rfl rfl (by decide) rfl dX4_draftSumWith_50 ?_
        refine lv_iload_n hx hb dX4_draftSumWith_53 rfl (lv_at hl 0 rfl) ?_
        refine z_aldW hx hb hK hM (hB3.2.1.sm hsw) (by omega) (by omega) dX4_draftSumWith_54 ?_
        have x1 : Z3 (21 - 7 * sw + i) = Z 31 * R r i := by rw [hZ3, va_up_self]
        have x2 : Z3 (14 + 7 * sw + i) = Z (14 + 7 * sw + i) := by rw [hZ3, va_up_ne _ _ (by omega), va_up_ne _ _ (by omega), hz1 _ (by omega) (by omega)]
        have s48 := hS48 i (by omega)
        refine z_callv0 (va_runV (As := [.ref (X (14 + 7 * sw + i))]) (rest := []) ⟨hx, hb, hml, hown, hts⟩ (cw_add l _ hX hB3.2.1 (i := 21 - 7 * sw + i) (j := 14 + 7 * sw + i) vr vs (by omega) (by rw [x2, wr]; omega) (by rw [x1, x2, wr]; exact nl_iadd' (nl_imul z20 r48) (by omega))) (cwV 1 hts gX4_draftSumWith_X3_add rfl rfl rfl (by decide +kernel) ⟨Nat.le_of_ble_eq_true rfl, Nat.le_of_ble_eq_true rfl⟩) (zM.preV hK hM (hB3.2.1.o (21 - 7 * sw + i) vr) rfl rfl) rfl rfl hl.1 rfl (lv_room (Nat.le_of_ble_eq_true rfl)) dX4_draftSumWith_55 ⟨Nat.le_of_ble_eq_true rfl, Nat.le_of_ble_eq_true rfl⟩) hM (fun G55 H locs hp55 hM => ?_)
        have hw4 := hp55
        rw [x1, x2] at hw4
        have hB4 := hB3.num hX hw4.1 (hw4.n vr (by omega))
        obtain ⟨Z4, hZ4⟩ : ∃ Z4, Z4 = va_up Z3 (21 - 7 * sw + i) (Z 31 * R r i + Z (14 + 7 * sw + i)) := ⟨_, rfl⟩
        rw [← hZ4] at hB4
        have u1 : Z4 (21 - 7 * sw + i) = Z (14 + 7 * sw + i) + Z 31 * R r i := by rw [hZ4, va_up_self, Int.add_comm]
        have u2 : ∀ k, (k < 21 - 7 * sw ∨ 28 - 7 * sw ≤ k) → k ≠ 28 → Z4 k = Z k := fun k k1 k2 => by rw [hZ4, va_up_ne _ _ (by omega), hZ3, va_up_ne _ _ (by omega), va_up_ne _ _ k2]; exact hz1 k k1 k2
        have u3 := ((hf1.tr (hw2.n (by unfold vw; omega) (by omega))).tr (hw3.n vr (by omega))).tr (hw4.n vr (by omega))
        have u4 := hB4.2.1.le _ vr
        rw [wr] at u4
        refine lv_aload_n hx hb dX4_draftSumWith_58 rfl (lv_at hl 1 rfl) ?_
        refine z_get (C := RX4) (T := TX4) (N := 16) (v := .ref (X (87 - sw))) hx hb hts hinX4 hown hK hM hB4.1 12 hf_54 rfl rfl (by decide) rfl dX4_draftSumWith_59 ?_
        refine lv_iload_n hx hb dX4_draftSumWith_62 rfl (lv_at hl 0 rfl) ?_
        refine z_aldW hx hb hK hM (hB4.2.1.df hsw) (by omega) (by omega) dX4_draftSumWith_63 ?_
        refine z_get (C := RX3) (T := TX3) (N := 3) (v := .int (nI (nl (Z4 (21 - 7 * sw + i)).natAbs))) hx hb hts hinX3 hown hK hM (hB4.2.1.o (21 - 7 * sw + i) vr) 1 hf_198 rfl rfl (by decide) rfl dX4_draftSumWith_64 ?_
        refine lv_bipush (v := nI 48) hx hb dX4_draftSumWith_67 rfl ?_
        refine z_icmp_le (tgt := 74) hx hb (by omega) (by omega) dX4_draftSumWith_69 (by decide) (fun hc69 => ?_) (fun hc69 => ?_)
        · refine z_iinc (v := (i + 1)) (lv' := [(2, .int (nI (i + 1))), (0, .ref (X 80)), (1, .int (nI r))]) hx hb dX4_draftSumWith_74 hl (k := 0) rfl (nI_p1 _) (by decide) rfl (fun ls hl => ?_)
          refine lv_goto (tgt := 2) hx hb dX4_draftSumWith_77 (by decide) ?_
          exact ihlp _ (by omega) (i + 1) G55 Z4 rfl (by omega) (hB4.2.1) (u3) (u2) (by unfold fit48; rw [hft, Bool.true_and]; exact decide_eq_true (by show nl (Z (14 + 7 * sw + i) + Z 31 * R r i).natAbs ≤ 48; rw [← u1]; omega)) (fun k hk => by by_cases hc : k = i; rw [hc]; exact u1; rw [hZ4, va_up_ne _ _ (by omega), hZ3, va_up_ne _ _ (by omega), va_up_ne _ _ (by omega)]; exact hd1 k (by omega)) ls _ _ (lv_sub hl [0, 1, 2] rfl) hM
        · refine lv_iconst (v := nI 0) hx hb dX4_draftSumWith_72 rfl ?_
          rw [hQ]
          rw [hAe] at hM
          exact z_zret (by omega) hsz hx hb hr hlocks hK hM dX4_draftSumWith_73 (⟨u3, Z4, hB4.2.1, u2, by rw [fit48_ne (k := i) (by omega) (by show ¬ nl (Z (14 + 7 * sw + i) + Z 31 * R r i).natAbs ≤ 48; rw [← u1]; omega)]; rfl⟩)
  exact lp _ 0 G Z rfl (by omega) hB.2.1 frN.rf (fun _ _ _ => rfl) rfl (fun _ h => by omega) ls _ _ (lv_sub hl [0, 1, 2] rfl) hM

set_option maxRecDepth 100000 in
set_option maxHeartbeats 4000000 in
theorem c_findGreatestDivisor (l : Launch) (Γ : zT) (G : zG) (sz : Nat) (X : Nat → Nat) (vars maxR nr used cz : Nat) (R : Nat → Nat → Int) (C St : Nat → Nat) (Z : Nat → Int) (fil inp se be ct sw st : Nat) (sg : Int32) (gv : Nat) (hX : XI X vars) (hB : CB Γ G X vars maxR nr used cz R C St Z fil inp se be ct sw st sg gv) (r : Nat) (hrn : r < nr) : zMv l yX4_findGreatestDivisor wsX4_findGreatestDivisor (zR 6) Γ G sz [.ref (X 80), .int (nI r)] (fun G' => frN X vars G G' ∧ ∃ Z', CW Γ G' X vars Z' ∧ (∀ k, k < 32 → k ≠ 28 → Z' k = Z k) ∧ (Z' 32).natAbs = gcdN (R r) vars) 0 0 := by
  refine z_start (cc := cX4_findGreatestDivisor) (maxL := 3) (ret := none) (by decide) rfl (Nat.le_of_ble_eq_true rfl) ?_
  intro p e s m args below meth c ls Q hQ hsz hx hb hr hml hown hts hlocks hnm hK hM hl
  obtain ⟨A, hAe⟩ : ∃ A, A = zA G s.heap.size := ⟨_, rfl⟩
  rw [← hAe] at hM
  have hl : lv_has ls 3 [(0, .ref (X 80)), (1, .int (nI r))] := hl
  have hinX4 : ∀ w ∈ wsX40, w ∈ wsX4_findGreatestDivisor := by decide +kernel
  have hinX1 : ∀ w ∈ wsX10, w ∈ wsX4_findGreatestDivisor := by decide +kernel
  have hf_13 := hts (.fieldLink RX4 13 "CutRows" "vars" "I") (by decide +kernel)
  have hf_22 := hts (.fieldLink RX4 22 "CutRows" "arena" "LCutRows$Arena;") (by decide +kernel)
  have hf_47 := hts (.fieldLink RX4 47 "CutRows" "divider" "LCutRows$Divider;") (by decide +kernel)
  have hf_62 := hts (.fieldLink RX4 62 "CutRows" "factor" "LCutRows$Whole;") (by decide +kernel)
  have hf_201 := hts (.fieldLink RX4 201 "CutRows$Divider" "greatest" "LCutRows$Whole;") (by decide +kernel)
  have hv6 : vars ≤ 6 := hB.2.2.1.1.2.2.2.2.2.2.2
  have hnr : nr ≤ maxR := hB.2.2.1.1.2.2.2.2.2.1
  have hm60 : maxR ≤ 60 := hB.2.2.1.1.2.2.2.2.2.2.1
  refine lv_aload_n hx hb dX4_findGreatestDivisor_0 rfl (lv_at hl 0 rfl) ?_
  refine z_get (C := RX4) (T := TX4) (N := 16) (v := .ref (X 83)) hx hb hts hinX4 hown hK hM hB.1 5 hf_47 rfl rfl (by decide) rfl dX4_findGreatestDivisor_1 ?_
  refine z_get (C := RX1) (T := TX1) (N := 5) (v := .ref (X 32)) hx hb hts hinX1 hown hK hM hB.2.1.2.1 0 hf_201 rfl rfl (by decide) rfl dX4_findGreatestDivisor_4 ?_
  refine z_callv0 (va_runV (As := []) (rest := []) ⟨hx, hb, hml, hown, hts⟩ (cw_setZero l _ hX hB.2.1 (i := 32) (by unfold vw; omega)) (cwV 0 hts gX4_findGreatestDivisor_X3_setZero rfl rfl rfl (by decide +kernel) ⟨Nat.le_of_ble_eq_true rfl, Nat.le_of_ble_eq_true rfl⟩) (zM.preV hK hM (hB.2.1.o 32 (by unfold vw; omega)) rfl rfl) rfl rfl hl.1 rfl (lv_room (Nat.le_of_ble_eq_true rfl)) dX4_findGreatestDivisor_7 ⟨Nat.le_of_ble_eq_true rfl, Nat.le_of_ble_eq_true rfl⟩) hM (fun G7 H locs hp7 hM => ?_)
  have hw1 := hp7
  have hB1 := hB.num hX hw1.1 (hw1.n (by unfold vw; omega) (by omega))
  refine lv_iconst (v := nI 0) hx hb dX4_findGreatestDivisor_10 rfl ?_
  refine lv_istore_n (lv' := [(2, .int (nI 0)), (0, .ref (X 80)), (1, .int (nI r))]) hx hb dX4_findGreatestDivisor_11 rfl hl (by decide) rfl (fun ls hl => ?_)
  have lp : ∀ (μ : Nat) (i : Nat) (G2 : zG) (Z2 : Nat → Int), vars - i = μ → (i ≤ vars) → (CW Γ G2 X vars Z2) → (frN X vars G G2) → (∀ k, k < 32 → k ≠ 28 → Z2 k = Z k) → ((Z2 32).natAbs = gcdN (R r) i) → ∀ (ls : Array Slot) (H : Heap) (locs : List Loc), lv_has ls 3 [(2, .int (nI i)), (0, .ref (X 80)), (1, .int (nI r))] → zM Γ A s.heap (G2) H locs → W p l e (zR 6) s m args below meth c H locs 0 0 Q (F0 m 12 ls []) := by
    intro μ
    induction μ using Nat.strongRecOn with
    | _ μ ihlp =>
      intro i G2 Z2 hμ hi hC2 hf2 hk2 hg2 ls H locs hl hM
      have hB2 := hB.num hX hC2 hf2
      refine lv_iload_n hx hb dX4_findGreatestDivisor_12 rfl (lv_at hl 0 rfl) ?_
      refine lv_aload_n hx hb dX4_findGreatestDivisor_13 rfl (lv_at hl 1 rfl) ?_
      refine z_get (C := RX4) (T := TX4) (N := 16) (v := .int (nI vars)) hx hb hts hinX4 hown hK hM hB2.1 0 hf_13 rfl rfl (by decide) rfl dX4_findGreatestDivisor_14 ?_
      refine z_icmp_ge (tgt := 50) hx hb (by omega) (by omega) dX4_findGreatestDivisor_17 (by decide) (fun hc17 => ?_) (fun hc17 => ?_)
      · rw [hQ]
        rw [hAe] at hM
        exact z_vret hsz hx hb hr hlocks hK hM dX4_findGreatestDivisor_50 (⟨hf2, Z2, hC2, hk2, by rw [hg2, show i = vars by omega]⟩)
      · refine lv_aload_n hx hb dX4_findGreatestDivisor_20 rfl (lv_at hl 1 rfl) ?_
        refine z_get (C := RX4) (T := TX4) (N := 16) (v := .ref (X 81)) hx hb hts hinX4 hown hK hM hB2.1 1 hf_22 rfl rfl (by decide) rfl dX4_findGreatestDivisor_21 ?_
        refine lv_iload_n hx hb dX4_findGreatestDivisor_24 rfl (lv_at hl 2 rfl) ?_
        refine lv_iload_n hx hb dX4_findGreatestDivisor_25 rfl (lv_at hl 0 rfl) ?_
        refine lv_aload_n hx hb dX4_findGreatestDivisor_26 rfl (lv_at hl 1 rfl) ?_
        refine z_get (C := RX4) (T := TX4) (N := 16) (v := .ref (X 28)) hx hb hts hinX4 hown hK hM hB2.1 13 hf_62 rfl rfl (by decide) rfl dX4_findGreatestDivisor_27 ?_
        refine z_callv0 (va_runV (As := [.int (nI r), .int (nI i), .ref (X 28)]) (rest := []) ⟨hx, hb, hml, hown, hts⟩ (a_load l Γ G2 _ X vars hX maxR nr used cz R C St hB2.2.2.1 Z2 hC2 r i hrn (by omega)) (cwV 3 hts gX4_findGreatestDivisor_X0_load rfl rfl rfl (by decide +kernel) ⟨Nat.le_of_ble_eq_true rfl, Nat.le_of_ble_eq_true rfl⟩) (zM.preV hK hM hB2.2.2.1.1.1 rfl rfl) rfl rfl hl.1 rfl (lv_room (Nat.le_of_ble_eq_true rfl)) dX4_findGreatestDivisor_30 ⟨Nat.le_of_ble_eq_true rfl, Nat.le_of_ble_eq_true rfl⟩) hM (fun G30 H locs hp30 hM => ?_)
        have hw3 := hp30
        have hB3 := hB2.num hX hw3.1 (hw3.n (by unfold vw; omega) (by omega))
        refine lv_aload_n hx hb dX4_findGreatestDivisor_33 rfl (lv_at hl 1 rfl) ?_
        refine z_get (C := RX4) (T := TX4) (N := 16) (v := .ref (X 83)) hx hb hts hinX4 hown hK hM hB3.1 5 hf_47 rfl rfl (by decide) rfl dX4_findGreatestDivisor_34 ?_
        refine lv_aload_n hx hb dX4_findGreatestDivisor_37 rfl (lv_at hl 1 rfl) ?_
        refine z_get (C := RX4) (T := TX4) (N := 16) (v := .ref (X 28)) hx hb hts hinX4 hown hK hM hB3.1 13 hf_62 rfl rfl (by decide) rfl dX4_findGreatestDivisor_38 ?_
        refine z_callv0 (va_runV (As := [.ref (X 28)]) (rest := []) ⟨hx, hb, hml, hown, hts⟩ (v_narrowGreatest l Γ G30 _ X vars _ hX hw3.1) (cwV 1 hts gX4_findGreatestDivisor_X1_narrowGreatest rfl rfl rfl (by decide +kernel) ⟨Nat.le_of_ble_eq_true rfl, Nat.le_of_ble_eq_true rfl⟩) (zM.preV hK hM hB3.2.1.2.1 rfl rfl) rfl rfl hl.1 rfl (lv_room (Nat.le_of_ble_eq_true rfl)) dX4_findGreatestDivisor_41 ⟨Nat.le_of_ble_eq_true rfl, Nat.le_of_ble_eq_true rfl⟩) hM (fun G41 H locs hp41 hM => ?_)
        obtain ⟨hf4, Z4, hC4, k4, g4⟩ := hp41
        rw [va_up_self, va_up_ne _ _ (show 32 ≠ 28 by omega), hg2] at g4
        refine z_iinc (v := (i + 1)) (lv' := [(2, .int (nI (i + 1))), (0, .ref (X 80)), (1, .int (nI r))]) hx hb dX4_findGreatestDivisor_44 hl (k := 0) rfl (nI_p1 _) (by decide) rfl (fun ls hl => ?_)
        refine lv_goto (tgt := 12) hx hb dX4_findGreatestDivisor_47 (by decide) ?_
        exact ihlp _ (by omega) (i + 1) G41 Z4 rfl (by omega) (hC4) ((hf2.tr (hw3.n (by unfold vw; omega) (by omega))).tr (hf4.n (fun q9 h9 => by simp only [List.mem_cons, List.not_mem_nil, or_false] at h9; exact ⟨by unfold vd vw; omega, by omega, by omega, by omega⟩))) (fun k k1 k2 => by rw [k4 k k1 k2, va_up_ne _ _ k2]; exact hk2 k k1 k2) (g4) ls _ _ (lv_sub hl [0, 1, 2] rfl) hM
  exact lp _ 0 _ _ rfl (by omega) hw1.1 (hw1.n (by unfold vw; omega) (by omega)) (fun k k1 k2 => va_up_ne _ _ (by omega)) (by rw [va_up_self]; rfl) ls _ _ (lv_sub hl [0, 1, 2] rfl) hM

set_option maxRecDepth 100000 in
set_option maxHeartbeats 4000000 in
theorem c_holdsAtPoint (l : Launch) (Γ : zT) (G : zG) (sz : Nat) (X : Nat → Nat) (vars maxR nr used cz : Nat) (R : Nat → Nat → Int) (C St : Nat → Nat) (Z : Nat → Int) (fil inp se be ct sw st : Nat) (sg : Int32) (gv : Nat) (hX : XI X vars) (hB : CB Γ G X vars maxR nr used cz R C St Z fil inp se be ct sw st sg gv) (r : Nat) (hrn : r < nr) : zMi l yX4_holdsAtPoint wsX4_holdsAtPoint (zR 4) Γ G sz [.ref (X 80), .int (nI r)] (fun x G' => frN X vars G G' ∧ (∃ Z', CW Γ G' X vars Z' ∧ (∀ k, k < 28 ∨ 30 < k → Z' k = Z k)) ∧ x = (if dotN (fun k => Z (7 + k)) (R r) vars ≤ R r vars then nI 1 else nI 0)) 0 0 := by
  refine z_start (cc := cX4_holdsAtPoint) (maxL := 3) (ret := (some .boolean)) (by decide) rfl (Nat.le_of_ble_eq_true rfl) ?_
  intro p e s m args below meth c ls Q hQ hsz hx hb hr hml hown hts hlocks hnm hK hM hl
  obtain ⟨A, hAe⟩ : ∃ A, A = zA G s.heap.size := ⟨_, rfl⟩
  rw [← hAe] at hM
  have hl : lv_has ls 3 [(0, .ref (X 80)), (1, .int (nI r))] := hl
  have hinX4 : ∀ w ∈ wsX40, w ∈ wsX4_holdsAtPoint := by decide +kernel
  have hinX3 : ∀ w ∈ wsX30, w ∈ wsX4_holdsAtPoint := by decide +kernel
  have hf_13 := hts (.fieldLink RX4 13 "CutRows" "vars" "I") (by decide +kernel)
  have hf_22 := hts (.fieldLink RX4 22 "CutRows" "arena" "LCutRows$Arena;") (by decide +kernel)
  have hf_41 := hts (.fieldLink RX4 41 "CutRows" "point" "[LCutRows$Whole;") (by decide +kernel)
  have hf_62 := hts (.fieldLink RX4 62 "CutRows" "factor" "LCutRows$Whole;") (by decide +kernel)
  have hf_66 := hts (.fieldLink RX4 66 "CutRows" "product" "LCutRows$Whole;") (by decide +kernel)
  have hf_69 := hts (.fieldLink RX4 69 "CutRows" "total" "LCutRows$Whole;") (by decide +kernel)
  have hf_123 := hts (.fieldLink RX4 123 "CutRows$Whole" "sign" "I") (by decide +kernel)
  have hv6 : vars ≤ 6 := hB.2.2.1.1.2.2.2.2.2.2.2
  have hnr : nr ≤ maxR := hB.2.2.1.1.2.2.2.2.2.1
  have hm60 : maxR ≤ 60 := hB.2.2.1.1.2.2.2.2.2.2.1
  refine lv_aload_n hx hb dX4_holdsAtPoint_0 rfl (lv_at hl 0 rfl) ?_
  refine z_get (C := RX4) (T := TX4) (N := 16) (v := .ref (X 81)) hx hb hts hinX4 hown hK hM hB.1 1 hf_22 rfl rfl (by decide) rfl dX4_holdsAtPoint_1 ?_
  refine lv_iload_n hx hb dX4_holdsAtPoint_4 rfl (lv_at hl 1 rfl) ?_
  refine lv_aload_n hx hb dX4_holdsAtPoint_5 rfl (lv_at hl 0 rfl) ?_
  refine z_get (C := RX4) (T := TX4) (N := 16) (v := .int (nI vars)) hx hb hts hinX4 hown hK hM hB.1 0 hf_13 rfl rfl (by decide) rfl dX4_holdsAtPoint_6 ?_
  refine lv_aload_n hx hb dX4_holdsAtPoint_9 rfl (lv_at hl 0 rfl) ?_
  refine z_get (C := RX4) (T := TX4) (N := 16) (v := .ref (X 28)) hx hb hts hinX4 hown hK hM hB.1 13 hf_62 rfl rfl (by decide) rfl dX4_holdsAtPoint_10 ?_
  have hrb : ∀ k, k ≤ vars → nl (R r k).natAbs ≤ 48 := fun k hk => (hB.2.2.1.2 r k hrn hk).2.2.2
  refine z_callv0 (va_runV (As := [.int (nI r), .int (nI vars), .ref (X 28)]) (rest := []) ⟨hx, hb, hml, hown, hts⟩ (a_load l Γ G _ X vars hX maxR nr used cz R C St hB.2.2.1 Z hB.2.1 r vars hrn (by omega)) (cwV 3 hts gX4_holdsAtPoint_X0_load rfl rfl rfl (by decide +kernel) ⟨Nat.le_of_ble_eq_true rfl, Nat.le_of_ble_eq_true rfl⟩) (zM.preV hK hM hB.2.2.1.1.1 rfl rfl) rfl rfl hl.1 rfl (lv_room (Nat.le_of_ble_eq_true rfl)) dX4_holdsAtPoint_13 ⟨Nat.le_of_ble_eq_true rfl, Nat.le_of_ble_eq_true rfl⟩) hM (fun G13 H locs hp13 hM => ?_)
  have hw1 := hp13
  have hB1 := hB.num hX hw1.1 (hw1.n (by unfold vw; omega) (by omega))
  refine lv_aload_n hx hb dX4_holdsAtPoint_16 rfl (lv_at hl 0 rfl) ?_
  refine z_get (C := RX4) (T := TX4) (N := 16) (v := .ref (X 30)) hx hb hts hinX4 hown hK hM hB1.1 15 hf_69 rfl rfl (by decide) rfl dX4_holdsAtPoint_17 ?_
  refine lv_aload_n hx hb dX4_holdsAtPoint_20 rfl (lv_at hl 0 rfl) ?_
  refine z_get (C := RX4) (T := TX4) (N := 16) (v := .ref (X 28)) hx hb hts hinX4 hown hK hM hB1.1 13 hf_62 rfl rfl (by decide) rfl dX4_holdsAtPoint_21 ?_
  have y28 : va_up Z 28 (R r vars) 28 = R r vars := va_up_self _ _ _
  refine z_callv0 (va_runV (As := [.ref (X 28)]) (rest := []) ⟨hx, hb, hml, hown, hts⟩ (cw_copy l _ hX hw1.1 (i := 30) (j := 28) (by unfold vw; omega) (by unfold vw; omega) (by omega) (by rw [y28]; exact Nat.le_trans (hrb vars (by omega)) (by decide))) (cwV 1 hts gX4_holdsAtPoint_X3_copyFrom rfl rfl rfl (by decide +kernel) ⟨Nat.le_of_ble_eq_true rfl, Nat.le_of_ble_eq_true rfl⟩) (zM.preV hK hM (hB1.2.1.o 30 (by unfold vw; omega)) rfl rfl) rfl rfl hl.1 rfl (lv_room (Nat.le_of_ble_eq_true rfl)) dX4_holdsAtPoint_24 ⟨Nat.le_of_ble_eq_true rfl, Nat.le_of_ble_eq_true rfl⟩) hM (fun G24 H locs hp24 hM => ?_)
  have hw2 := hp24
  rw [y28] at hw2
  have hB2 := hB1.num hX hw2.1 (hw2.n (by unfold vw; omega) (by omega))
  obtain ⟨Z2, hZ2⟩ : ∃ Z2, Z2 = va_up (va_up Z 28 (R r vars)) 30 (R r vars) := ⟨_, rfl⟩
  rw [← hZ2] at hB2
  have t30 : Z2 30 = R r vars := by rw [hZ2, va_up_self]
  refine lv_aload_n hx hb dX4_holdsAtPoint_27 rfl (lv_at hl 0 rfl) ?_
  refine z_get (C := RX4) (T := TX4) (N := 16) (v := .ref (X 30)) hx hb hts hinX4 hown hK hM hB2.1 15 hf_69 rfl rfl (by decide) rfl dX4_holdsAtPoint_28 ?_
  refine lv_aload_n hx hb dX4_holdsAtPoint_31 rfl (lv_at hl 0 rfl) ?_
  refine z_get (C := RX4) (T := TX4) (N := 16) (v := .ref (X 30)) hx hb hts hinX4 hown hK hM hB2.1 15 hf_69 rfl rfl (by decide) rfl dX4_holdsAtPoint_32 ?_
  refine z_get (C := RX3) (T := TX3) (N := 3) (v := .int (sgI (Z2 30))) hx hb hts hinX3 hown hK hM (hB2.2.1.o 30 (by unfold vw; omega)) 2 hf_123 rfl rfl (by decide) rfl dX4_holdsAtPoint_35 ?_
  refine lv_ineg hx hb dX4_holdsAtPoint_38 ?_
  refine z_asi (y := (sgI (-(Z2 30)))) (sgI_ng _) ?_
  refine z_put (C := RX3) (T := TX3) (N := 3) (fs' := [.ref (X (40 + 30)), .int (nI (nl (Z2 30).natAbs)), .int (sgI (-(Z2 30)))]) hx hb hts hinX3 tyX3 tyX3_ok nmX3 hown hK hM (hB2.2.1.o 30 (by unfold vw; omega)) 2 hf_123 rfl rfl (by decide) rfl rfl rfl (Nat.le_of_ble_eq_true rfl) rfl dX4_holdsAtPoint_39 (fun H locs hM => ?_)
  have hw3 := hB2.2.1.sgn hX (i := 30) (by unfold vw; omega) (z := -(Z2 30)) (Int.natAbs_neg _)
  obtain ⟨G3, hG3⟩ : ∃ G3, G3 = zup G24 (X 30) (.inr (5, [.ref (X (40 + 30)), .int (nI (nl (Z2 30).natAbs)), .int (sgI (-(Z2 30)))])) := ⟨_, rfl⟩
  rw [← hG3] at hM hw3
  have hB3 := hB2.num hX hw3.1 (hw3.n (by unfold vw; omega) (by omega))
  refine lv_iconst (v := nI 0) hx hb dX4_holdsAtPoint_42 rfl ?_
  refine lv_istore_n (lv' := [(2, .int (nI 0)), (0, .ref (X 80)), (1, .int (nI r))]) hx hb dX4_holdsAtPoint_43 rfl hl (by decide) rfl (fun ls hl => ?_)
  have lp : ∀ (μ : Nat) (i : Nat) (G4 : zG) (Z4 : Nat → Int), vars - i = μ → (i ≤ vars) → (CW Γ G4 X vars Z4) → (frN X vars G G4) → (∀ k, k < 28 ∨ 30 < k → Z4 k = Z k) → (Z4 30 = dotN (fun k => Z (7 + k)) (R r) i - R r vars) → ((dotN (fun k => Z (7 + k)) (R r) i - R r vars).natAbs < (i + 1) * bp 68) → ∀ (ls : Array Slot) (H : Heap) (locs : List Loc), lv_has ls 3 [(2, .int (nI i)), (0, .ref (X 80)), (1, .int (nI r))] → zM Γ A s.heap (G4) H locs → W p l e (zR 4) s m args below meth c H locs 0 0 Q (F0 m 44 ls []) := by
    intro μ
    induction μ using Nat.strongRecOn with
    | _ μ ihlp =>
      intro i G4 Z4 hμ hi hC4 hf4 hk4 ht4 hb4 ls H locs hl hM
      have hB4 := hB.num hX hC4 hf4
      refine lv_iload_n hx hb dX4_holdsAtPoint_44 rfl (lv_at hl 0 rfl) ?_
      refine lv_aload_n hx hb dX4_holdsAtPoint_45 rfl (lv_at hl 1 rfl) ?_
      refine z_get (C := RX4) (T := TX4) (N := 16) (v := .int (nI vars)) hx hb hts hinX4 hown hK hM hB4.1 0 hf_13 rfl rfl (by decide) rfl dX4_holdsAtPoint_46 ?_
      refine z_icmp_ge (tgt := 99) hx hb (by omega) (by omega) dX4_holdsAtPoint_49 (by decide) (fun hc49 => ?_) (fun hc49 => ?_)
      · have hie : i = vars := by omega
        refine lv_aload_n hx hb dX4_holdsAtPoint_99 rfl (lv_at hl 1 rfl) ?_
        refine z_get (C := RX4) (T := TX4) (N := 16) (v := .ref (X 30)) hx hb hts hinX4 hown hK hM hB4.1 15 hf_69 rfl rfl (by decide) rfl dX4_holdsAtPoint_100 ?_
        refine z_get (C := RX3) (T := TX3) (N := 3) (v := .int (sgI (Z4 30))) hx hb hts hinX3 hown hK hM (hB4.2.1.o 30 (by unfold vw; omega)) 2 hf_123 rfl rfl (by decide) rfl dX4_holdsAtPoint_103 ?_
        refine lv_if_gt (tgt := 113) hx hb dX4_holdsAtPoint_106 (by decide) (fun hc106 => ?_) (fun hc106 => ?_)
        · have hgt := sgI_gt.mp hc106
          rw [ht4] at hgt
          refine lv_iconst (v := nI 0) hx hb dX4_holdsAtPoint_113 rfl ?_
          rw [hQ]
          rw [hAe] at hM
          exact z_zret (by omega) hsz hx hb hr hlocks hK hM dX4_holdsAtPoint_114 (⟨hf4, ⟨Z4, hC4, hk4⟩, by rw [if_neg (by rw [hie] at hgt; omega)]⟩)
        · have hgt := mt sgI_gt.mpr hc106
          rw [ht4] at hgt
          refine lv_iconst (v := nI 1) hx hb dX4_holdsAtPoint_109 rfl ?_
          refine lv_goto (tgt := 114) hx hb dX4_holdsAtPoint_110 (by decide) ?_
          rw [hQ]
          rw [hAe] at hM
          exact z_zret (by omega) hsz hx hb hr hlocks hK hM dX4_holdsAtPoint_114 (⟨hf4, ⟨Z4, hC4, hk4⟩, by rw [if_pos (by rw [hie] at hgt; omega)]⟩)
      · refine lv_aload_n hx hb dX4_holdsAtPoint_52 rfl (lv_at hl 1 rfl) ?_
        refine z_get (C := RX4) (T := TX4) (N := 16) (v := .ref (X 81)) hx hb hts hinX4 hown hK hM hB4.1 1 hf_22 rfl rfl (by decide) rfl dX4_holdsAtPoint_53 ?_
        refine lv_iload_n hx hb dX4_holdsAtPoint_56 rfl (lv_at hl 2 rfl) ?_
        refine lv_iload_n hx hb dX4_holdsAtPoint_57 rfl (lv_at hl 0 rfl) ?_
        refine lv_aload_n hx hb dX4_holdsAtPoint_58 rfl (lv_at hl 1 rfl) ?_
        refine z_get (C := RX4) (T := TX4) (N := 16) (v := .ref (X 28)) hx hb hts hinX4 hown hK hM hB4.1 13 hf_62 rfl rfl (by decide) rfl dX4_holdsAtPoint_59 ?_
        refine z_callv0 (va_runV (As := [.int (nI r), .int (nI i), .ref (X 28)]) (rest := []) ⟨hx, hb, hml, hown, hts⟩ (a_load l Γ G4 _ X vars hX maxR nr used cz R C St hB4.2.2.1 Z4 hC4 r i hrn (by omega)) (cwV 3 hts gX4_holdsAtPoint_X0_load rfl rfl rfl (by decide +kernel) ⟨Nat.le_of_ble_eq_true rfl, Nat.le_of_ble_eq_true rfl⟩) (zM.preV hK hM hB4.2.2.1.1.1 rfl rfl) rfl rfl hl.1 rfl (lv_room (Nat.le_of_ble_eq_true rfl)) dX4_holdsAtPoint_62 ⟨Nat.le_of_ble_eq_true rfl, Nat.le_of_ble_eq_true rfl⟩) hM (fun G62 H locs hp62 hM => ?_)
        have hw5 := hp62
        have hB5 := hB4.num hX hw5.1 (hw5.n (by unfold vw; omega) (by omega))
        refine lv_aload_n hx hb dX4_holdsAtPoint_65 rfl (lv_at hl 1 rfl) ?_
        refine z_get (C := RX4) (T := TX4) (N := 16) (v := .ref (X 29)) hx hb hts hinX4 hown hK hM hB5.1 14 hf_66 rfl rfl (by decide) rfl dX4_holdsAtPoint_66 ?_
        refine lv_aload_n hx hb dX4_holdsAtPoint_69 rfl (lv_at hl 1 rfl) ?_
        refine z_get (C := RX4) (T := TX4) (N := 16) (v := .ref (X 28)) hx hb hts hinX4 hown hK hM hB5.1 13 hf_62 rfl rfl (by decide) rfl dX4_holdsAtPoint_70 ?_
        refine lv_aload_n hx hb dX4_holdsAtPoint_73 rfl (lv_at hl 1 rfl) ?_
        refine z_get (C := RX4) (T := TX4) (N := 16) (v := .ref (X 85)) hx hb hts hinX4 hown hK hM hB5.1 4 hf_41 rfl rfl (by decide) rfl dX4_holdsAtPoint_74 ?_
        refine lv_iload_n hx hb dX4_holdsAtPoint_77 rfl (lv_at hl 0 rfl) ?_
        refine z_aldW hx hb hK hM hB5.2.1.2.2.2.2.2.1 (by omega) (by omega) dX4_holdsAtPoint_78 ?_
        have vp : vw vars (7 + i) := by unfold vw; omega
        have x28 : va_up Z4 28 (R r i) 28 = R r i := va_up_self _ _ _
        have x7 : va_up Z4 28 (R r i) (7 + i) = Z (7 + i) := by rw [va_up_ne _ _ (by omega), hk4 _ (by omega)]
        have p20 : nl (Z (7 + i)).natAbs ≤ 20 := by have := hB.2.1.le _ vp; rw [show wrm (7 + i) = 20 by unfold wrm; rw [if_pos (by omega)]] at this; exact this
        have r48 := hrb i (by omega)
        refine z_callv0 (va_runV (As := [.ref (X 28), .ref (X (7 + i))]) (rest := []) ⟨hx, hb, hml, hown, hts⟩ (cw_prod l _ hX hw5.1 (i := 29) (j := 28) (k := 7 + i) (by unfold vw; omega) (by unfold vw; omega) vp (by omega) (by omega) (by rw [x28, x7, show wrm 29 = 69 from rfl]; omega)) (cwV 2 hts gX4_holdsAtPoint_X3_setProduct rfl rfl rfl (by decide +kernel) ⟨Nat.le_of_ble_eq_true rfl, Nat.le_of_ble_eq_true rfl⟩) (zM.preV hK hM (hB5.2.1.o 29 (by unfold vw; omega)) rfl rfl) rfl rfl hl.1 rfl (lv_room (Nat.le_of_ble_eq_true rfl)) dX4_holdsAtPoint_79 ⟨Nat.le_of_ble_eq_true rfl, Nat.le_of_ble_eq_true rfl⟩) hM (fun G79 H locs hp79 hM => ?_)
        have hw6 := hp79
        rw [x28, x7] at hw6
        have hB6 := hB5.num hX hw6.1 (hw6.n (by unfold vw; omega) (by omega))
        obtain ⟨Z6, hZ6⟩ : ∃ Z6, Z6 = va_up (va_up Z4 28 (R r i)) 29 (R r i * Z (7 + i)) := ⟨_, rfl⟩
        rw [← hZ6] at hB6
        have y29 : Z6 29 = R r i * Z (7 + i) := by rw [hZ6, va_up_self]
        have y30 : Z6 30 = dotN (fun k => Z (7 + k)) (R r) i - R r vars := by rw [hZ6, va_up_ne _ _ (by omega), va_up_ne _ _ (by omega)]; exact ht4
        have hpr : (R r i * Z (7 + i)).natAbs < bp 68 := nl_le_iff.mp (nl_imul r48 p20)
        have e9 : dotN (fun k => Z (7 + k)) (R r) (i + 1) = dotN (fun k => Z (7 + k)) (R r) i + Z (7 + i) * R r i := rfl
        have e10 : dotN (fun k => Z (7 + k)) (R r) i - R r vars + R r i * Z (7 + i) = dotN (fun k => Z (7 + k)) (R r) (i + 1) - R r vars := by rw [e9, Int.mul_comm (R r i)]; omega
        have hsm : (dotN (fun k => Z (7 + k)) (R r) (i + 1) - R r vars).natAbs < (i + 2) * bp 68 := by
          rw [← e10]
          have g1 := Int.natAbs_add_le (dotN (fun k => Z (7 + k)) (R r) i - R r vars) (R r i * Z (7 + i))
          rw [show i + 2 = i + 1 + 1 by omega, Nat.add_mul (i + 1) 1]
          omega
        refine lv_aload_n hx hb dX4_holdsAtPoint_82 rfl (lv_at hl 1 rfl) ?_
        refine z_get (C := RX4) (T := TX4) (N := 16) (v := .ref (X 30)) hx hb hts hinX4 hown hK hM hB6.1 15 hf_69 rfl rfl (by decide) rfl dX4_holdsAtPoint_83 ?_
        refine lv_aload_n hx hb dX4_holdsAtPoint_86 rfl (lv_at hl 1 rfl) ?_
        refine z_get (C := RX4) (T := TX4) (N := 16) (v := .ref (X 29)) hx hb hts hinX4 hown hK hM hB6.1 14 hf_66 rfl rfl (by decide) rfl dX4_holdsAtPoint_87 ?_
        refine z_callv0 (va_runV (As := [.ref (X 29)]) (rest := []) ⟨hx, hb, hml, hown, hts⟩ (cw_add l _ hX hB6.2.1 (i := 30) (j := 29) (by unfold vw; omega) (by unfold vw; omega) (by omega) (hB6.2.1.le 29 (by unfold vw; omega)) (by rw [y29, y30, e10, show wrm 30 = 69 from rfl]; exact nl_le (by have g1 := mul_le_r (bp 68) (show i + 2 ≤ 8 by omega); have g2 : bp 69 = 2147483648 * bp 68 := bp_s 68; have := bp_pos 68; omega))) (cwV 1 hts gX4_holdsAtPoint_X3_add rfl rfl rfl (by decide +kernel) ⟨Nat.le_of_ble_eq_true rfl, Nat.le_of_ble_eq_true rfl⟩) (zM.preV hK hM (hB6.2.1.o 30 (by unfold vw; omega)) rfl rfl) rfl rfl hl.1 rfl (lv_room (Nat.le_of_ble_eq_true rfl)) dX4_holdsAtPoint_90 ⟨Nat.le_of_ble_eq_true rfl, Nat.le_of_ble_eq_true rfl⟩) hM (fun G90 H locs hp90 hM => ?_)
        have hw7 := hp90
        rw [y29, y30, e10] at hw7
        refine z_iinc (v := (i + 1)) (lv' := [(2, .int (nI (i + 1))), (0, .ref (X 80)), (1, .int (nI r))]) hx hb dX4_holdsAtPoint_93 hl (k := 0) rfl (nI_p1 _) (by decide) rfl (fun ls hl => ?_)
        refine lv_goto (tgt := 44) hx hb dX4_holdsAtPoint_96 (by decide) ?_
        exact ihlp _ (by omega) (i + 1) G90 (va_up Z6 30 (dotN (fun k => Z (7 + k)) (R r) (i + 1) - R r vars)) rfl (by omega) (hw7.1) (((hf4.tr (hw5.n (by unfold vw; omega) (by omega))).tr (hw6.n (by unfold vw; omega) (by omega))).tr (hw7.n (by unfold vw; omega) (by omega))) (fun k hk => by rw [va_up_ne _ _ (by omega), hZ6, va_up_ne _ _ (by omega), va_up_ne _ _ (by omega)]; exact hk4 k hk) (va_up_self _ _ _) (hsm) ls _ _ (lv_sub hl [0, 1, 2] rfl) hM
  exact lp _ 0 _ _ rfl (by omega) hw3.1 (((hw1.n (by unfold vw; omega) (by omega)).tr (hw2.n (by unfold vw; omega) (by omega))).tr (hw3.n (by unfold vw; omega) (by omega))) (fun k hk => by rw [va_up_ne _ _ (by omega), hZ2, va_up_ne _ _ (by omega), va_up_ne _ _ (by omega)]) (by rw [va_up_self, t30]; show _ = 0 - _; omega) (by have g1 := nl_le_iff.mp (hrb vars (by omega)); have g2 := @bp_le 48 68 (by omega); show (0 - R r vars).natAbs < _; omega) ls _ _ (lv_sub hl [0, 1, 2] rfl) hM

set_option maxRecDepth 100000 in
set_option maxHeartbeats 4000000 in
theorem c_keepMade (l : Launch) (Γ : zT) (G : zG) (sz : Nat) (X : Nat → Nat) (vars maxR nr used cz : Nat) (R : Nat → Nat → Int) (C St : Nat → Nat) (Z : Nat → Int) (fil inp se be ct sw st : Nat) (sg : Int32) (gv : Nat) (hX : XI X vars) (hB : CB Γ G X vars maxR nr used cz R C St Z fil inp se be ct sw st sg gv) (wa wb : Nat) (hW : ∀ G2 Z2, CW Γ G2 X vars Z2 → WA Γ G2 X (X wa) (vars + 1) wb) (hwb : ∀ k, k ≤ vars → vw vars (wb + k)) (hvwa : vd vars wa) (hwa8 : 83 < wa) (h48 : ∀ k, k ≤ vars → nl (Z (wb + k)).natAbs ≤ 48) : zMi l yX4_keepMade wsX4_keepMade (zR 4) Γ G sz [.ref (X 80), .ref (X wa)] (fun x G' => fr X [75, 76, 80, 81] G G' ∧ (if nr = maxR ∨ cz - used < need (fun k => Z (wb + k)) (vars + 1) then x = -4 ∧ G' = G else x = nI nr ∧ ∃ C' St', CB Γ G' X vars maxR (nr + 1) (used + need (fun k => Z (wb + k)) (vars + 1)) cz (va_up R nr (fun k => Z (wb + k))) C' St' Z fil inp se be (if bot (fun k => Z (wb + k)) vars then 1 else ct) sw st sg gv)) 0 0 := by
  refine z_start (cc := cX4_keepMade) (maxL := 3) (ret := (some .int)) (by decide) rfl (Nat.le_of_ble_eq_true rfl) ?_
  intro p e s m args below meth c ls Q hQ hsz hx hb hr hml hown hts hlocks hnm hK hM hl
  obtain ⟨A, hAe⟩ : ∃ A, A = zA G s.heap.size := ⟨_, rfl⟩
  rw [← hAe] at hM
  have hl : lv_has ls 3 [(0, .ref (X 80)), (1, .ref (X wa))] := hl
  have hinX4 : ∀ w ∈ wsX40, w ∈ wsX4_keepMade := by decide +kernel
  have hinX3 : ∀ w ∈ wsX30, w ∈ wsX4_keepMade := by decide +kernel
  have hf_13 := hts (.fieldLink RX4 13 "CutRows" "vars" "I") (by decide +kernel)
  have hf_22 := hts (.fieldLink RX4 22 "CutRows" "arena" "LCutRows$Arena;") (by decide +kernel)
  have hf_123 := hts (.fieldLink RX4 123 "CutRows$Whole" "sign" "I") (by decide +kernel)
  have hf_149 := hts (.fieldLink RX4 149 "CutRows" "contradicted" "Z") (by decide +kernel)
  have hv6 : vars ≤ 6 := hB.2.2.1.1.2.2.2.2.2.2.2
  have hnr : nr ≤ maxR := hB.2.2.1.1.2.2.2.2.2.1
  have hm60 : maxR ≤ 60 := hB.2.2.1.1.2.2.2.2.2.2.1
  refine lv_aload_n hx hb dX4_keepMade_0 rfl (lv_at hl 0 rfl) ?_
  refine z_get (C := RX4) (T := TX4) (N := 16) (v := .ref (X 81)) hx hb hts hinX4 hown hK hM hB.1 1 hf_22 rfl rfl (by decide) rfl dX4_keepMade_1 ?_
  refine lv_aload_n hx hb dX4_keepMade_4 rfl (lv_at hl 1 rfl) ?_
  refine z_calli0 (va_runV (As := [.ref (X wa)]) (rest := []) ⟨hx, hb, hml, hown, hts⟩ (a_keep l Γ G _ X vars hX maxR nr used cz R C St hB.2.2.1 Z hB.2.1 wa wb (hW _ _ hB.2.1) hwb hvwa hwa8 h48) (cwV 1 hts gX4_keepMade_X0_keep rfl rfl rfl (by decide +kernel) ⟨Nat.le_of_ble_eq_true rfl, Nat.le_of_ble_eq_true rfl⟩) (zM.preV hK hM hB.2.2.1.1.1 rfl rfl) rfl rfl hl.1 rfl (lv_room (Nat.le_of_ble_eq_true rfl)) dX4_keepMade_5 ⟨Nat.le_of_ble_eq_true rfl, Nat.le_of_ble_eq_true rfl⟩) hM (fun r5 G5 H locs hp5 hM => ?_)
  obtain ⟨hf1, hp1⟩ := hp5
  by_cases hno : nr = maxR ∨ cz - used < need (fun k => Z (wb + k)) (vars + 1)
  · rw [if_pos hno] at hp1
    obtain ⟨hx5, hGe⟩ := hp1
    rw [hx5]
    rw [hGe] at hM
    refine lv_istore_n (lv' := [(2, .int (-4)), (0, .ref (X 80)), (1, .ref (X wa))]) hx hb dX4_keepMade_8 rfl hl (by decide) rfl (fun ls hl => ?_)
    refine lv_iload_n hx hb dX4_keepMade_9 rfl (lv_at hl 0 rfl) ?_
    refine lv_if_lt (tgt := 38) hx hb dX4_keepMade_10 (by decide) (fun hc10 => ?_) (fun hc10 => ?_)
    · refine lv_iload_n hx hb dX4_keepMade_38 rfl (lv_at hl 0 rfl) ?_
      rw [hQ]
      rw [hAe] at hM
      exact z_iret hsz hx hb hr hlocks hK hM dX4_keepMade_39 (⟨fr.rf, by rw [if_pos hno]; exact ⟨rfl, rfl⟩⟩)
    · exact absurd (by decide) hc10
  · rw [if_neg hno] at hp1
    obtain ⟨hx5, C1, S1, hA1⟩ := hp1
    rw [hx5]
    have hC1 := hB.2.1.same hX hf1 (fun q9 h9 => by simp only [List.mem_cons, List.not_mem_nil, or_false] at h9; omega)
    have hB1 : CB Γ G5 X vars maxR (nr + 1) (used + need (fun k => Z (wb + k)) (vars + 1)) cz (va_up R nr (fun k => Z (wb + k))) C1 S1 Z fil inp se be ct sw st sg gv := ⟨hB.1.fr hX hf1 (fun q9 h9 => by simp only [List.mem_cons, List.not_mem_nil, or_false] at h9; exact ⟨by unfold vd vw; omega, by omega⟩), hC1, hA1, hB.2.2.2.fr hX hf1 (fun q9 h9 => by simp only [List.mem_cons, List.not_mem_nil, or_false] at h9; exact ⟨by unfold vd vw; omega, by omega⟩)⟩
    have hf2 : fr X [75, 76, 80, 81] G G5 := hf1.mono (fun q9 h9 => by simp only [List.mem_cons, List.not_mem_nil, or_false] at h9 ⊢; omega)
    refine lv_istore_n (lv' := [(2, .int (nI nr)), (0, .ref (X 80)), (1, .ref (X wa))]) hx hb dX4_keepMade_8 rfl hl (by decide) rfl (fun ls hl => ?_)
    refine lv_iload_n hx hb dX4_keepMade_9 rfl (lv_at hl 0 rfl) ?_
    refine z_if_ltN hx hb (by omega) dX4_keepMade_10 (tgt := 38) (by decide) ?_
    refine lv_aload_n hx hb dX4_keepMade_13 rfl (lv_at hl 2 rfl) ?_
    refine lv_aload_n hx hb dX4_keepMade_14 rfl (lv_at hl 1 rfl) ?_
    refine z_get (C := RX4) (T := TX4) (N := 16) (v := .int (nI vars)) hx hb hts hinX4 hown hK hM hB1.1 0 hf_13 rfl rfl (by decide) rfl dX4_keepMade_15 ?_
    refine z_aldW hx hb hK hM (hW _ _ hC1) (by omega) (by omega) dX4_keepMade_18 ?_
    refine z_get (C := RX3) (T := TX3) (N := 3) (v := .int (sgI (Z (wb + vars)))) hx hb hts hinX3 hown hK hM (hB1.2.1.o (wb + vars) (hwb vars (by omega))) 2 hf_123 rfl rfl (by decide) rfl dX4_keepMade_19 ?_
    refine lv_if_ge (tgt := 38) hx hb dX4_keepMade_22 (by decide) (fun hc22 => ?_) (fun hc22 => ?_)
    · have hbt : bot (fun k => Z (wb + k)) vars = false := by unfold bot; rw [decide_eq_false (fun h9 => Int32.not_lt.mpr hc22 (sgI_lt.mpr h9)), Bool.false_and]
      refine lv_iload_n hx hb dX4_keepMade_38 rfl (lv_at hl 0 rfl) ?_
      rw [hQ]
      rw [hAe] at hM
      exact z_iret hsz hx hb hr hlocks hK hM dX4_keepMade_39 (⟨hf2, by rw [if_neg hno]; exact ⟨rfl, C1, S1, by rw [hbt]; exact hB1⟩⟩)
    · refine lv_aload_n hx hb dX4_keepMade_25 rfl (lv_at hl 1 rfl) ?_
      refine lv_iload_n hx hb dX4_keepMade_26 rfl (lv_at hl 0 rfl) ?_
      refine z_calli0 (va_runV (As := [.int (nI nr)]) (rest := []) ⟨hx, hb, hml, hown, hts⟩ (c_hasCoefficient l Γ G5 _ X vars maxR (nr + 1) (used + need (fun k => Z (wb + k)) (vars + 1)) cz (va_up R nr (fun k => Z (wb + k))) C1 S1 Z fil inp se be ct sw st sg gv hX hB1 nr (by omega)) (cwV 1 hts gX4_keepMade_X4_hasCoefficient rfl rfl rfl (by decide +kernel) ⟨Nat.le_of_ble_eq_true rfl, Nat.le_of_ble_eq_true rfl⟩) (zM.preV hK hM hB1.1 rfl rfl) rfl rfl hl.1 rfl (lv_room (Nat.le_of_ble_eq_true rfl)) dX4_keepMade_27 ⟨Nat.le_of_ble_eq_true rfl, Nat.le_of_ble_eq_true rfl⟩) hM (fun r27 G27 H locs hp27 hM => ?_)
      obtain ⟨hx27, hGe⟩ := hp27
      rw [hGe] at hM
      rw [va_up_self] at hx27
      rw [hx27]
      refine lv_if_ne (tgt := 38) hx hb dX4_keepMade_30 (by decide) (fun hc30 => ?_) (fun hc30 => ?_)
      · have hbt : bot (fun k => Z (wb + k)) vars = false := by unfold bot; rcases hzz : zeroN (fun k => Z (wb + k)) vars with _ | _; rw [Bool.and_false]; rw [hzz] at hc30; exact absurd rfl hc30
        refine lv_iload_n hx hb dX4_keepMade_38 rfl (lv_at hl 0 rfl) ?_
        rw [hQ]
        rw [hAe] at hM
        exact z_iret hsz hx hb hr hlocks hK hM dX4_keepMade_39 (⟨hf2, by rw [if_neg hno]; exact ⟨rfl, C1, S1, by rw [hbt]; exact hB1⟩⟩)
      · have hbt : bot (fun k => Z (wb + k)) vars = true := by unfold bot; rw [decide_eq_true (sgI_lt.mp (Int32.not_le.mp hc22)), Bool.true_and]; rcases hzz : zeroN (fun k => Z (wb + k)) vars with _ | _; rw [hzz] at hc30; exact absurd hc30 (by decide); rfl
        refine lv_aload_n hx hb dX4_keepMade_33 rfl (lv_at hl 1 rfl) ?_
        refine lv_iconst (v := nI 1) hx hb dX4_keepMade_34 rfl ?_
        refine z_put (C := RX4) (T := TX4) (N := 16) (fs' := [.int (nI vars), .ref (X 81), .ref (X 82), .ref (X 84), .ref (X 85), .ref (X 83), .int (nI fil), .int (nI inp), .int (nI se), .int (nI be), .int (nI 1), .ref (X (86 + sw)), .ref (X (87 - sw)), .ref (X 28), .ref (X 29), .ref (X 30)]) hx hb hts hinX4 tyX4 tyX4_ok nmX4 hown hK hM hB1.1 10 hf_149 rfl rfl (by decide) rfl rfl rfl (Nat.le_of_ble_eq_true rfl) rfl dX4_keepMade_35 (fun H locs hM => ?_)
        refine lv_iload_n hx hb dX4_keepMade_38 rfl (lv_at hl 0 rfl) ?_
        rw [hQ]
        rw [hAe] at hM
        exact z_iret hsz hx hb hr hlocks hK hM dX4_keepMade_39 (⟨hf2.tr (fr.up (by simp)), by rw [if_neg hno]; exact ⟨rfl, C1, S1, by rw [hbt]; exact hB1.put hX fil inp se be 1 sw⟩⟩)
