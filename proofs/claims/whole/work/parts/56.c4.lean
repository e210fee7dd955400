set_option maxRecDepth 100000 in
set_option maxHeartbeats 4000000 in
theorem w_add (l : Launch) (Γ : zT) (G : zG) (sz : Nat) (a la r : Nat) (za : Int) (d : Nat → Nat) (ha : G a = some (wh la (nl za.natAbs) (sgI za))) (hla : G la = some (zI Γ r d)) (hda : hd d za) (b lb rb : Nat) (zb : Int) (db : Nat → Nat) (hbw : G b = some (wh lb (nl zb.natAbs) (sgI zb))) (hlb : G lb = some (zI Γ rb db)) (hdb : hd db zb) (hne : la ≠ lb) (hab : a ≠ b) (hnr : nl za.natAbs ≤ r) (hr31 : r < 2 ^ 31) (hnb : nl zb.natAbs ≤ rb) (hrb31 : rb < 2 ^ 31) (hbr : nl zb.natAbs ≤ r) (hfit : nl (za + zb).natAbs ≤ r) : zMv l yX3_add wsX3_add (zR 3) Γ G sz [.ref a, .ref b] (fun G' => ∃ d', G' = zup (zup G la (zI Γ r d')) a (wh la (nl (za + zb).natAbs) (sgI (za + zb))) ∧ hd d' (za + zb)) 0 0 := by
  refine z_start (cc := cX3_add) (maxL := 2) (ret := none) (by decide) rfl (Nat.le_of_ble_eq_true rfl) ?_
  intro p e s m args below meth c ls Q hQ hsz hx hb hr hml hown hts hlocks hnm hK hM hl
  obtain ⟨A, hAe⟩ : ∃ A, A = zA G s.heap.size := ⟨_, rfl⟩
  rw [← hAe] at hM
  have hl : lv_has ls 2 [(0, .ref a), (1, .ref b)] := hl
  have hinX3 : ∀ w ∈ wsX30, w ∈ wsX3_add := by decide +kernel
  have hf_19 := hts (.fieldLink RX3 19 "CutRows$Whole" "sign" "I") (by decide +kernel)
  refine lv_aload_n hx hb dX3_add_0 rfl (lv_at hl 0 rfl) ?_
  refine z_get (C := RX3) (T := TX3) (N := 3) (v := .int (sgI za)) hx hb hts hinX3 hown hK hM ha 2 hf_19 rfl rfl (by decide) rfl dX3_add_1 ?_
  refine lv_aload_n hx hb dX3_add_4 rfl (lv_at hl 1 rfl) ?_
  refine z_get (C := RX3) (T := TX3) (N := 3) (v := .int (sgI zb)) hx hb hts hinX3 hown hK hM hbw 2 hf_19 rfl rfl (by decide) rfl dX3_add_5 ?_
  refine lv_imul hx hb dX3_add_8 ?_
  refine lv_if_lt (tgt := 38) hx hb dX3_add_9 (by decide) (fun hc9 => ?_) (fun hc9 => ?_)
  · have hop := sgI_mul_lt.mp hc9
    refine lv_aload_n hx hb dX3_add_38 rfl (lv_at hl 0 rfl) ?_
    refine lv_aload_n hx hb dX3_add_39 rfl (lv_at hl 1 rfl) ?_
    refine z_calli0 (va_runV (As := [.ref b]) (rest := []) ⟨hx, hb, hml, hown, hts⟩ (w_compareSize l Γ G _ a la r (nl za.natAbs) (sgI za) d ha hla b lb rb (nl zb.natAbs) (sgI zb) db hbw hlb hnr hnb hr31 hrb31 hda.sf hdb.sf) (cwV 1 hts gX3_add_X3_compareSize rfl rfl rfl (by decide +kernel) ⟨Nat.le_of_ble_eq_true rfl, Nat.le_of_ble_eq_true rfl⟩) (zM.preV hK hM ha rfl rfl) rfl rfl hl.1 rfl (lv_room (Nat.le_of_ble_eq_true rfl)) dX3_add_40 ⟨Nat.le_of_ble_eq_true rfl, Nat.le_of_ble_eq_true rfl⟩) hM (fun r40 G40 H locs hp40 hM => ?_)
    obtain ⟨rfl, hGe⟩ := hp40
    rw [hGe] at hM
    rw [hda.2, hdb.2]
    refine lv_if_lt (tgt := 59) hx hb dX3_add_43 (by decide) (fun hc43 => ?_) (fun hc43 => ?_)
    · have hlt : za.natAbs < zb.natAbs := by
        rcases Nat.lt_or_ge za.natAbs zb.natAbs with g | g
        · exact g
        · rcases Nat.lt_or_ge zb.natAbs za.natAbs with g2 | g2
          · rw [← cmp3_gt g2] at hc43; exact absurd hc43 (by decide)
          · rw [← cmp3_eq (Nat.le_antisymm g2 g)] at hc43; exact absurd hc43 (by decide)
      refine lv_aload_n hx hb dX3_add_59 rfl (lv_at hl 0 rfl) ?_
      refine lv_aload_n hx hb dX3_add_60 rfl (lv_at hl 1 rfl) ?_
      refine lv_aload_n hx hb dX3_add_61 rfl (lv_at hl 0 rfl) ?_
      refine lv_aload_n hx hb dX3_add_62 rfl (lv_at hl 1 rfl) ?_
      refine z_get (C := RX3) (T := TX3) (N := 3) (v := .int (sgI zb)) hx hb hts hinX3 hown hK hM hbw 2 hf_19 rfl rfl (by decide) rfl dX3_add_63 ?_
      refine z_callv0 (va_runV (As := [.ref b, .ref a, .int (sgI zb)]) (rest := []) ⟨hx, hb, hml, hown, hts⟩ (w_setDifferenceB l Γ G _ a la r (nl za.natAbs) (sgI za) d ha hla b lb rb (nl zb.natAbs) (sgI zb) db hbw hlb (sgI zb) hne hab hnr hr31 hnb hrb31 hda.sf hdb.sf (by rw [hda.2, hdb.2]; omega) hbr) (cwV 3 hts gX3_add_X3_setDifference rfl rfl rfl (by decide +kernel) ⟨Nat.le_of_ble_eq_true rfl, Nat.le_of_ble_eq_true rfl⟩) (zM.preV hK hM ha rfl rfl) rfl rfl hl.1 rfl (lv_room (Nat.le_of_ble_eq_true rfl)) dX3_add_66 ⟨Nat.le_of_ble_eq_true rfl, Nat.le_of_ble_eq_true rfl⟩) hM (fun G66 H locs hp66 hM => ?_)
      obtain ⟨d1, rfl, g1, g2⟩ := hp66
      rw [hda.2, hdb.2] at hM g1 g2
      rw [hQ]
      rw [hAe] at hM
      exact z_vret hsz hx hb hr hlocks hK hM dX3_add_69 (by
            have hv : zb.natAbs - za.natAbs = (za + zb).natAbs := by omega
            exact ⟨d1, by rw [add_fin hv (fun hz => by rcases hop with g | g; rw [sgI_pos g.2, sgI_pos (by omega)]; rw [sgI_neg g.2, sgI_neg (by omega)])], by unfold hd; rw [← hv]; exact ⟨g1, g2⟩⟩)
    · have hge : zb.natAbs ≤ za.natAbs := by
        rcases Nat.lt_or_ge za.natAbs zb.natAbs with g | g
        · rw [← cmp3_lt g] at hc43; exact absurd (by decide) hc43
        · exact g
      refine lv_aload_n hx hb dX3_add_46 rfl (lv_at hl 0 rfl) ?_
      refine lv_aload_n hx hb dX3_add_47 rfl (lv_at hl 0 rfl) ?_
      refine lv_aload_n hx hb dX3_add_48 rfl (lv_at hl 1 rfl) ?_
      refine lv_aload_n hx hb dX3_add_49 rfl (lv_at hl 0 rfl) ?_
      refine z_get (C := RX3) (T := TX3) (N := 3) (v := .int (sgI za)) hx hb hts hinX3 hown hK hM ha 2 hf_19 rfl rfl (by decide) rfl dX3_add_50 ?_
      refine z_callv0 (va_runV (As := [.ref a, .ref b, .int (sgI za)]) (rest := []) ⟨hx, hb, hml, hown, hts⟩ (w_setDifferenceA l Γ G _ a la r (nl za.natAbs) (sgI za) d ha hla b lb rb (nl zb.natAbs) (sgI zb) db hbw hlb (sgI za) hne hab hnr hr31 hnb hrb31 hda.sf hdb.sf (by rw [hda.2, hdb.2]; exact hge) hnr) (cwV 3 hts gX3_add_X3_setDifference rfl rfl rfl (by decide +kernel) ⟨Nat.le_of_ble_eq_true rfl, Nat.le_of_ble_eq_true rfl⟩) (zM.preV hK hM ha rfl rfl) rfl rfl hl.1 rfl (lv_room (Nat.le_of_ble_eq_true rfl)) dX3_add_53 ⟨Nat.le_of_ble_eq_true rfl, Nat.le_of_ble_eq_true rfl⟩) hM (fun G53 H locs hp53 hM => ?_)
      obtain ⟨d1, rfl, g1, g2⟩ := hp53
      rw [hda.2, hdb.2] at hM g1 g2
      refine lv_goto (tgt := 69) hx hb dX3_add_56 (by decide) ?_
      rw [hQ]
      rw [hAe] at hM
      exact z_vret hsz hx hb hr hlocks hK hM dX3_add_69 (by
            have hv : za.natAbs - zb.natAbs = (za + zb).natAbs := by omega
            exact ⟨d1, by rw [add_fin hv (fun hz => by rcases hop with g | g; rw [sgI_neg g.1, sgI_neg (by omega)]; rw [sgI_pos g.1, sgI_pos (by omega)])], by unfold hd; rw [← hv]; exact ⟨g1, g2⟩⟩)
  · have hss : (za + zb).natAbs = za.natAbs + zb.natAbs := by have g := mt sgI_mul_lt.mpr hc9; omega
    refine lv_aload_n hx hb dX3_add_12 rfl (lv_at hl 0 rfl) ?_
    refine lv_aload_n hx hb dX3_add_13 rfl (lv_at hl 1 rfl) ?_
    refine lv_aload_n hx hb dX3_add_14 rfl (lv_at hl 0 rfl) ?_
    refine z_get (C := RX3) (T := TX3) (N := 3) (v := .int (sgI za)) hx hb hts hinX3 hown hK hM ha 2 hf_19 rfl rfl (by decide) rfl dX3_add_15 ?_
    refine lv_if_eq (tgt := 28) hx hb dX3_add_18 (by decide) (fun hc18 => ?_) (fun hc18 => ?_)
    · have hz0 : za = 0 := sgI_0.mp hc18
      refine lv_aload_n hx hb dX3_add_28 rfl (lv_at hl 1 rfl) ?_
      refine z_get (C := RX3) (T := TX3) (N := 3) (v := .int (sgI zb)) hx hb hts hinX3 hown hK hM hbw 2 hf_19 rfl rfl (by decide) rfl dX3_add_29 ?_
      refine z_callv0 (va_runV (As := [.ref b, .int (sgI zb)]) (rest := []) ⟨hx, hb, hml, hown, hts⟩ (w_addLimbs l Γ G _ a la r (nl za.natAbs) (sgI za) d ha hla b lb rb (nl zb.natAbs) (sgI zb) db hbw hlb (sgI zb) hne hab hnr hr31 hnb hrb31 hda.sf hdb.sf (by rw [hda.2, hdb.2, ← hss]; exact hfit)) (cwV 2 hts gX3_add_X3_addLimbs rfl rfl rfl (by decide +kernel) ⟨Nat.le_of_ble_eq_true rfl, Nat.le_of_ble_eq_true rfl⟩) (zM.preV hK hM ha rfl rfl) rfl rfl hl.1 rfl (lv_room (Nat.le_of_ble_eq_true rfl)) dX3_add_32 ⟨Nat.le_of_ble_eq_true rfl, Nat.le_of_ble_eq_true rfl⟩) hM (fun G32 H locs hp32 hM => ?_)
      obtain ⟨d1, rfl, g1, g2⟩ := hp32
      rw [hda.2, hdb.2] at hM g1 g2
      refine lv_goto (tgt := 69) hx hb dX3_add_35 (by decide) ?_
      rw [hQ]
      rw [hAe] at hM
      exact z_vret hsz hx hb hr hlocks hK hM dX3_add_69 (by
            have hv : za.natAbs + zb.natAbs = (za + zb).natAbs := hss.symm
            exact ⟨d1, by rw [add_fin hv (fun hz => by rw [hz0, Int.zero_add])], by unfold hd; rw [← hv]; exact ⟨g1, g2⟩⟩)
    · have hz0 : za ≠ 0 := fun h9 => hc18 (sgI_0.mpr h9)
      refine lv_aload_n hx hb dX3_add_21 rfl (lv_at hl 0 rfl) ?_
      refine z_get (C := RX3) (T := TX3) (N := 3) (v := .int (sgI za)) hx hb hts hinX3 hown hK hM ha 2 hf_19 rfl rfl (by decide) rfl dX3_add_22 ?_
      refine lv_goto (tgt := 32) hx hb dX3_add_25 (by decide) ?_
      refine z_callv0 (va_runV (As := [.ref b, .int (sgI za)]) (rest := []) ⟨hx, hb, hml, hown, hts⟩ (w_addLimbs l Γ G _ a la r (nl za.natAbs) (sgI za) d ha hla b lb rb (nl zb.natAbs) (sgI zb) db hbw hlb (sgI za) hne hab hnr hr31 hnb hrb31 hda.sf hdb.sf (by rw [hda.2, hdb.2, ← hss]; exact hfit)) (cwV 2 hts gX3_add_X3_addLimbs rfl rfl rfl (by decide +kernel) ⟨Nat.le_of_ble_eq_true rfl, Nat.le_of_ble_eq_true rfl⟩) (zM.preV hK hM ha rfl rfl) rfl rfl hl.1 rfl (lv_room (Nat.le_of_ble_eq_true rfl)) dX3_add_32 ⟨Nat.le_of_ble_eq_true rfl, Nat.le_of_ble_eq_true rfl⟩) hM (fun G32 H locs hp32 hM => ?_)
      obtain ⟨d1, rfl, g1, g2⟩ := hp32
      rw [hda.2, hdb.2] at hM g1 g2
      refine lv_goto (tgt := 69) hx hb dX3_add_35 (by decide) ?_
      rw [hQ]
      rw [hAe] at hM
      exact z_vret hsz hx hb hr hlocks hK hM dX3_add_69 (by
            have hv : za.natAbs + zb.natAbs = (za + zb).natAbs := hss.symm
            exact ⟨d1, by rw [add_fin hv (fun hz => by rcases (show za < 0 ∨ 0 < za by omega) with g | g; rw [sgI_neg g, sgI_neg (by have g9 := mt sgI_mul_lt.mpr hc9; omega)]; rw [sgI_pos g, sgI_pos (by have g9 := mt sgI_mul_lt.mpr hc9; omega)])], by unfold hd; rw [← hv]; exact ⟨g1, g2⟩⟩)

set_option maxRecDepth 100000 in
set_option maxHeartbeats 4000000 in
theorem w_growByOne (l : Launch) (Γ : zT) (G : zG) (sz : Nat) (a la r n : Nat) (sg : Int32) (d : Nat → Nat) (ha : G a = some (wh la n sg)) (hla : G la = some (zI Γ r d)) (ns : Int32) (hnr : n ≤ r) (hr31 : r < 2 ^ 31) (hdd : dg d n) (hfit : nl (vl d n + 1) ≤ r) : zMv l yX3_growByOne wsX3_growByOne (zR 2) Γ G sz [.ref a, .int ns] (fun G' => ∃ d', G' = zup (zup G la (zI Γ r d')) a (wh la (nl (vl d n + 1)) ns) ∧ dg d' (nl (vl d n + 1)) ∧ vl d' (nl (vl d n + 1)) = vl d n + 1) 0 0 := by
  refine z_start (cc := cX3_growByOne) (maxL := 3) (ret := none) (by decide) rfl (Nat.le_of_ble_eq_true rfl) ?_
  intro p e s m args below meth c ls Q hQ hsz hx hb hr hml hown hts hlocks hnm hK hM hl
  obtain ⟨A, hAe⟩ : ∃ A, A = zA G s.heap.size := ⟨_, rfl⟩
  rw [← hAe] at hM
  have hl : lv_has ls 3 [(0, .ref a), (1, .int ns)] := hl
  have hinX3 : ∀ w ∈ wsX30, w ∈ wsX3_growByOne := by decide +kernel
  have hf_9 := hts (.fieldLink RX3 9 "CutRows$Whole" "limbs" "[I") (by decide +kernel)
  have hf_15 := hts (.fieldLink RX3 15 "CutRows$Whole" "size" "I") (by decide +kernel)
  refine lv_iconst (v := nI 0) hx hb dX3_growByOne_0 rfl ?_
  refine lv_istore_n (lv' := [(2, .int (nI 0)), (0, .ref a), (1, .int ns)]) hx hb dX3_growByOne_1 rfl hl (by decide) rfl (fun ls hl => ?_)
  have lp : ∀ (μ : Nat) (i : Nat) (d1 : Nat → Nat), n - i = μ → (i ≤ n) → (∀ j, i ≤ j → d1 j = d j) → (∀ j, j < i → d1 j = 0) → (∀ j, j < i → d j = 2147483647) → ∀ (ls : Array Slot) (H : Heap) (locs : List Loc), lv_has ls 3 [(2, .int (nI i)), (0, .ref a), (1, .int ns)] → zM Γ A s.heap (zup G la (zI Γ r d1)) H locs → W p l e (zR 2) s m args below meth c H locs 0 0 Q (F0 m 2 ls []) := by
    intro μ
    induction μ using Nat.strongRecOn with
    | _ μ ihlp =>
      intro i d1 hμ hi h1 h2 h3 ls H locs hl hM
      have k34 : (n ≤ i ∨ (i < n ∧ dgt d n i ≠ 2147483647)) → ∀ (ls : Array Slot) (H : Heap) (locs : List Loc), lv_has ls 3 [(2, .int (nI i)), (0, .ref a), (1, .int ns)] → zM Γ A s.heap (zup G la (zI Γ r d1)) H locs → W p l e (zR 2) s m args below meth c H locs 0 0 Q (F0 m 34 ls []) := by
        intro  hex ls H locs hl hM
        have hlm := dgt_lt hdd i
        have hmm : dgt d n i + 1 < 2147483648 := by rcases hex with g | g; unfold dgt; rw [if_neg (by omega)]; decide; omega
        have hir : i < r := by
          rcases hex with g | g
          · have e1 := inc_vl (e := dgt d n) (d2 := fun j => if j = i then 1 else 0) (i := i) (m := i + 1) (by omega) (fun j hj => by unfold dgt; rw [if_pos (by omega)]; exact h3 j hj) (fun j hj => if_neg (by omega)) (by show (if i = i then 1 else 0) = _; rw [if_pos rfl]; unfold dgt; rw [if_neg (by omega)]) (fun j q1 q2 => by omega)
            rw [dgt_vl (by omega), vl_s, vl_pad (Nat.zero_le i) (fun j _ hj => if_neg (by omega)), vl_0, if_pos rfl] at e1
            have e2 := nl_gt (show bp i ≤ vl d n + 1 by omega)
            omega
          · omega
        refine lv_aload_n hx hb dX3_growByOne_34 rfl (lv_at hl 1 rfl) ?_
        refine z_get (C := RX3) (T := TX3) (N := 3) (v := .ref la) hx hb hts hinX3 hown hK hM ((zup_n _ _ (zne ha hla (by intro h; cases h))).trans ha) 0 hf_9 rfl rfl (by decide) rfl dX3_growByOne_35 ?_
        refine lv_iload_n hx hb dX3_growByOne_38 rfl (lv_at hl 0 rfl) ?_
        refine lv_aload_n hx hb dX3_growByOne_39 rfl (lv_at hl 1 rfl) ?_
        refine lv_iload_n hx hb dX3_growByOne_40 rfl (lv_at hl 0 rfl) ?_
        refine z_calli0 (va_runV (As := [.int (nI i)]) (rest := [.int (nI i), .ref la]) ⟨hx, hb, hml, hown, hts⟩ (w_digit l Γ (zup G la (zI Γ r d1)) _ a la r n sg d1 ((zup_n _ _ (zne ha hla (by intro h; cases h))).trans ha) (zup_s _ _ _) i (by omega) hnr hr31) (cwV 1 hts gX3_growByOne_X3_digit rfl rfl rfl (by decide +kernel) ⟨Nat.le_of_ble_eq_true rfl, Nat.le_of_ble_eq_true rfl⟩) (zM.preV hK hM ((zup_n _ _ (zne ha hla (by intro h; cases h))).trans ha) rfl rfl) rfl rfl hl.1 rfl (lv_room (Nat.le_of_ble_eq_true rfl)) dX3_growByOne_41 ⟨Nat.le_of_ble_eq_true rfl, Nat.le_of_ble_eq_true rfl⟩) hM (fun r41 G41 H locs hp41 hM => ?_)
        obtain ⟨rfl, hGe⟩ := hp41
        rw [hGe] at hM
        refine z_asi (y := nI (dgt d n i)) (congrArg nI (dgt_mix h1)) ?_
        refine lv_iconst (v := nI 1) hx hb dX3_growByOne_44 rfl ?_
        refine z_iadd hx hb dX3_growByOne_45 ?_
        refine z_ist hx hb hK hM (zup_s _ _ _) (by omega) (by omega) dX3_growByOne_46 (fun H locs hM => ?_)
        have hM : zM Γ A s.heap (zup G la (zI Γ r (va_up d1 i (dgt d n i + 1)))) H locs := by
          rw [zup_zup] at hM; exact hM
        refine lv_aload_n hx hb dX3_growByOne_47 rfl (lv_at hl 1 rfl) ?_
        refine lv_aload_n hx hb dX3_growByOne_48 rfl (lv_at hl 1 rfl) ?_
        refine z_get (C := RX3) (T := TX3) (N := 3) (v := .int (nI n)) hx hb hts hinX3 hown hK hM ((zup_n _ _ (zne ha hla (by intro h; cases h))).trans ha) 1 hf_15 rfl rfl (by decide) rfl dX3_growByOne_49 ?_
        refine lv_iload_n hx hb dX3_growByOne_52 rfl (lv_at hl 0 rfl) ?_
        refine lv_iconst (v := nI 1) hx hb dX3_growByOne_53 rfl ?_
        refine z_iadd hx hb dX3_growByOne_54 ?_
        obtain ⟨d2, hd2⟩ : ∃ d2, d2 = va_up d1 i (dgt d n i + 1) := ⟨_, rfl⟩
        rw [← hd2] at hM
        refine z_max hx hb (by rw [hml]; exact hl.1.symm) hown (hts (.methodLink RX3 61 Lib.Math.max.name) (by decide +kernel)) (hts (.static Lib.Math.max.name) (by decide +kernel)) (hts (.initialized "java/lang/Math") (by decide +kernel)) (hts (.code Lib.Math.max.name Lib.Math.max.code 2 (some .int)) (by decide +kernel)) (Nat.le_of_ble_eq_true rfl) (Nat.le_of_ble_eq_true rfl) (Nat.le_refl _) (Nat.le_refl _) (by omega) (by omega) dX3_growByOne_55 ?_
        refine lv_iload_n hx hb dX3_growByOne_58 rfl (lv_at hl 2 rfl) ?_
        have hd2g : dg d2 (max n (i + 1)) := fun j hj => by rw [hd2]; by_cases hc : j = i; subst hc; rw [va_up_self]; exact hmm; rw [va_up_ne _ _ hc]; rcases Nat.lt_or_ge j i with q | q; rw [h2 j q]; decide; rw [h1 j q]; exact hdd j (by omega)
        have hvv : vl d2 (max n (i + 1)) = vl d n + 1 := by
          rw [inc_vl (e := dgt d n) (i := i) (by omega) (fun j hj => by unfold dgt; rw [if_pos (by omega)]; exact h3 j hj) (fun j hj => by rw [hd2, va_up_ne _ _ (by omega)]; exact h2 j hj) (by rw [hd2, va_up_self]) (fun j q1 q2 => by rw [hd2, va_up_ne _ _ (by omega), h1 j (by omega)]; unfold dgt; rw [if_pos (by omega)]), dgt_vl (by omega)]
        refine z_callv0 (va_runV (As := [.int (nI (max n (i + 1))), .int ns]) (rest := []) ⟨hx, hb, hml, hown, hts⟩ (w_settle l Γ (zup G la (zI Γ r d2)) _ a la r n sg d2 ((zup_n _ _ (zne ha hla (by intro h; cases h))).trans ha) (zup_s _ _ _) (max n (i + 1)) ns (by omega) hr31 hd2g) (cwV 2 hts gX3_growByOne_X3_settle rfl rfl rfl (by decide +kernel) ⟨Nat.le_of_ble_eq_true rfl, Nat.le_of_ble_eq_true rfl⟩) (zM.preV hK hM ((zup_n _ _ (zne ha hla (by intro h; cases h))).trans ha) rfl rfl) rfl rfl hl.1 rfl (lv_room (Nat.le_of_ble_eq_true rfl)) dX3_growByOne_59 ⟨Nat.le_of_ble_eq_true rfl, Nat.le_of_ble_eq_true rfl⟩) hM (fun G59 H locs hp59 hM => ?_)
        obtain rfl := hp59
        rw [hQ]
        rw [hAe] at hM
        exact z_vret hsz hx hb hr hlocks hK hM dX3_growByOne_62 (by
              have hp := @nl_pos (vl d n + 1)
              have ht := tr_of hd2g hvv
              exact ⟨d2, by rw [ht, if_neg (by omega)], hd2g.le (by rw [← ht]; exact tr_le _ _), by rw [← ht, tr_vl]; exact hvv⟩)
      refine lv_iload_n hx hb dX3_growByOne_2 rfl (lv_at hl 0 rfl) ?_
      refine lv_aload_n hx hb dX3_growByOne_3 rfl (lv_at hl 1 rfl) ?_
      refine z_get (C := RX3) (T := TX3) (N := 3) (v := .int (nI n)) hx hb hts hinX3 hown hK hM ((zup_n _ _ (zne ha hla (by intro h; cases h))).trans ha) 1 hf_15 rfl rfl (by decide) rfl dX3_growByOne_4 ?_
      refine z_icmp_ge (tgt := 34) hx hb (by omega) (by omega) dX3_growByOne_7 (by decide) (fun hc7 => ?_) (fun hc7 => ?_)
      · exact k34  (Or.inl (by omega)) ls _ _ (lv_sub hl [0, 1, 2] rfl) hM
      · have hdi : d1 i < 2147483648 := by rw [h1 i (Nat.le_refl _)]; exact hdd i (by omega)
        refine lv_aload_n hx hb dX3_growByOne_10 rfl (lv_at hl 1 rfl) ?_
        refine z_get (C := RX3) (T := TX3) (N := 3) (v := .ref la) hx hb hts hinX3 hown hK hM ((zup_n _ _ (zne ha hla (by intro h; cases h))).trans ha) 0 hf_9 rfl rfl (by decide) rfl dX3_growByOne_11 ?_
        refine lv_iload_n hx hb dX3_growByOne_14 rfl (lv_at hl 0 rfl) ?_
        refine z_ild hx hb hK hM (zup_s _ _ _) (by omega) (by omega) dX3_growByOne_15 ?_
        refine lv_ldc hx hb hown (hts (.constant RX3 48 (2147483647)) (by decide +kernel)) dX3_growByOne_16 ?_
        refine z_asi (y := nI 2147483647) (rfl) ?_
        refine z_icmp_ne (tgt := 34) hx hb (by omega) (by omega) dX3_growByOne_18 (by decide) (fun hc18 => ?_) (fun hc18 => ?_)
        · exact k34  (Or.inr ⟨by omega, by unfold dgt; rw [if_pos (by omega), ← h1 i (Nat.le_refl _)]; exact hc18⟩) ls _ _ (lv_sub hl [0, 1, 2] rfl) hM
        · refine lv_aload_n hx hb dX3_growByOne_21 rfl (lv_at hl 1 rfl) ?_
          refine z_get (C := RX3) (T := TX3) (N := 3) (v := .ref la) hx hb hts hinX3 hown hK hM ((zup_n _ _ (zne ha hla (by intro h; cases h))).trans ha) 0 hf_9 rfl rfl (by decide) rfl dX3_growByOne_22 ?_
          refine lv_iload_n hx hb dX3_growByOne_25 rfl (lv_at hl 0 rfl) ?_
          refine lv_iconst (v := nI 0) hx hb dX3_growByOne_26 rfl ?_
          refine z_ist hx hb hK hM (zup_s _ _ _) (by omega) (by omega) dX3_growByOne_27 (fun H locs hM => ?_)
          have hM : zM Γ A s.heap (zup G la (zI Γ r (va_up d1 i 0))) H locs := by
            rw [zup_zup] at hM; exact hM
          refine z_iinc (v := (i + 1)) (lv' := [(2, .int (nI (i + 1))), (0, .ref a), (1, .int ns)]) hx hb dX3_growByOne_28 hl (k := 0) rfl (nI_p1 _) (by decide) rfl (fun ls hl => ?_)
          refine lv_goto (tgt := 2) hx hb dX3_growByOne_31 (by decide) ?_
          exact ihlp _ (by omega) (i + 1) (va_up d1 i 0) rfl (by omega) (fun j hj => by rw [va_up_ne _ _ (by omega)]; exact h1 j (by omega)) (fun j hj => by by_cases hc : j = i; subst hc; rw [va_up_self]; rw [va_up_ne _ _ hc]; exact h2 j (by omega)) (fun j hj => by by_cases hc : j = i; subst hc; rw [← h1 j (Nat.le_refl _)]; exact hc18; exact h3 j (by omega)) ls _ _ (lv_sub hl [0, 1, 2] rfl) hM
  exact lp _ 0 d rfl (by omega) (fun _ _ => rfl) (fun _ h => by omega) (fun _ h => by omega) ls _ _ (lv_sub hl [0, 1, 2] rfl) (by rw [zup_self _ hla]; exact hM)
