set_option maxRecDepth 100000 in
set_option maxHeartbeats 4000000 in
theorem j_signum_0f7a4 (l : Launch) (Γ : zT) (G : zG) (sz : Nat) (z : Int) (hz : nl z.natAbs ≤ 48) : zMi l yJ6_signum_0f7a4 wsJ6_signum_0f7a4 (zR 1) Γ G sz [.int (nI (sc z))] (fun x G' => x = sgI z ∧ G' = G) 0 0 := by
  refine z_start (cc := cJ6_signum_0f7a4) (maxL := 1) (ret := (some .int)) (by decide) rfl (Nat.le_of_ble_eq_true rfl) ?_
  intro p e s m args below meth c ls Q hQ hsz hx hb hr hml hown hts hlocks hnm hK hM hl
  obtain ⟨A, hAe⟩ : ∃ A, A = zA G s.heap.size := ⟨_, rfl⟩
  rw [← hAe] at hM
  have hl : lv_has ls 1 [(0, .int (nI (sc z)))] := hl
  refine lv_iload_n hx hb dJ6_signum_0f7a4_0 rfl (lv_at hl 0 rfl) ?_
  refine lv_bipush (v := nI 31) hx hb dJ6_signum_0f7a4_1 rfl ?_
  refine lv_ishr hx hb dJ6_signum_0f7a4_3 ?_
  refine lv_iload_n hx hb dJ6_signum_0f7a4_4 rfl (lv_at hl 0 rfl) ?_
  refine lv_ineg hx hb dJ6_signum_0f7a4_5 ?_
  refine lv_bipush (v := nI 31) hx hb dJ6_signum_0f7a4_6 rfl ?_
  refine lv_iushr hx hb dJ6_signum_0f7a4_8 rfl ?_
  refine lv_ior hx hb dJ6_signum_0f7a4_9 ?_
  rw [hQ]
  rw [hAe] at hM
  exact z_iret hsz hx hb hr hlocks hK hM dJ6_signum_0f7a4_10 (⟨sc_sgn hz, rfl⟩)

set_option maxRecDepth 100000 in
set_option maxHeartbeats 4000000 in
theorem a_cellsLeft (l : Launch) (Γ : zT) (G : zG) (sz : Nat) (X : Nat → Nat) (vars : Nat) (hX : XI X vars) (maxR nr used cz : Nat) (R : Nat → Nat → Int) (C St : Nat → Nat) (hA : AR Γ G X vars maxR nr used cz R C St)  : zMi l yX0_cellsLeft wsX0_cellsLeft (zR 1) Γ G sz [.ref (X 81)] (fun x G' => x = nI (cz - used) ∧ G' = G) 0 0 := by
  refine z_start (cc := cX0_cellsLeft) (maxL := 1) (ret := (some .int)) (by decide) rfl (Nat.le_of_ble_eq_true rfl) ?_
  intro p e s m args below meth c ls Q hQ hsz hx hb hr hml hown hts hlocks hnm hK hM hl
  obtain ⟨A, hAe⟩ : ∃ A, A = zA G s.heap.size := ⟨_, rfl⟩
  rw [← hAe] at hM
  have hl : lv_has ls 1 [(0, .ref (X 81))] := hl
  have hinX0 : ∀ w ∈ wsX00, w ∈ wsX0_cellsLeft := by decide +kernel
  have hf_18 := hts (.fieldLink RX0 18 "CutRows$Arena" "cells" "[I") (by decide +kernel)
  have hf_25 := hts (.fieldLink RX0 25 "CutRows$Arena" "used" "I") (by decide +kernel)
  obtain ⟨hu1, hu2, hu3, hu4, hu5⟩ := hA.1.2.2.2
  refine lv_aload_n hx hb dX0_cellsLeft_0 rfl (lv_at hl 0 rfl) ?_
  refine z_get (C := RX0) (T := TX0) (N := 6) (v := .ref (X 75)) hx hb hts hinX0 hown hK hM hA.1.1 0 hf_18 rfl rfl (by decide) rfl dX0_cellsLeft_1 ?_
  refine z_alenI hx hb hK hM hA.1.2.1 dX0_cellsLeft_4 ?_
  refine lv_aload_n hx hb dX0_cellsLeft_5 rfl (lv_at hl 0 rfl) ?_
  refine z_get (C := RX0) (T := TX0) (N := 6) (v := .int (nI used)) hx hb hts hinX0 hown hK hM hA.1.1 4 hf_25 rfl rfl (by decide) rfl dX0_cellsLeft_6 ?_
  refine z_isub hx hb (by omega) dX0_cellsLeft_9 ?_
  rw [hQ]
  rw [hAe] at hM
  exact z_iret hsz hx hb hr hlocks hK hM dX0_cellsLeft_10 (⟨rfl, rfl⟩)

set_option maxRecDepth 100000 in
set_option maxHeartbeats 4000000 in
theorem a_has (l : Launch) (Γ : zT) (G : zG) (sz : Nat) (X : Nat → Nat) (vars : Nat) (hX : XI X vars) (maxR nr used cz : Nat) (R : Nat → Nat → Int) (C St : Nat → Nat) (hA : AR Γ G X vars maxR nr used cz R C St) (row : Int32) : zMi l yX0_has wsX0_has (zR 1) Γ G sz [.ref (X 81), .int row] (fun x G' => x = (if row < 0 ∨ nI nr ≤ row then nI 0 else nI 1) ∧ G' = G) 0 0 := by
  refine z_start (cc := cX0_has) (maxL := 2) (ret := (some .boolean)) (by decide) rfl (Nat.le_of_ble_eq_true rfl) ?_
  intro p e s m args below meth c ls Q hQ hsz hx hb hr hml hown hts hlocks hnm hK hM hl
  obtain ⟨A, hAe⟩ : ∃ A, A = zA G s.heap.size := ⟨_, rfl⟩
  rw [← hAe] at hM
  have hl : lv_has ls 2 [(0, .ref (X 81)), (1, .int row)] := hl
  have hinX0 : ∀ w ∈ wsX00, w ∈ wsX0_has := by decide +kernel
  have hf_28 := hts (.fieldLink RX0 28 "CutRows$Arena" "rows" "I") (by decide +kernel)
  obtain ⟨hu1, hu2, hu3, hu4, hu5⟩ := hA.1.2.2.2
  refine lv_iload_n hx hb dX0_has_0 rfl (lv_at hl 1 rfl) ?_
  refine lv_if_lt (tgt := 16) hx hb dX0_has_1 (by decide) (fun hc1 => ?_) (fun hc1 => ?_)
  · refine lv_iconst (v := nI 0) hx hb dX0_has_16 rfl ?_
    rw [hQ]
    rw [hAe] at hM
    exact z_zret (by omega) hsz hx hb hr hlocks hK hM dX0_has_17 (⟨by rw [if_pos (Or.inl hc1)], rfl⟩)
  · refine lv_iload_n hx hb dX0_has_4 rfl (lv_at hl 1 rfl) ?_
    refine lv_aload_n hx hb dX0_has_5 rfl (lv_at hl 0 rfl) ?_
    refine z_get (C := RX0) (T := TX0) (N := 6) (v := .int (nI nr)) hx hb hts hinX0 hown hK hM hA.1.1 5 hf_28 rfl rfl (by decide) rfl dX0_has_6 ?_
    refine lv_icmp_ge (tgt := 16) hx hb dX0_has_9 (by decide) (fun hc9 => ?_) (fun hc9 => ?_)
    · refine lv_iconst (v := nI 0) hx hb dX0_has_16 rfl ?_
      rw [hQ]
      rw [hAe] at hM
      exact z_zret (by omega) hsz hx hb hr hlocks hK hM dX0_has_17 (⟨by rw [if_pos (Or.inr hc9)], rfl⟩)
    · refine lv_iconst (v := nI 1) hx hb dX0_has_12 rfl ?_
      refine lv_goto (tgt := 17) hx hb dX0_has_13 (by decide) ?_
      rw [hQ]
      rw [hAe] at hM
      exact z_zret (by omega) hsz hx hb hr hlocks hK hM dX0_has_17 (⟨by rw [if_neg (fun h => by rcases h with h | h; exact hc1 h; exact hc9 h)], rfl⟩)

set_option maxRecDepth 100000 in
set_option maxHeartbeats 4000000 in
theorem a_isFull (l : Launch) (Γ : zT) (G : zG) (sz : Nat) (X : Nat → Nat) (vars : Nat) (hX : XI X vars) (maxR nr used cz : Nat) (R : Nat → Nat → Int) (C St : Nat → Nat) (hA : AR Γ G X vars maxR nr used cz R C St)  : zMi l yX0_isFull wsX0_isFull (zR 1) Γ G sz [.ref (X 81)] (fun x G' => x = (if nr < maxR then nI 0 else nI 1) ∧ G' = G) 0 0 := by
  refine z_start (cc := cX0_isFull) (maxL := 1) (ret := (some .boolean)) (by decide) rfl (Nat.le_of_ble_eq_true rfl) ?_
  intro p e s m args below meth c ls Q hQ hsz hx hb hr hml hown hts hlocks hnm hK hM hl
  obtain ⟨A, hAe⟩ : ∃ A, A = zA G s.heap.size := ⟨_, rfl⟩
  rw [← hAe] at hM
  have hl : lv_has ls 1 [(0, .ref (X 81))] := hl
  have hinX0 : ∀ w ∈ wsX00, w ∈ wsX0_isFull := by decide +kernel
  have hf_15 := hts (.fieldLink RX0 15 "CutRows$Arena" "maxRows" "I") (by decide +kernel)
  have hf_28 := hts (.fieldLink RX0 28 "CutRows$Arena" "rows" "I") (by decide +kernel)
  obtain ⟨hu1, hu2, hu3, hu4, hu5⟩ := hA.1.2.2.2
  refine lv_aload_n hx hb dX0_isFull_0 rfl (lv_at hl 0 rfl) ?_
  refine z_get (C := RX0) (T := TX0) (N := 6) (v := .int (nI nr)) hx hb hts hinX0 hown hK hM hA.1.1 5 hf_28 rfl rfl (by decide) rfl dX0_isFull_1 ?_
  refine lv_aload_n hx hb dX0_isFull_4 rfl (lv_at hl 0 rfl) ?_
  refine z_get (C := RX0) (T := TX0) (N := 6) (v := .int (nI maxR)) hx hb hts hinX0 hown hK hM hA.1.1 3 hf_15 rfl rfl (by decide) rfl dX0_isFull_5 ?_
  refine z_icmp_lt (tgt := 15) hx hb (by omega) (by omega) dX0_isFull_8 (by decide) (fun hc8 => ?_) (fun hc8 => ?_)
  · refine lv_iconst (v := nI 0) hx hb dX0_isFull_15 rfl ?_
    rw [hQ]
    rw [hAe] at hM
    exact z_zret (by omega) hsz hx hb hr hlocks hK hM dX0_isFull_16 (⟨by rw [if_pos hc8], rfl⟩)
  · refine lv_iconst (v := nI 1) hx hb dX0_isFull_11 rfl ?_
    refine lv_goto (tgt := 16) hx hb dX0_isFull_12 (by decide) ?_
    rw [hQ]
    rw [hAe] at hM
    exact z_zret (by omega) hsz hx hb hr hlocks hK hM dX0_isFull_16 (⟨by rw [if_neg (by omega)], rfl⟩)

set_option maxRecDepth 100000 in
set_option maxHeartbeats 4000000 in
theorem a_signOf (l : Launch) (Γ : zT) (G : zG) (sz : Nat) (X : Nat → Nat) (vars : Nat) (hX : XI X vars) (maxR nr used cz : Nat) (R : Nat → Nat → Int) (C St : Nat → Nat) (hA : AR Γ G X vars maxR nr used cz R C St) (r k : Nat) (hrn : r < nr) (hkv : k ≤ vars) : zMi l yX0_signOf wsX0_signOf (zR 2) Γ G sz [.ref (X 81), .int (nI r), .int (nI k)] (fun x G' => x = sgI (R r k) ∧ G' = G) 0 0 := by
  refine z_start (cc := cX0_signOf) (maxL := 3) (ret := (some .int)) (by decide) rfl (Nat.le_of_ble_eq_true rfl) ?_
  intro p e s m args below meth c ls Q hQ hsz hx hb hr hml hown hts hlocks hnm hK hM hl
  obtain ⟨A, hAe⟩ : ∃ A, A = zA G s.heap.size := ⟨_, rfl⟩
  rw [← hAe] at hM
  have hl : lv_has ls 3 [(0, .ref (X 81)), (1, .int (nI r)), (2, .int (nI k))] := hl
  have hinX0 : ∀ w ∈ wsX00, w ∈ wsX0_signOf := by decide +kernel
  have hf_9 := hts (.fieldLink RX0 9 "CutRows$Arena" "width" "I") (by decide +kernel)
  have hf_18 := hts (.fieldLink RX0 18 "CutRows$Arena" "cells" "[I") (by decide +kernel)
  have hf_22 := hts (.fieldLink RX0 22 "CutRows$Arena" "starts" "[I") (by decide +kernel)
  obtain ⟨hu1, hu2, hu3, hu4, hu5⟩ := hA.1.2.2.2
  have hix := ar_ix (show r < maxR by omega) hkv
  have h31 := ar_31 hu5 hu4
  obtain ⟨hc1, hc2, hc3, hc4⟩ := hA.2 r k hrn hkv
  refine lv_aload_n hx hb dX0_signOf_0 rfl (lv_at hl 0 rfl) ?_
  refine z_get (C := RX0) (T := TX0) (N := 6) (v := .ref (X 75)) hx hb hts hinX0 hown hK hM hA.1.1 0 hf_18 rfl rfl (by decide) rfl dX0_signOf_1 ?_
  refine lv_aload_n hx hb dX0_signOf_4 rfl (lv_at hl 0 rfl) ?_
  refine z_get (C := RX0) (T := TX0) (N := 6) (v := .ref (X 76)) hx hb hts hinX0 hown hK hM hA.1.1 1 hf_22 rfl rfl (by decide) rfl dX0_signOf_5 ?_
  refine lv_iload_n hx hb dX0_signOf_8 rfl (lv_at hl 1 rfl) ?_
  refine lv_aload_n hx hb dX0_signOf_9 rfl (lv_at hl 0 rfl) ?_
  refine z_get (C := RX0) (T := TX0) (N := 6) (v := .int (nI (vars + 1))) hx hb hts hinX0 hown hK hM hA.1.1 2 hf_9 rfl rfl (by decide) rfl dX0_signOf_10 ?_
  refine z_imul hx hb dX0_signOf_13 ?_
  refine lv_iload_n hx hb dX0_signOf_14 rfl (lv_at hl 2 rfl) ?_
  refine z_iadd hx hb dX0_signOf_15 ?_
  refine z_ild hx hb hK hM hA.1.2.2.1 (hix) (h31) dX0_signOf_16 ?_
  refine z_ild hx hb hK hM hA.1.2.1 (by omega) (by omega) dX0_signOf_17 ?_
  refine z_asi (y := nI (sc (R r k))) (congrArg nI hc2) ?_
  refine z_calli0 (va_runS (As := [.int (nI (sc (R r k)))]) (rest := []) ⟨hx, hb, hml, hown, hts⟩ (j_signum_0f7a4 l Γ G _ (R r k) hc4) (va_cwS 1 hts gX0_signOf_J6_signum_0f7a4 rfl rfl rfl (by decide +kernel) ⟨Nat.le_of_ble_eq_true rfl, Nat.le_of_ble_eq_true rfl⟩) (zM.pre hK hM) rfl rfl hl.1 rfl (lv_room (Nat.le_of_ble_eq_true rfl)) dX0_signOf_18 ⟨Nat.le_of_ble_eq_true rfl, Nat.le_of_ble_eq_true rfl⟩) hM (fun r18 G18 H locs hp18 hM => ?_)
  obtain ⟨rfl, hGe⟩ := hp18
  rw [hGe] at hM
  rw [hQ]
  rw [hAe] at hM
  exact z_iret hsz hx hb hr hlocks hK hM dX0_signOf_21 (⟨rfl, rfl⟩)

set_option maxRecDepth 100000 in
set_option maxHeartbeats 4000000 in
theorem a_sizeOf (l : Launch) (Γ : zT) (G : zG) (sz : Nat) (X : Nat → Nat) (vars : Nat) (hX : XI X vars) (maxR nr used cz : Nat) (R : Nat → Nat → Int) (C St : Nat → Nat) (hA : AR Γ G X vars maxR nr used cz R C St) (r k : Nat) (hrn : r < nr) (hkv : k ≤ vars) : zMi l yX0_sizeOf wsX0_sizeOf (zR 2) Γ G sz [.ref (X 81), .int (nI r), .int (nI k)] (fun x G' => x = nI (nl (R r k).natAbs) ∧ G' = G) 0 0 := by
  refine z_start (cc := cX0_sizeOf) (maxL := 3) (ret := (some .int)) (by decide) rfl (Nat.le_of_ble_eq_true rfl) ?_
  intro p e s m args below meth c ls Q hQ hsz hx hb hr hml hown hts hlocks hnm hK hM hl
  obtain ⟨A, hAe⟩ : ∃ A, A = zA G s.heap.size := ⟨_, rfl⟩
  rw [← hAe] at hM
  have hl : lv_has ls 3 [(0, .ref (X 81)), (1, .int (nI r)), (2, .int (nI k))] := hl
  have hinX0 : ∀ w ∈ wsX00, w ∈ wsX0_sizeOf := by decide +kernel
  have hf_9 := hts (.fieldLink RX0 9 "CutRows$Arena" "width" "I") (by decide +kernel)
  have hf_18 := hts (.fieldLink RX0 18 "CutRows$Arena" "cells" "[I") (by decide +kernel)
  have hf_22 := hts (.fieldLink RX0 22 "CutRows$Arena" "starts" "[I") (by decide +kernel)
  obtain ⟨hu1, hu2, hu3, hu4, hu5⟩ := hA.1.2.2.2
  have hix := ar_ix (show r < maxR by omega) hkv
  have h31 := ar_31 hu5 hu4
  obtain ⟨hc1, hc2, hc3, hc4⟩ := hA.2 r k hrn hkv
  refine lv_aload_n hx hb dX0_sizeOf_0 rfl (lv_at hl 0 rfl) ?_
  refine z_get (C := RX0) (T := TX0) (N := 6) (v := .ref (X 75)) hx hb hts hinX0 hown hK hM hA.1.1 0 hf_18 rfl rfl (by decide) rfl dX0_sizeOf_1 ?_
  refine lv_aload_n hx hb dX0_sizeOf_4 rfl (lv_at hl 0 rfl) ?_
  refine z_get (C := RX0) (T := TX0) (N := 6) (v := .ref (X 76)) hx hb hts hinX0 hown hK hM hA.1.1 1 hf_22 rfl rfl (by decide) rfl dX0_sizeOf_5 ?_
  refine lv_iload_n hx hb dX0_sizeOf_8 rfl (lv_at hl 1 rfl) ?_
  refine lv_aload_n hx hb dX0_sizeOf_9 rfl (lv_at hl 0 rfl) ?_
  refine z_get (C := RX0) (T := TX0) (N := 6) (v := .int (nI (vars + 1))) hx hb hts hinX0 hown hK hM hA.1.1 2 hf_9 rfl rfl (by decide) rfl dX0_sizeOf_10 ?_
  refine z_imul hx hb dX0_sizeOf_13 ?_
  refine lv_iload_n hx hb dX0_sizeOf_14 rfl (lv_at hl 2 rfl) ?_
  refine z_iadd hx hb dX0_sizeOf_15 ?_
  refine z_ild hx hb hK hM hA.1.2.2.1 (hix) (h31) dX0_sizeOf_16 ?_
  refine z_ild hx hb hK hM hA.1.2.1 (by omega) (by omega) dX0_sizeOf_17 ?_
  refine z_asi (y := nI (sc (R r k))) (congrArg nI hc2) ?_
  refine z_abs hx hb (by rw [hml]; exact hl.1.symm) hown (hts (.methodLink RX0 37 Lib.Math.abs.name) (by decide +kernel)) (hts (.static Lib.Math.abs.name) (by decide +kernel)) (hts (.initialized "java/lang/Math") (by decide +kernel)) (hts (.code Lib.Math.abs.name Lib.Math.abs.code 1 (some .int)) (by decide +kernel)) (Nat.le_of_ble_eq_true rfl) (Nat.le_of_ble_eq_true rfl) (Nat.le_of_ble_eq_true rfl) (Nat.le_of_ble_eq_true rfl) hc4 dX0_sizeOf_18 ?_
  rw [hQ]
  rw [hAe] at hM
  exact z_iret hsz hx hb hr hlocks hK hM dX0_sizeOf_21 (⟨rfl, rfl⟩)

set_option maxRecDepth 100000 in
set_option maxHeartbeats 4000000 in
theorem a_digitOf (l : Launch) (Γ : zT) (G : zG) (sz : Nat) (X : Nat → Nat) (vars : Nat) (hX : XI X vars) (maxR nr used cz : Nat) (R : Nat → Nat → Int) (C St : Nat → Nat) (hA : AR Γ G X vars maxR nr used cz R C St) (r k : Nat) (hrn : r < nr) (hkv : k ≤ vars) (ix : Nat) (hix31 : ix < 2 ^ 31) : zMi l yX0_digitOf wsX0_digitOf (zR 3) Γ G sz [.ref (X 81), .int (nI r), .int (nI k), .int (nI ix)] (fun x G' => x = nI ((R r k).natAbs / bp ix % 2147483648) ∧ G' = G) 0 0 := by
  refine z_start (cc := cX0_digitOf) (maxL := 4) (ret := (some .int)) (by decide) rfl (Nat.le_of_ble_eq_true rfl) ?_
  intro p e s m args below meth c ls Q hQ hsz hx hb hr hml hown hts hlocks hnm hK hM hl
  obtain ⟨A, hAe⟩ : ∃ A, A = zA G s.heap.size := ⟨_, rfl⟩
  rw [← hAe] at hM
  have hl : lv_has ls 4 [(0, .ref (X 81)), (1, .int (nI r)), (2, .int (nI k)), (3, .int (nI ix))] := hl
  have hinX0 : ∀ w ∈ wsX00, w ∈ wsX0_digitOf := by decide +kernel
  have hf_9 := hts (.fieldLink RX0 9 "CutRows$Arena" "width" "I") (by decide +kernel)
  have hf_18 := hts (.fieldLink RX0 18 "CutRows$Arena" "cells" "[I") (by decide +kernel)
  have hf_22 := hts (.fieldLink RX0 22 "CutRows$Arena" "starts" "[I") (by decide +kernel)
  obtain ⟨hu1, hu2, hu3, hu4, hu5⟩ := hA.1.2.2.2
  have hix := ar_ix (show r < maxR by omega) hkv
  have h31 := ar_31 hu5 hu4
  obtain ⟨hc1, hc2, hc3, hc4⟩ := hA.2 r k hrn hkv
  refine lv_iload_n hx hb dX0_digitOf_0 rfl (lv_at hl 3 rfl) ?_
  refine lv_aload_n hx hb dX0_digitOf_1 rfl (lv_at hl 0 rfl) ?_
  refine lv_iload_n hx hb dX0_digitOf_2 rfl (lv_at hl 1 rfl) ?_
  refine lv_iload_n hx hb dX0_digitOf_3 rfl (lv_at hl 2 rfl) ?_
  refine z_calli0 (va_runV (As := [.int (nI r), .int (nI k)]) (rest := [.int (nI ix)]) ⟨hx, hb, hml, hown, hts⟩ (a_sizeOf l Γ G _ X vars hX maxR nr used cz R C St hA r k hrn hkv) (cwV 2 hts gX0_digitOf_X0_sizeOf rfl rfl rfl (by decide +kernel) ⟨Nat.le_of_ble_eq_true rfl, Nat.le_of_ble_eq_true rfl⟩) (zM.preV hK hM hA.1.1 rfl rfl) rfl rfl hl.1 rfl (lv_room (Nat.le_of_ble_eq_true rfl)) dX0_digitOf_4 ⟨Nat.le_of_ble_eq_true rfl, Nat.le_of_ble_eq_true rfl⟩) hM (fun r4 G4 H locs hp4 hM => ?_)
  obtain ⟨rfl, hGe⟩ := hp4
  rw [hGe] at hM
  refine z_icmp_ge (tgt := 35) hx hb (by omega) (by omega) dX0_digitOf_7 (by decide) (fun hc7 => ?_) (fun hc7 => ?_)
  · refine lv_iconst (v := nI 0) hx hb dX0_digitOf_35 rfl ?_
    rw [hQ]
    rw [hAe] at hM
    exact z_iret hsz hx hb hr hlocks hK hM dX0_digitOf_36 (⟨congrArg nI (hd_out (by omega)).symm, rfl⟩)
  · refine lv_aload_n hx hb dX0_digitOf_10 rfl (lv_at hl 0 rfl) ?_
    refine z_get (C := RX0) (T := TX0) (N := 6) (v := .ref (X 75)) hx hb hts hinX0 hown hK hM hA.1.1 0 hf_18 rfl rfl (by decide) rfl dX0_digitOf_11 ?_
    refine lv_aload_n hx hb dX0_digitOf_14 rfl (lv_at hl 0 rfl) ?_
    refine z_get (C := RX0) (T := TX0) (N := 6) (v := .ref (X 76)) hx hb hts hinX0 hown hK hM hA.1.1 1 hf_22 rfl rfl (by decide) rfl dX0_digitOf_15 ?_
    refine lv_iload_n hx hb dX0_digitOf_18 rfl (lv_at hl 1 rfl) ?_
    refine lv_aload_n hx hb dX0_digitOf_19 rfl (lv_at hl 0 rfl) ?_
    refine z_get (C := RX0) (T := TX0) (N := 6) (v := .int (nI (vars + 1))) hx hb hts hinX0 hown hK hM hA.1.1 2 hf_9 rfl rfl (by decide) rfl dX0_digitOf_20 ?_
    refine z_imul hx hb dX0_digitOf_23 ?_
    refine lv_iload_n hx hb dX0_digitOf_24 rfl (lv_at hl 2 rfl) ?_
    refine z_iadd hx hb dX0_digitOf_25 ?_
    refine z_ild hx hb hK hM hA.1.2.2.1 (hix) (h31) dX0_digitOf_26 ?_
    refine lv_iconst (v := nI 1) hx hb dX0_digitOf_27 rfl ?_
    refine z_iadd hx hb dX0_digitOf_28 ?_
    refine lv_iload_n hx hb dX0_digitOf_29 rfl (lv_at hl 3 rfl) ?_
    refine z_iadd hx hb dX0_digitOf_30 ?_
    refine z_ild hx hb hK hM hA.1.2.1 (by omega) (by omega) dX0_digitOf_31 ?_
    refine lv_goto (tgt := 36) hx hb dX0_digitOf_32 (by decide) ?_
    rw [hQ]
    rw [hAe] at hM
    exact z_iret hsz hx hb hr hlocks hK hM dX0_digitOf_36 (⟨congrArg nI (hd_dig hc3 (by omega)), rfl⟩)

set_option maxRecDepth 100000 in
set_option maxHeartbeats 4000000 in
theorem a_load (l : Launch) (Γ : zT) (G : zG) (sz : Nat) (X : Nat → Nat) (vars : Nat) (hX : XI X vars) (maxR nr used cz : Nat) (R : Nat → Nat → Int) (C St : Nat → Nat) (hA : AR Γ G X vars maxR nr used cz R C St)  (Z : Nat → Int) (hC : CW Γ G X vars Z) (r k : Nat) (hrn : r < nr) (hkv : k ≤ vars) : zMv l yX0_load wsX0_load (zR 3) Γ G sz [.ref (X 81), .int (nI r), .int (nI k), .ref (X 28)] (was Γ G X vars Z 28 (R r k)) 0 0 := by
  refine z_start (cc := cX0_load) (maxL := 5) (ret := none) (by decide) rfl (Nat.le_of_ble_eq_true rfl) ?_
  intro p e s m args below meth c ls Q hQ hsz hx hb hr hml hown hts hlocks hnm hK hM hl
  obtain ⟨A, hAe⟩ : ∃ A, A = zA G s.heap.size := ⟨_, rfl⟩
  rw [← hAe] at hM
  have hl : lv_has ls 5 [(0, .ref (X 81)), (1, .int (nI r)), (2, .int (nI k)), (3, .ref (X 28))] := hl
  have hinX0 : ∀ w ∈ wsX00, w ∈ wsX0_load := by decide +kernel
  have hinX3 : ∀ w ∈ wsX30, w ∈ wsX0_load := by decide +kernel
  have hf_9 := hts (.fieldLink RX0 9 "CutRows$Arena" "width" "I") (by decide +kernel)
  have hf_18 := hts (.fieldLink RX0 18 "CutRows$Arena" "cells" "[I") (by decide +kernel)
  have hf_22 := hts (.fieldLink RX0 22 "CutRows$Arena" "starts" "[I") (by decide +kernel)
  have hf_46 := hts (.fieldLink RX0 46 "CutRows$Whole" "limbs" "[I") (by decide +kernel)
  have hf_57 := hts (.fieldLink RX0 57 "CutRows$Whole" "size" "I") (by decide +kernel)
  have hf_63 := hts (.fieldLink RX0 63 "CutRows$Whole" "sign" "I") (by decide +kernel)
  obtain ⟨hu1, hu2, hu3, hu4, hu5⟩ := hA.1.2.2.2
  have hix := ar_ix (show r < maxR by omega) hkv
  have h31 := ar_31 hu5 hu4
  obtain ⟨hc1, hc2, hc3, hc4⟩ := hA.2 r k hrn hkv
  obtain ⟨d, -, hla, -, -⟩ := hC.1 28 (by unfold vw; omega)
  have w28 : wrm 28 = 48 := rfl
  refine lv_aload_n hx hb dX0_load_0 rfl (lv_at hl 0 rfl) ?_
  refine lv_iload_n hx hb dX0_load_1 rfl (lv_at hl 1 rfl) ?_
  refine lv_iload_n hx hb dX0_load_2 rfl (lv_at hl 2 rfl) ?_
  refine z_calli0 (va_runV (As := [.int (nI r), .int (nI k)]) (rest := []) ⟨hx, hb, hml, hown, hts⟩ (a_sizeOf l Γ G _ X vars hX maxR nr used cz R C St hA r k hrn hkv) (cwV 2 hts gX0_load_X0_sizeOf rfl rfl rfl (by decide +kernel) ⟨Nat.le_of_ble_eq_true rfl, Nat.le_of_ble_eq_true rfl⟩) (zM.preV hK hM hA.1.1 rfl rfl) rfl rfl hl.1 rfl (lv_room (Nat.le_of_ble_eq_true rfl)) dX0_load_3 ⟨Nat.le_of_ble_eq_true rfl, Nat.le_of_ble_eq_true rfl⟩) hM (fun r3 G3 H locs hp3 hM => ?_)
  obtain ⟨rfl, hGe⟩ := hp3
  rw [hGe] at hM
  refine lv_istore (lv' := [(4, .int (nI (nl (R r k).natAbs))), (0, .ref (X 81)), (1, .int (nI r)), (2, .int (nI k)), (3, .ref (X 28))]) hx hb dX0_load_6 hl (by decide) rfl (fun ls hl => ?_)
  refine lv_aload_n hx hb dX0_load_8 rfl (lv_at hl 1 rfl) ?_
  refine z_get (C := RX0) (T := TX0) (N := 6) (v := .ref (X 75)) hx hb hts hinX0 hown hK hM hA.1.1 0 hf_18 rfl rfl (by decide) rfl dX0_load_9 ?_
  refine lv_aload_n hx hb dX0_load_12 rfl (lv_at hl 1 rfl) ?_
  refine z_get (C := RX0) (T := TX0) (N := 6) (v := .ref (X 76)) hx hb hts hinX0 hown hK hM hA.1.1 1 hf_22 rfl rfl (by decide) rfl dX0_load_13 ?_
  refine lv_iload_n hx hb dX0_load_16 rfl (lv_at hl 2 rfl) ?_
  refine lv_aload_n hx hb dX0_load_17 rfl (lv_at hl 1 rfl) ?_
  refine z_get (C := RX0) (T := TX0) (N := 6) (v := .int (nI (vars + 1))) hx hb hts hinX0 hown hK hM hA.1.1 2 hf_9 rfl rfl (by decide) rfl dX0_load_18 ?_
  refine z_imul hx hb dX0_load_21 ?_
  refine lv_iload_n hx hb dX0_load_22 rfl (lv_at hl 3 rfl) ?_
  refine z_iadd hx hb dX0_load_23 ?_
  refine z_ild hx hb hK hM hA.1.2.2.1 (hix) (h31) dX0_load_24 ?_
  refine lv_iconst (v := nI 1) hx hb dX0_load_25 rfl ?_
  refine z_iadd hx hb dX0_load_26 ?_
  refine lv_aload_n hx hb dX0_load_27 rfl (lv_at hl 4 rfl) ?_
  refine z_get (C := RX3) (T := TX3) (N := 3) (v := .ref (X (40 + 28))) hx hb hts hinX3 hown hK hM (hC.o 28 (by unfold vw; omega)) 0 hf_46 rfl rfl (by decide) rfl dX0_load_28 ?_
  refine lv_iconst (v := nI 0) hx hb dX0_load_31 rfl ?_
  refine lv_iload hx hb dX0_load_32 (lv_at hl 0 rfl) ?_
  refine z_copy hx hb (by rw [hml]; exact hl.1.symm) hown (hts (.methodLink RX0 51 arraycopyName) (by decide +kernel)) (hts (.native arraycopyName) (by decide +kernel)) (hts (.static arraycopyName) (by decide +kernel)) (hts (.initialized "java/lang/System") (by decide +kernel)) hK hM hA.1.2.1 hla (by omega) (by omega) (by omega) (by omega) (Nat.le_of_ble_eq_true rfl) (Nat.le_of_ble_eq_true rfl) dX0_load_34 (fun H locs hM => ?_)
  refine lv_aload_n hx hb dX0_load_37 rfl (lv_at hl 4 rfl) ?_
  refine lv_iload hx hb dX0_load_38 (lv_at hl 0 rfl) ?_
  refine z_put (C := RX3) (T := TX3) (N := 3) (fs' := [.ref (X (40 + 28)), .int (nI (nl (R r k).natAbs)), .int (sgI (Z 28))]) hx hb hts hinX3 tyX3 tyX3_ok nmX3 hown hK hM ((zup_n _ _ (hX.ne (by unfold vd vw; omega) (by unfold vd vw; omega) (by omega))).trans (hC.o 28 (by unfold vw; omega))) 1 hf_57 rfl rfl (by decide) rfl rfl rfl (Nat.le_of_ble_eq_true rfl) rfl dX0_load_40 (fun H locs hM => ?_)
  refine lv_aload_n hx hb dX0_load_43 rfl (lv_at hl 4 rfl) ?_
  refine lv_aload_n hx hb dX0_load_44 rfl (lv_at hl 1 rfl) ?_
  refine lv_iload_n hx hb dX0_load_45 rfl (lv_at hl 2 rfl) ?_
  refine lv_iload_n hx hb dX0_load_46 rfl (lv_at hl 3 rfl) ?_
  refine z_calli0 (va_runV (As := [.int (nI r), .int (nI k)]) (rest := [.ref (X 28)]) ⟨hx, hb, hml, hown, hts⟩ (a_signOf l Γ (zup (zup G (X (40 + 28)) (zI Γ 48 (va_cpy C d (St (r * (vars + 1) + k) + 1) 0 (nl (R r k).natAbs)))) (X 28) (.inr (5, [.ref (X (40 + 28)), .int (nI (nl (R r k).natAbs)), .int (sgI (Z 28))]))) _ X vars hX maxR nr used cz R C St (hA.fr hX (S := [28, 68]) (fun x hx => by rw [zup_n _ _ (hx 28 (by simp)), zup_n _ _ (hx 68 (by simp))]) (fun i hi => by simp only [List.mem_cons, List.not_mem_nil, or_false] at hi; exact ⟨by unfold vd vw; omega, by omega⟩)) r k hrn hkv) (cwV 2 hts gX0_load_X0_signOf rfl rfl rfl (by decide +kernel) ⟨Nat.le_of_ble_eq_true rfl, Nat.le_of_ble_eq_true rfl⟩) (zM.preV hK hM ((zup_n _ _ (hX.ne (by unfold vd vw; omega) (by unfold vd vw; omega) (by omega))).trans ((zup_n _ _ (hX.ne (by unfold vd vw; omega) (by unfold vd vw; omega) (by omega))).trans hA.1.1)) rfl rfl) rfl rfl hl.1 rfl (lv_room (Nat.le_of_ble_eq_true rfl)) dX0_load_47 ⟨Nat.le_of_ble_eq_true rfl, Nat.le_of_ble_eq_true rfl⟩) hM (fun r47 G47 H locs hp47 hM => ?_)
  obtain ⟨rfl, hGe⟩ := hp47
  rw [hGe] at hM
  refine z_put (C := RX3) (T := TX3) (N := 3) (fs' := [.ref (X (40 + 28)), .int (nI (nl (R r k).natAbs)), .int (sgI (R r k))]) hx hb hts hinX3 tyX3 tyX3_ok nmX3 hown hK hM (zup_s _ _ _) 2 hf_63 rfl rfl (by decide) rfl rfl rfl (Nat.le_of_ble_eq_true rfl) rfl dX0_load_50 (fun H locs hM => ?_)
  have hM : zM Γ A s.heap (zup (zup G (X (40 + 28)) (zI Γ 48 (va_cpy C d (St (r * (vars + 1) + k) + 1) 0 (nl (R r k).natAbs)))) (X 28) (.inr (5, [.ref (X (40 + 28)), .int (nI (nl (R r k).natAbs)), .int (sgI (R r k))]))) H locs := by
    rw [zup_zup] at hM; exact hM
  rw [hQ]
  rw [hAe] at hM
  exact z_vret hsz hx hb hr hlocks hK hM dX0_load_53 (was.mk hX hC (by unfold vw; omega) hc4 (hc3.up (fun t ht => by unfold va_cpy; rw [if_pos ⟨Nat.zero_le _, by omega⟩]; congr 1)))

set_option maxRecDepth 100000 in
set_option maxHeartbeats 4000000 in
theorem a_cellsFor (l : Launch) (Γ : zT) (G : zG) (sz : Nat) (X : Nat → Nat) (vars : Nat) (hX : XI X vars) (maxR nr used cz : Nat) (C St : Nat → Nat) (hO : AO Γ G X vars maxR nr used cz C St) (Z : Nat → Int) (hC : CW Γ G X vars Z) (wa wb : Nat) (hwa : WA Γ G X (X wa) (vars + 1) wb) (hwb : ∀ k, k ≤ vars → vw vars (wb + k)) : zMi l yX0_cellsFor wsX0_cellsFor (zR 1) Γ G sz [.ref (X 81), .ref (X wa)] (fun x G' => x = nI (need (fun k => Z (wb + k)) (vars + 1)) ∧ G' = G) 0 0 := by
  refine z_start (cc := cX0_cellsFor) (maxL := 4) (ret := (some .int)) (by decide) rfl (Nat.le_of_ble_eq_true rfl) ?_
  intro p e s m args below meth c ls Q hQ hsz hx hb hr hml hown hts hlocks hnm hK hM hl
  obtain ⟨A, hAe⟩ : ∃ A, A = zA G s.heap.size := ⟨_, rfl⟩
  rw [← hAe] at hM
  have hl : lv_has ls 4 [(0, .ref (X 81)), (1, .ref (X wa))] := hl
  have hinX0 : ∀ w ∈ wsX00, w ∈ wsX0_cellsFor := by decide +kernel
  have hinX3 : ∀ w ∈ wsX30, w ∈ wsX0_cellsFor := by decide +kernel
  have hf_9 := hts (.fieldLink RX0 9 "CutRows$Arena" "width" "I") (by decide +kernel)
  have hf_57 := hts (.fieldLink RX0 57 "CutRows$Whole" "size" "I") (by decide +kernel)
  obtain ⟨hu1, hu2, hu3, hu4, hu5⟩ := hO.2.2.2
  obtain ⟨wf, hwf, hwe⟩ := hwa
  refine lv_aload_n hx hb dX0_cellsFor_0 rfl (lv_at hl 0 rfl) ?_
  refine z_get (C := RX0) (T := TX0) (N := 6) (v := .int (nI (vars + 1))) hx hb hts hinX0 hown hK hM hO.1 2 hf_9 rfl rfl (by decide) rfl dX0_cellsFor_1 ?_
  refine lv_istore_n (lv' := [(2, .int (nI (vars + 1))), (0, .ref (X 81)), (1, .ref (X wa))]) hx hb dX0_cellsFor_4 rfl hl (by decide) rfl (fun ls hl => ?_)
  refine lv_iconst (v := nI 0) hx hb dX0_cellsFor_5 rfl ?_
  refine lv_istore_n (lv' := [(3, .int (nI 0)), (2, .int (nI (vars + 1))), (0, .ref (X 81)), (1, .ref (X wa))]) hx hb dX0_cellsFor_6 rfl hl (by decide) rfl (fun ls hl => ?_)
  have lp : ∀ (μ : Nat) (i : Nat) (acc : Nat), vars + 1 - i = μ → (i ≤ vars + 1) → (acc + i = vars + 1 + need (fun k => Z (wb + k)) i) → ∀ (ls : Array Slot) (H : Heap) (locs : List Loc), lv_has ls 4 [(3, .int (nI i)), (2, .int (nI acc)), (0, .ref (X 81)), (1, .ref (X wa))] → zM Γ A s.heap (G) H locs → W p l e (zR 1) s m args below meth c H locs 0 0 Q (F0 m 7 ls []) := by
    intro μ
    induction μ using Nat.strongRecOn with
    | _ μ ihlp =>
      intro i acc hμ hi hacc ls H locs hl hM
      refine lv_iload_n hx hb dX0_cellsFor_7 rfl (lv_at hl 0 rfl) ?_
      refine lv_aload_n hx hb dX0_cellsFor_8 rfl (lv_at hl 2 rfl) ?_
      refine z_get (C := RX0) (T := TX0) (N := 6) (v := .int (nI (vars + 1))) hx hb hts hinX0 hown hK hM hO.1 2 hf_9 rfl rfl (by decide) rfl dX0_cellsFor_9 ?_
      refine z_icmp_ge (tgt := 30) hx hb (by omega) (by omega) dX0_cellsFor_12 (by decide) (fun hc12 => ?_) (fun hc12 => ?_)
      · refine lv_iload_n hx hb dX0_cellsFor_30 rfl (lv_at hl 1 rfl) ?_
        rw [hQ]
        rw [hAe] at hM
        exact z_iret hsz hx hb hr hlocks hK hM dX0_cellsFor_31 (⟨congrArg nI (by rw [show i = vars + 1 by omega] at hacc; omega), rfl⟩)
      · refine lv_iload_n hx hb dX0_cellsFor_15 rfl (lv_at hl 1 rfl) ?_
        refine lv_aload_n hx hb dX0_cellsFor_16 rfl (lv_at hl 3 rfl) ?_
        refine lv_iload_n hx hb dX0_cellsFor_17 rfl (lv_at hl 0 rfl) ?_
        refine z_ald hx hb hK hM hwf (by omega) (by omega) (hwe _ (by omega)) dX0_cellsFor_18 ?_
        refine z_get (C := RX3) (T := TX3) (N := 3) (v := .int (nI (nl (Z (wb + i)).natAbs))) hx hb hts hinX3 hown hK hM (hC.o (wb + i) (hwb i (by omega))) 1 hf_57 rfl rfl (by decide) rfl dX0_cellsFor_19 ?_
        refine z_iadd hx hb dX0_cellsFor_22 ?_
        refine lv_istore_n (lv' := [(2, .int (nI (acc + (nl (Z (wb + i)).natAbs)))), (3, .int (nI i)), (0, .ref (X 81)), (1, .ref (X wa))]) hx hb dX0_cellsFor_23 rfl hl (by decide) rfl (fun ls hl => ?_)
        refine z_iinc (v := (i + 1)) (lv' := [(3, .int (nI (i + 1))), (2, .int (nI (acc + (nl (Z (wb + i)).natAbs)))), (0, .ref (X 81)), (1, .ref (X wa))]) hx hb dX0_cellsFor_24 hl (k := 1) rfl (nI_p1 _) (by decide) rfl (fun ls hl => ?_)
        refine lv_goto (tgt := 7) hx hb dX0_cellsFor_27 (by decide) ?_
        exact ihlp _ (by omega) (i + 1) (acc + nl (Z (wb + i)).natAbs) rfl (by omega) (by unfold need; omega) ls _ _ (lv_sub hl [0, 1, 2, 3] rfl) hM
  exact lp _ 0 (vars + 1) rfl (by omega) (by unfold need; omega) ls _ _ (lv_sub hl [0, 1, 2, 3] rfl) hM

set_option maxRecDepth 100000 in
set_option maxHeartbeats 4000000 in
theorem a_append (l : Launch) (Γ : zT) (G : zG) (sz : Nat) (X : Nat → Nat) (vars : Nat) (hX : XI X vars) (maxR nr used cz : Nat) (C St : Nat → Nat) (hO : AO Γ G X vars maxR nr used cz C St) (Z : Nat → Int) (hC : CW Γ G X vars Z) (i : Nat) (vi : vw vars i) (h48 : nl (Z i).natAbs ≤ 48) (hfit : used + 1 + nl (Z i).natAbs ≤ cz) : zMv l yX0_append wsX0_append (zR 1) Γ G sz [.ref (X 81), .ref (X i)] (fun G' => fr X [75, 81] G G' ∧ ∃ C', AO Γ G' X vars maxR nr (used + 1 + nl (Z i).natAbs) cz C' St ∧ (∀ j, j < used → C' j = C j) ∧ cnm C' used (used + 1 + nl (Z i).natAbs) (Z i)) 0 0 := by
  refine z_start (cc := cX0_append) (maxL := 2) (ret := none) (by decide) rfl (Nat.le_of_ble_eq_true rfl) ?_
  intro p e s m args below meth c ls Q hQ hsz hx hb hr hml hown hts hlocks hnm hK hM hl
  obtain ⟨A, hAe⟩ : ∃ A, A = zA G s.heap.size := ⟨_, rfl⟩
  rw [← hAe] at hM
  have hl : lv_has ls 2 [(0, .ref (X 81)), (1, .ref (X i))] := hl
  have hinX0 : ∀ w ∈ wsX00, w ∈ wsX0_append := by decide +kernel
  have hinX3 : ∀ w ∈ wsX30, w ∈ wsX0_append := by decide +kernel
  have hf_18 := hts (.fieldLink RX0 18 "CutRows$Arena" "cells" "[I") (by decide +kernel)
  have hf_25 := hts (.fieldLink RX0 25 "CutRows$Arena" "used" "I") (by decide +kernel)
  have hf_46 := hts (.fieldLink RX0 46 "CutRows$Whole" "limbs" "[I") (by decide +kernel)
  have hf_57 := hts (.fieldLink RX0 57 "CutRows$Whole" "size" "I") (by decide +kernel)
  have hf_63 := hts (.fieldLink RX0 63 "CutRows$Whole" "sign" "I") (by decide +kernel)
  obtain ⟨hu1, hu2, hu3, hu4, hu5⟩ := hO.2.2.2
  obtain ⟨d, -, hla, hnr, hda⟩ := hC.1 i vi
  have li := vi.lt
  have hw31 := wrm_lt i
  refine lv_aload_n hx hb dX0_append_0 rfl (lv_at hl 0 rfl) ?_
  refine z_get (C := RX0) (T := TX0) (N := 6) (v := .ref (X 75)) hx hb hts hinX0 hown hK hM hO.1 0 hf_18 rfl rfl (by decide) rfl dX0_append_1 ?_
  refine lv_aload_n hx hb dX0_append_4 rfl (lv_at hl 0 rfl) ?_
  refine z_get (C := RX0) (T := TX0) (N := 6) (v := .int (nI used)) hx hb hts hinX0 hown hK hM hO.1 4 hf_25 rfl rfl (by decide) rfl dX0_append_5 ?_
  refine lv_aload_n hx hb dX0_append_8 rfl (lv_at hl 1 rfl) ?_
  refine z_get (C := RX3) (T := TX3) (N := 3) (v := .int (sgI (Z i))) hx hb hts hinX3 hown hK hM (hC.o i vi) 2 hf_63 rfl rfl (by decide) rfl dX0_append_9 ?_
  refine lv_aload_n hx hb dX0_append_12 rfl (lv_at hl 1 rfl) ?_
  refine z_get (C := RX3) (T := TX3) (N := 3) (v := .int (nI (nl (Z i).natAbs))) hx hb hts hinX3 hown hK hM (hC.o i vi) 1 hf_57 rfl rfl (by decide) rfl dX0_append_13 ?_
  refine lv_imul hx hb dX0_append_16 ?_
  refine z_asi (y := nI (sc (Z i))) (sc_mul h48) ?_
  refine z_ist hx hb hK hM hO.2.1 (by omega) (by omega) dX0_append_17 (fun H locs hM => ?_)
  refine lv_aload_n hx hb dX0_append_18 rfl (lv_at hl 1 rfl) ?_
  refine z_get (C := RX3) (T := TX3) (N := 3) (v := .ref (X (40 + i))) hx hb hts hinX3 hown hK hM ((zup_n _ _ (hX.ne vi.d (by unfold vd vw; omega) (by omega))).trans (hC.o i vi)) 0 hf_46 rfl rfl (by decide) rfl dX0_append_19 ?_
  refine lv_iconst (v := nI 0) hx hb dX0_append_22 rfl ?_
  refine lv_aload_n hx hb dX0_append_23 rfl (lv_at hl 0 rfl) ?_
  refine z_get (C := RX0) (T := TX0) (N := 6) (v := .ref (X 75)) hx hb hts hinX0 hown hK hM ((zup_n _ _ (hX.ne (by unfold vd vw; omega) (by unfold vd vw; omega) (by omega))).trans hO.1) 0 hf_18 rfl rfl (by decide) rfl dX0_append_24 ?_
  refine lv_aload_n hx hb dX0_append_27 rfl (lv_at hl 0 rfl) ?_
  refine z_get (C := RX0) (T := TX0) (N := 6) (v := .int (nI used)) hx hb hts hinX0 hown hK hM ((zup_n _ _ (hX.ne (by unfold vd vw; omega) (by unfold vd vw; omega) (by omega))).trans hO.1) 4 hf_25 rfl rfl (by decide) rfl dX0_append_28 ?_
  refine lv_iconst (v := nI 1) hx hb dX0_append_31 rfl ?_
  refine z_iadd hx hb dX0_append_32 ?_
  refine lv_aload_n hx hb dX0_append_33 rfl (lv_at hl 1 rfl) ?_
  refine z_get (C := RX3) (T := TX3) (N := 3) (v := .int (nI (nl (Z i).natAbs))) hx hb hts hinX3 hown hK hM ((zup_n _ _ (hX.ne vi.d (by unfold vd vw; omega) (by omega))).trans (hC.o i vi)) 1 hf_57 rfl rfl (by decide) rfl dX0_append_34 ?_
  refine z_copy hx hb (by rw [hml]; exact hl.1.symm) hown (hts (.methodLink RX0 51 arraycopyName) (by decide +kernel)) (hts (.native arraycopyName) (by decide +kernel)) (hts (.static arraycopyName) (by decide +kernel)) (hts (.initialized "java/lang/System") (by decide +kernel)) hK hM ((zup_n _ _ (hX.ne vi.e (by unfold vd vw; omega) (by omega))).trans hla) (zup_s _ _ _) (by omega) (by omega) (by omega) (by omega) (Nat.le_of_ble_eq_true rfl) (Nat.le_of_ble_eq_true rfl) dX0_append_37 (fun H locs hM => ?_)
  have hM : zM Γ A s.heap (zup G (X 75) (zI Γ cz (va_cpy d (va_up C used (sc (Z i))) 0 (used + 1) (nl (Z i).natAbs)))) H locs := by
    rw [zup_zup] at hM; exact hM
  refine lv_aload_n hx hb dX0_append_40 rfl (lv_at hl 0 rfl) ?_
  refine lv_dup hx hb dX0_append_41 rfl ?_
  refine z_get (C := RX0) (T := TX0) (N := 6) (v := .int (nI used)) hx hb hts hinX0 hown hK hM ((zup_n _ _ (hX.ne (by unfold vd vw; omega) (by unfold vd vw; omega) (by omega))).trans hO.1) 4 hf_25 rfl rfl (by decide) rfl dX0_append_42 ?_
  refine lv_iconst (v := nI 1) hx hb dX0_append_45 rfl ?_
  refine lv_aload_n hx hb dX0_append_46 rfl (lv_at hl 1 rfl) ?_
  refine z_get (C := RX3) (T := TX3) (N := 3) (v := .int (nI (nl (Z i).natAbs))) hx hb hts hinX3 hown hK hM ((zup_n _ _ (hX.ne vi.d (by unfold vd vw; omega) (by omega))).trans (hC.o i vi)) 1 hf_57 rfl rfl (by decide) rfl dX0_append_47 ?_
  refine z_iadd hx hb dX0_append_50 ?_
  refine z_iadd hx hb dX0_append_51 ?_
  refine z_asi (y := nI (used + 1 + nl (Z i).natAbs)) (congrArg nI (by omega)) ?_
  refine z_put (C := RX0) (T := TX0) (N := 6) (fs' := [.ref (X 75), .ref (X 76), .int (nI (vars + 1)), .int (nI maxR), .int (nI (used + 1 + nl (Z i).natAbs)), .int (nI nr)]) hx hb hts hinX0 tyX0 tyX0_ok nmX0 hown hK hM ((zup_n _ _ (hX.ne (by unfold vd vw; omega) (by unfold vd vw; omega) (by omega))).trans hO.1) 4 hf_25 rfl rfl (by decide) rfl rfl rfl (Nat.le_of_ble_eq_true rfl) rfl dX0_append_52 (fun H locs hM => ?_)
  obtain ⟨C2, hC2⟩ : ∃ C2, C2 = va_cpy d (va_up C used (sc (Z i))) 0 (used + 1) (nl (Z i).natAbs) := ⟨_, rfl⟩
  rw [← hC2] at hM
  rw [hQ]
  rw [hAe] at hM
  exact z_vret hsz hx hb hr hlocks hK hM dX0_append_55 (⟨fun x hx => by rw [zup_n _ _ (hx 81 (by simp)), zup_n _ _ (hx 75 (by simp))], C2, ⟨zup_s _ _ _, ((zup_n _ _ (hX.ne (by unfold vd vw; omega) (by unfold vd vw; omega) (by omega))).trans (zup_s _ _ _)), ((zup_n _ _ (hX.ne (by unfold vd vw; omega) (by unfold vd vw; omega) (by omega))).trans ((zup_n _ _ (hX.ne (by unfold vd vw; omega) (by unfold vd vw; omega) (by omega))).trans hO.2.2.1)), by omega, by omega, by omega, by omega, by omega⟩, fun j hj => by rw [hC2]; unfold va_cpy; rw [if_neg (by omega), va_up_ne _ _ (by omega)], Nat.le_refl _, by rw [hC2]; unfold va_cpy; rw [if_neg (by omega), va_up_self], hda.up (fun j hj => by rw [hC2]; unfold va_cpy; rw [if_pos (by omega)]; congr 1; omega), h48⟩)

set_option maxRecDepth 100000 in
set_option maxHeartbeats 4000000 in
theorem a_keep (l : Launch) (Γ : zT) (G : zG) (sz : Nat) (X : Nat → Nat) (vars : Nat) (hX : XI X vars) (maxR nr used cz : Nat) (R : Nat → Nat → Int) (C St : Nat → Nat) (hA : AR Γ G X vars maxR nr used cz R C St)  (Z : Nat → Int) (hC : CW Γ G X vars Z) (wa wb : Nat) (hwa : WA Γ G X (X wa) (vars + 1) wb) (hwb : ∀ k, k ≤ vars → vw vars (wb + k)) (hvwa : vd vars wa) (hwa8 : 83 < wa) (h48 : ∀ k, k ≤ vars → nl (Z (wb + k)).natAbs ≤ 48) : zMi l yX0_keep wsX0_keep (zR 2) Γ G sz [.ref (X 81), .ref (X wa)] (fun x G' => fr X [75, 76, 81] G G' ∧ (if nr = maxR ∨ cz - used < need (fun k => Z (wb + k)) (vars + 1) then x = -4 ∧ G' = G else x = nI nr ∧ ∃ C' St', AR Γ G' X vars maxR (nr + 1) (used + need (fun k => Z (wb + k)) (vars + 1)) cz (va_up R nr (fun k => Z (wb + k))) C' St')) 0 0 := by
  refine z_start (cc := cX0_keep) (maxL := 3) (ret := (some .int)) (by decide) rfl (Nat.le_of_ble_eq_true rfl) ?_
  intro p e s m args below meth c ls Q hQ hsz hx hb hr hml hown hts hlocks hnm hK hM hl
  obtain ⟨A, hAe⟩ : ∃ A, A = zA G s.heap.size := ⟨_, rfl⟩
  rw [← hAe] at hM
  have hl : lv_has ls 3 [(0, .ref (X 81)), (1, .ref (X wa))] := hl
  have hinX0 : ∀ w ∈ wsX00, w ∈ wsX0_keep := by decide +kernel
  have hf_9 := hts (.fieldLink RX0 9 "CutRows$Arena" "width" "I") (by decide +kernel)
  have hf_22 := hts (.fieldLink RX0 22 "CutRows$Arena" "starts" "[I") (by decide +kernel)
  have hf_25 := hts (.fieldLink RX0 25 "CutRows$Arena" "used" "I") (by decide +kernel)
  have hf_28 := hts (.fieldLink RX0 28 "CutRows$Arena" "rows" "I") (by decide +kernel)
  obtain ⟨hu1, hu2, hu3, hu4, hu5⟩ := hA.1.2.2.2
  have hwa0 := hwa
  obtain ⟨wf, hwf, hwe⟩ := hwa
  have hnle : need (fun k => Z (wb + k)) (vars + 1) ≤ 343 := need_le h48 hu5
  refine lv_aload_n hx hb dX0_keep_0 rfl (lv_at hl 0 rfl) ?_
  refine z_calli0 (va_runV (As := []) (rest := []) ⟨hx, hb, hml, hown, hts⟩ (a_isFull l Γ G _ X vars hX maxR nr used cz R C St hA) (cwV 0 hts gX0_keep_X0_isFull rfl rfl rfl (by decide +kernel) ⟨Nat.le_of_ble_eq_true rfl, Nat.le_of_ble_eq_true rfl⟩) (zM.preV hK hM hA.1.1 rfl rfl) rfl rfl hl.1 rfl (lv_room (Nat.le_of_ble_eq_true rfl)) dX0_keep_1 ⟨Nat.le_of_ble_eq_true rfl, Nat.le_of_ble_eq_true rfl⟩) hM (fun r1 G1 H locs hp1 hM => ?_)
  obtain ⟨rfl, hGe⟩ := hp1
  rw [hGe] at hM
  refine lv_if_ne (tgt := 19) hx hb dX0_keep_4 (by decide) (fun hc4 => ?_) (fun hc4 => ?_)
  · have hfu : nr = maxR := by rcases Nat.lt_or_ge nr maxR with g | g; rw [if_pos g] at hc4; exact absurd rfl hc4; omega
    refine lv_bipush (v := -4) hx hb dX0_keep_19 rfl ?_
    rw [hQ]
    rw [hAe] at hM
    exact z_iret hsz hx hb hr hlocks hK hM dX0_keep_21 (⟨fr.rf, by rw [if_pos (Or.inl hfu)]; exact ⟨rfl, rfl⟩⟩)
  · have hfu : nr < maxR := by rcases Nat.lt_or_ge nr maxR with g | g; exact g; rw [if_neg (by omega)] at hc4; exact absurd hc4 (by decide)
    refine lv_aload_n hx hb dX0_keep_7 rfl (lv_at hl 0 rfl) ?_
    refine lv_aload_n hx hb dX0_keep_8 rfl (lv_at hl 1 rfl) ?_
    refine z_calli0 (va_runV (As := [.ref (X wa)]) (rest := []) ⟨hx, hb, hml, hown, hts⟩ (a_cellsFor l Γ G _ X vars hX maxR nr used cz C St hA.1 Z hC wa wb hwa0 hwb) (cwV 1 hts gX0_keep_X0_cellsFor rfl rfl rfl (by decide +kernel) ⟨Nat.le_of_ble_eq_true rfl, Nat.le_of_ble_eq_true rfl⟩) (zM.preV hK hM hA.1.1 rfl rfl) rfl rfl hl.1 rfl (lv_room (Nat.le_of_ble_eq_true rfl)) dX0_keep_9 ⟨Nat.le_of_ble_eq_true rfl, Nat.le_of_ble_eq_true rfl⟩) hM (fun r9 G9 H locs hp9 hM => ?_)
    obtain ⟨rfl, hGe⟩ := hp9
    rw [hGe] at hM
    refine lv_aload_n hx hb dX0_keep_12 rfl (lv_at hl 0 rfl) ?_
    refine z_calli0 (va_runV (As := []) (rest := [.int (nI (need (fun k => Z (wb + k)) (vars + 1)))]) ⟨hx, hb, hml, hown, hts⟩ (a_cellsLeft l Γ G _ X vars hX maxR nr used cz R C St hA) (cwV 0 hts gX0_keep_X0_cellsLeft rfl rfl rfl (by decide +kernel) ⟨Nat.le_of_ble_eq_true rfl, Nat.le_of_ble_eq_true rfl⟩) (zM.preV hK hM hA.1.1 rfl rfl) rfl rfl hl.1 rfl (lv_room (Nat.le_of_ble_eq_true rfl)) dX0_keep_13 ⟨Nat.le_of_ble_eq_true rfl, Nat.le_of_ble_eq_true rfl⟩) hM (fun r13 G13 H locs hp13 hM => ?_)
    obtain ⟨rfl, hGe⟩ := hp13
    rw [hGe] at hM
    refine z_icmp_le (tgt := 22) hx hb (by omega) (by omega) dX0_keep_16 (by decide) (fun hc16 => ?_) (fun hc16 => ?_)
    · refine lv_iconst (v := nI 0) hx hb dX0_keep_22 rfl ?_
      refine lv_istore_n (lv' := [(2, .int (nI 0)), (0, .ref (X 81)), (1, .ref (X wa))]) hx hb dX0_keep_23 rfl hl (by decide) rfl (fun ls hl => ?_)
      have lp : ∀ (μ : Nat) (i : Nat) (G1 : zG) (C1 : Nat → Nat) (S1 : Nat → Nat), vars + 1 - i = μ → (i ≤ vars + 1) → (fr X [75, 76, 81] G G1) → (AO Γ G1 X vars maxR nr (used + need (fun k => Z (wb + k)) i) cz C1 S1) → (CW Γ G1 X vars Z) → (WA Γ G1 X (X wa) (vars + 1) wb) → (∀ r k, (r < nr ∧ k ≤ vars) ∨ (r = nr ∧ k < i) → cnm C1 (S1 (r * (vars + 1) + k)) (used + need (fun k => Z (wb + k)) i) (va_up R nr (fun k => Z (wb + k)) r k)) → ∀ (ls : Array Slot) (H : Heap) (locs : List Loc), lv_has ls 3 [(2, .int (nI i)), (0, .ref (X 81)), (1, .ref (X wa))] → zM Γ A s.heap (G1) H locs → W p l e (zR 2) s m args below meth c H locs 0 0 Q (F0 m 24 ls []) := by
        intro μ
        induction μ using Nat.strongRecOn with
        | _ μ ihlp =>
          intro i G1 C1 S1 hμ hi hf1 hO1 hC1 hwa1 hcn ls H locs hl hM
          obtain ⟨wf, hwf1, hwe⟩ := hwa1
          have hnm : need (fun k => Z (wb + k)) i ≤ need (fun k => Z (wb + k)) (vars + 1) := need_mono hi
          refine lv_iload_n hx hb dX0_keep_24 rfl (lv_at hl 0 rfl) ?_
          refine lv_aload_n hx hb dX0_keep_25 rfl (lv_at hl 1 rfl) ?_
          refine z_get (C := RX0) (T := TX0) (N := 6) (v := .int (nI (vars + 1))) hx hb hts hinX0 hown hK hM hO1.1 2 hf_9 rfl rfl (by decide) rfl dX0_keep_26 ?_
          refine z_icmp_ge (tgt := 65) hx hb (by omega) (by omega) dX0_keep_29 (by decide) (fun hc29 => ?_) (fun hc29 => ?_)
          · have hie : i = vars + 1 := by omega
            refine lv_aload_n hx hb dX0_keep_65 rfl (lv_at hl 1 rfl) ?_
            refine lv_dup hx hb dX0_keep_66 rfl ?_
            refine z_get (C := RX0) (T := TX0) (N := 6) (v := .int (nI nr)) hx hb hts hinX0 hown hK hM hO1.1 5 hf_28 rfl rfl (by decide) rfl dX0_keep_67 ?_
            refine lv_iconst (v := nI 1) hx hb dX0_keep_70 rfl ?_
            refine z_iadd hx hb dX0_keep_71 ?_
            refine z_put (C := RX0) (T := TX0) (N := 6) (fs' := [.ref (X 75), .ref (X 76), .int (nI (vars + 1)), .int (nI maxR), .int (nI (used + need (fun k => Z (wb + k)) i)), .int (nI (nr + 1))]) hx hb hts hinX0 tyX0 tyX0_ok nmX0 hown hK hM hO1.1 5 hf_28 rfl rfl (by decide) rfl rfl rfl (Nat.le_of_ble_eq_true rfl) rfl dX0_keep_72 (fun H locs hM => ?_)
            refine lv_aload_n hx hb dX0_keep_75 rfl (lv_at hl 1 rfl) ?_
            refine z_get (C := RX0) (T := TX0) (N := 6) (v := .int (nI (nr + 1))) hx hb hts hinX0 hown hK hM (zup_s _ _ _) 5 hf_28 rfl rfl (by decide) rfl dX0_keep_76 ?_
            refine lv_iconst (v := nI 1) hx hb dX0_keep_79 rfl ?_
            refine z_isub hx hb (by omega) dX0_keep_80 ?_
            have hAx : ∃ C9 S9, AR Γ (zup G1 (X 81) (.inr (2, [.ref (X 75), .ref (X 76), .int (nI (vars + 1)), .int (nI maxR), .int (nI (used + need (fun k => Z (wb + k)) i)), .int (nI (nr + 1))]))) X vars maxR (nr + 1) (used + need (fun k => Z (wb + k)) (vars + 1)) cz (va_up R nr (fun k => Z (wb + k))) C9 S9 := by
              rw [show need (fun k => Z (wb + k)) (vars + 1) = need (fun k => Z (wb + k)) i by rw [hie]]
              refine ⟨C1, S1, ⟨zup_s _ _ _, ((zup_n _ _ (hX.ne (by unfold vd vw; omega) (by unfold vd vw; omega) (by omega))).trans hO1.2.1), ((zup_n _ _ (hX.ne (by unfold vd vw; omega) (by unfold vd vw; omega) (by omega))).trans hO1.2.2.1), by omega, by omega, by omega, by omega, by omega⟩, fun r k h1 h2 => ?_⟩
              exact hcn r k (by omega)
            rw [hQ]
            rw [hAe] at hM
            exact z_iret hsz hx hb hr hlocks hK hM dX0_keep_81 (⟨hf1.tr (fr.up (by simp)), by rw [if_neg (by omega)]; exact ⟨rfl, hAx⟩⟩)
          · refine lv_aload_n hx hb dX0_keep_32 rfl (lv_at hl 1 rfl) ?_
            refine z_get (C := RX0) (T := TX0) (N := 6) (v := .ref (X 76)) hx hb hts hinX0 hown hK hM hO1.1 1 hf_22 rfl rfl (by decide) rfl dX0_keep_33 ?_
            refine lv_aload_n hx hb dX0_keep_36 rfl (lv_at hl 1 rfl) ?_
            refine z_get (C := RX0) (T := TX0) (N := 6) (v := .int (nI nr)) hx hb hts hinX0 hown hK hM hO1.1 5 hf_28 rfl rfl (by decide) rfl dX0_keep_37 ?_
            refine lv_aload_n hx hb dX0_keep_40 rfl (lv_at hl 1 rfl) ?_
            refine z_get (C := RX0) (T := TX0) (N := 6) (v := .int (nI (vars + 1))) hx hb hts hinX0 hown hK hM hO1.1 2 hf_9 rfl rfl (by decide) rfl dX0_keep_41 ?_
            refine z_imul hx hb dX0_keep_44 ?_
            refine lv_iload_n hx hb dX0_keep_45 rfl (lv_at hl 0 rfl) ?_
            refine z_iadd hx hb dX0_keep_46 ?_
            refine lv_aload_n hx hb dX0_keep_47 rfl (lv_at hl 1 rfl) ?_
            refine z_get (C := RX0) (T := TX0) (N := 6) (v := .int (nI (used + need (fun k => Z (wb + k)) i))) hx hb hts hinX0 hown hK hM hO1.1 4 hf_25 rfl rfl (by decide) rfl dX0_keep_48 ?_
            refine z_ist hx hb hK hM hO1.2.2.1 (ar_ix hfu (by omega)) (ar_31 hu5 hu4) dX0_keep_51 (fun H locs hM => ?_)
            refine lv_aload_n hx hb dX0_keep_52 rfl (lv_at hl 1 rfl) ?_
            refine lv_aload_n hx hb dX0_keep_53 rfl (lv_at hl 2 rfl) ?_
            refine lv_iload_n hx hb dX0_keep_54 rfl (lv_at hl 0 rfl) ?_
            refine z_ald hx hb hK hM ((zup_n _ _ (hX.ne hvwa (by unfold vd vw; omega) (by omega))).trans hwf1) (by omega) (by omega) (hwe _ (by omega)) dX0_keep_55 ?_
            have hfr : fr X [75, 76, 81] G1 (zup G1 (X 76) (zI Γ ((vars + 1) * maxR) (va_up S1 (nr * (vars + 1) + i) (used + need (fun k => Z (wb + k)) i)))) := fr.up (by simp)
            have hO2 : AO Γ (zup G1 (X 76) (zI Γ ((vars + 1) * maxR) (va_up S1 (nr * (vars + 1) + i) (used + need (fun k => Z (wb + k)) i)))) X vars maxR nr (used + need (fun k => Z (wb + k)) i) cz C1 (va_up S1 (nr * (vars + 1) + i) (used + need (fun k => Z (wb + k)) i)) := ⟨((zup_n _ _ (hX.ne (by unfold vd vw; omega) (by unfold vd vw; omega) (by omega))).trans hO1.1), ((zup_n _ _ (hX.ne (by unfold vd vw; omega) (by unfold vd vw; omega) (by omega))).trans hO1.2.1), zup_s _ _ _, by omega, by omega, by omega, by omega, by omega⟩
            have hC2 : CW Γ (zup G1 (X 76) (zI Γ ((vars + 1) * maxR) (va_up S1 (nr * (vars + 1) + i) (used + need (fun k => Z (wb + k)) i)))) X vars Z := hC1.same hX hfr (fun q hq => by simp only [List.mem_cons, List.not_mem_nil, or_false] at hq; omega)
            have hns : need (fun k => Z (wb + k)) (i + 1) ≤ need (fun k => Z (wb + k)) (vars + 1) := need_mono (by omega)
            have hn1 : need (fun k => Z (wb + k)) (i + 1) = need (fun k => Z (wb + k)) i + 1 + nl (Z (wb + i)).natAbs := rfl
            refine z_callv0 (va_runV (As := [.ref (X (wb + i))]) (rest := []) ⟨hx, hb, hml, hown, hts⟩ (a_append l Γ (zup G1 (X 76) (zI Γ ((vars + 1) * maxR) (va_up S1 (nr * (vars + 1) + i) (used + need (fun k => Z (wb + k)) i)))) _ X vars hX maxR nr (used + need (fun k => Z (wb + k)) i) cz C1 _ hO2 Z hC2 (wb + i) (hwb i (by omega)) (h48 i (by omega)) (by omega)) (cwV 1 hts gX0_keep_X0_append rfl rfl rfl (by decide +kernel) ⟨Nat.le_of_ble_eq_true rfl, Nat.le_of_ble_eq_true rfl⟩) (zM.preV hK hM ((zup_n _ _ (hX.ne (by unfold vd vw; omega) (by unfold vd vw; omega) (by omega))).trans hO1.1) rfl rfl) rfl rfl hl.1 rfl (lv_room (Nat.le_of_ble_eq_true rfl)) dX0_keep_56 ⟨Nat.le_of_ble_eq_true rfl, Nat.le_of_ble_eq_true rfl⟩) hM (fun G56 H locs hp56 hM => ?_)
            obtain ⟨hf3, C3, hO3, e3, n3⟩ := hp56
            have hC3 : CW Γ G56 X vars Z := hC2.same hX hf3 (fun q hq => by simp only [List.mem_cons, List.not_mem_nil, or_false] at hq; omega)
            have hf4 : fr X [75, 76, 81] G G56 := (hf1.tr hfr).tr (hf3.mono (fun q9 h9 => by simp only [List.mem_cons, List.not_mem_nil, or_false] at h9 ⊢; omega))
            rw [show used + need (fun k => Z (wb + k)) i + 1 + nl (Z (wb + i)).natAbs = used + need (fun k => Z (wb + k)) (i + 1) by omega] at hO3 n3
            refine z_iinc (v := (i + 1)) (lv' := [(2, .int (nI (i + 1))), (0, .ref (X 81)), (1, .ref (X wa))]) hx hb dX0_keep_59 hl (k := 0) rfl (nI_p1 _) (by decide) rfl (fun ls hl => ?_)
            refine lv_goto (tgt := 24) hx hb dX0_keep_62 (by decide) ?_
            exact ihlp _ (by omega) (i + 1) G56 C3 (va_up S1 (nr * (vars + 1) + i) (used + need (fun k => Z (wb + k)) i)) rfl (by omega) (hf4) (hO3) (hC3) ( (WA.fr ⟨wf, hwf1, hwe⟩ (by rw [hf3 (X wa) (fun q hq => by simp only [List.mem_cons, List.not_mem_nil, or_false] at hq; exact hX.ne hvwa (by unfold vd vw; omega) (by omega)), hfr (X wa) (fun q hq => by simp only [List.mem_cons, List.not_mem_nil, or_false] at hq; exact hX.ne hvwa (by unfold vd vw; omega) (by omega))]))) (keep_cn hcn e3 n3 (by omega)) ls _ _ (lv_sub hl [0, 1, 2] rfl) hM
      exact lp _ 0 G C St rfl (by omega) fr.rf hA.1 hC hwa0 (fun r k h => by rw [va_up_ne _ _ (by omega)]; exact hA.2 r k (by omega) (by omega)) ls _ _ (lv_sub hl [0, 1, 2] rfl) hM
    · refine lv_bipush (v := -4) hx hb dX0_keep_19 rfl ?_
      rw [hQ]
      rw [hAe] at hM
      exact z_iret hsz hx hb hr hlocks hK hM dX0_keep_21 (⟨fr.rf, by rw [if_pos (Or.inr (by omega))]; exact ⟨rfl, rfl⟩⟩)
