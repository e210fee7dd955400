set_option maxRecDepth 100000 in
set_option maxHeartbeats 4000000 in
theorem j_numberOfLeadingZeros_0f7a4 (l : Launch) (Γ : zT) (G : zG) (sz : Nat) (x : Nat) (hx0 : 0 < x) (hx31 : x < 2147483648) : zMi l yJ6_numberOfLeadingZeros_0f7a4 wsJ6_numberOfLeadingZeros_0f7a4 (zR 1) Γ G sz [.int (nI x)] (fun r G' => (∃ sh, r = nI (sh + 1) ∧ sh ≤ 30 ∧ 1073741824 ≤ x * 2 ^ sh ∧ x * 2 ^ sh < 2147483648) ∧ G' = G) 0 0 := by
  refine z_start (cc := cJ6_numberOfLeadingZeros_0f7a4) (maxL := 2) (ret := (some .int)) (by decide) rfl (Nat.le_of_ble_eq_true rfl) ?_
  intro p e s m args below meth c ls Q hQ hsz hx hb hr hml hown hts hlocks hnm hK hM hl
  obtain ⟨A, hAe⟩ : ∃ A, A = zA G s.heap.size := ⟨_, rfl⟩
  rw [← hAe] at hM
  have hl : lv_has ls 2 [(0, .int (nI x))] := hl
  refine lv_iload_n hx hb dJ6_numberOfLeadingZeros_0f7a4_0 rfl (lv_at hl 0 rfl) ?_
  refine z_if_gt (tgt := 15) hx hb (by omega) dJ6_numberOfLeadingZeros_0f7a4_1 (by decide) (fun hc1 => ?_) (fun hc1 => ?_)
  · have k73 : ∀ (n : Nat) (y : Nat), (1 ≤ n) → (n ≤ 31) → (0 < y) → (y < 4) → (y * 2 ^ (31 - n) ≤ x) → (x < (y + 1) * 2 ^ (31 - n)) → ∀ (ls : Array Slot) (H : Heap) (locs : List Loc), lv_has ls 2 [(1, .int (nI n)), (0, .int (nI y))] → zM Γ A s.heap (G) H locs → W p l e (zR 1) s m args below meth c H locs 0 0 Q (F0 m 73 ls []) := by
      intro n y hn0 hn1 hy0 hyl b1 b2 ls H locs hl hM
      refine lv_iload_n hx hb dJ6_numberOfLeadingZeros_0f7a4_73 rfl (lv_at hl 0 rfl) ?_
      refine lv_iload_n hx hb dJ6_numberOfLeadingZeros_0f7a4_74 rfl (lv_at hl 1 rfl) ?_
      refine lv_iconst (v := nI 1) hx hb dJ6_numberOfLeadingZeros_0f7a4_75 rfl ?_
      refine z_iushrL hx hb 1 (by omega) (by decide) dJ6_numberOfLeadingZeros_0f7a4_76 ?_
      refine z_isub hx hb (by rcases Nat.eq_zero_or_pos n with g | g; rw [g] at b1; omega; omega) dJ6_numberOfLeadingZeros_0f7a4_77 ?_
      rw [hQ]
      rw [hAe] at hM
      exact z_iret hsz hx hb hr hlocks hK hM dJ6_numberOfLeadingZeros_0f7a4_78 (by
            obtain ⟨sh, z1, z2, z3, z4⟩ := lz_fin hx31 hn1 hy0 hyl hn0 b1 b2
            exact ⟨⟨sh, congrArg nI (show n - y / 2 ^ 1 = sh + 1 by omega), z2, z3, z4⟩, rfl⟩)
    have k61 : ∀ (n : Nat) (y : Nat), (3 ≤ n) → (n ≤ 31) → (0 < y) → (y < 16) → (y * 2 ^ (31 - n) ≤ x) → (x < (y + 1) * 2 ^ (31 - n)) → ∀ (ls : Array Slot) (H : Heap) (locs : List Loc), lv_has ls 2 [(1, .int (nI n)), (0, .int (nI y))] → zM Γ A s.heap (G) H locs → W p l e (zR 1) s m args below meth c H locs 0 0 Q (F0 m 61 ls []) := by
      intro n y hn0 hn1 hy0 hyl b1 b2 ls H locs hl hM
      refine lv_iload_n hx hb dJ6_numberOfLeadingZeros_0f7a4_61 rfl (lv_at hl 1 rfl) ?_
      refine lv_iconst (v := nI 4) hx hb dJ6_numberOfLeadingZeros_0f7a4_62 rfl ?_
      refine z_icmp_lt (tgt := 73) hx hb (by omega) (by omega) dJ6_numberOfLeadingZeros_0f7a4_63 (by decide) (fun hc63 => ?_) (fun hc63 => ?_)
      · exact k73 n y (by omega) (by omega) (by omega) (by omega) (b1) (b2) ls _ _ (lv_sub hl [0, 1] rfl) hM
      · refine z_iinc (v := (n - 2)) (lv' := [(1, .int (nI (n - 2))), (0, .int (nI y))]) hx hb dJ6_numberOfLeadingZeros_0f7a4_66 hl (k := 0) rfl (nI_mk (k := 2) (by omega) (by decide)) (by decide) rfl (fun ls hl => ?_)
        refine lv_iload_n hx hb dJ6_numberOfLeadingZeros_0f7a4_69 rfl (lv_at hl 1 rfl) ?_
        refine lv_iconst (v := nI 2) hx hb dJ6_numberOfLeadingZeros_0f7a4_70 rfl ?_
        refine z_iushrL hx hb 2 (by omega) (by decide) dJ6_numberOfLeadingZeros_0f7a4_71 ?_
        refine lv_istore_n (lv' := [(0, .int (nI (y / 2 ^ 2))), (1, .int (nI (n - 2)))]) hx hb dJ6_numberOfLeadingZeros_0f7a4_72 rfl hl (by decide) rfl (fun ls hl => ?_)
        exact k73 (n - 2) (y / 2 ^ 2) (by omega) (by omega) (by omega) (by omega) (by have g := lz_step (j := 2) b1 b2; rw [show 31 - n + 2 = 31 - (n - 2) by omega] at g; exact g.1) (by have g := lz_step (j := 2) b1 b2; rw [show 31 - n + 2 = 31 - (n - 2) by omega] at g; exact g.2) ls _ _ (lv_sub hl [1, 0] rfl) hM
    have k48 : ∀ (n : Nat) (y : Nat), (7 ≤ n) → (n ≤ 31) → (0 < y) → (y < 256) → (y * 2 ^ (31 - n) ≤ x) → (x < (y + 1) * 2 ^ (31 - n)) → ∀ (ls : Array Slot) (H : Heap) (locs : List Loc), lv_has ls 2 [(1, .int (nI n)), (0, .int (nI y))] → zM Γ A s.heap (G) H locs → W p l e (zR 1) s m args below meth c H locs 0 0 Q (F0 m 48 ls []) := by
      intro n y hn0 hn1 hy0 hyl b1 b2 ls H locs hl hM
      refine lv_iload_n hx hb dJ6_numberOfLeadingZeros_0f7a4_48 rfl (lv_at hl 1 rfl) ?_
      refine lv_bipush (v := nI 16) hx hb dJ6_numberOfLeadingZeros_0f7a4_49 rfl ?_
      refine z_icmp_lt (tgt := 61) hx hb (by omega) (by omega) dJ6_numberOfLeadingZeros_0f7a4_51 (by decide) (fun hc51 => ?_) (fun hc51 => ?_)
      · exact k61 n y (by omega) (by omega) (by omega) (by omega) (b1) (b2) ls _ _ (lv_sub hl [0, 1] rfl) hM
      · refine z_iinc (v := (n - 4)) (lv' := [(1, .int (nI (n - 4))), (0, .int (nI y))]) hx hb dJ6_numberOfLeadingZeros_0f7a4_54 hl (k := 0) rfl (nI_mk (k := 4) (by omega) (by decide)) (by decide) rfl (fun ls hl => ?_)
        refine lv_iload_n hx hb dJ6_numberOfLeadingZeros_0f7a4_57 rfl (lv_at hl 1 rfl) ?_
        refine lv_iconst (v := nI 4) hx hb dJ6_numberOfLeadingZeros_0f7a4_58 rfl ?_
        refine z_iushrL hx hb 4 (by omega) (by decide) dJ6_numberOfLeadingZeros_0f7a4_59 ?_
        refine lv_istore_n (lv' := [(0, .int (nI (y / 2 ^ 4))), (1, .int (nI (n - 4)))]) hx hb dJ6_numberOfLeadingZeros_0f7a4_60 rfl hl (by decide) rfl (fun ls hl => ?_)
        exact k61 (n - 4) (y / 2 ^ 4) (by omega) (by omega) (by omega) (by omega) (by have g := lz_step (j := 4) b1 b2; rw [show 31 - n + 4 = 31 - (n - 4) by omega] at g; exact g.1) (by have g := lz_step (j := 4) b1 b2; rw [show 31 - n + 4 = 31 - (n - 4) by omega] at g; exact g.2) ls _ _ (lv_sub hl [1, 0] rfl) hM
    have k33 : ∀ (n : Nat) (y : Nat), (15 ≤ n) → (n ≤ 31) → (0 < y) → (y < 65536) → (y * 2 ^ (31 - n) ≤ x) → (x < (y + 1) * 2 ^ (31 - n)) → ∀ (ls : Array Slot) (H : Heap) (locs : List Loc), lv_has ls 2 [(1, .int (nI n)), (0, .int (nI y))] → zM Γ A s.heap (G) H locs → W p l e (zR 1) s m args below meth c H locs 0 0 Q (F0 m 33 ls []) := by
      intro n y hn0 hn1 hy0 hyl b1 b2 ls H locs hl hM
      refine lv_iload_n hx hb dJ6_numberOfLeadingZeros_0f7a4_33 rfl (lv_at hl 1 rfl) ?_
      refine lv_sipush (v := nI 256) hx hb dJ6_numberOfLeadingZeros_0f7a4_34 rfl ?_
      refine z_icmp_lt (tgt := 48) hx hb (by omega) (by omega) dJ6_numberOfLeadingZeros_0f7a4_37 (by decide) (fun hc37 => ?_) (fun hc37 => ?_)
      · exact k48 n y (by omega) (by omega) (by omega) (by omega) (b1) (b2) ls _ _ (lv_sub hl [0, 1] rfl) hM
      · refine z_iinc (v := (n - 8)) (lv' := [(1, .int (nI (n - 8))), (0, .int (nI y))]) hx hb dJ6_numberOfLeadingZeros_0f7a4_40 hl (k := 0) rfl (nI_mk (k := 8) (by omega) (by decide)) (by decide) rfl (fun ls hl => ?_)
        refine lv_iload_n hx hb dJ6_numberOfLeadingZeros_0f7a4_43 rfl (lv_at hl 1 rfl) ?_
        refine lv_bipush (v := nI 8) hx hb dJ6_numberOfLeadingZeros_0f7a4_44 rfl ?_
        refine z_iushrL hx hb 8 (by omega) (by decide) dJ6_numberOfLeadingZeros_0f7a4_46 ?_
        refine lv_istore_n (lv' := [(0, .int (nI (y / 2 ^ 8))), (1, .int (nI (n - 8)))]) hx hb dJ6_numberOfLeadingZeros_0f7a4_47 rfl hl (by decide) rfl (fun ls hl => ?_)
        exact k48 (n - 8) (y / 2 ^ 8) (by omega) (by omega) (by omega) (by omega) (by have g := lz_step (j := 8) b1 b2; rw [show 31 - n + 8 = 31 - (n - 8) by omega] at g; exact g.1) (by have g := lz_step (j := 8) b1 b2; rw [show 31 - n + 8 = 31 - (n - 8) by omega] at g; exact g.2) ls _ _ (lv_sub hl [1, 0] rfl) hM
    refine lv_bipush (v := nI 31) hx hb dJ6_numberOfLeadingZeros_0f7a4_15 rfl ?_
    refine lv_istore_n (lv' := [(1, .int (nI 31)), (0, .int (nI x))]) hx hb dJ6_numberOfLeadingZeros_0f7a4_17 rfl hl (by decide) rfl (fun ls hl => ?_)
    refine lv_iload_n hx hb dJ6_numberOfLeadingZeros_0f7a4_18 rfl (lv_at hl 1 rfl) ?_
    refine lv_ldcw hx hb hown (hts (.constant RJ6 264 (65536)) (by decide +kernel)) dJ6_numberOfLeadingZeros_0f7a4_19 ?_
    refine z_asi (y := nI 65536) (rfl) ?_
    refine z_icmp_lt (tgt := 33) hx hb (by omega) (by omega) dJ6_numberOfLeadingZeros_0f7a4_22 (by decide) (fun hc22 => ?_) (fun hc22 => ?_)
    · exact k33 31 x (by omega) (by omega) (by omega) (by omega) (by simp) (by simp) ls _ _ (lv_sub hl [0, 1] rfl) hM
    · refine z_iinc (v := (31 - 16)) (lv' := [(1, .int (nI (31 - 16))), (0, .int (nI x))]) hx hb dJ6_numberOfLeadingZeros_0f7a4_25 hl (k := 0) rfl (nI_mk (k := 16) (by omega) (by decide)) (by decide) rfl (fun ls hl => ?_)
      refine lv_iload_n hx hb dJ6_numberOfLeadingZeros_0f7a4_28 rfl (lv_at hl 1 rfl) ?_
      refine lv_bipush (v := nI 16) hx hb dJ6_numberOfLeadingZeros_0f7a4_29 rfl ?_
      refine z_iushrL hx hb 16 (by omega) (by decide) dJ6_numberOfLeadingZeros_0f7a4_31 ?_
      refine lv_istore_n (lv' := [(0, .int (nI (x / 2 ^ 16))), (1, .int (nI (31 - 16)))]) hx hb dJ6_numberOfLeadingZeros_0f7a4_32 rfl hl (by decide) rfl (fun ls hl => ?_)
      exact k33 (31 - 16) (x / 2 ^ 16) (by omega) (by omega) (by omega) (by omega) (by have g := lz_step (x := x) (y := x) (k := 0) (j := 16) (by simp) (by simp); simpa using g.1) (by have g := lz_step (x := x) (y := x) (k := 0) (j := 16) (by simp) (by simp); simpa using g.2) ls _ _ (lv_sub hl [1, 0] rfl) hM
  · exact absurd hc1 (by omega)
