set_option maxRecDepth 100000 in
set_option maxHeartbeats 4000000 in
theorem v_guessDigit (l : Launch) (Γ : zT) (G : zG) (sz : Nat) (v gr qu re tp bt : Nat) (T U : Nat → Nat) (hv : G v = some (.inr (3, [.ref gr, .ref qu, .ref re, .ref tp, .ref bt]))) (htp : G tp = some (zI Γ 49 T)) (hbt : G bt = some (zI Γ 48 U)) (htb : tp ≠ bt) (at_ len : Nat) (hl2 : 2 ≤ len) (hal : at_ + len ≤ 48) (hT : dg (fun j => T (at_ + j)) (len + 1)) (hU : dg U len) (hU1 : 1073741824 ≤ U (len - 1)) (hXV : (vl (fun j => T (at_ + j)) (len + 1)) < 2147483648 * (vl U len)) : zMl l yX1_guessDigit wsX1_guessDigit (zR 1) Γ G sz [.ref v, .int (nI at_), .int (nI len)] (fun r G' => (∃ q, r = lN q ∧ q < 2147483648 ∧ (q = (vl (fun j => T (at_ + j)) (len + 1)) / (vl U len) ∨ q = (vl (fun j => T (at_ + j)) (len + 1)) / (vl U len) + 1)) ∧ G' = G) 0 0 := by
  refine z_start (cc := cX1_guessDigit) (maxL := 16) (ret := (some .long)) (by decide) rfl (Nat.le_of_ble_eq_true rfl) ?_
  intro p e s m args below meth c ls Q hQ hsz hx hb hr hml hown hts hlocks hnm hK hM hl
  obtain ⟨A, hAe⟩ : ∃ A, A = zA G s.heap.size := ⟨_, rfl⟩
  rw [← hAe] at hM
  have hl : lv_has ls 16 [(0, .ref v), (1, .int (nI at_)), (2, .int (nI len))] := hl
  have hinX1 : ∀ w ∈ wsX10, w ∈ wsX1_guessDigit := by decide +kernel
  have hf_26 := hts (.fieldLink RX1 26 "CutRows$Divider" "top" "[I") (by decide +kernel)
  have hf_30 := hts (.fieldLink RX1 30 "CutRows$Divider" "bottom" "[I") (by decide +kernel)
  obtain ⟨k2, rfl⟩ : ∃ k2, len = k2 + 2 := ⟨len - 2, by omega⟩
  have eu : U (k2 + 2 - 1) = U (k2 + 1) := rfl
  rw [eu] at hU1
  obtain ⟨u0, hu0⟩ : ∃ u0, u0 = T (at_ + (k2 + 2)) := ⟨_, rfl⟩
  obtain ⟨u1, hu1⟩ : ∃ u1, u1 = T (at_ + (k2 + 1)) := ⟨_, rfl⟩
  obtain ⟨u2, hu2⟩ : ∃ u2, u2 = T (at_ + k2) := ⟨_, rfl⟩
  obtain ⟨v1, hv1⟩ : ∃ v1, v1 = U (k2 + 1) := ⟨_, rfl⟩
  obtain ⟨v2, hv2⟩ : ∃ v2, v2 = U k2 := ⟨_, rfl⟩
  have bu0 : u0 < 2147483648 := by rw [hu0]; exact hT (k2 + 2) (by omega)
  have bu1 : u1 < 2147483648 := by rw [hu1]; exact hT (k2 + 1) (by omega)
  have bu2 : u2 < 2147483648 := by rw [hu2]; exact hT k2 (by omega)
  have bv1 : v1 < 2147483648 := by rw [hv1]; exact hU (k2 + 1) (by omega)
  have bv2 : v2 < 2147483648 := by rw [hv2]; exact hU k2 (by omega)
  rw [← hv1] at hU1
  obtain ⟨XX, hXX⟩ : ∃ XX, XX = vl (fun j => T (at_ + j)) (k2 + 2 + 1) := ⟨_, rfl⟩
  obtain ⟨VV, hVV⟩ : ∃ VV, VV = vl U (k2 + 2) := ⟨_, rfl⟩
  rw [← hXX, ← hVV] at hXV
  rw [← hXX, ← hVV] at hQ
  have eX : XX = (u0 * 2147483648 * 2147483648 + u1 * 2147483648 + u2) * bp k2 + vl (fun j => T (at_ + j)) k2 := by
    rw [hXX, vl_s, vl_s, vl_s, show bp (k2 + 2) = 2147483648 * (2147483648 * bp k2) by rw [bp_s, bp_s], bp_s, hu0, hu1, hu2, Nat.add_mul, Nat.add_mul, Nat.mul_assoc, Nat.mul_assoc, Nat.mul_assoc]; omega
  have eV : VV = (v1 * 2147483648 + v2) * bp k2 + vl U k2 := by rw [hVV, vl_s, vl_s, bp_s, hv1, hv2, Nat.add_mul, Nat.mul_assoc]; omega
  have lX : vl (fun j => T (at_ + j)) k2 < bp k2 := vl_lt (hT.le (by omega))
  have lV : vl U k2 < bp k2 := vl_lt (hU.le (by omega))
  have hVp : 0 < VV := by rw [eV]; have g := mul_le_r (bp k2) (show 1 ≤ v1 * 2147483648 + v2 by omega); omega
  have hu0v : u0 ≤ v1 := by
    rcases Nat.lt_or_ge v1 u0 with g | g
    · have g1 := mul_le_r (bp k2) (show (v1 + 1) * 2147483648 * 2147483648 ≤ u0 * 2147483648 * 2147483648 + u1 * 2147483648 + u2 by omega)
      have g2 := mul_le_r (bp k2) (show v1 * 2147483648 + v2 + 1 ≤ (v1 + 1) * 2147483648 by omega)
      rw [Nat.add_mul _ 1] at g2
      have g3 : (v1 + 1) * 2147483648 * 2147483648 * bp k2 = 2147483648 * ((v1 + 1) * 2147483648 * bp k2) := by rw [Nat.mul_comm ((v1 + 1) * 2147483648) 2147483648, Nat.mul_assoc]
      omega
    · exact g
  refine lv_aload_n hx hb dX1_guessDigit_0 rfl (lv_at hl 0 rfl) ?_
  refine z_get (C := RX1) (T := TX1) (N := 5) (v := .ref tp) hx hb hts hinX1 hown hK hM hv 3 hf_26 rfl rfl (by decide) rfl dX1_guessDigit_1 ?_
  refine lv_iload_n hx hb dX1_guessDigit_4 rfl (lv_at hl 1 rfl) ?_
  refine lv_iload_n hx hb dX1_guessDigit_5 rfl (lv_at hl 2 rfl) ?_
  refine z_iadd hx hb dX1_guessDigit_6 ?_
  refine z_asi (y := nI (at_ + (k2 + 2))) (congrArg nI (by omega)) ?_
  refine z_ild hx hb hK hM htp (by omega) (by omega) dX1_guessDigit_7 ?_
  refine z_asi (y := nI u0) (congrArg nI hu0.symm) ?_
  refine z_i2l hx hb (by omega) dX1_guessDigit_8 ?_
  refine lv_bipush (v := nI 31) hx hb dX1_guessDigit_9 rfl ?_
  refine z_lshl31 hx hb dX1_guessDigit_11 ?_
  refine lv_aload_n hx hb dX1_guessDigit_12 rfl (lv_at hl 0 rfl) ?_
  refine z_get (C := RX1) (T := TX1) (N := 5) (v := .ref tp) hx hb hts hinX1 hown hK hM hv 3 hf_26 rfl rfl (by decide) rfl dX1_guessDigit_13 ?_
  refine lv_iload_n hx hb dX1_guessDigit_16 rfl (lv_at hl 1 rfl) ?_
  refine lv_iload_n hx hb dX1_guessDigit_17 rfl (lv_at hl 2 rfl) ?_
  refine z_iadd hx hb dX1_guessDigit_18 ?_
  refine lv_iconst (v := nI 1) hx hb dX1_guessDigit_19 rfl ?_
  refine z_isub hx hb (by omega) dX1_guessDigit_20 ?_
  refine z_asi (y := nI (at_ + (k2 + 1))) (congrArg nI (by omega)) ?_
  refine z_ild hx hb hK hM htp (by omega) (by omega) dX1_guessDigit_21 ?_
  refine z_asi (y := nI u1) (congrArg nI hu1.symm) ?_
  refine z_i2l hx hb (by omega) dX1_guessDigit_22 ?_
  refine z_lor31 hx hb (by omega) (by omega) dX1_guessDigit_23 ?_
  refine lv_lstore_n (lv' := [(3, .long (lN (u0 * 2147483648 + u1))), (0, .ref v), (1, .int (nI at_)), (2, .int (nI (k2 + 2)))]) hx hb dX1_guessDigit_24 rfl hl (by decide) rfl (fun ls hl => ?_)
  refine lv_aload_n hx hb dX1_guessDigit_25 rfl (lv_at hl 1 rfl) ?_
  refine z_get (C := RX1) (T := TX1) (N := 5) (v := .ref bt) hx hb hts hinX1 hown hK hM hv 4 hf_30 rfl rfl (by decide) rfl dX1_guessDigit_26 ?_
  refine lv_iload_n hx hb dX1_guessDigit_29 rfl (lv_at hl 3 rfl) ?_
  refine lv_iconst (v := nI 1) hx hb dX1_guessDigit_30 rfl ?_
  refine z_isub hx hb (by omega) dX1_guessDigit_31 ?_
  refine z_asi (y := nI (k2 + 1)) (congrArg nI (by omega)) ?_
  refine z_ild hx hb hK hM hbt (by omega) (by omega) dX1_guessDigit_32 ?_
  refine z_asi (y := nI v1) (congrArg nI hv1.symm) ?_
  refine z_i2l hx hb (by omega) dX1_guessDigit_33 ?_
  refine lv_lstore (lv' := [(5, .long (lN v1)), (3, .long (lN (u0 * 2147483648 + u1))), (0, .ref v), (1, .int (nI at_)), (2, .int (nI (k2 + 2)))]) hx hb dX1_guessDigit_34 hl (by decide) rfl (fun ls hl => ?_)
  refine lv_aload_n hx hb dX1_guessDigit_36 rfl (lv_at hl 2 rfl) ?_
  refine z_get (C := RX1) (T := TX1) (N := 5) (v := .ref bt) hx hb hts hinX1 hown hK hM hv 4 hf_30 rfl rfl (by decide) rfl dX1_guessDigit_37 ?_
  refine lv_iload_n hx hb dX1_guessDigit_40 rfl (lv_at hl 4 rfl) ?_
  refine lv_iconst (v := nI 2) hx hb dX1_guessDigit_41 rfl ?_
  refine z_isub hx hb (by omega) dX1_guessDigit_42 ?_
  refine z_asi (y := nI k2) (congrArg nI (by omega)) ?_
  refine z_ild hx hb hK hM hbt (by omega) (by omega) dX1_guessDigit_43 ?_
  refine z_asi (y := nI v2) (congrArg nI hv2.symm) ?_
  refine z_i2l hx hb (by omega) dX1_guessDigit_44 ?_
  refine lv_lstore (lv' := [(7, .long (lN v2)), (5, .long (lN v1)), (3, .long (lN (u0 * 2147483648 + u1))), (0, .ref v), (1, .int (nI at_)), (2, .int (nI (k2 + 2)))]) hx hb dX1_guessDigit_45 hl (by decide) rfl (fun ls hl => ?_)
  have hq0 := Nat.div_add_mod (u0 * 2147483648 + u1) v1
  have hr0 := Nat.mod_lt (u0 * 2147483648 + u1) (show 0 < v1 by omega)
  have hqb : (u0 * 2147483648 + u1) / v1 < 2147483650 := (Nat.div_lt_iff_lt_mul (show 0 < v1 by omega)).mpr (by have g := mul_le_r 2147483648 hu0v; omega)
  have hlo0 := kn_lo0 (X := XX) (V := VV) rfl eV eX lX bu2 (show 0 < v1 by omega)
  refine lv_lload_n hx hb dX1_guessDigit_47 rfl (lv_at hl 2 rfl) ?_
  refine lv_lload hx hb dX1_guessDigit_48 (lv_at hl 1 rfl) ?_
  refine z_ldiv hx hb (by omega) (by omega) (by omega) dX1_guessDigit_50 ?_
  refine lv_lstore (lv' := [(9, .long (lN ((u0 * 2147483648 + u1) / v1))), (7, .long (lN v2)), (5, .long (lN v1)), (3, .long (lN (u0 * 2147483648 + u1))), (0, .ref v), (1, .int (nI at_)), (2, .int (nI (k2 + 2)))]) hx hb dX1_guessDigit_51 hl (by decide) rfl (fun ls hl => ?_)
  refine lv_lload_n hx hb dX1_guessDigit_53 rfl (lv_at hl 3 rfl) ?_
  refine lv_lload hx hb dX1_guessDigit_54 (lv_at hl 2 rfl) ?_
  refine z_lrem hx hb (by omega) (by omega) (by omega) dX1_guessDigit_56 ?_
  refine lv_lstore (lv' := [(11, .long (lN ((u0 * 2147483648 + u1) % v1))), (9, .long (lN ((u0 * 2147483648 + u1) / v1))), (7, .long (lN v2)), (5, .long (lN v1)), (3, .long (lN (u0 * 2147483648 + u1))), (0, .ref v), (1, .int (nI at_)), (2, .int (nI (k2 + 2)))]) hx hb dX1_guessDigit_57 hl (by decide) rfl (fun ls hl => ?_)
  refine lv_iconst (v := nI 0) hx hb dX1_guessDigit_59 rfl ?_
  refine lv_istore (lv' := [(13, .int (nI 0)), (11, .long (lN ((u0 * 2147483648 + u1) % v1))), (9, .long (lN ((u0 * 2147483648 + u1) / v1))), (7, .long (lN v2)), (5, .long (lN v1)), (3, .long (lN (u0 * 2147483648 + u1))), (0, .ref v), (1, .int (nI at_)), (2, .int (nI (k2 + 2)))]) hx hb dX1_guessDigit_60 hl (by decide) rfl (fun ls hl => ?_)
  have lp : ∀ (μ : Nat) (f : Nat) (rest : Nat) (q : Nat), 2 - f = μ → (f ≤ 2) → (q + f = (u0 * 2147483648 + u1) / v1) → (u0 * 2147483648 + u1 = q * v1 + rest) → (XX / VV ≤ q) → (rest = (u0 * 2147483648 + u1) % v1 + f * v1) → (rest < 2 ^ 34) → ∀ (ls : Array Slot) (H : Heap) (locs : List Loc), lv_has ls 16 [(13, .int (nI f)), (11, .long (lN rest)), (9, .long (lN q)), (7, .long (lN v2)), (5, .long (lN v1)), (3, .long (lN (u0 * 2147483648 + u1))), (0, .ref v), (1, .int (nI at_)), (2, .int (nI (k2 + 2)))] → zM Γ A s.heap (G) H locs → W p l e (zR 1) s m args below meth c H locs 0 0 Q (F0 m 62 ls []) := by
    intro μ
    induction μ using Nat.strongRecOn with
    | _ μ ihlp =>
      intro f rest q hμ hf hqf hh hlo hrf hrl ls H locs hl hM
      refine lv_iload hx hb dX1_guessDigit_62 (lv_at hl 0 rfl) ?_
      refine lv_iconst (v := nI 2) hx hb dX1_guessDigit_64 rfl ?_
      refine z_icmp_ge (tgt := 138) hx hb (by omega) (by omega) dX1_guessDigit_65 (by decide) (fun hc65 => ?_) (fun hc65 => ?_)
      · refine lv_lload hx hb dX1_guessDigit_138 (lv_at hl 2 rfl) ?_
        rw [hQ]
        rw [hAe] at hM
        exact z_lret hsz hx hb hr hlocks hK hM dX1_guessDigit_140 (by
              have hf2 : f = 2 := by omega
              rw [hf2] at hrf hqf
              have hqs : q < 2147483648 := by omega
              have htl : q * v2 ≤ rest * 2147483648 + u2 := by have g1 : q * v2 ≤ 2147483648 * 2147483648 := Nat.mul_le_mul (by omega) (by omega); have g2 := mul_le_r 2147483648 (show 2147483648 ≤ rest by omega); omega
              have hhi := kn_hi rfl eV eX lV hU1 hh (by omega) htl
              exact ⟨⟨q, rfl, by omega, by rcases Nat.lt_or_ge (XX / VV) q with g | g; exact Or.inr (by omega); exact Or.inl (by omega)⟩, rfl⟩)
      · refine lv_lload hx hb dX1_guessDigit_68 (lv_at hl 1 rfl) ?_
        refine lv_ldc2 hx hb hown (hts (.constantLong RX1 92 (2147483647)) (by decide +kernel)) dX1_guessDigit_70 ?_
        refine z_asl (y := lN 2147483647) (rfl) ?_
        refine W.lcmp hx hb dX1_guessDigit_73 ?_
        refine lv_if_gt (tgt := 138) hx hb dX1_guessDigit_74 (by decide) (fun hc74 => ?_) (fun hc74 => ?_)
        · have hrb : 2147483647 < rest := (cmp_gtN (by omega) (by omega)).mp hc74
          refine lv_lload hx hb dX1_guessDigit_138 (lv_at hl 2 rfl) ?_
          rw [hQ]
          rw [hAe] at hM
          exact z_lret hsz hx hb hr hlocks hK hM dX1_guessDigit_140 (by
                have hf1 : f = 1 := by rcases (show f = 0 ∨ f = 1 by omega) with h9 | h9; rw [h9] at hrf; omega; exact h9
                rw [hf1] at hrf hqf
                have hqs : q < 2147483648 := by rcases Nat.lt_or_ge q 2147483648 with g9 | g9; exact g9; have hqe : q = 2147483648 := by omega
                                                rw [hqe] at hh; have g := mul_le_r 2147483648 hu0v; omega
                have htl : q * v2 ≤ rest * 2147483648 + u2 := by have g1 : q * v2 ≤ 2147483648 * 2147483648 := Nat.mul_le_mul (by omega) (by omega); have g2 := mul_le_r 2147483648 (show 2147483648 ≤ rest by omega); omega
                have hhi := kn_hi rfl eV eX lV hU1 hh (by omega) htl
                exact ⟨⟨q, rfl, by omega, by rcases Nat.lt_or_ge (XX / VV) q with g | g; exact Or.inr (by omega); exact Or.inl (by omega)⟩, rfl⟩)
        · have hrs : rest ≤ 2147483647 := by have g := mt (cmp_gtN (show rest < 2 ^ 63 by omega) (show 2147483647 < 2 ^ 63 by decide)).mpr hc74; omega
          refine lv_lload hx hb dX1_guessDigit_77 (lv_at hl 1 rfl) ?_
          refine lv_bipush (v := nI 31) hx hb dX1_guessDigit_79 rfl ?_
          refine z_lshl31 hx hb dX1_guessDigit_81 ?_
          refine lv_aload_n hx hb dX1_guessDigit_82 rfl (lv_at hl 6 rfl) ?_
          refine z_get (C := RX1) (T := TX1) (N := 5) (v := .ref tp) hx hb hts hinX1 hown hK hM hv 3 hf_26 rfl rfl (by decide) rfl dX1_guessDigit_83 ?_
          refine lv_iload_n hx hb dX1_guessDigit_86 rfl (lv_at hl 7 rfl) ?_
          refine lv_iload_n hx hb dX1_guessDigit_87 rfl (lv_at hl 8 rfl) ?_
          refine z_iadd hx hb dX1_guessDigit_88 ?_
          refine lv_iconst (v := nI 2) hx hb dX1_guessDigit_89 rfl ?_
          refine z_isub hx hb (by omega) dX1_guessDigit_90 ?_
          refine z_asi (y := nI (at_ + k2)) (congrArg nI (by omega)) ?_
          refine z_ild hx hb hK hM htp (by omega) (by omega) dX1_guessDigit_91 ?_
          refine z_asi (y := nI u2) (congrArg nI hu2.symm) ?_
          refine z_i2l hx hb (by omega) dX1_guessDigit_92 ?_
          refine z_lor31 hx hb (by omega) (by omega) dX1_guessDigit_93 ?_
          refine lv_lstore (lv' := [(14, .long (lN (rest * 2147483648 + u2))), (13, .int (nI f)), (11, .long (lN rest)), (9, .long (lN q)), (7, .long (lN v2)), (5, .long (lN v1)), (3, .long (lN (u0 * 2147483648 + u1))), (0, .ref v), (1, .int (nI at_)), (2, .int (nI (k2 + 2)))]) hx hb dX1_guessDigit_94 hl (by decide) rfl (fun ls hl => ?_)
          refine lv_lload hx hb dX1_guessDigit_96 (lv_at hl 3 rfl) ?_
          refine lv_ldc2 hx hb hown (hts (.constantLong RX1 92 (2147483647)) (by decide +kernel)) dX1_guessDigit_98 ?_
          refine z_asl (y := lN 2147483647) (rfl) ?_
          refine W.lcmp hx hb dX1_guessDigit_101 ?_
          refine lv_if_gt (tgt := 119) hx hb dX1_guessDigit_102 (by decide) (fun hc102 => ?_) (fun hc102 => ?_)
          · have hqg : 2147483647 < q := (cmp_gtN (by omega) (by omega)).mp hc102
            have hqt : XX / VV < q := by rw [Nat.div_lt_iff_lt_mul hVp]; have g := mul_le_r VV (show 2147483648 ≤ q by omega); omega
            have hq1 : 1 ≤ q := Nat.lt_of_le_of_lt (Nat.zero_le _) hqt
            refine lv_lload hx hb dX1_guessDigit_119 (lv_at hl 3 rfl) ?_
            refine lv_lconst (v := lN 1) hx hb dX1_guessDigit_121 rfl ?_
            refine z_lsub hx hb (hq1) dX1_guessDigit_122 ?_
            refine lv_lstore (lv' := [(9, .long (lN (q - 1))), (14, .long (lN (rest * 2147483648 + u2))), (13, .int (nI f)), (11, .long (lN rest)), (7, .long (lN v2)), (5, .long (lN v1)), (3, .long (lN (u0 * 2147483648 + u1))), (0, .ref v), (1, .int (nI at_)), (2, .int (nI (k2 + 2)))]) hx hb dX1_guessDigit_123 hl (by decide) rfl (fun ls hl => ?_)
            refine lv_lload hx hb dX1_guessDigit_125 (lv_at hl 3 rfl) ?_
            refine lv_lload hx hb dX1_guessDigit_127 (lv_at hl 5 rfl) ?_
            refine z_ladd hx hb dX1_guessDigit_129 ?_
            refine lv_lstore (lv' := [(11, .long (lN (rest + v1))), (9, .long (lN (q - 1))), (14, .long (lN (rest * 2147483648 + u2))), (13, .int (nI f)), (7, .long (lN v2)), (5, .long (lN v1)), (3, .long (lN (u0 * 2147483648 + u1))), (0, .ref v), (1, .int (nI at_)), (2, .int (nI (k2 + 2)))]) hx hb dX1_guessDigit_130 hl (by decide) rfl (fun ls hl => ?_)
            refine z_iinc (v := (f + 1)) (lv' := [(13, .int (nI (f + 1))), (11, .long (lN (rest + v1))), (9, .long (lN (q - 1))), (14, .long (lN (rest * 2147483648 + u2))), (7, .long (lN v2)), (5, .long (lN v1)), (3, .long (lN (u0 * 2147483648 + u1))), (0, .ref v), (1, .int (nI at_)), (2, .int (nI (k2 + 2)))]) hx hb dX1_guessDigit_132 hl (k := 3) rfl (nI_p1 _) (by decide) rfl (fun ls hl => ?_)
            refine lv_goto (tgt := 62) hx hb dX1_guessDigit_135 (by decide) ?_
            exact ihlp _ (by omega) (f + 1) (rest + v1) (q - 1) rfl (by omega) (by omega) (by rw [hh]; obtain ⟨q9, rfl⟩ : ∃ q9, q = q9 + 1 := ⟨q - 1, by omega⟩; rw [Nat.add_sub_cancel, Nat.add_mul]; omega) (by omega) (by rw [hrf, Nat.add_mul]; omega) (by omega) ls _ _ (lv_sub hl [0, 1, 2, 4, 5, 6, 7, 8, 9] rfl) hM
          · have hqs : q ≤ 2147483647 := by have g := mt (cmp_gtN (show q < 2 ^ 63 by omega) (show 2147483647 < 2 ^ 63 by decide)).mpr hc102; omega
            have hqv : q * v2 ≤ 2147483647 * 2147483647 := Nat.mul_le_mul (by omega) (by omega)
            refine lv_lload hx hb dX1_guessDigit_105 (lv_at hl 3 rfl) ?_
            refine lv_lload hx hb dX1_guessDigit_107 (lv_at hl 4 rfl) ?_
            refine z_lmul hx hb dX1_guessDigit_109 ?_
            refine lv_lload hx hb dX1_guessDigit_110 (lv_at hl 0 rfl) ?_
            refine W.lcmp hx hb dX1_guessDigit_112 ?_
            refine lv_if_gt (tgt := 119) hx hb dX1_guessDigit_113 (by decide) (fun hc113 => ?_) (fun hc113 => ?_)
            · have htg : rest * 2147483648 + u2 < q * v2 := (cmp_gtN (by omega) (by omega)).mp hc113
              have hqt : XX / VV < q := kn_lo eV eX lX hVp hh htg
              have hq1 : 1 ≤ q := Nat.lt_of_le_of_lt (Nat.zero_le _) hqt
              refine lv_lload hx hb dX1_guessDigit_119 (lv_at hl 3 rfl) ?_
              refine lv_lconst (v := lN 1) hx hb dX1_guessDigit_121 rfl ?_
              refine z_lsub hx hb (hq1) dX1_guessDigit_122 ?_
              refine lv_lstore (lv' := [(9, .long (lN (q - 1))), (14, .long (lN (rest * 2147483648 + u2))), (13, .int (nI f)), (11, .long (lN rest)), (7, .long (lN v2)), (5, .long (lN v1)), (3, .long (lN (u0 * 2147483648 + u1))), (0, .ref v), (1, .int (nI at_)), (2, .int (nI (k2 + 2)))]) hx hb dX1_guessDigit_123 hl (by decide) rfl (fun ls hl => ?_)
              refine lv_lload hx hb dX1_guessDigit_125 (lv_at hl 3 rfl) ?_
              refine lv_lload hx hb dX1_guessDigit_127 (lv_at hl 5 rfl) ?_
              refine z_ladd hx hb dX1_guessDigit_129 ?_
              refine lv_lstore (lv' := [(11, .long (lN (rest + v1))), (9, .long (lN (q - 1))), (14, .long (lN (rest * 2147483648 + u2))), (13, .int (nI f)), (7, .long (lN v2)), (5, .long (lN v1)), (3, .long (lN (u0 * 2147483648 + u1))), (0, .ref v), (1, .int (nI at_)), (2, .int (nI (k2 + 2)))]) hx hb dX1_guessDigit_130 hl (by decide) rfl (fun ls hl => ?_)
              refine z_iinc (v := (f + 1)) (lv' := [(13, .int (nI (f + 1))), (11, .long (lN (rest + v1))), (9, .long (lN (q - 1))), (14, .long (lN (rest * 2147483648 + u2))), (7, .long (lN v2)), (5, .long (lN v1)), (3, .long (lN (u0 * 2147483648 + u1))), (0, .ref v), (1, .int (nI at_)), (2, .int (nI (k2 + 2)))]) hx hb dX1_guessDigit_132 hl (k := 3) rfl (nI_p1 _) (by decide) rfl (fun ls hl => ?_)
              refine lv_goto (tgt := 62) hx hb dX1_guessDigit_135 (by decide) ?_
              exact ihlp _ (by omega) (f + 1) (rest + v1) (q - 1) rfl (by omega) (by omega) (by rw [hh]; obtain ⟨q9, rfl⟩ : ∃ q9, q = q9 + 1 := ⟨q - 1, by omega⟩; rw [Nat.add_sub_cancel, Nat.add_mul]; omega) (by omega) (by rw [hrf, Nat.add_mul]; omega) (by omega) ls _ _ (lv_sub hl [0, 1, 2, 4, 5, 6, 7, 8, 9] rfl) hM
            · have htl : q * v2 ≤ rest * 2147483648 + u2 := by have g := mt (cmp_gtN (show q * v2 < 2 ^ 63 by omega) (show rest * 2147483648 + u2 < 2 ^ 63 by omega)).mpr hc113; omega
              refine lv_goto (tgt := 138) hx hb dX1_guessDigit_116 (by decide) ?_
              refine lv_lload hx hb dX1_guessDigit_138 (lv_at hl 3 rfl) ?_
              rw [hQ]
              rw [hAe] at hM
              exact z_lret hsz hx hb hr hlocks hK hM dX1_guessDigit_140 (by
                    have hqs9 : q < 2147483648 := by omega
                    have hhi := kn_hi rfl eV eX lV hU1 hh (by omega) htl
                    exact ⟨⟨q, rfl, by omega, by rcases Nat.lt_or_ge (XX / VV) q with g | g; exact Or.inr (by omega); exact Or.inl (by omega)⟩, rfl⟩)
  exact lp _ 0 ((u0 * 2147483648 + u1) % v1) ((u0 * 2147483648 + u1) / v1) rfl (by omega) rfl (by rw [Nat.mul_comm _ v1]; exact hq0.symm) hlo0 (by omega) (by omega) ls _ _ (lv_sub hl [0, 1, 2, 3, 4, 5, 6, 7, 8] rfl) hM

set_option maxRecDepth 100000 in
set_option maxHeartbeats 4000000 in
theorem v_shiftUp (l : Launch) (Γ : zT) (G : zG) (sz : Nat) (a la r n : Nat) (sg : Int32) (d : Nat → Nat) (ha : G a = some (wh la n sg)) (hla : G la = some (zI Γ r d)) (to_ mm sh : Nat) (t : Nat → Nat) (hto : G to_ = some (zI Γ mm t)) (hne : la ≠ to_) (hnr : n ≤ r) (hr31 : r < 2 ^ 31) (hnm : n ≤ mm) (hm31 : mm < 2 ^ 31) (hsh : sh ≤ 30) (hd : dg d n) : zMi l yX1_shiftUp wsX1_shiftUp (zR 1) Γ G sz [.ref a, .int (nI sh), .ref to_] (fun x G' => ∃ t' cy, G' = zup G to_ (zI Γ mm t') ∧ x = nI cy ∧ cy < 2 ^ sh ∧ dg t' n ∧ vl t' n + cy * bp n = vl d n * 2 ^ sh ∧ ∀ j, n ≤ j → t' j = t j) 0 0 := by
  refine z_start (cc := cX1_shiftUp) (maxL := 6) (ret := (some .int)) (by decide) rfl (Nat.le_of_ble_eq_true rfl) ?_
  intro p e s m args below meth c ls Q hQ hsz hx hb hr hml hown hts hlocks hnm hK hM hl
  obtain ⟨A, hAe⟩ : ∃ A, A = zA G s.heap.size := ⟨_, rfl⟩
  rw [← hAe] at hM
  have hl : lv_has ls 6 [(0, .ref a), (1, .int (nI sh)), (2, .ref to_)] := hl
  have hinX3 : ∀ w ∈ wsX30, w ∈ wsX1_shiftUp := by decide +kernel
  have hf_34 := hts (.fieldLink RX1 34 "CutRows$Whole" "size" "I") (by decide +kernel)
  have hf_59 := hts (.fieldLink RX1 59 "CutRows$Whole" "limbs" "[I") (by decide +kernel)
  refine lv_lconst (v := lN 0) hx hb dX1_shiftUp_0 rfl ?_
  refine lv_lstore_n (lv' := [(3, .long (lN 0)), (0, .ref a), (1, .int (nI sh)), (2, .ref to_)]) hx hb dX1_shiftUp_1 rfl hl (by decide) rfl (fun ls hl => ?_)
  refine lv_iconst (v := nI 0) hx hb dX1_shiftUp_2 rfl ?_
  refine lv_istore (lv' := [(5, .int (nI 0)), (3, .long (lN 0)), (0, .ref a), (1, .int (nI sh)), (2, .ref to_)]) hx hb dX1_shiftUp_3 hl (by decide) rfl (fun ls hl => ?_)
  have hp : 2 ^ sh ≤ 2 ^ 30 := Nat.pow_le_pow_right (by decide) hsh
  have hp0 : 0 < 2 ^ sh := Nat.pow_pos (by decide)
  have lp : ∀ (μ : Nat) (i : Nat) (cy : Nat) (t1 : Nat → Nat), n - i = μ → (i ≤ n) → (cy < 2 ^ sh) → (∀ j, i ≤ j → t1 j = t j) → (dg t1 i) → (vl t1 i + cy * bp i = vl d i * 2 ^ sh) → ∀ (ls : Array Slot) (H : Heap) (locs : List Loc), lv_has ls 6 [(5, .int (nI i)), (3, .long (lN cy)), (0, .ref a), (1, .int (nI sh)), (2, .ref to_)] → zM Γ A s.heap (zup G to_ (zI Γ mm t1)) H locs → W p l e (zR 1) s m args below meth c H locs 0 0 Q (F0 m 5 ls []) := by
    intro μ
    induction μ using Nat.strongRecOn with
    | _ μ ihlp =>
      intro i cy t1 hμ hi hcy h1 h2 h3 ls H locs hl hM
      refine lv_iload hx hb dX1_shiftUp_5 (lv_at hl 0 rfl) ?_
      refine lv_aload_n hx hb dX1_shiftUp_7 rfl (lv_at hl 2 rfl) ?_
      refine z_get (C := RX3) (T := TX3) (N := 3) (v := .int (nI n)) hx hb hts hinX3 hown hK hM ((zup_n _ _ (zne ha hto (by intro h; cases h))).trans ha) 1 hf_34 rfl rfl (by decide) rfl dX1_shiftUp_8 ?_
      refine z_icmp_ge (tgt := 47) hx hb (by omega) (by omega) dX1_shiftUp_11 (by decide) (fun hc11 => ?_) (fun hc11 => ?_)
      · refine lv_lload_n hx hb dX1_shiftUp_47 rfl (lv_at hl 1 rfl) ?_
        refine z_l2i hx hb dX1_shiftUp_48 ?_
        rw [hQ]
        rw [hAe] at hM
        exact z_iret hsz hx hb hr hlocks hK hM dX1_shiftUp_49 (⟨t1, cy, rfl, rfl, hcy, by rw [show n = i by omega]; exact h2, by rw [show n = i by omega]; exact h3, fun j hj => h1 j (by omega)⟩)
      · have hx1 : d i < 2147483648 := hd i (by omega)
        have hx2 : d i * 2 ^ sh ≤ 2147483647 * 2 ^ 30 := Nat.mul_le_mul (by omega) hp
        have hx3 : (cy + d i * 2 ^ sh) / 2147483648 < 2 ^ sh := by rw [Nat.div_lt_iff_lt_mul (by decide)]; have g := mul_le_r (2 ^ sh) (show d i + 1 ≤ 2147483648 by omega); rw [Nat.add_mul] at g; omega
        refine lv_lload_n hx hb dX1_shiftUp_14 rfl (lv_at hl 1 rfl) ?_
        refine lv_aload_n hx hb dX1_shiftUp_15 rfl (lv_at hl 2 rfl) ?_
        refine z_get (C := RX3) (T := TX3) (N := 3) (v := .ref la) hx hb hts hinX3 hown hK hM ((zup_n _ _ (zne ha hto (by intro h; cases h))).trans ha) 0 hf_59 rfl rfl (by decide) rfl dX1_shiftUp_16 ?_
        refine lv_iload hx hb dX1_shiftUp_19 (lv_at hl 0 rfl) ?_
        refine z_ild hx hb hK hM ((zup_n _ _ hne).trans hla) (by omega) (by omega) dX1_shiftUp_21 ?_
        refine z_i2l hx hb (by omega) dX1_shiftUp_22 ?_
        refine lv_iload_n hx hb dX1_shiftUp_23 rfl (lv_at hl 3 rfl) ?_
        refine z_lshlK hx hb (by omega) dX1_shiftUp_24 ?_
        refine z_lorK hx hb (hcy) (by omega) dX1_shiftUp_25 ?_
        refine lv_lstore_n (lv' := [(3, .long (lN (cy + (d i) * 2 ^ sh))), (5, .int (nI i)), (0, .ref a), (1, .int (nI sh)), (2, .ref to_)]) hx hb dX1_shiftUp_26 rfl hl (by decide) rfl (fun ls hl => ?_)
        refine lv_aload_n hx hb dX1_shiftUp_27 rfl (lv_at hl 4 rfl) ?_
        refine lv_iload hx hb dX1_shiftUp_28 (lv_at hl 1 rfl) ?_
        refine lv_lload_n hx hb dX1_shiftUp_30 rfl (lv_at hl 0 rfl) ?_
        refine z_l2i hx hb dX1_shiftUp_31 ?_
        refine lv_ldc hx hb hown (hts (.constant RX1 91 (2147483647)) (by decide +kernel)) dX1_shiftUp_32 ?_
        refine z_asi (y := nI 2147483647) (rfl) ?_
        refine z_iandU hx hb dX1_shiftUp_34 ?_
        refine z_ist hx hb hK hM (zup_s _ _ _) (by omega) (by omega) dX1_shiftUp_35 (fun H locs hM => ?_)
        have hM : zM Γ A s.heap (zup G to_ (zI Γ mm (va_up t1 i ((cy + (d i) * 2 ^ sh) % 2147483648)))) H locs := by
          rw [zup_zup] at hM; exact hM
        refine lv_lload_n hx hb dX1_shiftUp_36 rfl (lv_at hl 0 rfl) ?_
        refine lv_bipush (v := nI 31) hx hb dX1_shiftUp_37 rfl ?_
        refine z_lushr31 hx hb (by omega) dX1_shiftUp_39 ?_
        refine lv_lstore_n (lv' := [(3, .long (lN ((cy + (d i) * 2 ^ sh) / 2147483648))), (5, .int (nI i)), (0, .ref a), (1, .int (nI sh)), (2, .ref to_)]) hx hb dX1_shiftUp_40 rfl hl (by decide) rfl (fun ls hl => ?_)
        refine z_iinc (v := (i + 1)) (lv' := [(5, .int (nI (i + 1))), (3, .long (lN ((cy + (d i) * 2 ^ sh) / 2147483648))), (0, .ref a), (1, .int (nI sh)), (2, .ref to_)]) hx hb dX1_shiftUp_41 hl (k := 1) rfl (nI_p1 _) (by decide) rfl (fun ls hl => ?_)
        refine lv_goto (tgt := 5) hx hb dX1_shiftUp_44 (by decide) ?_
        exact ihlp _ (by omega) (i + 1) ((cy + d i * 2 ^ sh) / 2147483648) (va_up t1 i ((cy + d i * 2 ^ sh) % 2147483648)) rfl (by omega) (hx3) (fun j hj => by rw [va_up_ne _ _ (by omega)]; exact h1 j (by omega)) (up_dg0 h2 (by omega)) (by rw [up_vl0]; exact su_step h3) ls _ _ (lv_sub hl [0, 1, 2, 3, 4] rfl) hM
  exact lp _ 0 0 t rfl (by omega) hp0 (fun _ _ => rfl) (fun _ h => by omega) (by simp [vl_0]) ls _ _ (lv_sub hl [0, 1, 2, 3, 4] rfl) (by rw [zup_self _ hto]; exact hM)
