set_option maxRecDepth 100000 in
set_option maxHeartbeats 4000000 in
theorem m_divide (l : Launch) (Γ : zT) {o lF lL lB : Nat} (hok : mdk o lF lL lB) (G0 : zG) (fl : Nat → Int32) (F L B : Nat → Nat) (sz : Nat) (a b va vb : Nat) (ha : a < 445) (hbb : b < 445) (na : nv F L a va) (nb : nv F L b vb) (n1 : nv F L 447 1) (hvb : 0 < vb) (hLa : L a ≤ 70) (hLb : L b ≤ 70) (hBa : B a < 2) : zMv l yX5_divide wsX5_divide (zR 3) Γ (md Γ o lF lL lB G0 fl F L B) sz [.ref o, .int (nI a), .int (nI b)] (fun G' => ∃ F' L' B', G' = md Γ o lF lL lB G0 fl F' L' B' ∧ sm 445 447 F L B F' L' B' ∧ nv F' L' 445 (va / vb) ∧ nv F' L' 446 (va % vb) ∧ B' 445 = 0 ∧ B' 446 = 0) 0 0 := by
  refine z_start (cc := cX5_divide) (maxL := 10) (ret := none) (by decide) rfl (Nat.le_of_ble_eq_true rfl) ?_
  intro p e s m args below meth c ls Q hQ hsz hx hb hr hml hown hts hlocks hnm hK hM hl
  obtain ⟨A, hAe⟩ : ∃ A, A = zA (md Γ o lF lL lB G0 fl F L B) s.heap.size := ⟨_, rfl⟩
  rw [← hAe] at hM
  have hl : lv_has ls 10 [(0, .ref o), (1, .int (nI a)), (2, .int (nI b))] := hl
  have hin5 : ∀ w ∈ wsX50, w ∈ wsX5_divide := by decide +kernel
  have hf_limbs := hts (.fieldLink RX5 7 "CutRowsModel" "limbs" "[I") (by decide +kernel)
  have hf_length := hts (.fieldLink RX5 13 "CutRowsModel" "length" "[I") (by decide +kernel)
  have hf_isBelow := hts (.fieldLink RX5 16 "CutRowsModel" "isBelow" "[Z") (by decide +kernel)
  refine lv_aload_n hx hb dX5_divide_0 rfl (lv_at hl 0 rfl) ?_
  refine lv_sipush (v := nI 445) hx hb dX5_divide_1 rfl ?_
  refine lv_iload_n hx hb dX5_divide_4 rfl (lv_at hl 1 rfl) ?_
  refine z_callv0 (va_runV (As := [.int (nI 445), .int (nI a)]) (rest := []) ⟨hx, hb, hml, hown, hts⟩ (m_copy l Γ hok G0 fl F L B _ 445 a (by omega) (by omega) (by omega) na.le hBa) (cwV 2 hts gX5_divide_X5_copy rfl rfl rfl (by decide +kernel) ⟨Nat.le_of_ble_eq_true rfl, Nat.le_of_ble_eq_true rfl⟩) (zM.preV hK hM (md_o hok) rfl rfl) rfl rfl hl.1 rfl (lv_room (Nat.le_of_ble_eq_true rfl)) dX5_divide_5 ⟨Nat.le_of_ble_eq_true rfl, Nat.le_of_ble_eq_true rfl⟩) hM (fun G5 H locs hp5 hM => ?_)
  obtain rfl := hp5
  obtain ⟨F1, L1, B1, hM, s1, q1, b1⟩ := copy_rel hM na
  refine lv_aload_n hx hb dX5_divide_8 rfl (lv_at hl 0 rfl) ?_
  refine m_get hok hx hb hts hin5 hown hK hM 6 hf_isBelow rfl (by decide) (v := .ref lB) rfl dX5_divide_9 ?_
  refine lv_sipush (v := nI 445) hx hb dX5_divide_12 rfl ?_
  refine lv_iconst (v := nI 0) hx hb dX5_divide_15 rfl ?_
  refine m_stB hok hx hb hK hM (by omega) (by omega) dX5_divide_16 (fun H locs hM => ?_)
  refine lv_aload_n hx hb dX5_divide_17 rfl (lv_at hl 0 rfl) ?_
  refine lv_sipush (v := nI 446) hx hb dX5_divide_18 rfl ?_
  refine z_callv0 (va_runV (As := [.int (nI 446)]) (rest := []) ⟨hx, hb, hml, hown, hts⟩ (m_clear l Γ hok G0 fl F1 L1 (va_up B1 445 0) _ 446 (by omega)) (cwV 1 hts gX5_divide_X5_clear rfl rfl rfl (by decide +kernel) ⟨Nat.le_of_ble_eq_true rfl, Nat.le_of_ble_eq_true rfl⟩) (zM.preV hK hM (md_o hok) rfl rfl) rfl rfl hl.1 rfl (lv_room (Nat.le_of_ble_eq_true rfl)) dX5_divide_21 ⟨Nat.le_of_ble_eq_true rfl, Nat.le_of_ble_eq_true rfl⟩) hM (fun G21 H locs hp21 hM => ?_)
  obtain rfl := hp21
  obtain ⟨L2, B2, hM, s2, r2, b2⟩ := clear_rel hM
  have sA : sm 445 447 F L B F1 L2 B2 := ((s1.wid (Nat.le_refl _) (by omega)).tr (smB.wid (Nat.le_refl _) (by omega))).tr (s2.wid (by omega) (Nat.le_refl _))
  have nq := s2.nv (Or.inl (by omega)) q1
  have na2 := sA.nv (Or.inl (by omega)) na
  have nb2 := sA.nv (Or.inl (by omega)) nb
  have n12 := sA.nv (Or.inr (by omega)) n1
  have hLa2 : L2 a = L a := sA.L (Or.inl (by omega))
  have hLb2 : L2 b = L b := sA.L (Or.inl (by omega))
  have hLq : L2 445 = L a := by rw [nq.1, ← na.1]
  have hb5 : B2 445 = 0 := (s2.B (Or.inl (by omega))).trans (va_up_self _ _ _)
  refine lv_aload_n hx hb dX5_divide_24 rfl (lv_at hl 0 rfl) ?_
  refine m_get hok hx hb hts hin5 hown hK hM 5 hf_length rfl (by decide) (v := .ref lL) rfl dX5_divide_25 ?_
  refine lv_iload_n hx hb dX5_divide_28 rfl (lv_at hl 2 rfl) ?_
  refine m_ldL hok hx hb hK hM (by omega) dX5_divide_29 ?_
  refine lv_iconst (v := nI 1) hx hb dX5_divide_30 rfl ?_
  refine z_icmp_ne (tgt := 146) hx hb (by omega) (by omega) dX5_divide_31 (by decide) (fun hc31 => ?_) (fun hc31 => ?_)
  · refine lv_aload_n hx hb dX5_divide_146 rfl (lv_at hl 0 rfl) ?_
    refine lv_iload_n hx hb dX5_divide_147 rfl (lv_at hl 1 rfl) ?_
    refine z_calli0 (va_runV (As := [.int (nI a)]) (rest := []) ⟨hx, hb, hml, hown, hts⟩ (m_bitsOf l Γ hok G0 fl F1 L2 B2 _ a va (by omega) na2) (cwV 1 hts gX5_divide_X5_bitsOf rfl rfl rfl (by decide +kernel) ⟨Nat.le_of_ble_eq_true rfl, Nat.le_of_ble_eq_true rfl⟩) (zM.preV hK hM (md_o hok) rfl rfl) rfl rfl hl.1 rfl (lv_room (Nat.le_of_ble_eq_true rfl)) dX5_divide_148 ⟨Nat.le_of_ble_eq_true rfl, Nat.le_of_ble_eq_true rfl⟩) hM (fun r148 G148 H locs hp148 hM => ?_)
    obtain ⟨⟨bt, rfl, hbt, hbt2⟩, rfl⟩ := hp148
    refine lv_iconst (v := nI 1) hx hb dX5_divide_151 rfl ?_
    refine lv_isub hx hb dX5_divide_152 ?_
    refine lv_istore_n (lv' := [(3, .int ((nI bt) - (nI 1))), (0, .ref o), (1, .int (nI a)), (2, .int (nI b))]) hx hb dX5_divide_153 rfl hl (by decide) rfl (fun ls hl => ?_)
    have lp : ∀ (μ : Nat) (k : Nat) (F2 : Nat → Nat) (L3 : Nat → Nat) (B3 : Nat → Nat), k = μ → (k ≤ 31 * L a) → (sm 445 447 F L B F2 L3 B3) → (L3 445 = L a) → (dg (fun j => F2 (72 * 445 + j)) (L a)) → (vl (fun j => F2 (72 * 445 + j)) (L a) = va / 2 ^ k / vb * 2 ^ k + va % 2 ^ k) → (nv F2 L3 446 (va / 2 ^ k % vb)) → (B3 445 = 0) → (B3 446 = 0) → ∀ (ls : Array Slot) (H : Heap) (locs : List Loc), lv_has ls 10 [(3, .int (nI k - 1)), (0, .ref o), (1, .int (nI a)), (2, .int (nI b))] → zM Γ A s.heap (md Γ o lF lL lB G0 fl F2 L3 B3) H locs → W p l e (zR 3) s m args below meth c H locs 0 0 Q (F0 m 154 ls []) := by
      intro μ
      induction μ using Nat.strongRecOn with
      | _ μ ihlp =>
        intro k F2 L3 B3 hμ hk j1 j2 j3 j4 j5 j6 j7 ls H locs hl hM
        rcases Nat.eq_zero_or_pos k with hk0 | hk0
        · subst hk0
          rw [show nI 0 - 1 = (-1 : Int32) from rfl] at hl
          refine lv_iload_n hx hb dX5_divide_154 rfl (lv_at hl 0 rfl) ?_
          refine lv_if_lt (tgt := 276) hx hb dX5_divide_155 (by decide) (fun hc155 => ?_) (fun hc155 => ?_)
          · simp only [Nat.pow_zero, Nat.div_one, Nat.mod_one, Nat.mul_one, Nat.add_zero] at j4 j5
            refine lv_aload_n hx hb dX5_divide_276 rfl (lv_at hl 1 rfl) ?_
            refine lv_sipush (v := nI 445) hx hb dX5_divide_277 rfl ?_
            refine z_callv0 (va_runV (As := [.int (nI 445)]) (rest := []) ⟨hx, hb, hml, hown, hts⟩ (m_trim2 l Γ hok G0 fl F2 L3 B3 _ 445 (L a) (va / vb) (by omega) j2 (by omega) j3 j4) (cwV 1 hts gX5_divide_X5_trim rfl rfl rfl (by decide +kernel) ⟨Nat.le_of_ble_eq_true rfl, Nat.le_of_ble_eq_true rfl⟩) (zM.preV hK hM (md_o hok) rfl rfl) rfl rfl hl.1 rfl (lv_room (Nat.le_of_ble_eq_true rfl)) dX5_divide_280 ⟨Nat.le_of_ble_eq_true rfl, Nat.le_of_ble_eq_true rfl⟩) hM (fun G280 H locs hp280 hM => ?_)
            obtain rfl := hp280
            obtain ⟨L5, B5, hM, s5, n5, b5⟩ := step_rel hM (fun _ _ => rfl) (nv_of j3 j4 (by omega))
            have e55 : B5 446 = B3 446 := s5.B (Or.inr (by omega))
            rw [hQ]
            rw [hAe] at hM
            exact z_vret hsz hx hb hr hlocks hK hM dX5_divide_283 (⟨_, _, _, rfl, j1.tr (s5.wid (Nat.le_refl _) (by omega)), n5, s5.nv (Or.inr (by omega)) j5, by omega, by omega⟩)
          · exact absurd (by decide) hc155
        · obtain ⟨q, rfl⟩ : ∃ q, k = q + 1 := ⟨k - 1, by omega⟩
          rw [nI_pred] at hl
          have hrm : va / 2 ^ (q + 1) % vb < vb := Nat.mod_lt _ hvb
          have hL6 : L3 446 ≤ L b := by rw [j5.1, nb.1]; exact nl_mono (by omega)
          have hb2 : va / 2 ^ q % 2 < 2 := Nat.mod_lt _ (by decide)
          have k194 : ∀ (F5 : Nat → Nat) (L5 : Nat → Nat) (B5 : Nat → Nat), (sm 445 447 F L B F5 L5 B5) → (L5 445 = L a) → (dg (fun j => F5 (72 * 445 + j)) (L a)) → (vl (fun j => F5 (72 * 445 + j)) (L a) = va / 2 ^ (q + 1) / vb * 2 ^ (q + 1) + va % 2 ^ (q + 1)) → (nv F5 L5 446 (2 * (va / 2 ^ (q + 1) % vb) + va / 2 ^ q % 2)) → (B5 445 = 0) → (B5 446 = 0) → ∀ (ls : Array Slot) (H : Heap) (locs : List Loc), lv_has ls 10 [(3, .int (nI q)), (0, .ref o), (1, .int (nI a)), (2, .int (nI b))] → zM Γ A s.heap (md Γ o lF lL lB G0 fl F5 L5 B5) H locs → W p l e (zR 3) s m args below meth c H locs 0 0 Q (F0 m 194 ls []) := by
            intro F5 L5 B5 t1 t2 t3 t4 t5 t6 t7 ls H locs hl hM
            have hqn : q / 31 < L a := by omega
            have hX := vl_bit (t := 445) (n := L a) (q := q) t3 hqn
            rw [t4, bd_X] at hX
            have hd0 : F5 (72 * 445 + q / 31) < 2147483648 := t3 _ hqn
            obtain ⟨d0, hde⟩ : ∃ d0, d0 = F5 (72 * 445 + q / 31) := ⟨_, rfl⟩
            rw [← hde] at hX hd0
            have hbd : va / 2 ^ q % 2 * 2 ^ (q % 31) ≤ d0 := by
              have g1 := Nat.div_add_mod d0 (2 ^ (q % 31))
              have g2 := mul_le_r (2 ^ (q % 31)) (show va / 2 ^ q % 2 ≤ d0 / 2 ^ (q % 31) by rw [← hX]; exact Nat.mod_le _ _)
              rw [Nat.mul_comm (d0 / 2 ^ (q % 31))] at g2
              omega
            refine lv_sipush (v := nI 32040) hx hb dX5_divide_194 rfl ?_
            refine lv_iload_n hx hb dX5_divide_197 rfl (lv_at hl 0 rfl) ?_
            refine lv_bipush (v := nI 31) hx hb dX5_divide_198 rfl ?_
            refine z_idiv hx hb (by omega) (by omega) (by omega) dX5_divide_200 ?_
            refine z_iadd hx hb dX5_divide_201 ?_
            refine z_asi (y := nI (72 * 445 + q / 31)) (congrArg nI (by omega)) ?_
            refine lv_istore (lv' := [(4, .int (nI (72 * 445 + q / 31))), (3, .int (nI q)), (0, .ref o), (1, .int (nI a)), (2, .int (nI b))]) hx hb dX5_divide_202 hl (by decide) rfl (fun ls hl => ?_)
            refine lv_iconst (v := nI 1) hx hb dX5_divide_204 rfl ?_
            refine lv_iload_n hx hb dX5_divide_205 rfl (lv_at hl 1 rfl) ?_
            refine lv_bipush (v := nI 31) hx hb dX5_divide_206 rfl ?_
            refine z_irem hx hb (by omega) (by omega) (by omega) dX5_divide_208 ?_
            refine lv_ishl hx hb dX5_divide_209 ?_
            refine z_asi (y := nI (2 ^ (q % 31))) (ni_shl _ (Nat.mod_lt _ (by decide))) ?_
            refine lv_istore (lv' := [(5, .int (nI (2 ^ (q % 31)))), (4, .int (nI (72 * 445 + q / 31))), (3, .int (nI q)), (0, .ref o), (1, .int (nI a)), (2, .int (nI b))]) hx hb dX5_divide_210 hl (by decide) rfl (fun ls hl => ?_)
            refine lv_aload_n hx hb dX5_divide_212 rfl (lv_at hl 3 rfl) ?_
            refine m_get hok hx hb hts hin5 hown hK hM 4 hf_limbs rfl (by decide) (v := .ref lF) rfl dX5_divide_213 ?_
            refine lv_iload hx hb dX5_divide_216 (lv_at hl 1 rfl) ?_
            refine lv_aload_n hx hb dX5_divide_218 rfl (lv_at hl 3 rfl) ?_
            refine m_get hok hx hb hts hin5 hown hK hM 4 hf_limbs rfl (by decide) (v := .ref lF) rfl dX5_divide_219 ?_
            refine lv_iload hx hb dX5_divide_222 (lv_at hl 1 rfl) ?_
            refine m_ldF hok hx hb hK hM (by omega) dX5_divide_224 ?_
            refine z_asi (y := nI d0) (congrArg nI hde.symm) ?_
            refine lv_iload hx hb dX5_divide_225 (lv_at hl 0 rfl) ?_
            refine lv_iconst (v := -1) hx hb dX5_divide_227 rfl ?_
            refine lv_ixor hx hb dX5_divide_228 ?_
            refine lv_iand hx hb dX5_divide_229 ?_
            refine z_asi ((ni_clr' (Nat.mod_lt _ (by decide))).trans (congrArg nI (by rw [hX]))) (y := nI (d0 - va / 2 ^ q % 2 * 2 ^ (q % 31))) ?_
            refine m_stF hok hx hb hK hM (by omega) dX5_divide_230 (fun H locs hM => ?_)
            obtain ⟨d1, hd1⟩ : ∃ d1, d1 = d0 - va / 2 ^ q % 2 * 2 ^ (q % 31) := ⟨_, rfl⟩
            rw [← hd1] at hM
            obtain ⟨F6, hF6⟩ : ∃ F6, F6 = va_up F5 (72 * 445 + q / 31) d1 := ⟨_, rfl⟩
            rw [← hF6] at hM
            have f6 : fr72 F5 F6 445 := fun j hj => by rw [hF6]; exact va_up_ne _ _ (by omega)
            have s6 := smF (L := L5) (B := B5) f6
            have n66 := s6.nv (Or.inr (by omega)) t5
            have nb6 := s6.nv (Or.inl (by omega)) (t1.nv (Or.inl (by omega)) nb)
            have d6 : dg (fun j => F6 (72 * 445 + j)) (L a) := fun j hj => by show F6 _ < _; rw [hF6]; by_cases hc : j = q / 31; subst hc; rw [va_up_self]; omega; rw [va_up_ne _ _ (by omega)]; exact t3 j hj
            have v6 : vl (fun j => F6 (72 * 445 + j)) (L a) = va / 2 ^ (q + 1) / vb * 2 ^ (q + 1) + va % 2 ^ q := by
              have g1 := vl_upd (F := F5) (t := 445) (i := q / 31) (x := d1) (n := L a) hqn
              rw [← hF6, t4, ← hde] at g1
              have g2 : d0 * bp (q / 31) = d1 * bp (q / 31) + va / 2 ^ q % 2 * 2 ^ q := by
                have g9 : d0 = d1 + va / 2 ^ q % 2 * 2 ^ (q % 31) := by omega
                have g8 : ∀ x, d0 = d1 + x * 2 ^ (q % 31) → d0 * bp (q / 31) = d1 * bp (q / 31) + x * 2 ^ q := fun x h => by rw [h, Nat.add_mul, Nat.mul_assoc, bp_q]
                exact g8 _ g9
              have g3 := bd_2 va q
              omega
            refine lv_aload_n hx hb dX5_divide_231 rfl (lv_at hl 3 rfl) ?_
            refine lv_sipush (v := nI 446) hx hb dX5_divide_232 rfl ?_
            refine lv_iload_n hx hb dX5_divide_235 rfl (lv_at hl 5 rfl) ?_
            refine z_calli0 (va_runV (As := [.int (nI 446), .int (nI b)]) (rest := []) ⟨hx, hb, hml, hown, hts⟩ (m_compareSizes l Γ hok G0 fl F6 L5 B5 _ 446 b _ vb (by omega) (by omega) n66 nb6) (cwV 2 hts gX5_divide_X5_compareSizes rfl rfl rfl (by decide +kernel) ⟨Nat.le_of_ble_eq_true rfl, Nat.le_of_ble_eq_true rfl⟩) (zM.preV hK hM (md_o hok) rfl rfl) rfl rfl hl.1 rfl (lv_room (Nat.le_of_ble_eq_true rfl)) dX5_divide_236 ⟨Nat.le_of_ble_eq_true rfl, Nat.le_of_ble_eq_true rfl⟩) hM (fun r236 G236 H locs hp236 hM => ?_)
            obtain ⟨rfl, rfl⟩ := hp236
            refine lv_if_lt (tgt := 270) hx hb dX5_divide_239 (by decide) (fun hc239 => ?_) (fun hc239 => ?_)
            · have hlo : 2 * (va / 2 ^ (q + 1) % vb) + va / 2 ^ q % 2 < vb := by
                rcases Nat.lt_or_ge (2 * (va / 2 ^ (q + 1) % vb) + va / 2 ^ q % 2) vb with g | g
                · exact g
                · rcases Nat.lt_or_ge vb (2 * (va / 2 ^ (q + 1) % vb) + va / 2 ^ q % 2) with g2 | g2
                  · rw [← cmp3_gt g2] at hc239; exact absurd hc239 (by decide)
                  · rw [← cmp3_eq (Nat.le_antisymm g2 g)] at hc239; exact absurd hc239 (by decide)
              obtain ⟨z1, z2⟩ := bd_lo hlo
              refine lv_iinc (v := nI q - 1) (lv' := [(3, .int (nI q - 1)), (5, .int (nI (2 ^ (q % 31)))), (4, .int (nI (72 * 445 + q / 31))), (0, .ref o), (1, .int (nI a)), (2, .int (nI b))]) hx hb dX5_divide_270 hl (k := 2) rfl (nI_dec _) (by decide) rfl (fun ls hl => ?_)
              refine lv_goto (tgt := 154) hx hb dX5_divide_273 (by decide) ?_
              exact ihlp _ (by omega) q F6 L5 B5 rfl (by omega) (t1.tr (s6.wid (Nat.le_refl _) (by omega))) (t2) (d6) (by rw [v6, z1, bd_c0]) (by rw [z2]; exact n66) (t6) (t7) ls _ _ (lv_sub hl [0, 3, 4, 5] rfl) hM
            · have hhi : vb ≤ 2 * (va / 2 ^ (q + 1) % vb) + va / 2 ^ q % 2 := by
                rcases Nat.lt_or_ge (2 * (va / 2 ^ (q + 1) % vb) + va / 2 ^ q % 2) vb with g | g
                · rw [← cmp3_lt g] at hc239; exact absurd (by decide) hc239
                · exact g
              obtain ⟨z1, z2⟩ := bd_hi hvb hhi
              refine lv_aload_n hx hb dX5_divide_242 rfl (lv_at hl 3 rfl) ?_
              refine lv_sipush (v := nI 446) hx hb dX5_divide_243 rfl ?_
              refine lv_sipush (v := nI 446) hx hb dX5_divide_246 rfl ?_
              refine lv_iload_n hx hb dX5_divide_249 rfl (lv_at hl 5 rfl) ?_
              refine z_callv0 (va_runV (As := [.int (nI 446), .int (nI 446), .int (nI b)]) (rest := []) ⟨hx, hb, hml, hown, hts⟩ (m_subtractSizes l Γ hok G0 fl F6 L5 B5 _ 446 446 b _ vb (by omega) (by omega) (by omega) n66 nb6 hhi) (cwV 3 hts gX5_divide_X5_subtractSizes rfl rfl rfl (by decide +kernel) ⟨Nat.le_of_ble_eq_true rfl, Nat.le_of_ble_eq_true rfl⟩) (zM.preV hK hM (md_o hok) rfl rfl) rfl rfl hl.1 rfl (lv_room (Nat.le_of_ble_eq_true rfl)) dX5_divide_250 ⟨Nat.le_of_ble_eq_true rfl, Nat.le_of_ble_eq_true rfl⟩) hM (fun G250 H locs hp250 hM => ?_)
              obtain ⟨F7, rfl, f7, n7⟩ := hp250
              obtain ⟨L7, B7, hM, s7, n7, b7⟩ := step_rel hM f7 n7
              have hd7 : F7 (72 * 445 + q / 31) = d1 := by rw [f7 _ (by omega), hF6, va_up_self]
              have d7 : dg (fun j => F7 (72 * 445 + j)) (L a) := fun j hj => by show F7 _ < _; rw [f7 _ (by omega)]; exact d6 j hj
              have v7 : vl (fun j => F7 (72 * 445 + j)) (L a) = va / 2 ^ (q + 1) / vb * 2 ^ (q + 1) + va % 2 ^ q := by rw [vl_congr (d' := fun j => F6 (72 * 445 + j)) (fun j hj => f7 _ (by omega))]; exact v6
              refine lv_aload_n hx hb dX5_divide_253 rfl (lv_at hl 3 rfl) ?_
              refine m_get hok hx hb hts hin5 hown hK hM 4 hf_limbs rfl (by decide) (v := .ref lF) rfl dX5_divide_254 ?_
              refine lv_iload hx hb dX5_divide_257 (lv_at hl 1 rfl) ?_
              refine lv_aload_n hx hb dX5_divide_259 rfl (lv_at hl 3 rfl) ?_
              refine m_get hok hx hb hts hin5 hown hK hM 4 hf_limbs rfl (by decide) (v := .ref lF) rfl dX5_divide_260 ?_
              refine lv_iload hx hb dX5_divide_263 (lv_at hl 1 rfl) ?_
              refine m_ldF hok hx hb hK hM (by omega) dX5_divide_265 ?_
              refine z_asi (y := nI d1) (congrArg nI hd7) ?_
              refine lv_iload hx hb dX5_divide_266 (lv_at hl 0 rfl) ?_
              refine lv_ior hx hb dX5_divide_268 ?_
              have hz1 : d1 / 2 ^ (q % 31) % 2 = 0 := by
                have g1 := vl_bit (t := 445) (n := L a) (q := q) d7 hqn
                rw [v7, hd7] at g1
                rw [g1, Nat.pow_succ, show va / (2 ^ q * 2) / vb * (2 ^ q * 2) + va % 2 ^ q = 2 ^ q * (2 * (va / (2 ^ q * 2) / vb) + 0) + va % 2 ^ q by rw [bd_ac]; omega, Nat.mul_add_div (Nat.pow_pos (by decide)), Nat.div_eq_of_lt (Nat.mod_lt _ (Nat.pow_pos (by decide)))]
                omega
              refine z_asi (ni_set' (Nat.mod_lt _ (by decide)) hz1) ?_
              refine m_stF hok hx hb hK hM (by omega) dX5_divide_269 (fun H locs hM => ?_)
              refine lv_iinc (v := nI q - 1) (lv' := [(3, .int (nI q - 1)), (5, .int (nI (2 ^ (q % 31)))), (4, .int (nI (72 * 445 + q / 31))), (0, .ref o), (1, .int (nI a)), (2, .int (nI b))]) hx hb dX5_divide_270 hl (k := 2) rfl (nI_dec _) (by decide) rfl (fun ls hl => ?_)
              refine lv_goto (tgt := 154) hx hb dX5_divide_273 (by decide) ?_
              obtain ⟨F8, hF8⟩ : ∃ F8, F8 = va_up F7 (72 * 445 + q / 31) (d1 + 2 ^ (q % 31)) := ⟨_, rfl⟩
              rw [← hF8] at hM
              have f8 : fr72 F7 F8 445 := fun j hj => by rw [hF8]; exact va_up_ne _ _ (by omega)
              have s8 := smF (L := L7) (B := B7) f8
              have v8 : vl (fun j => F8 (72 * 445 + j)) (L a) = va / 2 ^ q / vb * 2 ^ q + va % 2 ^ q := by
                have g1 := vl_upd (F := F7) (t := 445) (i := q / 31) (x := d1 + 2 ^ (q % 31)) (n := L a) hqn
                rw [← hF8, v7, hd7, Nat.add_mul, bp_q] at g1
                rw [z1, bd_c1]
                generalize va / 2 ^ (q + 1) / vb * 2 ^ (q + 1) = X1 at g1 ⊢
                generalize va % 2 ^ q = X2 at g1 ⊢
                generalize 2 ^ q = X3 at g1 ⊢
                omega
              have d8 : dg (fun j => F8 (72 * 445 + j)) (L a) := fun j hj => by
                show F8 _ < _; rw [hF8]; by_cases hc : j = q / 31
                · subst hc; rw [va_up_self]
                  have g0 := Nat.div_add_mod d1 (2 ^ (q % 31))
                  have g1 : d1 < 2147483648 := by rw [← hd7]; exact d7 _ hqn
                  exact set_lt (Nat.mod_lt _ (by decide)) hz1 g1
                · rw [va_up_ne _ _ (by omega)]; exact d7 j hj
              have e57 := s7.B (a := 445) (Or.inl (by omega))
              have l57 := s7.L (a := 445) (Or.inl (by omega))
              exact ihlp _ (by omega) q F8 L7 B7 rfl (by omega) (t1.tr ((s6.wid (Nat.le_refl _) (by omega)).tr ((s7.wid (by omega) (Nat.le_refl _)).tr (s8.wid (Nat.le_refl _) (by omega))))) (by omega) (d8) (v8) (by rw [z2]; exact s8.nv (Or.inr (by omega)) n7) (by omega) (by omega) ls _ _ (lv_sub hl [0, 3, 4, 5] rfl) hM
          refine lv_iload_n hx hb dX5_divide_154 rfl (lv_at hl 0 rfl) ?_
          refine z_if_ltN hx hb (by omega) dX5_divide_155 (tgt := 276) (by decide) ?_
          refine lv_aload_n hx hb dX5_divide_158 rfl (lv_at hl 1 rfl) ?_
          refine lv_sipush (v := nI 446) hx hb dX5_divide_159 rfl ?_
          refine lv_sipush (v := nI 446) hx hb dX5_divide_162 rfl ?_
          refine lv_sipush (v := nI 446) hx hb dX5_divide_165 rfl ?_
          refine z_callv0 (va_runV (As := [.int (nI 446), .int (nI 446), .int (nI 446)]) (rest := []) ⟨hx, hb, hml, hown, hts⟩ (m_addSizes l Γ hok G0 fl F2 L3 B3 _ 446 446 446 _ _ (by omega) (by omega) (by omega) j5 j5 (by omega) (by omega)) (cwV 3 hts gX5_divide_X5_addSizes rfl rfl rfl (by decide +kernel) ⟨Nat.le_of_ble_eq_true rfl, Nat.le_of_ble_eq_true rfl⟩) (zM.preV hK hM (md_o hok) rfl rfl) rfl rfl hl.1 rfl (lv_room (Nat.le_of_ble_eq_true rfl)) dX5_divide_168 ⟨Nat.le_of_ble_eq_true rfl, Nat.le_of_ble_eq_true rfl⟩) hM (fun G168 H locs hp168 hM => ?_)
          obtain ⟨F4, rfl, f4, n4⟩ := hp168
          obtain ⟨L4, B4, hM, s4, n4, b4⟩ := step_rel hM f4 n4
          have na4 := s4.nv (Or.inl (by omega)) (j1.nv (Or.inl (by omega)) na)
          have n14 := s4.nv (Or.inr (by omega)) (j1.nv (Or.inr (by omega)) n1)
          have hL44 : L4 446 ≤ L b + 1 := by
            rw [n4.1]; apply nl_le; rw [bp_s]; have := nb.lt; omega
          refine lv_aload_n hx hb dX5_divide_171 rfl (lv_at hl 1 rfl) ?_
          refine lv_iload_n hx hb dX5_divide_172 rfl (lv_at hl 2 rfl) ?_
          refine lv_iload_n hx hb dX5_divide_173 rfl (lv_at hl 0 rfl) ?_
          refine z_calli0 (va_runV (As := [.int (nI a), .int (nI q)]) (rest := []) ⟨hx, hb, hml, hown, hts⟩ (m_bitOf l Γ hok G0 fl F4 L4 B4 _ a q va (by omega) (by omega) na4) (cwV 2 hts gX5_divide_X5_bitOf rfl rfl rfl (by decide +kernel) ⟨Nat.le_of_ble_eq_true rfl, Nat.le_of_ble_eq_true rfl⟩) (zM.preV hK hM (md_o hok) rfl rfl) rfl rfl hl.1 rfl (lv_room (Nat.le_of_ble_eq_true rfl)) dX5_divide_174 ⟨Nat.le_of_ble_eq_true rfl, Nat.le_of_ble_eq_true rfl⟩) hM (fun r174 G174 H locs hp174 hM => ?_)
          obtain ⟨rfl, rfl⟩ := hp174
          refine lv_iconst (v := nI 1) hx hb dX5_divide_177 rfl ?_
          refine z_icmp_ne (tgt := 194) hx hb (by omega) (by omega) dX5_divide_178 (by decide) (fun hc178 => ?_) (fun hc178 => ?_)
          · have e43 := s4.B (a := 445) (Or.inl (by omega))
            have l43 := s4.L (a := 445) (Or.inl (by omega))
            have g45 : ∀ j, j < L a → F4 (72 * 445 + j) = F2 (72 * 445 + j) := fun j hj => f4 _ (by omega)
            exact k194 F4 L4 B4 (j1.tr (s4.wid (by omega) (Nat.le_refl _))) (by omega) (fun j hj => by show F4 _ < _; rw [g45 j hj]; exact j3 j hj) (by rw [vl_congr g45]; exact j4) (by rw [show 2 * (va / 2 ^ (q + 1) % vb) + va / 2 ^ q % 2 = va / 2 ^ (q + 1) % vb + va / 2 ^ (q + 1) % vb by omega]; exact n4) (by omega) (by omega) ls _ _ (lv_sub hl [0, 1, 2, 3] rfl) hM
          · refine lv_aload_n hx hb dX5_divide_181 rfl (lv_at hl 1 rfl) ?_
            refine lv_sipush (v := nI 446) hx hb dX5_divide_182 rfl ?_
            refine lv_sipush (v := nI 446) hx hb dX5_divide_185 rfl ?_
            refine lv_sipush (v := nI 447) hx hb dX5_divide_188 rfl ?_
            refine z_callv0 (va_runV (As := [.int (nI 446), .int (nI 446), .int (nI 447)]) (rest := []) ⟨hx, hb, hml, hown, hts⟩ (m_addSizes l Γ hok G0 fl F4 L4 B4 _ 446 446 447 _ _ (by omega) (by omega) (by omega) n4 n14 (by omega) (by rw [n14.1]; decide)) (cwV 3 hts gX5_divide_X5_addSizes rfl rfl rfl (by decide +kernel) ⟨Nat.le_of_ble_eq_true rfl, Nat.le_of_ble_eq_true rfl⟩) (zM.preV hK hM (md_o hok) rfl rfl) rfl rfl hl.1 rfl (lv_room (Nat.le_of_ble_eq_true rfl)) dX5_divide_191 ⟨Nat.le_of_ble_eq_true rfl, Nat.le_of_ble_eq_true rfl⟩) hM (fun G191 H locs hp191 hM => ?_)
            obtain ⟨F5, rfl, f5, n5⟩ := hp191
            obtain ⟨L5, B5, hM, s5, n5, b5⟩ := step_rel hM f5 n5
            have e54 := s5.B (a := 445) (Or.inl (by omega))
            have e43 := s4.B (a := 445) (Or.inl (by omega))
            have l54 := s5.L (a := 445) (Or.inl (by omega))
            have l43 := s4.L (a := 445) (Or.inl (by omega))
            have g45 : ∀ j, j < L a → F5 (72 * 445 + j) = F2 (72 * 445 + j) := fun j hj => (f5 _ (by omega)).trans (f4 _ (by omega))
            exact k194 F5 L5 B5 (j1.tr ((s4.wid (by omega) (Nat.le_refl _)).tr (s5.wid (by omega) (Nat.le_refl _)))) (by omega) (fun j hj => by show F5 _ < _; rw [g45 j hj]; exact j3 j hj) (by rw [vl_congr g45]; exact j4) (by rw [show 2 * (va / 2 ^ (q + 1) % vb) + va / 2 ^ q % 2 = va / 2 ^ (q + 1) % vb + va / 2 ^ (q + 1) % vb + 1 by omega]; exact n5) (by omega) (by omega) ls _ _ (lv_sub hl [0, 1, 2, 3] rfl) hM
    exact lp _ bt F1 L2 B2 rfl (by omega) sA hLq (fun j hj => nq.digs j (by omega)) (by rw [Nat.div_eq_of_lt hbt, Nat.zero_div, Nat.zero_mul, Nat.zero_add, Nat.mod_eq_of_lt hbt, ← hLq]; exact nq.val) (by rw [Nat.div_eq_of_lt hbt, Nat.zero_mod]; exact r2) hb5 b2 ls _ _ (lv_sub hl [0, 1, 2, 3] rfl) hM
  · have hvb1 : F1 (72 * b) = vb := by have := nb2.val; rw [hc31, vl_one] at this; exact this
    have hvbl : vb < 2147483648 := by rw [← hvb1]; exact nb2.digs 0 (by omega)
    refine lv_lconst (v := lN 0) hx hb dX5_divide_34 rfl ?_
    refine lv_lstore_n (lv' := [(3, .long (lN 0)), (0, .ref o), (1, .int (nI a)), (2, .int (nI b))]) hx hb dX5_divide_35 rfl hl (by decide) rfl (fun ls hl => ?_)
    refine lv_aload_n hx hb dX5_divide_36 rfl (lv_at hl 1 rfl) ?_
    refine m_get hok hx hb hts hin5 hown hK hM 4 hf_limbs rfl (by decide) (v := .ref lF) rfl dX5_divide_37 ?_
    refine lv_bipush (v := nI 72) hx hb dX5_divide_40 rfl ?_
    refine lv_iload_n hx hb dX5_divide_42 rfl (lv_at hl 3 rfl) ?_
    refine z_imul hx hb dX5_divide_43 ?_
    refine m_ldF hok hx hb hK hM (by omega) dX5_divide_44 ?_
    refine z_i2l hx hb (by omega) dX5_divide_45 ?_
    refine z_asl (y := lN vb) (congrArg lN hvb1) ?_
    refine lv_lstore (lv' := [(5, .long (lN vb)), (3, .long (lN 0)), (0, .ref o), (1, .int (nI a)), (2, .int (nI b))]) hx hb dX5_divide_46 hl (by decide) rfl (fun ls hl => ?_)
    refine lv_aload_n hx hb dX5_divide_48 rfl (lv_at hl 2 rfl) ?_
    refine m_get hok hx hb hts hin5 hown hK hM 5 hf_length rfl (by decide) (v := .ref lL) rfl dX5_divide_49 ?_
    refine lv_iload_n hx hb dX5_divide_52 rfl (lv_at hl 3 rfl) ?_
    refine m_ldL hok hx hb hK hM (by omega) dX5_divide_53 ?_
    refine z_asi (y := nI (L a)) (congrArg nI hLa2) ?_
    refine lv_iconst (v := nI 1) hx hb dX5_divide_54 rfl ?_
    refine lv_isub hx hb dX5_divide_55 ?_
    refine lv_istore (lv' := [(7, .int ((nI (L a)) - (nI 1))), (5, .long (lN vb)), (3, .long (lN 0)), (0, .ref o), (1, .int (nI a)), (2, .int (nI b))]) hx hb dX5_divide_56 hl (by decide) rfl (fun ls hl => ?_)
    have lp : ∀ (μ : Nat) (k : Nat) (left : Nat) (F2 : Nat → Nat), k = μ → (k ≤ L a) → (left < vb) → (fr72 F1 F2 445) → (dg (fun j => F2 (72 * 445 + j)) (L a)) → (vl (fun j => F2 (72 * 445 + (k + j))) (L a - k) = vl (fun j => F1 (72 * a + (k + j))) (L a - k) / vb ∧ left = vl (fun j => F1 (72 * a + (k + j))) (L a - k) % vb) → ∀ (ls : Array Slot) (H : Heap) (locs : List Loc), lv_has ls 10 [(7, .int (nI k - 1)), (5, .long (lN vb)), (3, .long (lN left)), (0, .ref o), (1, .int (nI a)), (2, .int (nI b))] → zM Γ A s.heap (md Γ o lF lL lB G0 fl F2 L2 B2) H locs → W p l e (zR 3) s m args below meth c H locs 0 0 Q (F0 m 58 ls []) := by
      intro μ
      induction μ using Nat.strongRecOn with
      | _ μ ihlp =>
        intro k left F2 hμ hk hlt h1 h2 h3 ls H locs hl hM
        rcases Nat.eq_zero_or_pos k with hk0 | hk0
        · subst hk0
          rw [show nI 0 - 1 = (-1 : Int32) from rfl] at hl
          refine lv_iload hx hb dX5_divide_58 (lv_at hl 0 rfl) ?_
          refine lv_if_lt (tgt := 112) hx hb dX5_divide_60 (by decide) (fun hc60 => ?_) (fun hc60 => ?_)
          · simp only [Nat.zero_add, Nat.sub_zero] at h3
            rw [show vl (fun j => F1 (72 * a + j)) (L a) = va by rw [← hLa2]; exact na2.val] at h3
            refine lv_aload_n hx hb dX5_divide_112 rfl (lv_at hl 3 rfl) ?_
            refine lv_sipush (v := nI 445) hx hb dX5_divide_113 rfl ?_
            refine z_callv0 (va_runV (As := [.int (nI 445)]) (rest := []) ⟨hx, hb, hml, hown, hts⟩ (m_trim2 l Γ hok G0 fl F2 L2 B2 _ 445 (L a) (va / vb) (by omega) hLq (by omega) h2 h3.1) (cwV 1 hts gX5_divide_X5_trim rfl rfl rfl (by decide +kernel) ⟨Nat.le_of_ble_eq_true rfl, Nat.le_of_ble_eq_true rfl⟩) (zM.preV hK hM (md_o hok) rfl rfl) rfl rfl hl.1 rfl (lv_room (Nat.le_of_ble_eq_true rfl)) dX5_divide_116 ⟨Nat.le_of_ble_eq_true rfl, Nat.le_of_ble_eq_true rfl⟩) hM (fun G116 H locs hp116 hM => ?_)
            obtain rfl := hp116
            obtain ⟨L3, B3, hM, s3, n3, b3⟩ := step_rel hM h1 (nv_of h2 h3.1 (by omega))
            refine lv_aload_n hx hb dX5_divide_119 rfl (lv_at hl 3 rfl) ?_
            refine m_get hok hx hb hts hin5 hown hK hM 4 hf_limbs rfl (by decide) (v := .ref lF) rfl dX5_divide_120 ?_
            refine lv_sipush (v := nI 32112) hx hb dX5_divide_123 rfl ?_
            refine lv_lload_n hx hb dX5_divide_126 rfl (lv_at hl 2 rfl) ?_
            refine z_l2i hx hb dX5_divide_127 ?_
            refine m_stF hok hx hb hK hM (by omega) dX5_divide_128 (fun H locs hM => ?_)
            refine lv_aload_n hx hb dX5_divide_129 rfl (lv_at hl 3 rfl) ?_
            refine m_get hok hx hb hts hin5 hown hK hM 5 hf_length rfl (by decide) (v := .ref lL) rfl dX5_divide_130 ?_
            refine lv_sipush (v := nI 446) hx hb dX5_divide_133 rfl ?_
            refine lv_iconst (v := nI 1) hx hb dX5_divide_136 rfl ?_
            refine m_stL hok hx hb hK hM (by omega) dX5_divide_137 (fun H locs hM => ?_)
            refine lv_aload_n hx hb dX5_divide_138 rfl (lv_at hl 3 rfl) ?_
            refine lv_sipush (v := nI 446) hx hb dX5_divide_139 rfl ?_
            have d4 : dg (fun k => va_up F2 32112 left (72 * 446 + k)) 1 := fun k hk => by rw [show k = 0 by omega]; show va_up F2 32112 left 32112 < _; rw [va_up_self]; omega
            have v4 : vl (fun k => va_up F2 32112 left (72 * 446 + k)) 1 = va % vb := by rw [vl_one]; show va_up F2 32112 left 32112 = _; rw [va_up_self]; exact h3.2
            refine z_callv0 (va_runV (As := [.int (nI 446)]) (rest := []) ⟨hx, hb, hml, hown, hts⟩ (m_trim2 l Γ hok G0 fl (va_up F2 32112 left) (va_up L3 446 1) B3 _ 446 1 (va % vb) (by omega) (va_up_self _ _ _) (by omega) d4 v4) (cwV 1 hts gX5_divide_X5_trim rfl rfl rfl (by decide +kernel) ⟨Nat.le_of_ble_eq_true rfl, Nat.le_of_ble_eq_true rfl⟩) (zM.preV hK hM (md_o hok) rfl rfl) rfl rfl hl.1 rfl (lv_room (Nat.le_of_ble_eq_true rfl)) dX5_divide_142 ⟨Nat.le_of_ble_eq_true rfl, Nat.le_of_ble_eq_true rfl⟩) hM (fun G142 H locs hp142 hM => ?_)
            obtain rfl := hp142
            have f4 : fr72 F2 (va_up F2 32112 left) 446 := fun j hj => va_up_ne _ _ (by omega)
            obtain ⟨L5, B5, hM, s5, n5, b5⟩ := step_rel hM f4 (nv_of d4 v4 (by omega))
            have sF : sm 445 447 F L B (va_up F2 32112 left) L5 B5 := (sA.tr (s3.wid (Nat.le_refl _) (by omega))).tr (((smL (x := 1)).wid (by omega) (Nat.le_refl _)).tr (s5.wid (by omega) (Nat.le_refl _)))
            have n55 := s5.nv (Or.inl (by omega)) ((smL (F := F2) (B := B3) (t := 446) (x := 1)).nv (Or.inl (by omega)) n3)
            have e35 : B3 446 = B2 446 := s3.B (Or.inr (by omega))
            have e55 : B5 445 = B3 445 := s5.B (Or.inl (by omega))
            rw [hQ]
            rw [hAe] at hM
            exact z_vret hsz hx hb hr hlocks hK hM dX5_divide_145 (⟨_, _, _, rfl, sF, n55, n5, by omega, by omega⟩)
          · exact absurd (by decide) hc60
        · obtain ⟨q, rfl⟩ : ∃ q, k = q + 1 := ⟨k - 1, by omega⟩
          rw [nI_pred] at hl
          have hq1 : F2 (72 * a + q) < 2147483648 := by rw [h1 _ (by omega)]; exact na2.digs q (by omega)
          have hlv : left * 2147483648 + F2 (72 * a + q) < vb * 2147483648 := by have := mul_le_r 2147483648 (show left + 1 ≤ vb by omega); omega
          have hdl := div_digit_lt hvb hlt hq1
          refine lv_iload hx hb dX5_divide_58 (lv_at hl 0 rfl) ?_
          refine z_if_ltN hx hb (by omega) dX5_divide_60 (tgt := 112) (by decide) ?_
          refine lv_lload_n hx hb dX5_divide_63 rfl (lv_at hl 2 rfl) ?_
          refine lv_bipush (v := nI 31) hx hb dX5_divide_64 rfl ?_
          refine z_lshl31 hx hb dX5_divide_66 ?_
          refine lv_aload_n hx hb dX5_divide_67 rfl (lv_at hl 3 rfl) ?_
          refine m_get hok hx hb hts hin5 hown hK hM 4 hf_limbs rfl (by decide) (v := .ref lF) rfl dX5_divide_68 ?_
          refine lv_bipush (v := nI 72) hx hb dX5_divide_71 rfl ?_
          refine lv_iload_n hx hb dX5_divide_73 rfl (lv_at hl 4 rfl) ?_
          refine z_imul hx hb dX5_divide_74 ?_
          refine lv_iload hx hb dX5_divide_75 (lv_at hl 0 rfl) ?_
          refine z_iadd hx hb dX5_divide_77 ?_
          refine m_ldF hok hx hb hK hM (by omega) dX5_divide_78 ?_
          refine z_i2l hx hb (hq1) dX5_divide_79 ?_
          refine z_lor31 hx hb (by omega) (by omega) dX5_divide_80 ?_
          refine lv_lstore (lv' := [(8, .long (lN (left * 2147483648 + (F2 (72 * a + q))))), (7, .int (nI q)), (5, .long (lN vb)), (3, .long (lN left)), (0, .ref o), (1, .int (nI a)), (2, .int (nI b))]) hx hb dX5_divide_81 hl (by decide) rfl (fun ls hl => ?_)
          refine lv_aload_n hx hb dX5_divide_83 rfl (lv_at hl 4 rfl) ?_
          refine m_get hok hx hb hts hin5 hown hK hM 4 hf_limbs rfl (by decide) (v := .ref lF) rfl dX5_divide_84 ?_
          refine lv_sipush (v := nI 32040) hx hb dX5_divide_87 rfl ?_
          refine lv_iload hx hb dX5_divide_90 (lv_at hl 1 rfl) ?_
          refine z_iadd hx hb dX5_divide_92 ?_
          refine z_asi (y := nI (72 * 445 + q)) (congrArg nI (by omega)) ?_
          refine lv_lload hx hb dX5_divide_93 (lv_at hl 0 rfl) ?_
          refine lv_lload hx hb dX5_divide_95 (lv_at hl 2 rfl) ?_
          refine z_ldiv hx hb (by omega) (by omega) (by omega) dX5_divide_97 ?_
          refine z_l2i hx hb dX5_divide_98 ?_
          refine m_stF hok hx hb hK hM (by omega) dX5_divide_99 (fun H locs hM => ?_)
          refine lv_lload hx hb dX5_divide_100 (lv_at hl 0 rfl) ?_
          refine lv_lload hx hb dX5_divide_102 (lv_at hl 2 rfl) ?_
          refine z_lrem hx hb (by omega) (by omega) (by omega) dX5_divide_104 ?_
          refine lv_lstore_n (lv' := [(3, .long (lN ((left * 2147483648 + (F2 (72 * a + q))) % vb))), (8, .long (lN (left * 2147483648 + (F2 (72 * a + q))))), (7, .int (nI q)), (5, .long (lN vb)), (0, .ref o), (1, .int (nI a)), (2, .int (nI b))]) hx hb dX5_divide_105 rfl hl (by decide) rfl (fun ls hl => ?_)
          refine lv_iinc (v := nI q - 1) (lv' := [(7, .int (nI q - 1)), (3, .long (lN ((left * 2147483648 + (F2 (72 * a + q))) % vb))), (8, .long (lN (left * 2147483648 + (F2 (72 * a + q))))), (5, .long (lN vb)), (0, .ref o), (1, .int (nI a)), (2, .int (nI b))]) hx hb dX5_divide_106 hl (k := 2) rfl (nI_dec _) (by decide) rfl (fun ls hl => ?_)
          refine lv_goto (tgt := 58) hx hb dX5_divide_109 (by decide) ?_
          exact ihlp _ (by omega) q ((left * 2147483648 + F2 (72 * a + q)) % vb) (va_up F2 (72 * 445 + q) ((left * 2147483648 + F2 (72 * a + q)) / vb)) rfl (by omega) (Nat.mod_lt _ hvb) (fun j hj => by rw [va_up_ne _ _ (by omega)]; exact h1 j (by omega)) (fun j hj => by show va_up F2 _ _ _ < _; by_cases hc : j = q; subst hc; rw [va_up_self]; exact hdl; rw [va_up_ne _ _ (by omega)]; exact h2 j hj) (divide_inv hvb hk h1 ha (by omega) h3) ls _ _ (lv_sub hl [0, 3, 1, 4, 5, 6] rfl) hM
    exact lp _ (L a) 0 F1 rfl (by omega) hvb (fun _ _ => rfl) (fun j hj => nq.digs j (by omega)) (by simp [vl_0]) ls _ _ (lv_sub hl [0, 1, 2, 3, 4, 5] rfl) hM
