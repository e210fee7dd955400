set_option maxRecDepth 100000 in
set_option maxHeartbeats 4000000 in
theorem m_common (l : Launch) (Γ : zT) {o lF lL lB : Nat} (hok : mdk o lF lL lB) (G0 : zG) (fl : Nat → Int32) (F L B : Nat → Nat) (sz : Nat) (a va x0 : Nat) (ha : a < 443) (na : nv F L a va) (nx : nv F L 443 x0) (hLx : L 443 ≤ 70) (hBa : B a < 2) (hBx : B 443 = 0) : zMv l yX5_common wsX5_common (zR 3) Γ (md Γ o lF lL lB G0 fl F L B) sz [.ref o, .int (nI a)] (fun G' => ∃ F' L' B', G' = md Γ o lF lL lB G0 fl F' L' B' ∧ sm 443 445 F L B F' L' B' ∧ nv F' L' 443 (Nat.gcd x0 va) ∧ B' 443 = 0 ∧ B' 444 = 0) 0 0 := by
  refine z_start (cc := cX5_common) (maxL := 4) (ret := none) (by decide) rfl (Nat.le_of_ble_eq_true rfl) ?_
  intro p e s m args below meth c ls Q hQ hsz hx hb hr hml hown hts hlocks hnm hK hM hl
  obtain ⟨A, hAe⟩ : ∃ A, A = zA (md Γ o lF lL lB G0 fl F L B) s.heap.size := ⟨_, rfl⟩
  rw [← hAe] at hM
  have hl : lv_has ls 4 [(0, .ref o), (1, .int (nI a))] := hl
  have hin5 : ∀ w ∈ wsX50, w ∈ wsX5_common := by decide +kernel
  have hf_length := hts (.fieldLink RX5 13 "CutRowsModel" "length" "[I") (by decide +kernel)
  have hf_isBelow := hts (.fieldLink RX5 16 "CutRowsModel" "isBelow" "[Z") (by decide +kernel)
  refine lv_aload_n hx hb dX5_common_0 rfl (lv_at hl 0 rfl) ?_
  refine lv_sipush (v := nI 444) hx hb dX5_common_1 rfl ?_
  refine lv_iload_n hx hb dX5_common_4 rfl (lv_at hl 1 rfl) ?_
  refine z_callv0 (va_runV (As := [.int (nI 444), .int (nI a)]) (rest := []) ⟨hx, hb, hml, hown, hts⟩ (m_copy l Γ hok G0 fl F L B _ 444 a (by omega) (by omega) (by omega) na.le hBa) (cwV 2 hts gX5_common_X5_copy rfl rfl rfl (by decide +kernel) ⟨Nat.le_of_ble_eq_true rfl, Nat.le_of_ble_eq_true rfl⟩) (zM.preV hK hM (md_o hok) rfl rfl) rfl rfl hl.1 rfl (lv_room (Nat.le_of_ble_eq_true rfl)) dX5_common_5 ⟨Nat.le_of_ble_eq_true rfl, Nat.le_of_ble_eq_true rfl⟩) hM (fun G5 H locs hp5 hM => ?_)
  obtain rfl := hp5
  obtain ⟨F1, L1, B0, hM, s1, q1, b1⟩ := copy_rel hM na
  refine lv_aload_n hx hb dX5_common_8 rfl (lv_at hl 0 rfl) ?_
  refine m_get hok hx hb hts hin5 hown hK hM 6 hf_isBelow rfl (by decide) (v := .ref lB) rfl dX5_common_9 ?_
  refine lv_sipush (v := nI 444) hx hb dX5_common_12 rfl ?_
  refine lv_iconst (v := nI 0) hx hb dX5_common_15 rfl ?_
  refine m_stB hok hx hb hK hM (by omega) (by omega) dX5_common_16 (fun H locs hM => ?_)
  obtain ⟨B1, hB1⟩ : ∃ B1, B1 = va_up B0 444 0 := ⟨_, rfl⟩
  rw [← hB1] at hM
  have sA : sm 443 445 F L B F1 L1 B1 := by rw [hB1]; exact (s1.wid (by omega) (Nat.le_refl _)).tr (smB.wid (by omega) (Nat.le_refl _))
  have hb3 : B1 443 = 0 := by rw [hB1, va_up_ne _ _ (by omega), s1.B (Or.inl (by omega))]; exact hBx
  have hb4 : B1 444 = 0 := by rw [hB1, va_up_self]
  have nx1 := s1.nv (Or.inl (by omega)) nx
  have hx72 := nx1.le
  have hy72 := q1.le
  refine lv_aload_n hx hb dX5_common_17 rfl (lv_at hl 0 rfl) ?_
  refine m_get hok hx hb hts hin5 hown hK hM 5 hf_length rfl (by decide) (v := .ref lL) rfl dX5_common_18 ?_
  refine lv_sipush (v := nI 443) hx hb dX5_common_21 rfl ?_
  refine m_ldL hok hx hb hK hM (by omega) dX5_common_24 ?_
  refine z_if_ne (tgt := 39) hx hb (by omega) dX5_common_25 (by decide) (fun hc25 => ?_) (fun hc25 => ?_)
  · refine lv_iconst (v := nI 0) hx hb dX5_common_39 rfl ?_
    refine lv_istore_n (lv' := [(2, .int (nI 0)), (0, .ref o), (1, .int (nI a))]) hx hb dX5_common_40 rfl hl (by decide) rfl (fun ls hl => ?_)
    have hx0p : 0 < x0 := by have := @nl_pos x0; have := nx1.1; omega
    have hx0l : x0 < 2 ^ 2170 := Nat.lt_of_lt_of_le nx.lt (by rw [bp_2]; exact Nat.pow_le_pow_right (by decide) (by omega))
    have hg0 : Nat.gcd x0 va ≤ x0 := Nat.gcd_le_left _ hx0p
    have lp1 : ∀ (μ : Nat) (x : Nat) (y : Nat) (tw : Nat) (F1 : Nat → Nat) (L1 : Nat → Nat) (B1 : Nat → Nat), y = μ → (sm 443 445 F L B F1 L1 B1) → (nv F1 L1 443 x) → (nv F1 L1 444 y) → (0 < x) → (Nat.gcd x y * 2 ^ tw = Nat.gcd x0 va) → (x * 2 ^ tw = x0) → (B1 443 = 0) → (B1 444 = 0) → ∀ (ls : Array Slot) (H : Heap) (locs : List Loc), lv_has ls 4 [(2, .int (nI tw)), (0, .ref o), (1, .int (nI a))] → zM Γ A s.heap (md Γ o lF lL lB G0 fl F1 L1 B1) H locs → W p l e (zR 3) s m args below meth c H locs 0 0 Q (F0 m 41 ls []) := by
      intro μ
      induction μ using Nat.strongRecOn with
      | _ μ ihlp1 =>
        intro x y tw F1 L1 B1 hμ c1 c2 c3 c4 c5 c6 c8 c9 ls H locs hl hM
        have htw : tw < 2170 := by
          have g1 : 2 ^ tw ≤ x0 := by rw [← c6]; exact Nat.le_mul_of_pos_left _ c4
          exact (Nat.pow_lt_pow_iff_right (by decide)).mp (Nat.lt_of_le_of_lt g1 hx0l)
        have lp2 : ∀ (μ : Nat) (x2 : Nat) (y2 : Nat) (F2 : Nat → Nat) (L2 : Nat → Nat) (B2 : Nat → Nat), x2 + y2 = μ → (sm 443 445 F L B F2 L2 B2) → (nv F2 L2 443 x2) → (nv F2 L2 444 y2) → (0 < x2) → (Nat.gcd x2 y2 * 2 ^ tw = Nat.gcd x0 va) → (y2 = 0 ∨ x2 % 2 = 1 ∨ y2 % 2 = 1) → (B2 443 = 0) → (B2 444 = 0) → ∀ (ls : Array Slot) (H : Heap) (locs : List Loc), lv_has ls 4 [(2, .int (nI tw)), (0, .ref o), (1, .int (nI a))] → zM Γ A s.heap (md Γ o lF lL lB G0 fl F2 L2 B2) H locs → W p l e (zR 3) s m args below meth c H locs 0 0 Q (F0 m 92 ls []) := by
          intro μ
          induction μ using Nat.strongRecOn with
          | _ μ ihlp2 =>
            intro x2 y2 F2 L2 B2 hμ e1 e2 e3 e4 e5 e7 e8 e9 ls H locs hl hM
            refine lv_aload_n hx hb dX5_common_92 rfl (lv_at hl 1 rfl) ?_
            refine m_get hok hx hb hts hin5 hown hK hM 5 hf_length rfl (by decide) (v := .ref lL) rfl dX5_common_93 ?_
            refine lv_sipush (v := nI 444) hx hb dX5_common_96 rfl ?_
            refine m_ldL hok hx hb hK hM (by omega) dX5_common_99 ?_
            refine z_if_le (tgt := 188) hx hb (by have := e3.le; omega) dX5_common_100 (by decide) (fun hc100 => ?_) (fun hc100 => ?_)
            · have hy0 : y2 = 0 := by have := @nl_pos y2; have := e3.1; omega
              refine lv_iconst (v := nI 0) hx hb dX5_common_188 rfl ?_
              refine lv_istore_n (lv' := [(3, .int (nI 0)), (2, .int (nI tw)), (0, .ref o), (1, .int (nI a))]) hx hb dX5_common_189 rfl hl (by decide) rfl (fun ls hl => ?_)
              rw [hy0, Nat.gcd_zero_right] at e5
              have lp5 : ∀ (μ : Nat) (k : Nat) (F5 : Nat → Nat) (L5 : Nat → Nat) (B5 : Nat → Nat), tw - k = μ → (k ≤ tw) → (sm 443 445 F L B F5 L5 B5) → (nv F5 L5 443 (x2 * 2 ^ k)) → (B5 443 = 0) → (B5 444 = 0) → ∀ (ls : Array Slot) (H : Heap) (locs : List Loc), lv_has ls 4 [(3, .int (nI k)), (2, .int (nI tw)), (0, .ref o), (1, .int (nI a))] → zM Γ A s.heap (md Γ o lF lL lB G0 fl F5 L5 B5) H locs → W p l e (zR 3) s m args below meth c H locs 0 0 Q (F0 m 190 ls []) := by
                intro μ
                induction μ using Nat.strongRecOn with
                | _ μ ihlp5 =>
                  intro k F5 L5 B5 hμ hk d1 d2 d3 d4 ls H locs hl hM
                  refine lv_iload_n hx hb dX5_common_190 rfl (lv_at hl 0 rfl) ?_
                  refine lv_iload_n hx hb dX5_common_191 rfl (lv_at hl 1 rfl) ?_
                  refine z_icmp_ge (tgt := 214) hx hb (by omega) (by omega) dX5_common_192 (by decide) (fun hc192 => ?_) (fun hc192 => ?_)
                  · rw [hQ]
                    rw [hAe] at hM
                    exact z_vret hsz hx hb hr hlocks hK hM dX5_common_214 (⟨_, _, _, rfl, d1, by rw [← e5, show tw = k by omega]; exact d2, d3, d4⟩)
                  · refine lv_aload_n hx hb dX5_common_195 rfl (lv_at hl 2 rfl) ?_
                    refine lv_sipush (v := nI 443) hx hb dX5_common_196 rfl ?_
                    refine lv_sipush (v := nI 443) hx hb dX5_common_199 rfl ?_
                    refine lv_sipush (v := nI 443) hx hb dX5_common_202 rfl ?_
                    have hk1 : x2 * 2 ^ k ≤ x0 := Nat.le_trans (Nat.mul_le_mul_left _ (Nat.pow_le_pow_right (by decide) hk)) (by rw [e5]; exact hg0)
                    have hl1 : L5 443 ≤ L 443 := by rw [d2.1, nx.1]; exact nl_mono hk1
                    refine z_callv0 (va_runV (As := [.int (nI 443), .int (nI 443), .int (nI 443)]) (rest := []) ⟨hx, hb, hml, hown, hts⟩ (m_addSizes l Γ hok G0 fl F5 L5 B5 _ 443 443 443 _ _ (by omega) (by omega) (by omega) d2 d2 (by omega) (by omega)) (cwV 3 hts gX5_common_X5_addSizes rfl rfl rfl (by decide +kernel) ⟨Nat.le_of_ble_eq_true rfl, Nat.le_of_ble_eq_true rfl⟩) (zM.preV hK hM (md_o hok) rfl rfl) rfl rfl hl.1 rfl (lv_room (Nat.le_of_ble_eq_true rfl)) dX5_common_205 ⟨Nat.le_of_ble_eq_true rfl, Nat.le_of_ble_eq_true rfl⟩) hM (fun G205 H locs hp205 hM => ?_)
                    obtain ⟨F6, rfl, f6, n6⟩ := hp205
                    obtain ⟨L6, B6, hM, s6, n6, b6⟩ := step_rel hM f6 n6
                    have e64 := s6.B (a := 444) (Or.inr (by omega))
                    refine z_iinc (v := (k + 1)) (lv' := [(3, .int (nI (k + 1))), (2, .int (nI tw)), (0, .ref o), (1, .int (nI a))]) hx hb dX5_common_208 hl (k := 0) rfl (nI_p1 _) (by decide) rfl (fun ls hl => ?_)
                    refine lv_goto (tgt := 190) hx hb dX5_common_211 (by decide) ?_
                    exact ihlp5 _ (by omega) (k + 1) F6 L6 B6 rfl (by omega) (d1.tr (s6.wid (Nat.le_refl _) (by omega))) (by rw [Nat.pow_succ, ← Nat.mul_assoc, Nat.mul_two]; exact n6) (by omega) (by omega) ls _ _ (lv_sub hl [0, 1, 2, 3] rfl) hM
              exact lp5 _ 0 F2 L2 B2 rfl (by omega) e1 (by rw [Nat.pow_zero, Nat.mul_one]; exact e2) e8 e9 ls _ _ (lv_sub hl [0, 1, 2, 3] rfl) hM
            · have hy2 : 0 < y2 := by have := @nl_pos y2; have := e3.1; omega
              have lp3 : ∀ (μ : Nat) (x3 : Nat) (F3 : Nat → Nat) (L3 : Nat → Nat) (B3 : Nat → Nat), x3 = μ → (sm 443 445 F L B F3 L3 B3) → (nv F3 L3 443 x3) → (nv F3 L3 444 y2) → (0 < x3) → (Nat.gcd x3 y2 * 2 ^ tw = Nat.gcd x0 va) → (x3 ≤ x2) → (x3 % 2 = 1 ∨ y2 % 2 = 1) → (B3 443 = 0) → (B3 444 = 0) → ∀ (ls : Array Slot) (H : Heap) (locs : List Loc), lv_has ls 4 [(2, .int (nI tw)), (0, .ref o), (1, .int (nI a))] → zM Γ A s.heap (md Γ o lF lL lB G0 fl F3 L3 B3) H locs → W p l e (zR 3) s m args below meth c H locs 0 0 Q (F0 m 103 ls []) := by
                intro μ
                induction μ using Nat.strongRecOn with
                | _ μ ihlp3 =>
                  intro x3 F3 L3 B3 hμ g1 g2 g3 g4 g5 g6 g7 g8 g9 ls H locs hl hM
                  refine lv_aload_n hx hb dX5_common_103 rfl (lv_at hl 1 rfl) ?_
                  refine lv_sipush (v := nI 443) hx hb dX5_common_104 rfl ?_
                  refine z_calli0 (va_runV (As := [.int (nI 443)]) (rest := []) ⟨hx, hb, hml, hown, hts⟩ (m_isEven l Γ hok G0 fl F3 L3 B3 _ 443 x3 (by omega) g2) (cwV 1 hts gX5_common_X5_isEven rfl rfl rfl (by decide +kernel) ⟨Nat.le_of_ble_eq_true rfl, Nat.le_of_ble_eq_true rfl⟩) (zM.preV hK hM (md_o hok) rfl rfl) rfl rfl hl.1 rfl (lv_room (Nat.le_of_ble_eq_true rfl)) dX5_common_107 ⟨Nat.le_of_ble_eq_true rfl, Nat.le_of_ble_eq_true rfl⟩) hM (fun r107 G107 H locs hp107 hM => ?_)
                  obtain ⟨rfl, rfl⟩ := hp107
                  refine z_if_eq (tgt := 123) hx hb (by split <;> omega) dX5_common_110 (by decide) (fun hc110 => ?_) (fun hc110 => ?_)
                  · have hox : x3 % 2 = 1 := by split at hc110 <;> omega
                    have lp4 : ∀ (μ : Nat) (y4 : Nat) (F4 : Nat → Nat) (L4 : Nat → Nat) (B4 : Nat → Nat), y4 = μ → (sm 443 445 F L B F4 L4 B4) → (nv F4 L4 443 x3) → (nv F4 L4 444 y4) → (0 < y4) → (Nat.gcd x3 y4 * 2 ^ tw = Nat.gcd x0 va) → (y4 ≤ y2) → (B4 443 = 0) → (B4 444 = 0) → ∀ (ls : Array Slot) (H : Heap) (locs : List Loc), lv_has ls 4 [(2, .int (nI tw)), (0, .ref o), (1, .int (nI a))] → zM Γ A s.heap (md Γ o lF lL lB G0 fl F4 L4 B4) H locs → W p l e (zR 3) s m args below meth c H locs 0 0 Q (F0 m 123 ls []) := by
                      intro μ
                      induction μ using Nat.strongRecOn with
                      | _ μ ihlp4 =>
                        intro y4 F4 L4 B4 hμ k1 k2 k3 k4 k5 k6 k8 k9 ls H locs hl hM
                        refine lv_aload_n hx hb dX5_common_123 rfl (lv_at hl 1 rfl) ?_
                        refine lv_sipush (v := nI 444) hx hb dX5_common_124 rfl ?_
                        refine z_calli0 (va_runV (As := [.int (nI 444)]) (rest := []) ⟨hx, hb, hml, hown, hts⟩ (m_isEven l Γ hok G0 fl F4 L4 B4 _ 444 y4 (by omega) k3) (cwV 1 hts gX5_common_X5_isEven rfl rfl rfl (by decide +kernel) ⟨Nat.le_of_ble_eq_true rfl, Nat.le_of_ble_eq_true rfl⟩) (zM.preV hK hM (md_o hok) rfl rfl) rfl rfl hl.1 rfl (lv_room (Nat.le_of_ble_eq_true rfl)) dX5_common_127 ⟨Nat.le_of_ble_eq_true rfl, Nat.le_of_ble_eq_true rfl⟩) hM (fun r127 G127 H locs hp127 hM => ?_)
                        obtain ⟨rfl, rfl⟩ := hp127
                        refine z_if_eq (tgt := 143) hx hb (by split <;> omega) dX5_common_130 (by decide) (fun hc130 => ?_) (fun hc130 => ?_)
                        · have hoy : y4 % 2 = 1 := by split at hc130 <;> omega
                          refine lv_aload_n hx hb dX5_common_143 rfl (lv_at hl 1 rfl) ?_
                          refine lv_sipush (v := nI 443) hx hb dX5_common_144 rfl ?_
                          refine lv_sipush (v := nI 444) hx hb dX5_common_147 rfl ?_
                          refine z_calli0 (va_runV (As := [.int (nI 443), .int (nI 444)]) (rest := []) ⟨hx, hb, hml, hown, hts⟩ (m_compareSizes l Γ hok G0 fl F4 L4 B4 _ 443 444 x3 y4 (by omega) (by omega) k2 k3) (cwV 2 hts gX5_common_X5_compareSizes rfl rfl rfl (by decide +kernel) ⟨Nat.le_of_ble_eq_true rfl, Nat.le_of_ble_eq_true rfl⟩) (zM.preV hK hM (md_o hok) rfl rfl) rfl rfl hl.1 rfl (lv_room (Nat.le_of_ble_eq_true rfl)) dX5_common_150 ⟨Nat.le_of_ble_eq_true rfl, Nat.le_of_ble_eq_true rfl⟩) hM (fun r150 G150 H locs hp150 hM => ?_)
                          obtain ⟨rfl, rfl⟩ := hp150
                          refine lv_if_le (tgt := 172) hx hb dX5_common_153 (by decide) (fun hc153 => ?_) (fun hc153 => ?_)
                          · have hle : x3 ≤ y4 := by
                              rcases Nat.lt_or_ge y4 x3 with g | g
                              · rw [← cmp3_gt g] at hc153; exact absurd hc153 (by decide)
                              · exact g
                            refine lv_aload_n hx hb dX5_common_172 rfl (lv_at hl 1 rfl) ?_
                            refine lv_sipush (v := nI 444) hx hb dX5_common_173 rfl ?_
                            refine lv_sipush (v := nI 444) hx hb dX5_common_176 rfl ?_
                            refine lv_sipush (v := nI 443) hx hb dX5_common_179 rfl ?_
                            refine z_callv0 (va_runV (As := [.int (nI 444), .int (nI 444), .int (nI 443)]) (rest := []) ⟨hx, hb, hml, hown, hts⟩ (m_subtractSizes l Γ hok G0 fl F4 L4 B4 _ 444 444 443 _ _ (by omega) (by omega) (by omega) k3 k2 (by omega)) (cwV 3 hts gX5_common_X5_subtractSizes rfl rfl rfl (by decide +kernel) ⟨Nat.le_of_ble_eq_true rfl, Nat.le_of_ble_eq_true rfl⟩) (zM.preV hK hM (md_o hok) rfl rfl) rfl rfl hl.1 rfl (lv_room (Nat.le_of_ble_eq_true rfl)) dX5_common_182 ⟨Nat.le_of_ble_eq_true rfl, Nat.le_of_ble_eq_true rfl⟩) hM (fun G182 H locs hp182 hM => ?_)
                            obtain ⟨F9, rfl, f9, n9⟩ := hp182
                            obtain ⟨L9, B9, hM, s9, n9, b9⟩ := step_rel hM f9 n9
                            refine lv_goto (tgt := 92) hx hb dX5_common_185 (by decide) ?_
                            have e93 := s9.B (a := 443) (Or.inl (by omega))
                            exact ihlp2 _ (by omega) x3 (y4 - x3) F9 L9 B9 rfl (k1.tr (s9.wid (by omega) (Nat.le_refl _))) (s9.nv (Or.inl (by omega)) k2) (n9) (by omega) (by rw [Nat.gcd_sub_self_right (by omega)]; exact k5) (Or.inr (Or.inl hox)) (by omega) (by omega) ls _ _ (lv_sub hl [0, 1, 2] rfl) hM
                          · have hgt : y4 < x3 := by
                              rcases Nat.lt_or_ge y4 x3 with g | g
                              · exact g
                              · rcases Nat.lt_or_ge x3 y4 with g2 | g2
                                · rw [← cmp3_lt g2] at hc153; exact absurd (by decide) hc153
                                · rw [← cmp3_eq (Nat.le_antisymm g g2)] at hc153; exact absurd (by decide) hc153
                            refine lv_aload_n hx hb dX5_common_156 rfl (lv_at hl 1 rfl) ?_
                            refine lv_sipush (v := nI 443) hx hb dX5_common_157 rfl ?_
                            refine lv_sipush (v := nI 443) hx hb dX5_common_160 rfl ?_
                            refine lv_sipush (v := nI 444) hx hb dX5_common_163 rfl ?_
                            refine z_callv0 (va_runV (As := [.int (nI 443), .int (nI 443), .int (nI 444)]) (rest := []) ⟨hx, hb, hml, hown, hts⟩ (m_subtractSizes l Γ hok G0 fl F4 L4 B4 _ 443 443 444 _ _ (by omega) (by omega) (by omega) k2 k3 (by omega)) (cwV 3 hts gX5_common_X5_subtractSizes rfl rfl rfl (by decide +kernel) ⟨Nat.le_of_ble_eq_true rfl, Nat.le_of_ble_eq_true rfl⟩) (zM.preV hK hM (md_o hok) rfl rfl) rfl rfl hl.1 rfl (lv_room (Nat.le_of_ble_eq_true rfl)) dX5_common_166 ⟨Nat.le_of_ble_eq_true rfl, Nat.le_of_ble_eq_true rfl⟩) hM (fun G166 H locs hp166 hM => ?_)
                            obtain ⟨F9, rfl, f9, n9⟩ := hp166
                            obtain ⟨L9, B9, hM, s9, n9, b9⟩ := step_rel hM f9 n9
                            refine lv_goto (tgt := 92) hx hb dX5_common_169 (by decide) ?_
                            have e94 := s9.B (a := 444) (Or.inr (by omega))
                            exact ihlp2 _ (by omega) (x3 - y4) y4 F9 L9 B9 rfl (k1.tr (s9.wid (Nat.le_refl _) (by omega))) (n9) (s9.nv (Or.inr (by omega)) k3) (by omega) (by rw [Nat.gcd_sub_self_left (by omega)]; exact k5) (Or.inr (Or.inr hoy)) (by omega) (by omega) ls _ _ (lv_sub hl [0, 1, 2] rfl) hM
                        · have hev : y4 % 2 = 0 := by split at hc130 <;> omega
                          refine lv_aload_n hx hb dX5_common_133 rfl (lv_at hl 1 rfl) ?_
                          refine lv_sipush (v := nI 444) hx hb dX5_common_134 rfl ?_
                          refine z_callv0 (va_runV (As := [.int (nI 444)]) (rest := []) ⟨hx, hb, hml, hown, hts⟩ (m_halve l Γ hok G0 fl F4 L4 B4 _ 444 y4 (by omega) k3) (cwV 1 hts gX5_common_X5_halve rfl rfl rfl (by decide +kernel) ⟨Nat.le_of_ble_eq_true rfl, Nat.le_of_ble_eq_true rfl⟩) (zM.preV hK hM (md_o hok) rfl rfl) rfl rfl hl.1 rfl (lv_room (Nat.le_of_ble_eq_true rfl)) dX5_common_137 ⟨Nat.le_of_ble_eq_true rfl, Nat.le_of_ble_eq_true rfl⟩) hM (fun G137 H locs hp137 hM => ?_)
                          obtain ⟨F8, rfl, f8, n8⟩ := hp137
                          obtain ⟨L8, B8, hM, s8, n8, b8⟩ := step_rel hM f8 n8
                          refine lv_goto (tgt := 123) hx hb dX5_common_140 (by decide) ?_
                          have e83 := s8.B (a := 443) (Or.inl (by omega))
                          exact ihlp4 _ (by omega) (y4 / 2) F8 L8 B8 rfl (k1.tr (s8.wid (by omega) (Nat.le_refl _))) (s8.nv (Or.inl (by omega)) k2) (n8) (by omega) (by rw [Nat.gcd_comm, gcd_half hev hox, Nat.gcd_comm]; exact k5) (by omega) (by omega) (by omega) ls _ _ (lv_sub hl [0, 1, 2] rfl) hM
                    exact lp4 _ y2 F3 L3 B3 rfl g1 g2 g3 hy2 g5 (Nat.le_refl _) g8 g9 ls _ _ (lv_sub hl [0, 1, 2] rfl) hM
                  · have hev : x3 % 2 = 0 := by split at hc110 <;> omega
                    have hod : y2 % 2 = 1 := by omega
                    refine lv_aload_n hx hb dX5_common_113 rfl (lv_at hl 1 rfl) ?_
                    refine lv_sipush (v := nI 443) hx hb dX5_common_114 rfl ?_
                    refine z_callv0 (va_runV (As := [.int (nI 443)]) (rest := []) ⟨hx, hb, hml, hown, hts⟩ (m_halve l Γ hok G0 fl F3 L3 B3 _ 443 x3 (by omega) g2) (cwV 1 hts gX5_common_X5_halve rfl rfl rfl (by decide +kernel) ⟨Nat.le_of_ble_eq_true rfl, Nat.le_of_ble_eq_true rfl⟩) (zM.preV hK hM (md_o hok) rfl rfl) rfl rfl hl.1 rfl (lv_room (Nat.le_of_ble_eq_true rfl)) dX5_common_117 ⟨Nat.le_of_ble_eq_true rfl, Nat.le_of_ble_eq_true rfl⟩) hM (fun G117 H locs hp117 hM => ?_)
                    obtain ⟨F7, rfl, f7, n7⟩ := hp117
                    obtain ⟨L7, B7, hM, s7, n7, b7⟩ := step_rel hM f7 n7
                    refine lv_goto (tgt := 103) hx hb dX5_common_120 (by decide) ?_
                    have e74 := s7.B (a := 444) (Or.inr (by omega))
                    exact ihlp3 _ (by omega) (x3 / 2) F7 L7 B7 rfl (g1.tr (s7.wid (Nat.le_refl _) (by omega))) (n7) (s7.nv (Or.inr (by omega)) g3) (by omega) (by rw [gcd_half hev hod]; exact g5) (by omega) (Or.inr hod) (by omega) (by omega) ls _ _ (lv_sub hl [0, 1, 2] rfl) hM
              exact lp3 _ x2 F2 L2 B2 rfl e1 e2 e3 e4 e5 (Nat.le_refl _) (by omega) e8 e9 ls _ _ (lv_sub hl [0, 1, 2] rfl) hM
        refine lv_aload_n hx hb dX5_common_41 rfl (lv_at hl 1 rfl) ?_
        refine m_get hok hx hb hts hin5 hown hK hM 5 hf_length rfl (by decide) (v := .ref lL) rfl dX5_common_42 ?_
        refine lv_sipush (v := nI 444) hx hb dX5_common_45 rfl ?_
        refine m_ldL hok hx hb hK hM (by omega) dX5_common_48 ?_
        refine z_if_le (tgt := 92) hx hb (by have := c3.le; omega) dX5_common_49 (by decide) (fun hc49 => ?_) (fun hc49 => ?_)
        · exact lp2 _ x y F1 L1 B1 rfl c1 c2 c3 c4 c5 (Or.inl (by have := @nl_pos y; have := c3.1; omega)) c8 c9 ls _ _ (lv_sub hl [0, 1, 2] rfl) hM
        · refine lv_aload_n hx hb dX5_common_52 rfl (lv_at hl 1 rfl) ?_
          refine lv_sipush (v := nI 443) hx hb dX5_common_53 rfl ?_
          refine z_calli0 (va_runV (As := [.int (nI 443)]) (rest := []) ⟨hx, hb, hml, hown, hts⟩ (m_isEven l Γ hok G0 fl F1 L1 B1 _ 443 x (by omega) c2) (cwV 1 hts gX5_common_X5_isEven rfl rfl rfl (by decide +kernel) ⟨Nat.le_of_ble_eq_true rfl, Nat.le_of_ble_eq_true rfl⟩) (zM.preV hK hM (md_o hok) rfl rfl) rfl rfl hl.1 rfl (lv_room (Nat.le_of_ble_eq_true rfl)) dX5_common_56 ⟨Nat.le_of_ble_eq_true rfl, Nat.le_of_ble_eq_true rfl⟩) hM (fun r56 G56 H locs hp56 hM => ?_)
          obtain ⟨rfl, rfl⟩ := hp56
          refine z_if_eq (tgt := 92) hx hb (by split <;> omega) dX5_common_59 (by decide) (fun hc59 => ?_) (fun hc59 => ?_)
          · exact lp2 _ x y F1 L1 B1 rfl c1 c2 c3 c4 c5 (Or.inr (Or.inl (by split at hc59 <;> omega))) c8 c9 ls _ _ (lv_sub hl [0, 1, 2] rfl) hM
          · refine lv_aload_n hx hb dX5_common_62 rfl (lv_at hl 1 rfl) ?_
            refine lv_sipush (v := nI 444) hx hb dX5_common_63 rfl ?_
            refine z_calli0 (va_runV (As := [.int (nI 444)]) (rest := []) ⟨hx, hb, hml, hown, hts⟩ (m_isEven l Γ hok G0 fl F1 L1 B1 _ 444 y (by omega) c3) (cwV 1 hts gX5_common_X5_isEven rfl rfl rfl (by decide +kernel) ⟨Nat.le_of_ble_eq_true rfl, Nat.le_of_ble_eq_true rfl⟩) (zM.preV hK hM (md_o hok) rfl rfl) rfl rfl hl.1 rfl (lv_room (Nat.le_of_ble_eq_true rfl)) dX5_common_66 ⟨Nat.le_of_ble_eq_true rfl, Nat.le_of_ble_eq_true rfl⟩) hM (fun r66 G66 H locs hp66 hM => ?_)
            obtain ⟨rfl, rfl⟩ := hp66
            refine z_if_eq (tgt := 92) hx hb (by split <;> omega) dX5_common_69 (by decide) (fun hc69 => ?_) (fun hc69 => ?_)
            · exact lp2 _ x y F1 L1 B1 rfl c1 c2 c3 c4 c5 (Or.inr (Or.inr (by split at hc69 <;> omega))) c8 c9 ls _ _ (lv_sub hl [0, 1, 2] rfl) hM
            · have hex : x % 2 = 0 := by split at hc59 <;> omega
              have hey : y % 2 = 0 := by split at hc69 <;> omega
              have hyp : 0 < y := by have := @nl_pos y; have := c3.1; omega
              refine lv_aload_n hx hb dX5_common_72 rfl (lv_at hl 1 rfl) ?_
              refine lv_sipush (v := nI 443) hx hb dX5_common_73 rfl ?_
              refine z_callv0 (va_runV (As := [.int (nI 443)]) (rest := []) ⟨hx, hb, hml, hown, hts⟩ (m_halve l Γ hok G0 fl F1 L1 B1 _ 443 x (by omega) c2) (cwV 1 hts gX5_common_X5_halve rfl rfl rfl (by decide +kernel) ⟨Nat.le_of_ble_eq_true rfl, Nat.le_of_ble_eq_true rfl⟩) (zM.preV hK hM (md_o hok) rfl rfl) rfl rfl hl.1 rfl (lv_room (Nat.le_of_ble_eq_true rfl)) dX5_common_76 ⟨Nat.le_of_ble_eq_true rfl, Nat.le_of_ble_eq_true rfl⟩) hM (fun G76 H locs hp76 hM => ?_)
              obtain ⟨F3, rfl, f3, n3⟩ := hp76
              obtain ⟨L3, B3, hM, s3, n3, b3⟩ := step_rel hM f3 n3
              refine lv_aload_n hx hb dX5_common_79 rfl (lv_at hl 1 rfl) ?_
              refine lv_sipush (v := nI 444) hx hb dX5_common_80 rfl ?_
              have c33 := s3.nv (Or.inr (by omega)) c3
              refine z_callv0 (va_runV (As := [.int (nI 444)]) (rest := []) ⟨hx, hb, hml, hown, hts⟩ (m_halve l Γ hok G0 fl F3 L3 B3 _ 444 y (by omega) c33) (cwV 1 hts gX5_common_X5_halve rfl rfl rfl (by decide +kernel) ⟨Nat.le_of_ble_eq_true rfl, Nat.le_of_ble_eq_true rfl⟩) (zM.preV hK hM (md_o hok) rfl rfl) rfl rfl hl.1 rfl (lv_room (Nat.le_of_ble_eq_true rfl)) dX5_common_83 ⟨Nat.le_of_ble_eq_true rfl, Nat.le_of_ble_eq_true rfl⟩) hM (fun G83 H locs hp83 hM => ?_)
              obtain ⟨F4, rfl, f4, n4⟩ := hp83
              obtain ⟨L4, B4, hM, s4, n4, b4⟩ := step_rel hM f4 n4
              have e34 := s3.B (a := 444) (Or.inr (by omega))
              have e43 := s4.B (a := 443) (Or.inl (by omega))
              refine z_iinc (v := (tw + 1)) (lv' := [(2, .int (nI (tw + 1))), (0, .ref o), (1, .int (nI a))]) hx hb dX5_common_86 hl (k := 0) rfl (nI_p1 _) (by decide) rfl (fun ls hl => ?_)
              refine lv_goto (tgt := 41) hx hb dX5_common_89 (by decide) ?_
              exact ihlp1 _ (by omega) (x / 2) (y / 2) (tw + 1) F4 L4 B4 rfl (c1.tr ((s3.wid (Nat.le_refl _) (by omega)).tr (s4.wid (by omega) (Nat.le_refl _)))) (s4.nv (Or.inl (by omega)) n3) (n4) (by omega) (by rw [← c5, ← gcd_half2 hex hey, Nat.pow_succ]; rw [Nat.mul_comm (2 ^ tw), ← Nat.mul_assoc, Nat.mul_comm _ 2]) (by rw [← c6, Nat.pow_succ, Nat.mul_comm (2 ^ tw), ← Nat.mul_assoc]; congr 1; omega) (by omega) (by omega) ls _ _ (lv_sub hl [0, 1, 2] rfl) hM
    exact lp1 _ x0 va 0 F1 L1 B1 rfl sA nx1 q1 hx0p (by rw [Nat.pow_zero, Nat.mul_one]) (by rw [Nat.pow_zero, Nat.mul_one]) hb3 hb4 ls _ _ (lv_sub hl [0, 1, 2] rfl) hM
  · refine lv_aload_n hx hb dX5_common_28 rfl (lv_at hl 0 rfl) ?_
    refine lv_sipush (v := nI 443) hx hb dX5_common_29 rfl ?_
    refine lv_sipush (v := nI 444) hx hb dX5_common_32 rfl ?_
    refine z_callv0 (va_runV (As := [.int (nI 443), .int (nI 444)]) (rest := []) ⟨hx, hb, hml, hown, hts⟩ (m_copy l Γ hok G0 fl F1 L1 B1 _ 443 444 (by omega) (by omega) (by omega) q1.le (by omega)) (cwV 2 hts gX5_common_X5_copy rfl rfl rfl (by decide +kernel) ⟨Nat.le_of_ble_eq_true rfl, Nat.le_of_ble_eq_true rfl⟩) (zM.preV hK hM (md_o hok) rfl rfl) rfl rfl hl.1 rfl (lv_room (Nat.le_of_ble_eq_true rfl)) dX5_common_35 ⟨Nat.le_of_ble_eq_true rfl, Nat.le_of_ble_eq_true rfl⟩) hM (fun G35 H locs hp35 hM => ?_)
    obtain rfl := hp35
    obtain ⟨F2, L2, B2, hM, s2, q2, b2⟩ := copy_rel hM q1
    have hx00 : x0 = 0 := by have := @nl_pos x0; have := nx1.1; omega
    have e44 := s2.B (a := 444) (Or.inr (by omega))
    rw [hQ]
    rw [hAe] at hM
    exact z_vret hsz hx hb hr hlocks hK hM dX5_common_38 (⟨_, _, _, rfl, sA.tr (s2.wid (Nat.le_refl _) (by omega)), by rw [hx00, Nat.gcd_zero_left]; exact q2, by omega, by omega⟩)
