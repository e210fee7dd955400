set_option maxRecDepth 100000 in
set_option maxHeartbeats 4000000 in
theorem m_multiply (l : Launch) (Γ : zT) {o lF lL lB : Nat} (hok : mdk o lF lL lB) (G0 : zG) (fl : Nat → Int32) (F L B : Nat → Nat) (sz : Nat) (t a b : Nat) (za zb : Int) (ht : t < 455) (ha : a < 455) (hbb : b < 455) (hat : a ≠ t) (hbt : b ≠ t) (na : nv F L a za.natAbs) (nb : nv F L b zb.natAbs) (hBa : B a = sb za) (hBb : B b = sb zb) (hLab : L a + L b ≤ 72) : zMv l yX5_multiply wsX5_multiply (zR 2) Γ (md Γ o lF lL lB G0 fl F L B) sz [.ref o, .int (nI t), .int (nI a), .int (nI b)] (fun G' => ∃ F', G' = md Γ o lF lL lB G0 fl F' (va_up L t (nl (za * zb).natAbs)) (va_up B t (sb (za * zb))) ∧ fr72 F F' t ∧ nv F' (va_up L t (nl (za * zb).natAbs)) t (za * zb).natAbs) 0 0 := by
  refine z_start (cc := cX5_multiply) (maxL := 12) (ret := none) (by decide) rfl (Nat.le_of_ble_eq_true rfl) ?_
  intro p e s m args below meth c ls Q hQ hsz hx hb hr hml hown hts hlocks hnm hK hM hl
  obtain ⟨A, hAe⟩ : ∃ A, A = zA (md Γ o lF lL lB G0 fl F L B) s.heap.size := ⟨_, rfl⟩
  rw [← hAe] at hM
  have hl : lv_has ls 12 [(0, .ref o), (1, .int (nI t)), (2, .int (nI a)), (3, .int (nI b))] := hl
  have hin5 : ∀ w ∈ wsX50, w ∈ wsX5_multiply := by decide +kernel
  have hf_limbs := hts (.fieldLink RX5 7 "CutRowsModel" "limbs" "[I") (by decide +kernel)
  have hf_length := hts (.fieldLink RX5 13 "CutRowsModel" "length" "[I") (by decide +kernel)
  have hf_isBelow := hts (.fieldLink RX5 16 "CutRowsModel" "isBelow" "[Z") (by decide +kernel)
  have hsa := sb_lt za
  have hsb := sb_lt zb
  have hLa := na.le
  have hLb := nb.le
  refine lv_aload_n hx hb dX5_multiply_0 rfl (lv_at hl 0 rfl) ?_
  refine m_get hok hx hb hts hin5 hown hK hM 5 hf_length rfl (by decide) (v := .ref lL) rfl dX5_multiply_1 ?_
  refine lv_iload_n hx hb dX5_multiply_4 rfl (lv_at hl 2 rfl) ?_
  refine m_ldL hok hx hb hK hM (by omega) dX5_multiply_5 ?_
  refine lv_aload_n hx hb dX5_multiply_6 rfl (lv_at hl 0 rfl) ?_
  refine m_get hok hx hb hts hin5 hown hK hM 5 hf_length rfl (by decide) (v := .ref lL) rfl dX5_multiply_7 ?_
  refine lv_iload_n hx hb dX5_multiply_10 rfl (lv_at hl 3 rfl) ?_
  refine m_ldL hok hx hb hK hM (by omega) dX5_multiply_11 ?_
  refine z_iadd hx hb dX5_multiply_12 ?_
  obtain ⟨n, hn⟩ : ∃ n, n = L a + L b := ⟨_, rfl⟩
  rw [← hn]
  refine lv_istore (lv' := [(4, .int (nI n)), (0, .ref o), (1, .int (nI t)), (2, .int (nI a)), (3, .int (nI b))]) hx hb dX5_multiply_13 hl (by decide) rfl (fun ls hl => ?_)
  refine lv_iconst (v := nI 0) hx hb dX5_multiply_15 rfl ?_
  refine lv_istore (lv' := [(5, .int (nI 0)), (4, .int (nI n)), (0, .ref o), (1, .int (nI t)), (2, .int (nI a)), (3, .int (nI b))]) hx hb dX5_multiply_16 hl (by decide) rfl (fun ls hl => ?_)
  have lz : ∀ (μ : Nat) (k : Nat) (F1 : Nat → Nat), n - k = μ → (k ≤ n) → (fr72 F F1 t) → (∀ j, j < k → F1 (72 * t + j) = 0) → ∀ (ls : Array Slot) (H : Heap) (locs : List Loc), lv_has ls 12 [(5, .int (nI k)), (4, .int (nI n)), (0, .ref o), (1, .int (nI t)), (2, .int (nI a)), (3, .int (nI b))] → zM Γ A s.heap (md Γ o lF lL lB G0 fl F1 L B) H locs → W p l e (zR 2) s m args below meth c H locs 0 0 Q (F0 m 18 ls []) := by
    intro μ
    induction μ using Nat.strongRecOn with
    | _ μ ihlz =>
      intro k F1 hμ hk f1 f2 ls H locs hl hM
      refine lv_iload hx hb dX5_multiply_18 (lv_at hl 0 rfl) ?_
      refine lv_iload hx hb dX5_multiply_20 (lv_at hl 1 rfl) ?_
      refine z_icmp_ge (tgt := 44) hx hb (by omega) (by omega) dX5_multiply_22 (by decide) (fun hc22 => ?_) (fun hc22 => ?_)
      · refine lv_iconst (v := nI 0) hx hb dX5_multiply_44 rfl ?_
        refine lv_istore (lv' := [(5, .int (nI 0)), (4, .int (nI n)), (0, .ref o), (1, .int (nI t)), (2, .int (nI a)), (3, .int (nI b))]) hx hb dX5_multiply_45 hl (by decide) rfl (fun ls hl => ?_)
        have hz0 : vl (fun j => F1 (72 * t + j)) n = 0 := by rw [vl_pad (Nat.zero_le n) (fun j _ hj => f2 j (by omega))]; rfl
        have hd0 : dg (fun j => F1 (72 * t + j)) n := fun j hj => by show F1 _ < _; rw [f2 j (by omega)]; decide
        have lo : ∀ (μ : Nat) (i : Nat) (F2 : Nat → Nat), L a - i = μ → (i ≤ L a) → (fr72 F F2 t) → (dg (fun j => F2 (72 * t + j)) n) → (vl (fun j => F2 (72 * t + j)) n = vl (lmb F L a) i * zb.natAbs) → ∀ (ls : Array Slot) (H : Heap) (locs : List Loc), lv_has ls 12 [(5, .int (nI i)), (4, .int (nI n)), (0, .ref o), (1, .int (nI t)), (2, .int (nI a)), (3, .int (nI b))] → zM Γ A s.heap (md Γ o lF lL lB G0 fl F2 L B) H locs → W p l e (zR 2) s m args below meth c H locs 0 0 Q (F0 m 47 ls []) := by
          intro μ
          induction μ using Nat.strongRecOn with
          | _ μ ihlo =>
            intro i F2 hμ hi o1 o2 o3 ls H locs hl hM
            refine lv_iload hx hb dX5_multiply_47 (lv_at hl 0 rfl) ?_
            refine lv_aload_n hx hb dX5_multiply_49 rfl (lv_at hl 2 rfl) ?_
            refine m_get hok hx hb hts hin5 hown hK hM 5 hf_length rfl (by decide) (v := .ref lL) rfl dX5_multiply_50 ?_
            refine lv_iload_n hx hb dX5_multiply_53 rfl (lv_at hl 4 rfl) ?_
            refine m_ldL hok hx hb hK hM (by omega) dX5_multiply_54 ?_
            refine z_icmp_ge (tgt := 148) hx hb (by omega) (by omega) dX5_multiply_55 (by decide) (fun hc55 => ?_) (fun hc55 => ?_)
            · have hia : i = L a := by omega
              have hvl : vl (fun j => F2 (72 * t + j)) n = (za * zb).natAbs := by rw [o3, Int.natAbs_mul, hia, lmb_vl na (Nat.le_refl _)]
              refine lv_aload_n hx hb dX5_multiply_148 rfl (lv_at hl 2 rfl) ?_
              refine m_get hok hx hb hts hin5 hown hK hM 5 hf_length rfl (by decide) (v := .ref lL) rfl dX5_multiply_149 ?_
              refine lv_iload_n hx hb dX5_multiply_152 rfl (lv_at hl 3 rfl) ?_
              refine lv_iload hx hb dX5_multiply_153 (lv_at hl 1 rfl) ?_
              refine m_stL hok hx hb hK hM (by omega) dX5_multiply_155 (fun H locs hM => ?_)
              refine lv_aload_n hx hb dX5_multiply_156 rfl (lv_at hl 2 rfl) ?_
              refine m_get hok hx hb hts hin5 hown hK hM 6 hf_isBelow rfl (by decide) (v := .ref lB) rfl dX5_multiply_157 ?_
              refine lv_iload_n hx hb dX5_multiply_160 rfl (lv_at hl 3 rfl) ?_
              refine lv_aload_n hx hb dX5_multiply_161 rfl (lv_at hl 2 rfl) ?_
              refine m_get hok hx hb hts hin5 hown hK hM 6 hf_isBelow rfl (by decide) (v := .ref lB) rfl dX5_multiply_162 ?_
              refine lv_iload_n hx hb dX5_multiply_165 rfl (lv_at hl 4 rfl) ?_
              refine m_ldB hok hx hb hK hM (by omega) dX5_multiply_166 ?_
              refine lv_aload_n hx hb dX5_multiply_167 rfl (lv_at hl 2 rfl) ?_
              refine m_get hok hx hb hts hin5 hown hK hM 6 hf_isBelow rfl (by decide) (v := .ref lB) rfl dX5_multiply_168 ?_
              refine lv_iload_n hx hb dX5_multiply_171 rfl (lv_at hl 5 rfl) ?_
              refine m_ldB hok hx hb hK hM (by omega) dX5_multiply_172 ?_
              refine z_icmp_eq (tgt := 180) hx hb (by omega) (by omega) dX5_multiply_173 (by decide) (fun hc173 => ?_) (fun hc173 => ?_)
              · refine lv_iconst (v := nI 0) hx hb dX5_multiply_180 rfl ?_
                refine m_stB hok hx hb hK hM (by omega) (by omega) dX5_multiply_181 (fun H locs hM => ?_)
                refine lv_aload_n hx hb dX5_multiply_182 rfl (lv_at hl 2 rfl) ?_
                refine lv_iload_n hx hb dX5_multiply_183 rfl (lv_at hl 3 rfl) ?_
                refine z_callv0 (va_runV (As := [.int (nI t)]) (rest := []) ⟨hx, hb, hml, hown, hts⟩ (m_trim l Γ hok G0 fl F2 (va_up L t n) (va_up B t 0) _ t n ht (va_up_self _ _ _) (by omega) o2) (cwV 1 hts gX5_multiply_X5_trim rfl rfl rfl (by decide +kernel) ⟨Nat.le_of_ble_eq_true rfl, Nat.le_of_ble_eq_true rfl⟩) (zM.preV hK hM (md_o hok) rfl rfl) rfl rfl hl.1 rfl (lv_room (Nat.le_of_ble_eq_true rfl)) dX5_multiply_184 ⟨Nat.le_of_ble_eq_true rfl, Nat.le_of_ble_eq_true rfl⟩) hM (fun G184 H locs hp184 hM => ?_)
                obtain rfl := hp184
                rw [hQ]
                rw [hAe] at hM
                exact z_vret hsz hx hb hr hlocks hK hM dX5_multiply_187 (⟨F2, by rw [va_up_up, tr_of o2 hvl, mul_post rfl (by rw [← hBa, ← hBb, if_pos hc173])], o1, nv_of o2 hvl (by omega)⟩)
              · refine lv_iconst (v := nI 1) hx hb dX5_multiply_176 rfl ?_
                refine lv_goto (tgt := 181) hx hb dX5_multiply_177 (by decide) ?_
                refine m_stB hok hx hb hK hM (by omega) (by omega) dX5_multiply_181 (fun H locs hM => ?_)
                refine lv_aload_n hx hb dX5_multiply_182 rfl (lv_at hl 2 rfl) ?_
                refine lv_iload_n hx hb dX5_multiply_183 rfl (lv_at hl 3 rfl) ?_
                refine z_callv0 (va_runV (As := [.int (nI t)]) (rest := []) ⟨hx, hb, hml, hown, hts⟩ (m_trim l Γ hok G0 fl F2 (va_up L t n) (va_up B t 1) _ t n ht (va_up_self _ _ _) (by omega) o2) (cwV 1 hts gX5_multiply_X5_trim rfl rfl rfl (by decide +kernel) ⟨Nat.le_of_ble_eq_true rfl, Nat.le_of_ble_eq_true rfl⟩) (zM.preV hK hM (md_o hok) rfl rfl) rfl rfl hl.1 rfl (lv_room (Nat.le_of_ble_eq_true rfl)) dX5_multiply_184 ⟨Nat.le_of_ble_eq_true rfl, Nat.le_of_ble_eq_true rfl⟩) hM (fun G184 H locs hp184 hM => ?_)
                obtain rfl := hp184
                rw [hQ]
                rw [hAe] at hM
                exact z_vret hsz hx hb hr hlocks hK hM dX5_multiply_187 (⟨F2, by rw [va_up_up, tr_of o2 hvl, mul_post rfl (by rw [← hBa, ← hBb, if_neg hc173])], o1, nv_of o2 hvl (by omega)⟩)
            · refine lv_lconst (v := lN 0) hx hb dX5_multiply_58 rfl ?_
              refine lv_lstore (lv' := [(6, .long (lN 0)), (5, .int (nI i)), (4, .int (nI n)), (0, .ref o), (1, .int (nI t)), (2, .int (nI a)), (3, .int (nI b))]) hx hb dX5_multiply_59 hl (by decide) rfl (fun ls hl => ?_)
              refine lv_iconst (v := nI 0) hx hb dX5_multiply_61 rfl ?_
              refine lv_istore (lv' := [(8, .int (nI 0)), (6, .long (lN 0)), (5, .int (nI i)), (4, .int (nI n)), (0, .ref o), (1, .int (nI t)), (2, .int (nI a)), (3, .int (nI b))]) hx hb dX5_multiply_62 hl (by decide) rfl (fun ls hl => ?_)
              have lq : ∀ (μ : Nat) (k : Nat) (cy : Nat) (F3 : Nat → Nat), n - (i + k) = μ → (i + k ≤ n) → (cy < 2147483648) → (fr72 F F3 t) → (dg (fun j => F3 (72 * t + j)) n) → (vl (fun j => F3 (72 * t + j)) (i + k) + cy * bp (i + k) = vl (fun j => F2 (72 * t + j)) (i + k) + lmb F L a i * (bp i * vl (lmb F L b) k)) → (∀ j, 72 * t + (i + k) ≤ j → F3 j = F2 j) → ∀ (ls : Array Slot) (H : Heap) (locs : List Loc), lv_has ls 12 [(8, .int (nI k)), (6, .long (lN cy)), (5, .int (nI i)), (4, .int (nI n)), (0, .ref o), (1, .int (nI t)), (2, .int (nI a)), (3, .int (nI b))] → zM Γ A s.heap (md Γ o lF lL lB G0 fl F3 L B) H locs → W p l e (zR 2) s m args below meth c H locs 0 0 Q (F0 m 64 ls []) := by
                intro μ
                induction μ using Nat.strongRecOn with
                | _ μ ihlq =>
                  intro k cy F3 hμ hk hc1 g1 g2 g3 g4 ls H locs hl hM
                  refine lv_iload hx hb dX5_multiply_64 (lv_at hl 2 rfl) ?_
                  refine lv_iload hx hb dX5_multiply_66 (lv_at hl 0 rfl) ?_
                  refine z_iadd hx hb dX5_multiply_68 ?_
                  refine lv_iload hx hb dX5_multiply_69 (lv_at hl 3 rfl) ?_
                  refine z_icmp_ge (tgt := 142) hx hb (by omega) (by omega) dX5_multiply_71 (by decide) (fun hc71 => ?_) (fun hc71 => ?_)
                  · have hkn : i + k = n := by omega
                    have hv3 : vl (fun j => F3 (72 * t + j)) n = vl (lmb F L a) (i + 1) * zb.natAbs := by
                      have hB1 := lmb_vl nb (n := k) (by omega)
                      have hlt : vl (lmb F L a) (i + 1) * zb.natAbs < bp n := by
                        have q1 : vl (lmb F L a) (i + 1) < bp (L a) := Nat.lt_of_lt_of_le (vl_lt (fun j _ => lmb_lt na j)) (bp_le (by omega))
                        rw [hn]; exact mul_lt_bp q1 nb.lt
                      rw [hkn, hB1, o3] at g3
                      rw [vl_s, Nat.add_mul] at hlt ⊢
                      rw [← Nat.mul_assoc] at g3
                      rcases Nat.eq_zero_or_pos cy with h0 | h0
                      · subst h0; omega
                      · have := mul_le_r (bp n) (show 1 ≤ cy by omega); omega
                    refine z_iinc (v := (i + 1)) (lv' := [(5, .int (nI (i + 1))), (8, .int (nI k)), (6, .long (lN cy)), (4, .int (nI n)), (0, .ref o), (1, .int (nI t)), (2, .int (nI a)), (3, .int (nI b))]) hx hb dX5_multiply_142 hl (k := 2) rfl (nI_p1 _) (by decide) rfl (fun ls hl => ?_)
                    refine lv_goto (tgt := 47) hx hb dX5_multiply_145 (by decide) ?_
                    exact ihlo _ (by omega) (i + 1) F3 rfl (by omega) (g1) (g2) (hv3) ls _ _ (lv_sub hl [0, 3, 4, 5, 6, 7] rfl) hM
                  · refine lv_bipush (v := nI 72) hx hb dX5_multiply_74 rfl ?_
                    refine lv_iload_n hx hb dX5_multiply_76 rfl (lv_at hl 5 rfl) ?_
                    refine z_imul hx hb dX5_multiply_77 ?_
                    refine lv_iload hx hb dX5_multiply_78 (lv_at hl 2 rfl) ?_
                    refine z_iadd hx hb dX5_multiply_80 ?_
                    refine lv_iload hx hb dX5_multiply_81 (lv_at hl 0 rfl) ?_
                    refine z_iadd hx hb dX5_multiply_83 ?_
                    refine z_asi (y := nI (72 * t + (i + k))) (congrArg nI (by omega)) ?_
                    refine lv_istore (lv' := [(9, .int (nI (72 * t + (i + k)))), (8, .int (nI k)), (6, .long (lN cy)), (5, .int (nI i)), (4, .int (nI n)), (0, .ref o), (1, .int (nI t)), (2, .int (nI a)), (3, .int (nI b))]) hx hb dX5_multiply_84 hl (by decide) rfl (fun ls hl => ?_)
                    refine lv_aload_n hx hb dX5_multiply_86 rfl (lv_at hl 5 rfl) ?_
                    refine lv_iload_n hx hb dX5_multiply_87 rfl (lv_at hl 7 rfl) ?_
                    refine lv_iload hx hb dX5_multiply_88 (lv_at hl 3 rfl) ?_
                    refine z_calll0 (va_runV (As := [.int (nI a), .int (nI i)]) (rest := []) ⟨hx, hb, hml, hown, hts⟩ (m_limbOf l Γ hok G0 fl F3 L B _ a i ha (by omega) (na.fr (L' := L) g1 hat rfl).le (na.fr (L' := L) g1 hat rfl).digs) (cwV 2 hts gX5_multiply_X5_limbOf rfl rfl rfl (by decide +kernel) ⟨Nat.le_of_ble_eq_true rfl, Nat.le_of_ble_eq_true rfl⟩) (zM.preV hK hM (md_o hok) rfl rfl) rfl rfl hl.1 rfl (lv_room (Nat.le_of_ble_eq_true rfl)) dX5_multiply_90 ⟨Nat.le_of_ble_eq_true rfl, Nat.le_of_ble_eq_true rfl⟩) hM (fun r90 G90 H locs hp90 hM => ?_)
                    obtain ⟨rfl, rfl⟩ := hp90
                    rw [lmb_fr na g1 hat]
                    refine lv_aload_n hx hb dX5_multiply_93 rfl (lv_at hl 5 rfl) ?_
                    refine lv_iload_n hx hb dX5_multiply_94 rfl (lv_at hl 8 rfl) ?_
                    refine lv_iload hx hb dX5_multiply_95 (lv_at hl 1 rfl) ?_
                    refine z_calll0 (va_runV (As := [.int (nI b), .int (nI k)]) (rest := [.long (lN (lmb F L a i))]) ⟨hx, hb, hml, hown, hts⟩ (m_limbOf l Γ hok G0 fl F3 L B _ b k hbb (by omega) (nb.fr (L' := L) g1 hbt rfl).le (nb.fr (L' := L) g1 hbt rfl).digs) (cwV 2 hts gX5_multiply_X5_limbOf rfl rfl rfl (by decide +kernel) ⟨Nat.le_of_ble_eq_true rfl, Nat.le_of_ble_eq_true rfl⟩) (zM.preV hK hM (md_o hok) rfl rfl) rfl rfl hl.1 rfl (lv_room (Nat.le_of_ble_eq_true rfl)) dX5_multiply_97 ⟨Nat.le_of_ble_eq_true rfl, Nat.le_of_ble_eq_true rfl⟩) hM (fun r97 G97 H locs hp97 hM => ?_)
                    obtain ⟨rfl, rfl⟩ := hp97
                    rw [lmb_fr nb g1 hbt]
                    have hla := lmb_lt na i
                    have hlb := lmb_lt nb k
                    have hxy : lmb F L a i * lmb F L b k ≤ 2147483647 * 2147483647 := Nat.mul_le_mul (by omega) (by omega)
                    have hf3 : F3 (72 * t + (i + k)) < 2147483648 := g2 (i + k) (by omega)
                    have hf32 := g4 (72 * t + (i + k)) (by omega)
                    refine z_lmul hx hb dX5_multiply_100 ?_
                    refine lv_aload_n hx hb dX5_multiply_101 rfl (lv_at hl 5 rfl) ?_
                    refine m_get hok hx hb hts hin5 hown hK hM 4 hf_limbs rfl (by decide) (v := .ref lF) rfl dX5_multiply_102 ?_
                    refine lv_iload hx hb dX5_multiply_105 (lv_at hl 0 rfl) ?_
                    refine m_ldF hok hx hb hK hM (by omega) dX5_multiply_107 ?_
                    refine z_i2l hx hb (hf3) dX5_multiply_108 ?_
                    refine z_ladd hx hb dX5_multiply_109 ?_
                    refine lv_lload hx hb dX5_multiply_110 (lv_at hl 2 rfl) ?_
                    refine z_ladd hx hb dX5_multiply_112 ?_
                    refine lv_lstore (lv' := [(10, .long (lN ((lmb F L a i) * (lmb F L b k) + (F3 (72 * t + (i + k))) + cy))), (9, .int (nI (72 * t + (i + k)))), (8, .int (nI k)), (6, .long (lN cy)), (5, .int (nI i)), (4, .int (nI n)), (0, .ref o), (1, .int (nI t)), (2, .int (nI a)), (3, .int (nI b))]) hx hb dX5_multiply_113 hl (by decide) rfl (fun ls hl => ?_)
                    refine lv_aload_n hx hb dX5_multiply_115 rfl (lv_at hl 6 rfl) ?_
                    refine m_get hok hx hb hts hin5 hown hK hM 4 hf_limbs rfl (by decide) (v := .ref lF) rfl dX5_multiply_116 ?_
                    refine lv_iload hx hb dX5_multiply_119 (lv_at hl 1 rfl) ?_
                    refine lv_lload hx hb dX5_multiply_121 (lv_at hl 0 rfl) ?_
                    refine lv_ldc2 hx hb hown (hts (.constantLong RX5 41 (2147483647)) (by decide +kernel)) dX5_multiply_123 ?_
                    refine z_land31 hx hb (by omega) dX5_multiply_126 ?_
                    refine z_l2i hx hb dX5_multiply_127 ?_
                    refine m_stF hok hx hb hK hM (by omega) dX5_multiply_128 (fun H locs hM => ?_)
                    refine lv_lload hx hb dX5_multiply_129 (lv_at hl 0 rfl) ?_
                    refine lv_bipush (v := nI 31) hx hb dX5_multiply_131 rfl ?_
                    refine z_lshr31 hx hb (by omega) dX5_multiply_133 ?_
                    refine lv_lstore (lv' := [(6, .long (lN (((lmb F L a i) * (lmb F L b k) + (F3 (72 * t + (i + k))) + cy) / 2147483648))), (10, .long (lN ((lmb F L a i) * (lmb F L b k) + (F3 (72 * t + (i + k))) + cy))), (9, .int (nI (72 * t + (i + k)))), (8, .int (nI k)), (5, .int (nI i)), (4, .int (nI n)), (0, .ref o), (1, .int (nI t)), (2, .int (nI a)), (3, .int (nI b))]) hx hb dX5_multiply_134 hl (by decide) rfl (fun ls hl => ?_)
                    refine z_iinc (v := (k + 1)) (lv' := [(8, .int (nI (k + 1))), (6, .long (lN (((lmb F L a i) * (lmb F L b k) + (F3 (72 * t + (i + k))) + cy) / 2147483648))), (10, .long (lN ((lmb F L a i) * (lmb F L b k) + (F3 (72 * t + (i + k))) + cy))), (9, .int (nI (72 * t + (i + k)))), (5, .int (nI i)), (4, .int (nI n)), (0, .ref o), (1, .int (nI t)), (2, .int (nI a)), (3, .int (nI b))]) hx hb dX5_multiply_136 hl (k := 3) rfl (nI_p1 _) (by decide) rfl (fun ls hl => ?_)
                    refine lv_goto (tgt := 64) hx hb dX5_multiply_139 (by decide) ?_
                    exact ihlq _ (by omega) (k + 1) ((lmb F L a i * lmb F L b k + F3 (72 * t + (i + k)) + cy) / 2147483648) (va_up F3 (72 * t + (i + k)) ((lmb F L a i * lmb F L b k + F3 (72 * t + (i + k)) + cy) % 2147483648)) rfl (by omega) (by omega) (fun j hj => by rw [va_up_ne _ _ (by omega)]; exact g1 j hj) (fun j hj => by show va_up F3 _ _ _ < _; by_cases hc : j = i + k; subst hc; rw [va_up_self]; omega; rw [va_up_ne _ _ (by omega)]; exact g2 j hj) (by rw [up_vl2, vl_s2, vl_s (lmb F L b), hf32]; exact mul_step g3) (fun j hj => by rw [va_up_ne _ _ (by omega)]; exact g4 j (by omega)) ls _ _ (lv_sub hl [0, 1, 4, 5, 6, 7, 8, 9] rfl) hM
              exact lq _ 0 0 F2 rfl (by omega) (by omega) o1 o2 (by simp [vl_0]) (fun _ _ => rfl) ls _ _ (lv_sub hl [0, 1, 2, 3, 4, 5, 6, 7] rfl) hM
        exact lo _ 0 F1 rfl (by omega) f1 hd0 (by rw [hz0, vl_0, Nat.zero_mul]) ls _ _ (lv_sub hl [0, 1, 2, 3, 4, 5] rfl) hM
      · refine lv_aload_n hx hb dX5_multiply_25 rfl (lv_at hl 2 rfl) ?_
        refine m_get hok hx hb hts hin5 hown hK hM 4 hf_limbs rfl (by decide) (v := .ref lF) rfl dX5_multiply_26 ?_
        refine lv_bipush (v := nI 72) hx hb dX5_multiply_29 rfl ?_
        refine lv_iload_n hx hb dX5_multiply_31 rfl (lv_at hl 3 rfl) ?_
        refine z_imul hx hb dX5_multiply_32 ?_
        refine lv_iload hx hb dX5_multiply_33 (lv_at hl 0 rfl) ?_
        refine z_iadd hx hb dX5_multiply_35 ?_
        refine lv_iconst (v := nI 0) hx hb dX5_multiply_36 rfl ?_
        refine m_stF hok hx hb hK hM (by omega) dX5_multiply_37 (fun H locs hM => ?_)
        refine z_iinc (v := (k + 1)) (lv' := [(5, .int (nI (k + 1))), (4, .int (nI n)), (0, .ref o), (1, .int (nI t)), (2, .int (nI a)), (3, .int (nI b))]) hx hb dX5_multiply_38 hl (k := 0) rfl (nI_p1 _) (by decide) rfl (fun ls hl => ?_)
        refine lv_goto (tgt := 18) hx hb dX5_multiply_41 (by decide) ?_
        exact ihlz _ (by omega) (k + 1) (va_up F1 (72 * t + k) 0) rfl (by omega) (fun j hj => by rw [va_up_ne _ _ (by omega)]; exact f1 j hj) (fun j hj => by by_cases hc : j = k; subst hc; rw [va_up_self]; rw [va_up_ne _ _ (by omega)]; exact f2 j (by omega)) ls _ _ (lv_sub hl [0, 1, 2, 3, 4, 5] rfl) hM
  exact lz _ 0 F rfl (by omega) (fun _ _ => rfl) (fun _ h => by omega) ls _ _ (lv_sub hl [0, 1, 2, 3, 4, 5] rfl) hM
