set_option maxRecDepth 100000 in
set_option maxHeartbeats 4000000 in
theorem m_divideRound (l : Launch) (Γ : zT) {o lF lL lB : Nat} (hok : mdk o lF lL lB) (G0 : zG) (F L B : Nat → Nat) (sz : Nat) (rf : Int32) (σ : AS) (row : Int32) (hA : AI σ) (hR : MRep F L B σ) : zMi l yX5_divideRound wsX5_divideRound (zR 4) Γ (md Γ o lF lL lB G0 (mfs rf σ) F L B) sz [.ref o, .int row] (fun r G' => ∃ F' L' B', G' = md Γ o lF lL lB G0 (mfs (nI 0) (op_divide row σ).2) F' L' B' ∧ r = (op_divide row σ).1 ∧ MRep F' L' B' (op_divide row σ).2) 0 0 := by
  obtain ⟨⟨vars, maxR, cells⟩, ⟨nr, inp, R⟩, ⟨fil, V⟩, ⟨se, be, S⟩, P, ⟨st, sg, gv, g, z⟩⟩ := σ
  obtain ⟨⟨hv1, hv6, hm1, hm60, hc4⟩, ⟨hnr, hinp, hsei, hRs⟩, ⟨hfil, hVs⟩, ⟨hse, hbe, hSs⟩, hPs, hst, hgv, hsg, hz1, hgd, hz20⟩ := id hA
  obtain ⟨mR, mV, mS, mP, mg, mz, m1⟩ := id hR
  refine z_start (cc := cX5_divideRound) (maxL := 5) (ret := (some .int)) (by decide) rfl (Nat.le_of_ble_eq_true rfl) ?_
  intro p e s m args below meth c ls Q hQ hsz hx hb hr hml hown hts hlocks hnm hK hM hl
  obtain ⟨A, hAe⟩ : ∃ A, A = zA (md Γ o lF lL lB G0 (mfl rf (nI vars) (nI maxR) (nI cells) (nI nr) (nI inp) (nI fil) (nI se) (nI be) (nI st) sg (nI gv)) F L B) s.heap.size := ⟨_, rfl⟩
  have hM : zM Γ A s.heap (md Γ o lF lL lB G0 (mfl rf (nI vars) (nI maxR) (nI cells) (nI nr) (nI inp) (nI fil) (nI se) (nI be) (nI st) sg (nI gv)) F L B) s.heap [] := by rw [hAe]; exact hM
  have hl : lv_has ls 5 [(0, .ref o), (1, .int row)] := hl
  have hin5 : ∀ w ∈ wsX50, w ∈ wsX5_divideRound := by decide +kernel
  have hf_length := hts (.fieldLink RX5 13 "CutRowsModel" "length" "[I") (by decide +kernel)
  have hf_isBelow := hts (.fieldLink RX5 16 "CutRowsModel" "isBelow" "[Z") (by decide +kernel)
  have hf_vars := hts (.fieldLink RX5 24 "CutRowsModel" "vars" "I") (by decide +kernel)
  have hf_refusal := hts (.fieldLink RX5 34 "CutRowsModel" "refusal" "I") (by decide +kernel)
  have hf_isSealed := hts (.fieldLink RX5 102 "CutRowsModel" "isSealed" "Z") (by decide +kernel)
  refine lv_aload_n hx hb dX5_divideRound_0 rfl (lv_at hl 0 rfl) ?_
  refine lv_iconst (v := nI 0) hx hb dX5_divideRound_1 rfl ?_
  refine m_put hok hx hb hts hin5 hown hK hM 0 hf_refusal rfl (by decide) rfl (rfl) (rfl) (fl' := mfl (nI 0) (nI vars) (nI maxR) (nI cells) (nI nr) (nI inp) (nI fil) (nI se) (nI be) (nI st) sg (nI gv)) rfl dX5_divideRound_2 (fun H locs hM => ?_)
  refine lv_aload_n hx hb dX5_divideRound_5 rfl (lv_at hl 0 rfl) ?_
  refine lv_iload_n hx hb dX5_divideRound_6 rfl (lv_at hl 1 rfl) ?_
  refine z_calli0 (va_runV (As := [.int row]) (rest := []) ⟨hx, hb, hml, hown, hts⟩ (m_isRow l Γ hok G0 _ F L B _ row nr rfl) (cwV 1 hts gX5_divideRound_X5_isRow rfl rfl rfl (by decide +kernel) ⟨Nat.le_of_ble_eq_true rfl, Nat.le_of_ble_eq_true rfl⟩) (zM.preV hK hM (md_o hok) rfl rfl) rfl rfl hl.1 rfl (lv_room (Nat.le_of_ble_eq_true rfl)) dX5_divideRound_7 ⟨Nat.le_of_ble_eq_true rfl, Nat.le_of_ble_eq_true rfl⟩) hM (fun r7 G7 H locs hp7 hM => ?_)
  obtain ⟨rfl, rfl⟩ := hp7
  refine z_if_eq (tgt := 20) hx hb (by split <;> omega) dX5_divideRound_10 (by decide) (fun hc10 => ?_) (fun hc10 => ?_)
  · have hbad : row < 0 ∨ nI nr ≤ row := by by_cases h9 : row < 0 ∨ nI nr ≤ row; exact h9; rw [if_neg h9] at hc10; omega
    refine lv_bipush (v := -5) hx hb dX5_divideRound_20 rfl ?_
    rw [hQ]
    rw [hAe] at hM
    exact z_iret hsz hx hb hr hlocks hK hM dX5_divideRound_22 (by simp only [op_divide]; rw [if_pos (hbad.elim Or.inl (fun h => Or.inr (Or.inl h)))]; exact ⟨F, L, B, rfl, rfl, hR⟩)
  · refine lv_aload_n hx hb dX5_divideRound_13 rfl (lv_at hl 0 rfl) ?_
    refine m_get hok hx hb hts hin5 hown hK hM 10 hf_isSealed rfl (by decide) (v := .int (nI se)) rfl dX5_divideRound_14 ?_
    refine z_if_ne (tgt := 23) hx hb (by omega) dX5_divideRound_17 (by decide) (fun hc17 => ?_) (fun hc17 => ?_)
    · have hgood : ¬ (row < 0 ∨ nI nr ≤ row) := fun h9 => by rw [if_pos h9] at hc10; omega
      obtain ⟨rn, hrn, rfl⟩ : ∃ j : Nat, j < 2 ^ 31 ∧ row = nI j := nI_of (fun h9 => hgood (Or.inl h9))
      have hrl : rn < nr := by have := mt (nI_leI (show nr < 2 ^ 31 by omega) hrn).mpr (fun h9 => hgood (Or.inr h9)); omega
      refine lv_aload_n hx hb dX5_divideRound_23 rfl (lv_at hl 0 rfl) ?_
      refine lv_sipush (v := nI 443) hx hb dX5_divideRound_24 rfl ?_
      have hno : ¬ (nI rn < 0 ∨ nI nr ≤ nI rn ∨ se = 0) := by rintro (h | h | h); exact hgood (Or.inl h); exact hgood (Or.inr h); omega
      have hR48 : ∀ k, k ≤ vars → nl (R rn k).natAbs ≤ 48 := fun k hk => hRs rn k hrl hk
      refine z_callv0 (va_runV (As := [.int (nI 443)]) (rest := []) ⟨hx, hb, hml, hown, hts⟩ (m_clear l Γ hok G0 _ F L B _ 443 (by omega)) (cwV 1 hts gX5_divideRound_X5_clear rfl rfl rfl (by decide +kernel) ⟨Nat.le_of_ble_eq_true rfl, Nat.le_of_ble_eq_true rfl⟩) (zM.preV hK hM (md_o hok) rfl rfl) rfl rfl hl.1 rfl (lv_room (Nat.le_of_ble_eq_true rfl)) dX5_divideRound_27 ⟨Nat.le_of_ble_eq_true rfl, Nat.le_of_ble_eq_true rfl⟩) hM (fun G27 H locs hp27 hM => ?_)
      obtain rfl := hp27
      obtain ⟨L1, B1, hM, s1, n1, b1⟩ := clear_rel hM
      refine lv_iconst (v := nI 0) hx hb dX5_divideRound_30 rfl ?_
      refine lv_istore_n (lv' := [(2, .int (nI 0)), (0, .ref o), (1, .int (nI rn))]) hx hb dX5_divideRound_31 rfl hl (by decide) rfl (fun ls hl => ?_)
      have lp : ∀ (μ : Nat) (k : Nat) (F2 : Nat → Nat) (L2 : Nat → Nat) (B2 : Nat → Nat), vars - k = μ → (k ≤ vars) → (sm 443 445 F L B F2 L2 B2) → (nv F2 L2 443 (gcdN (R rn) k)) → (B2 443 = 0) → ∀ (ls : Array Slot) (H : Heap) (locs : List Loc), lv_has ls 5 [(2, .int (nI k)), (0, .ref o), (1, .int (nI rn))] → zM Γ A s.heap (md Γ o lF lL lB G0 (mfl (nI 0) (nI vars) (nI maxR) (nI cells) (nI nr) (nI inp) (nI fil) (nI se) (nI be) (nI st) sg (nI gv)) F2 L2 B2) H locs → W p l e (zR 4) s m args below meth c H locs 0 0 Q (F0 m 32 ls []) := by
        intro μ
        induction μ using Nat.strongRecOn with
        | _ μ ihlp =>
          intro k F2 L2 B2 hμ hk u1 u2 u3 ls H locs hl hM
          refine lv_iload_n hx hb dX5_divideRound_32 rfl (lv_at hl 0 rfl) ?_
          refine lv_aload_n hx hb dX5_divideRound_33 rfl (lv_at hl 1 rfl) ?_
          refine m_get hok hx hb hts hin5 hown hK hM 1 hf_vars rfl (by decide) (v := .int (nI vars)) rfl dX5_divideRound_34 ?_
          refine z_icmp_ge (tgt := 55) hx hb (by omega) (by omega) dX5_divideRound_37 (by decide) (fun hc37 => ?_) (fun hc37 => ?_)
          · refine lv_aload_n hx hb dX5_divideRound_55 rfl (lv_at hl 1 rfl) ?_
            refine m_get hok hx hb hts hin5 hown hK hM 5 hf_length rfl (by decide) (v := .ref lL) rfl dX5_divideRound_56 ?_
            refine lv_sipush (v := nI 443) hx hb dX5_divideRound_59 rfl ?_
            refine m_ldL hok hx hb hK hM (by omega) dX5_divideRound_62 ?_
            have hkv : k = vars := by omega
            rw [hkv] at u2
            have h272 := u2.2.1
            refine z_asi (y := nI (nl (gcdN (R rn) vars))) (congrArg nI u2.1) ?_
            refine z_if_ne (tgt := 69) hx hb (by omega) dX5_divideRound_63 (by decide) (fun hc63 => ?_) (fun hc63 => ?_)
            · obtain ⟨gg, hgg⟩ : ∃ gg, gg = gcdN (R rn) vars := ⟨_, rfl⟩
              rw [← hgg] at u2
              have hgp : 0 < gg := by have := @nl_pos gg; have := u2.1; rw [← hgg] at hc63; omega
              have hgl : nl gg ≤ 48 := by rw [hgg]; exact gcdN_nl (fun j hj => hR48 j (by omega))
              refine lv_iconst (v := nI 0) hx hb dX5_divideRound_69 rfl ?_
              refine lv_istore_n (lv' := [(2, .int (nI 0)), (0, .ref o), (1, .int (nI rn))]) hx hb dX5_divideRound_70 rfl hl (by decide) rfl (fun ls hl => ?_)
              have lq : ∀ (μ : Nat) (k : Nat) (F5 : Nat → Nat) (L5 : Nat → Nat) (B5 : Nat → Nat), vars + 1 - k = μ → (k ≤ vars + 1) → (smQ pDiv F L B F5 L5 B5) → (nv F5 L5 443 gg) → (∀ j, j < k → nz F5 L5 B5 (448 + j) (R rn j / (gg : Int))) → ∀ (ls : Array Slot) (H : Heap) (locs : List Loc), lv_has ls 5 [(2, .int (nI k)), (0, .ref o), (1, .int (nI rn))] → zM Γ A s.heap (md Γ o lF lL lB G0 (mfl (nI 0) (nI vars) (nI maxR) (nI cells) (nI nr) (nI inp) (nI fil) (nI se) (nI be) (nI st) sg (nI gv)) F5 L5 B5) H locs → W p l e (zR 4) s m args below meth c H locs 0 0 Q (F0 m 71 ls []) := by
                intro μ
                induction μ using Nat.strongRecOn with
                | _ μ ihlq =>
                  intro k F5 L5 B5 hμ hk5 w1 w2 w3 ls H locs hl hM
                  refine lv_iload_n hx hb dX5_divideRound_71 rfl (lv_at hl 0 rfl) ?_
                  refine lv_aload_n hx hb dX5_divideRound_72 rfl (lv_at hl 1 rfl) ?_
                  refine m_get hok hx hb hts hin5 hown hK hM 1 hf_vars rfl (by decide) (v := .int (nI vars)) rfl dX5_divideRound_73 ?_
                  refine z_icmp_gt (tgt := 185) hx hb (by omega) (by omega) dX5_divideRound_76 (by decide) (fun hc76 => ?_) (fun hc76 => ?_)
                  · refine lv_aload_n hx hb dX5_divideRound_185 rfl (lv_at hl 1 rfl) ?_
                    refine lv_sipush (v := nI 448) hx hb dX5_divideRound_186 rfl ?_
                    have hX : ∀ k, k ≤ vars → nz F5 L5 B5 (448 + k) ((fun k => R rn k / (gg : Int)) k) := fun k hk => w3 k (by omega)
                    have hX48 : ∀ k, k ≤ vars → nl ((fun k => R rn k / (gg : Int)) k).natAbs ≤ 48 := fun k hk => Nat.le_trans (fl_nl hgp) (hR48 k hk)
                    have hA0 : AI ((vars, maxR, cells), (nr, inp, R), (fil, V), (se, be, S), P, (st, sg, gv, g, z)) := hA
                    have hR0 : MRep F5 L5 B5 ((vars, maxR, cells), (nr, inp, R), (fil, V), (se, be, S), P, (st, sg, gv, g, z)) := hR.keepQ hA w1 (fun a h => by unfold pDiv; omega)
                    refine z_calli0 (va_runV (As := [.int (nI 448)]) (rest := []) ⟨hx, hb, hml, hown, hts⟩ (m_store l Γ hok G0 F5 L5 B5 _ (nI 0) ((vars, maxR, cells), (nr, inp, R), (fil, V), (se, be, S), P, (st, sg, gv, g, z)) (fun k => R rn k / (gg : Int)) 448 (by omega) (by omega) hX hX48 hA0 hR0) (cwV 1 hts gX5_divideRound_X5_store rfl rfl rfl (by decide +kernel) ⟨Nat.le_of_ble_eq_true rfl, Nat.le_of_ble_eq_true rfl⟩) (zM.preV hK hM (md_o hok) rfl rfl) rfl rfl hl.1 rfl (lv_room (Nat.le_of_ble_eq_true rfl)) dX5_divideRound_189 ⟨Nat.le_of_ble_eq_true rfl, Nat.le_of_ble_eq_true rfl⟩) hM (fun r189 G189 H locs hp189 hM => ?_)
                    obtain ⟨F9, L9, B9, hG, hr1, hm1, hs1⟩ := hp189
                    by_cases hst9 : nr = maxR ∨ cells < need (fun k => R rn k / (gg : Int)) (vars + 1)
                    · simp only [op_store, if_pos hst9] at hG hr1 hm1
                      subst hG
                      subst hr1
                      have hM : zM Γ A s.heap (md Γ o lF lL lB G0 (mfl (nI 0) (nI vars) (nI maxR) (nI cells) (nI nr) (nI inp) (nI fil) (nI se) (nI be) (nI st) sg (nI gv)) F9 L9 B9) H locs := hM
                      rw [hQ]
                      rw [hAe] at hM
                      exact z_iret hsz hx hb hr hlocks hK hM dX5_divideRound_192 (by
                            simp only [op_divide, op_store]; rw [if_neg hno, nI_clamp hrn, ← hgg, if_neg (show ¬ gg = 0 by omega), if_pos hst9]; exact ⟨F9, L9, B9, rfl, rfl, hm1⟩)
                    · simp only [op_store, if_neg hst9] at hG hr1 hm1
                      subst hG
                      subst hr1
                      have hM : zM Γ A s.heap (md Γ o lF lL lB G0 (mfl (nI 0) (nI vars) (nI maxR) (nI (cells - need (fun k => R rn k / (gg : Int)) (vars + 1))) (nI (nr + 1)) (nI inp) (nI fil) (nI se) (nI be) (nI st) sg (nI gv)) F9 L9 B9) H locs := hM
                      rw [hQ]
                      rw [hAe] at hM
                      exact z_iret hsz hx hb hr hlocks hK hM dX5_divideRound_192 (by
                            simp only [op_divide, op_store]; rw [if_neg hno, nI_clamp hrn, ← hgg, if_neg (show ¬ gg = 0 by omega), if_neg hst9]; exact ⟨F9, L9, B9, rfl, rfl, hm1⟩)
                  · refine lv_iload_n hx hb dX5_divideRound_79 rfl (lv_at hl 2 rfl) ?_
                    refine lv_iload_n hx hb dX5_divideRound_80 rfl (lv_at hl 0 rfl) ?_
                    refine z_calli0 (va_runS (As := [.int (nI rn), .int (nI k)]) (rest := []) ⟨hx, hb, hml, hown, hts⟩ (m_placeOf l Γ hok G0 _ F5 L5 B5 _ rn k) (va_cwS 2 hts gX5_divideRound_X5_placeOf rfl rfl rfl (by decide +kernel) ⟨Nat.le_of_ble_eq_true rfl, Nat.le_of_ble_eq_true rfl⟩) (zM.pre hK hM) rfl rfl hl.1 rfl (lv_room (Nat.le_of_ble_eq_true rfl)) dX5_divideRound_81 ⟨Nat.le_of_ble_eq_true rfl, Nat.le_of_ble_eq_true rfl⟩) hM (fun r81 G81 H locs hp81 hM => ?_)
                    obtain ⟨rfl, rfl⟩ := hp81
                    refine lv_istore_n (lv' := [(3, .int (nI (7 * rn + k))), (2, .int (nI k)), (0, .ref o), (1, .int (nI rn))]) hx hb dX5_divideRound_84 rfl hl (by decide) rfl (fun ls hl => ?_)
                    refine lv_aload_n hx hb dX5_divideRound_85 rfl (lv_at hl 2 rfl) ?_
                    refine lv_iload_n hx hb dX5_divideRound_86 rfl (lv_at hl 0 rfl) ?_
                    refine lv_sipush (v := nI 443) hx hb dX5_divideRound_87 rfl ?_
                    have hr5 := (mR rn k hrl (by omega)).Q w1 (by unfold pDiv; omega)
                    have n15 := w1.nv (by unfold pDiv; omega) m1
                    have hl5 : L5 (7 * rn + k) ≤ 48 := by rw [hr5.1.1]; exact hR48 k (by omega)
                    have hl6 : L5 443 ≤ 48 := by rw [w2.1]; exact hgl
                    refine z_callv0 (va_runV (As := [.int (nI (7 * rn + k)), .int (nI 443)]) (rest := []) ⟨hx, hb, hml, hown, hts⟩ (m_divide l Γ hok G0 _ F5 L5 B5 _ (7 * rn + k) 443 (R rn k).natAbs gg (by omega) (by omega) hr5.1 w2 n15 hgp (by omega) (by omega) hr5.B2) (cwV 2 hts gX5_divideRound_X5_divide rfl rfl rfl (by decide +kernel) ⟨Nat.le_of_ble_eq_true rfl, Nat.le_of_ble_eq_true rfl⟩) (zM.preV hK hM (md_o hok) rfl rfl) rfl rfl hl.1 rfl (lv_room (Nat.le_of_ble_eq_true rfl)) dX5_divideRound_90 ⟨Nat.le_of_ble_eq_true rfl, Nat.le_of_ble_eq_true rfl⟩) hM (fun G90 H locs hp90 hM => ?_)
                    obtain ⟨F6, L6, B6, rfl, s6, q6, r6, b65, b66⟩ := hp90
                    refine lv_aload_n hx hb dX5_divideRound_93 rfl (lv_at hl 2 rfl) ?_
                    refine lv_sipush (v := nI 448) hx hb dX5_divideRound_94 rfl ?_
                    refine lv_iload_n hx hb dX5_divideRound_97 rfl (lv_at hl 1 rfl) ?_
                    refine z_iadd hx hb dX5_divideRound_98 ?_
                    refine lv_sipush (v := nI 445) hx hb dX5_divideRound_99 rfl ?_
                    refine z_callv0 (va_runV (As := [.int (nI (448 + k)), .int (nI 445)]) (rest := []) ⟨hx, hb, hml, hown, hts⟩ (m_copy l Γ hok G0 _ F6 L6 B6 _ (448 + k) 445 (by omega) (by omega) (by omega) q6.le (by omega)) (cwV 2 hts gX5_divideRound_X5_copy rfl rfl rfl (by decide +kernel) ⟨Nat.le_of_ble_eq_true rfl, Nat.le_of_ble_eq_true rfl⟩) (zM.preV hK hM (md_o hok) rfl rfl) rfl rfl hl.1 rfl (lv_room (Nat.le_of_ble_eq_true rfl)) dX5_divideRound_102 ⟨Nat.le_of_ble_eq_true rfl, Nat.le_of_ble_eq_true rfl⟩) hM (fun G102 H locs hp102 hM => ?_)
                    obtain rfl := hp102
                    obtain ⟨F7, L7, B7, hM, s7, n7, b7⟩ := copy_rel hM q6
                    have hr7 := (hr5.sm s6 (by omega)).sm s7 (by omega)
                    have r7 := s7.nv (by omega) r6
                    have n17 := s7.nv (by omega) (s6.nv (by omega) n15)
                    have g7 := s7.nv (by omega) (s6.nv (by omega) w2)
                    have hfa := fl_abs (x := R rn k) hgp
                    have hfs := fl_sb (x := R rn k) hgp
                    have hq48 : nl ((R rn k).natAbs / gg) ≤ 48 := Nat.le_trans (nl_mono (Nat.div_le_self _ _)) (hR48 k (by omega))
                    have hl7 : L7 (448 + k) ≤ 48 := by rw [n7.1]; exact hq48
                    have k146 : ∀ (F8 : Nat → Nat) (L8 : Nat → Nat) (B8 : Nat → Nat), (sm (448 + k) (448 + k + 1) F7 L7 B7 F8 L8 B8) → (nv F8 L8 (448 + k) (R rn k / (gg : Int)).natAbs) → ∀ (ls : Array Slot) (H : Heap) (locs : List Loc), lv_has ls 5 [(4, .int (nI (sb (R rn k)))), (3, .int (nI (7 * rn + k))), (2, .int (nI k)), (0, .ref o), (1, .int (nI rn))] → zM Γ A s.heap (md Γ o lF lL lB G0 (mfl (nI 0) (nI vars) (nI maxR) (nI cells) (nI nr) (nI inp) (nI fil) (nI se) (nI be) (nI st) sg (nI gv)) F8 L8 B8) H locs → W p l e (zR 4) s m args below meth c H locs 0 0 Q (F0 m 146 ls []) := by
                      intro F8 L8 B8 y1 y2 ls H locs hl hM
                      have h872 := y2.2.1
                      have hnlp := @nl_pos (R rn k / (gg : Int)).natAbs
                      refine lv_aload_n hx hb dX5_divideRound_146 rfl (lv_at hl 3 rfl) ?_
                      refine m_get hok hx hb hts hin5 hown hK hM 6 hf_isBelow rfl (by decide) (v := .ref lB) rfl dX5_divideRound_147 ?_
                      refine lv_sipush (v := nI 448) hx hb dX5_divideRound_150 rfl ?_
                      refine lv_iload_n hx hb dX5_divideRound_153 rfl (lv_at hl 2 rfl) ?_
                      refine z_iadd hx hb dX5_divideRound_154 ?_
                      refine lv_iload hx hb dX5_divideRound_155 (lv_at hl 0 rfl) ?_
                      refine z_if_eq (tgt := 177) hx hb (by have := sb_lt (R rn k); omega) dX5_divideRound_157 (by decide) (fun hc157 => ?_) (fun hc157 => ?_)
                      · refine lv_iconst (v := nI 0) hx hb dX5_divideRound_177 rfl ?_
                        refine m_stB hok hx hb hK hM (by omega) (by omega) dX5_divideRound_178 (fun H locs hM => ?_)
                        refine z_iinc (v := (k + 1)) (lv' := [(2, .int (nI (k + 1))), (4, .int (nI (sb (R rn k)))), (3, .int (nI (7 * rn + k))), (0, .ref o), (1, .int (nI rn))]) hx hb dX5_divideRound_179 hl (k := 2) rfl (nI_p1 _) (by decide) rfl (fun ls hl => ?_)
                        refine lv_goto (tgt := 71) hx hb dX5_divideRound_182 (by decide) ?_
                        have sb9 : sm (448 + k) (448 + k + 1) F8 L8 B8 F8 L8 (va_up B8 (448 + k) 0) := smB
                        have hxe : 0 = sb (R rn k / (gg : Int)) := by rw [hfs]; have e1 := sb_or (R rn k); split <;> omega
                        exact ihlq _ (by omega) (k + 1) F8 L8 (va_up B8 (448 + k) 0) rfl (by omega) ((((w1.tr (s6.Q (fun a h => by unfold pDiv at h; omega))).tr (s7.Q (fun a h => by unfold pDiv at h; omega))).tr (y1.Q (fun a h => by unfold pDiv at h; omega))).tr (sb9.Q (fun a h => by unfold pDiv at h; omega))) (sb9.nv (by omega) (y1.nv (by omega) g7)) (fun j hj => by by_cases hc : j = k; subst hc; exact ⟨y2, by rw [va_up_self]; exact hxe⟩; exact (((((w3 j (by omega)).sm s6 (by omega)).sm s7 (by omega)).sm y1 (by omega)).sm sb9 (by omega))) ls _ _ (lv_sub hl [0, 3, 4] rfl) hM
                      · refine lv_aload_n hx hb dX5_divideRound_160 rfl (lv_at hl 3 rfl) ?_
                        refine m_get hok hx hb hts hin5 hown hK hM 5 hf_length rfl (by decide) (v := .ref lL) rfl dX5_divideRound_161 ?_
                        refine lv_sipush (v := nI 448) hx hb dX5_divideRound_164 rfl ?_
                        refine lv_iload_n hx hb dX5_divideRound_167 rfl (lv_at hl 2 rfl) ?_
                        refine z_iadd hx hb dX5_divideRound_168 ?_
                        refine m_ldL hok hx hb hK hM (by omega) dX5_divideRound_169 ?_
                        refine z_asi (y := nI (nl (R rn k / (gg : Int)).natAbs)) (congrArg nI y2.1) ?_
                        refine z_if_le (tgt := 177) hx hb (by omega) dX5_divideRound_170 (by decide) (fun hc170 => ?_) (fun hc170 => ?_)
                        · refine lv_iconst (v := nI 0) hx hb dX5_divideRound_177 rfl ?_
                          refine m_stB hok hx hb hK hM (by omega) (by omega) dX5_divideRound_178 (fun H locs hM => ?_)
                          refine z_iinc (v := (k + 1)) (lv' := [(2, .int (nI (k + 1))), (4, .int (nI (sb (R rn k)))), (3, .int (nI (7 * rn + k))), (0, .ref o), (1, .int (nI rn))]) hx hb dX5_divideRound_179 hl (k := 2) rfl (nI_p1 _) (by decide) rfl (fun ls hl => ?_)
                          refine lv_goto (tgt := 71) hx hb dX5_divideRound_182 (by decide) ?_
                          have sb9 : sm (448 + k) (448 + k + 1) F8 L8 B8 F8 L8 (va_up B8 (448 + k) 0) := smB
                          have hxe : 0 = sb (R rn k / (gg : Int)) := by rw [hfs]; have e1 := sb_or (R rn k); split <;> omega
                          exact ihlq _ (by omega) (k + 1) F8 L8 (va_up B8 (448 + k) 0) rfl (by omega) ((((w1.tr (s6.Q (fun a h => by unfold pDiv at h; omega))).tr (s7.Q (fun a h => by unfold pDiv at h; omega))).tr (y1.Q (fun a h => by unfold pDiv at h; omega))).tr (sb9.Q (fun a h => by unfold pDiv at h; omega))) (sb9.nv (by omega) (y1.nv (by omega) g7)) (fun j hj => by by_cases hc : j = k; subst hc; exact ⟨y2, by rw [va_up_self]; exact hxe⟩; exact (((((w3 j (by omega)).sm s6 (by omega)).sm s7 (by omega)).sm y1 (by omega)).sm sb9 (by omega))) ls _ _ (lv_sub hl [0, 3, 4] rfl) hM
                        · refine lv_iconst (v := nI 1) hx hb dX5_divideRound_173 rfl ?_
                          refine lv_goto (tgt := 178) hx hb dX5_divideRound_174 (by decide) ?_
                          refine m_stB hok hx hb hK hM (by omega) (by omega) dX5_divideRound_178 (fun H locs hM => ?_)
                          refine z_iinc (v := (k + 1)) (lv' := [(2, .int (nI (k + 1))), (4, .int (nI (sb (R rn k)))), (3, .int (nI (7 * rn + k))), (0, .ref o), (1, .int (nI rn))]) hx hb dX5_divideRound_179 hl (k := 2) rfl (nI_p1 _) (by decide) rfl (fun ls hl => ?_)
                          refine lv_goto (tgt := 71) hx hb dX5_divideRound_182 (by decide) ?_
                          have sb9 : sm (448 + k) (448 + k + 1) F8 L8 B8 F8 L8 (va_up B8 (448 + k) 1) := smB
                          have hxe : 1 = sb (R rn k / (gg : Int)) := by rw [hfs]; have e1 := sb_or (R rn k); split <;> omega
                          exact ihlq _ (by omega) (k + 1) F8 L8 (va_up B8 (448 + k) 1) rfl (by omega) ((((w1.tr (s6.Q (fun a h => by unfold pDiv at h; omega))).tr (s7.Q (fun a h => by unfold pDiv at h; omega))).tr (y1.Q (fun a h => by unfold pDiv at h; omega))).tr (sb9.Q (fun a h => by unfold pDiv at h; omega))) (sb9.nv (by omega) (y1.nv (by omega) g7)) (fun j hj => by by_cases hc : j = k; subst hc; exact ⟨y2, by rw [va_up_self]; exact hxe⟩; exact (((((w3 j (by omega)).sm s6 (by omega)).sm s7 (by omega)).sm y1 (by omega)).sm sb9 (by omega))) ls _ _ (lv_sub hl [0, 3, 4] rfl) hM
                    refine lv_aload_n hx hb dX5_divideRound_105 rfl (lv_at hl 2 rfl) ?_
                    refine m_get hok hx hb hts hin5 hown hK hM 6 hf_isBelow rfl (by decide) (v := .ref lB) rfl dX5_divideRound_106 ?_
                    refine lv_iload_n hx hb dX5_divideRound_109 rfl (lv_at hl 0 rfl) ?_
                    refine m_ldB hok hx hb hK hM (by omega) dX5_divideRound_110 ?_
                    refine z_asi (y := nI (sb (R rn k))) (congrArg nI hr7.2) ?_
                    refine lv_istore (lv' := [(4, .int (nI (sb (R rn k)))), (3, .int (nI (7 * rn + k))), (2, .int (nI k)), (0, .ref o), (1, .int (nI rn))]) hx hb dX5_divideRound_111 hl (by decide) rfl (fun ls hl => ?_)
                    refine lv_iload hx hb dX5_divideRound_113 (lv_at hl 0 rfl) ?_
                    refine z_if_eq (tgt := 146) hx hb (by have := sb_lt (R rn k); omega) dX5_divideRound_115 (by decide) (fun hc115 => ?_) (fun hc115 => ?_)
                    · exact k146 F7 L7 B7 (sm.rf) (by rw [hfa, if_neg (fun q => by have := sb_or (R rn k); omega)]; exact n7) ls _ _ (lv_sub hl [0, 1, 2, 3, 4] rfl) hM
                    · refine lv_aload_n hx hb dX5_divideRound_118 rfl (lv_at hl 3 rfl) ?_
                      refine m_get hok hx hb hts hin5 hown hK hM 5 hf_length rfl (by decide) (v := .ref lL) rfl dX5_divideRound_119 ?_
                      refine lv_sipush (v := nI 446) hx hb dX5_divideRound_122 rfl ?_
                      refine m_ldL hok hx hb hK hM (by omega) dX5_divideRound_125 ?_
                      have h772 := r7.2.1
                      refine z_asi (y := nI (nl ((R rn k).natAbs % gg))) (congrArg nI r7.1) ?_
                      refine z_if_le (tgt := 146) hx hb (by omega) dX5_divideRound_126 (by decide) (fun hc126 => ?_) (fun hc126 => ?_)
                      · exact k146 F7 L7 B7 (sm.rf) (by rw [hfa, if_neg (fun q => by have := @nl_pos ((R rn k).natAbs % gg); omega)]; exact n7) ls _ _ (lv_sub hl [0, 1, 2, 3, 4] rfl) hM
                      · refine lv_aload_n hx hb dX5_divideRound_129 rfl (lv_at hl 3 rfl) ?_
                        refine lv_sipush (v := nI 448) hx hb dX5_divideRound_130 rfl ?_
                        refine lv_iload_n hx hb dX5_divideRound_133 rfl (lv_at hl 2 rfl) ?_
                        refine z_iadd hx hb dX5_divideRound_134 ?_
                        refine lv_sipush (v := nI 448) hx hb dX5_divideRound_135 rfl ?_
                        refine lv_iload_n hx hb dX5_divideRound_138 rfl (lv_at hl 2 rfl) ?_
                        refine z_iadd hx hb dX5_divideRound_139 ?_
                        refine lv_sipush (v := nI 447) hx hb dX5_divideRound_140 rfl ?_
                        refine z_callv0 (va_runV (As := [.int (nI (448 + k)), .int (nI (448 + k)), .int (nI 447)]) (rest := []) ⟨hx, hb, hml, hown, hts⟩ (m_addSizes l Γ hok G0 _ F7 L7 B7 _ (448 + k) (448 + k) 447 _ _ (by omega) (by omega) (by omega) n7 n17 (by omega) (by rw [n17.1]; decide)) (cwV 3 hts gX5_divideRound_X5_addSizes rfl rfl rfl (by decide +kernel) ⟨Nat.le_of_ble_eq_true rfl, Nat.le_of_ble_eq_true rfl⟩) (zM.preV hK hM (md_o hok) rfl rfl) rfl rfl hl.1 rfl (lv_room (Nat.le_of_ble_eq_true rfl)) dX5_divideRound_143 ⟨Nat.le_of_ble_eq_true rfl, Nat.le_of_ble_eq_true rfl⟩) hM (fun G143 H locs hp143 hM => ?_)
                        obtain ⟨F8, rfl, f8, n8⟩ := hp143
                        obtain ⟨L8, B8, hM, s8, n8, b8⟩ := step_rel hM f8 n8
                        exact k146 F8 L8 B8 (s8) (by rw [hfa, if_pos ⟨by have := sb_or (R rn k); omega, by have := @nl_pos ((R rn k).natAbs % gg); omega⟩]; exact n8) ls _ _ (lv_sub hl [0, 1, 2, 3, 4] rfl) hM
              exact lq _ 0 F2 L2 B2 rfl (by omega) (u1.Q (fun a h => by unfold pDiv at h; omega)) u2 (fun j hj => by omega) ls _ _ (lv_sub hl [0, 1, 2] rfl) hM
            · refine lv_bipush (v := -8) hx hb dX5_divideRound_66 rfl ?_
              rw [hQ]
              rw [hAe] at hM
              exact z_iret hsz hx hb hr hlocks hK hM dX5_divideRound_68 (by
                    have hg0 : gcdN (R rn) vars = 0 := by have := @nl_pos (gcdN (R rn) vars); omega
                    simp only [op_divide]; rw [if_neg hno, nI_clamp hrn, if_pos hg0]; exact ⟨F2, L2, B2, rfl, rfl, hR.keep hA u1 (by omega) (by omega)⟩)
          · refine lv_aload_n hx hb dX5_divideRound_40 rfl (lv_at hl 1 rfl) ?_
            refine lv_iload_n hx hb dX5_divideRound_41 rfl (lv_at hl 2 rfl) ?_
            refine lv_iload_n hx hb dX5_divideRound_42 rfl (lv_at hl 0 rfl) ?_
            refine z_calli0 (va_runS (As := [.int (nI rn), .int (nI k)]) (rest := [.ref o]) ⟨hx, hb, hml, hown, hts⟩ (m_placeOf l Γ hok G0 _ F2 L2 B2 _ rn k) (va_cwS 2 hts gX5_divideRound_X5_placeOf rfl rfl rfl (by decide +kernel) ⟨Nat.le_of_ble_eq_true rfl, Nat.le_of_ble_eq_true rfl⟩) (zM.pre hK hM) rfl rfl hl.1 rfl (lv_room (Nat.le_of_ble_eq_true rfl)) dX5_divideRound_43 ⟨Nat.le_of_ble_eq_true rfl, Nat.le_of_ble_eq_true rfl⟩) hM (fun r43 G43 H locs hp43 hM => ?_)
            obtain ⟨rfl, rfl⟩ := hp43
            have hr2 := (mR rn k hrl (by omega)).sm u1 (by omega)
            have hg2 : L2 443 ≤ 48 := by rw [u2.1]; exact gcdN_nl (fun j hj => hR48 j (by omega))
            refine z_callv0 (va_runV (As := [.int (nI (7 * rn + k))]) (rest := []) ⟨hx, hb, hml, hown, hts⟩ (m_common l Γ hok G0 _ F2 L2 B2 _ (7 * rn + k) (R rn k).natAbs (gcdN (R rn) k) (by omega) hr2.1 u2 (by omega) hr2.B2 u3) (cwV 1 hts gX5_divideRound_X5_common rfl rfl rfl (by decide +kernel) ⟨Nat.le_of_ble_eq_true rfl, Nat.le_of_ble_eq_true rfl⟩) (zM.preV hK hM (md_o hok) rfl rfl) rfl rfl hl.1 rfl (lv_room (Nat.le_of_ble_eq_true rfl)) dX5_divideRound_46 ⟨Nat.le_of_ble_eq_true rfl, Nat.le_of_ble_eq_true rfl⟩) hM (fun G46 H locs hp46 hM => ?_)
            obtain ⟨F3, L3, B3, rfl, s3, n3, b3, b4⟩ := hp46
            refine z_iinc (v := (k + 1)) (lv' := [(2, .int (nI (k + 1))), (0, .ref o), (1, .int (nI rn))]) hx hb dX5_divideRound_49 hl (k := 0) rfl (nI_p1 _) (by decide) rfl (fun ls hl => ?_)
            refine lv_goto (tgt := 32) hx hb dX5_divideRound_52 (by decide) ?_
            exact ihlp _ (by omega) (k + 1) F3 L3 B3 rfl (by omega) (u1.tr s3) (n3) (b3) ls _ _ (lv_sub hl [0, 1, 2] rfl) hM
      exact lp _ 0 F L1 B1 rfl (by omega) (s1.wid (by omega) (by omega)) n1 b1 ls _ _ (lv_sub hl [0, 1, 2] rfl) hM
    · refine lv_bipush (v := -5) hx hb dX5_divideRound_20 rfl ?_
      rw [hQ]
      rw [hAe] at hM
      exact z_iret hsz hx hb hr hlocks hK hM dX5_divideRound_22 (by simp only [op_divide]; rw [if_pos (Or.inr (Or.inr hc17))]; exact ⟨F, L, B, rfl, rfl, hR⟩)
