set_option maxRecDepth 100000 in
set_option maxHeartbeats 4000000 in
theorem m_combineAdd (l : Launch) (Γ : zT) {o lF lL lB : Nat} (hok : mdk o lF lL lB) (G0 : zG) (F L B : Nat → Nat) (sz : Nat) (rf : Int32) (σ : AS) (row : Int32) (hA : AI σ) (hR : MRep F L B σ) : zMi l yX5_combineAdd wsX5_combineAdd (zR 4) Γ (md Γ o lF lL lB G0 (mfs rf σ) F L B) sz [.ref o, .int row] (fun r G' => ∃ F' L' B', G' = md Γ o lF lL lB G0 (mfs (nI 0) (op_add row σ).2) F' L' B' ∧ r = (op_add row σ).1 ∧ MRep F' L' B' (op_add row σ).2) 0 0 := by
  obtain ⟨⟨vars, maxR, cells⟩, ⟨nr, inp, R⟩, ⟨fil, V⟩, ⟨se, be, S⟩, P, ⟨st, sg, gv, g, z⟩⟩ := σ
  obtain ⟨⟨hv1, hv6, hm1, hm60, hc4⟩, ⟨hnr, hinp, hsei, hRs⟩, ⟨hfil, hVs⟩, ⟨hse, hbe, hSs⟩, hPs, hst, hgv, hsg, hz1, hgd, hz20⟩ := id hA
  obtain ⟨mR, mV, mS, mP, mg, mz, m1⟩ := id hR
  refine z_start (cc := cX5_combineAdd) (maxL := 3) (ret := (some .int)) (by decide) rfl (Nat.le_of_ble_eq_true rfl) ?_
  intro p e s m args below meth c ls Q hQ hsz hx hb hr hml hown hts hlocks hnm hK hM hl
  obtain ⟨A, hAe⟩ : ∃ A, A = zA (md Γ o lF lL lB G0 (mfl rf (nI vars) (nI maxR) (nI cells) (nI nr) (nI inp) (nI fil) (nI se) (nI be) (nI st) sg (nI gv)) F L B) s.heap.size := ⟨_, rfl⟩
  have hM : zM Γ A s.heap (md Γ o lF lL lB G0 (mfl rf (nI vars) (nI maxR) (nI cells) (nI nr) (nI inp) (nI fil) (nI se) (nI be) (nI st) sg (nI gv)) F L B) s.heap [] := by rw [hAe]; exact hM
  have hl : lv_has ls 3 [(0, .ref o), (1, .int row)] := hl
  have hin5 : ∀ w ∈ wsX50, w ∈ wsX5_combineAdd := by decide +kernel
  have hf_length := hts (.fieldLink RX5 13 "CutRowsModel" "length" "[I") (by decide +kernel)
  have hf_isBelow := hts (.fieldLink RX5 16 "CutRowsModel" "isBelow" "[Z") (by decide +kernel)
  have hf_vars := hts (.fieldLink RX5 24 "CutRowsModel" "vars" "I") (by decide +kernel)
  have hf_refusal := hts (.fieldLink RX5 34 "CutRowsModel" "refusal" "I") (by decide +kernel)
  have hf_state := hts (.fieldLink RX5 84 "CutRowsModel" "state" "I") (by decide +kernel)
  have hf_isBegun := hts (.fieldLink RX5 112 "CutRowsModel" "isBegun" "Z") (by decide +kernel)
  refine lv_aload_n hx hb dX5_combineAdd_0 rfl (lv_at hl 0 rfl) ?_
  refine lv_iconst (v := nI 0) hx hb dX5_combineAdd_1 rfl ?_
  refine m_put hok hx hb hts hin5 hown hK hM 0 hf_refusal rfl (by decide) rfl (rfl) (rfl) (fl' := mfl (nI 0) (nI vars) (nI maxR) (nI cells) (nI nr) (nI inp) (nI fil) (nI se) (nI be) (nI st) sg (nI gv)) rfl dX5_combineAdd_2 (fun H locs hM => ?_)
  refine lv_aload_n hx hb dX5_combineAdd_5 rfl (lv_at hl 0 rfl) ?_
  refine m_get hok hx hb hts hin5 hown hK hM 11 hf_isBegun rfl (by decide) (v := .int (nI be)) rfl dX5_combineAdd_6 ?_
  refine z_if_ne (tgt := 15) hx hb (by omega) dX5_combineAdd_9 (by decide) (fun hc9 => ?_) (fun hc9 => ?_)
  · have hbe1 : be = 1 := by omega
    refine lv_aload_n hx hb dX5_combineAdd_15 rfl (lv_at hl 0 rfl) ?_
    refine lv_iload_n hx hb dX5_combineAdd_16 rfl (lv_at hl 1 rfl) ?_
    refine z_calli0 (va_runV (As := [.int row]) (rest := []) ⟨hx, hb, hml, hown, hts⟩ (m_isRow l Γ hok G0 _ F L B _ row nr rfl) (cwV 1 hts gX5_combineAdd_X5_isRow rfl rfl rfl (by decide +kernel) ⟨Nat.le_of_ble_eq_true rfl, Nat.le_of_ble_eq_true rfl⟩) (zM.preV hK hM (md_o hok) rfl rfl) rfl rfl hl.1 rfl (lv_room (Nat.le_of_ble_eq_true rfl)) dX5_combineAdd_17 ⟨Nat.le_of_ble_eq_true rfl, Nat.le_of_ble_eq_true rfl⟩) hM (fun r17 G17 H locs hp17 hM => ?_)
    obtain ⟨rfl, rfl⟩ := hp17
    refine z_if_ne (tgt := 26) hx hb (by split <;> omega) dX5_combineAdd_20 (by decide) (fun hc20 => ?_) (fun hc20 => ?_)
    · have hgood : ¬ (row < 0 ∨ nI nr ≤ row) := fun h9 => by rw [if_pos h9] at hc20; omega
      obtain ⟨rn, hrn, rfl⟩ : ∃ j : Nat, j < 2 ^ 31 ∧ row = nI j := nI_of (fun h9 => hgood (Or.inl h9))
      have hrl : rn < nr := by have := mt (nI_leI (show nr < 2 ^ 31 by omega) hrn).mpr (fun h9 => hgood (Or.inr h9)); omega
      have k38 : ∀ (L1 : Nat → Nat) (B1 : Nat → Nat), (sm 440 441 F L B F L1 B1) → (st ≠ 0 → nz F L1 B1 440 z) → ∀ (ls : Array Slot) (H : Heap) (locs : List Loc), lv_has ls 3 [(0, .ref o), (1, .int (nI rn))] → zM Γ A s.heap (md Γ o lF lL lB G0 (mfl (nI 0) (nI vars) (nI maxR) (nI cells) (nI nr) (nI inp) (nI fil) (nI se) (nI be) (nI st) sg (nI gv)) F L1 B1) H locs → W p l e (zR 4) s m args below meth c H locs 0 0 Q (F0 m 38 ls []) := by
        intro L1 B1 t1 t2 ls H locs hl hM
        have hR1 : MRep F L1 B1 ((vars, maxR, cells), (nr, inp, R), (fil, V), (se, be, S), P, (st, sg, gv, g, z)) := ⟨fun r k a b => (mR r k a b).sm t1 (by omega), fun k a => (mV k a).sm t1 (by omega), fun a k b => (mS a k b).sm t1 (by omega), fun k a => (mP k a).sm t1 (by omega), mg, fun h => t2 (by omega), t1.nv (by omega) m1⟩
        refine lv_aload_n hx hb dX5_combineAdd_38 rfl (lv_at hl 0 rfl) ?_
        refine m_get hok hx hb hts hin5 hown hK hM 12 hf_state rfl (by decide) (v := .int (nI st)) rfl dX5_combineAdd_39 ?_
        refine z_if_eq (tgt := 56) hx hb (by omega) dX5_combineAdd_42 (by decide) (fun hc42 => ?_) (fun hc42 => ?_)
        · refine lv_bipush (v := -6) hx hb dX5_combineAdd_56 rfl ?_
          rw [hQ]
          rw [hAe] at hM
          exact z_iret hsz hx hb hr hlocks hK hM dX5_combineAdd_58 (by simp only [op_add]; rw [if_neg (by omega), if_neg hgood, if_pos (Or.inl (by omega))]; exact ⟨F, L1, B1, rfl, rfl, hR1⟩)
        · have nz0 := t2 (by omega)
          refine lv_aload_n hx hb dX5_combineAdd_45 rfl (lv_at hl 0 rfl) ?_
          refine m_get hok hx hb hts hin5 hown hK hM 6 hf_isBelow rfl (by decide) (v := .ref lB) rfl dX5_combineAdd_46 ?_
          refine lv_sipush (v := nI 440) hx hb dX5_combineAdd_49 rfl ?_
          refine m_ldB hok hx hb hK hM (by omega) dX5_combineAdd_52 ?_
          refine z_asi (y := nI (sb z)) (congrArg nI nz0.2) ?_
          refine z_if_eq (tgt := 59) hx hb (by have := sb_lt z; omega) dX5_combineAdd_53 (by decide) (fun hc53 => ?_) (fun hc53 => ?_)
          · have hz0 : ¬ z < 0 := by have := sb_or z; omega
            refine lv_iconst (v := nI 0) hx hb dX5_combineAdd_59 rfl ?_
            refine lv_istore_n (lv' := [(2, .int (nI 0)), (0, .ref o), (1, .int (nI rn))]) hx hb dX5_combineAdd_60 rfl hl (by decide) rfl (fun ls hl => ?_)
            have lp : ∀ (μ : Nat) (k : Nat) (F2 : Nat → Nat) (L2 : Nat → Nat) (B2 : Nat → Nat), vars + 1 - k = μ → (k ≤ vars + 1) → (sm 441 443 F L1 B1 F2 L2 B2) → (∀ j, j < k → nl (S j + z * R rn j).natAbs ≤ 48) → ∀ (ls : Array Slot) (H : Heap) (locs : List Loc), lv_has ls 3 [(2, .int (nI k)), (0, .ref o), (1, .int (nI rn))] → zM Γ A s.heap (md Γ o lF lL lB G0 (mfl (nI 0) (nI vars) (nI maxR) (nI cells) (nI nr) (nI inp) (nI fil) (nI se) (nI be) (nI st) sg (nI gv)) F2 L2 B2) H locs → W p l e (zR 4) s m args below meth c H locs 0 0 Q (F0 m 61 ls []) := by
              intro μ
              induction μ using Nat.strongRecOn with
              | _ μ ihlp =>
                intro k F2 L2 B2 hμ hk u1 u2 ls H locs hl hM
                refine lv_iload_n hx hb dX5_combineAdd_61 rfl (lv_at hl 0 rfl) ?_
                refine lv_aload_n hx hb dX5_combineAdd_62 rfl (lv_at hl 1 rfl) ?_
                refine m_get hok hx hb hts hin5 hown hK hM 1 hf_vars rfl (by decide) (v := .int (nI vars)) rfl dX5_combineAdd_63 ?_
                refine z_icmp_gt (tgt := 121) hx hb (by omega) (by omega) dX5_combineAdd_66 (by decide) (fun hc66 => ?_) (fun hc66 => ?_)
                · refine lv_iconst (v := nI 0) hx hb dX5_combineAdd_121 rfl ?_
                  refine lv_istore_n (lv' := [(2, .int (nI 0)), (0, .ref o), (1, .int (nI rn))]) hx hb dX5_combineAdd_122 rfl hl (by decide) rfl (fun ls hl => ?_)
                  have u2v : ∀ j, j < vars + 1 → nl (S j + z * R rn j).natAbs ≤ 48 := fun j hj => u2 j (by omega)
                  have lq : ∀ (μ : Nat) (k : Nat) (F5 : Nat → Nat) (L5 : Nat → Nat) (B5 : Nat → Nat), vars + 1 - k = μ → (k ≤ vars + 1) → (smQ pSum F L1 B1 F5 L5 B5) → (∀ j, j < k → nz F5 L5 B5 (427 + j) (S j + z * R rn j)) → (∀ j, k ≤ j → j ≤ vars → nz F5 L5 B5 (427 + j) (S j)) → ∀ (ls : Array Slot) (H : Heap) (locs : List Loc), lv_has ls 3 [(2, .int (nI k)), (0, .ref o), (1, .int (nI rn))] → zM Γ A s.heap (md Γ o lF lL lB G0 (mfl (nI 0) (nI vars) (nI maxR) (nI cells) (nI nr) (nI inp) (nI fil) (nI se) (nI be) (nI st) sg (nI gv)) F5 L5 B5) H locs → W p l e (zR 4) s m args below meth c H locs 0 0 Q (F0 m 123 ls []) := by
                    intro μ
                    induction μ using Nat.strongRecOn with
                    | _ μ ihlq =>
                      intro k F5 L5 B5 hμ hk5 w1 w2 w3 ls H locs hl hM
                      refine lv_iload_n hx hb dX5_combineAdd_123 rfl (lv_at hl 0 rfl) ?_
                      refine lv_aload_n hx hb dX5_combineAdd_124 rfl (lv_at hl 1 rfl) ?_
                      refine m_get hok hx hb hts hin5 hown hK hM 1 hf_vars rfl (by decide) (v := .int (nI vars)) rfl dX5_combineAdd_125 ?_
                      refine z_icmp_gt (tgt := 179) hx hb (by omega) (by omega) dX5_combineAdd_128 (by decide) (fun hc128 => ?_) (fun hc128 => ?_)
                      · refine lv_aload_n hx hb dX5_combineAdd_179 rfl (lv_at hl 1 rfl) ?_
                        refine lv_iconst (v := nI 2) hx hb dX5_combineAdd_180 rfl ?_
                        refine m_put hok hx hb hts hin5 hown hK hM 12 hf_state rfl (by decide) rfl (rfl) (rfl) (fl' := mfl (nI 0) (nI vars) (nI maxR) (nI cells) (nI nr) (nI inp) (nI fil) (nI se) (nI be) (nI 2) sg (nI gv)) rfl dX5_combineAdd_181 (fun H locs hM => ?_)
                        refine lv_iconst (v := nI 0) hx hb dX5_combineAdd_184 rfl ?_
                        rw [hQ]
                        rw [hAe] at hM
                        exact z_iret hsz hx hb hr hlocks hK hM dX5_combineAdd_185 (by
                              simp only [op_add]; rw [if_neg (by omega), if_neg hgood, if_neg (by omega), nI_clamp hrn, if_pos (fit48_iff.mpr (fun j hj => u2v j hj))]
                              exact ⟨F5, L5, B5, rfl, rfl, fun r j h1 h2 => ((mR r j h1 h2).sm t1 (by omega)).Q w1 (by unfold pSum; omega), fun j h1 => ((mV j h1).sm t1 (by omega)).Q w1 (by unfold pSum; omega), fun _ j h1 => w2 j (by omega), fun j h1 => ((mP j h1).sm t1 (by omega)).Q w1 (by unfold pSum; omega), fun h => absurd h (by decide), fun _ => nz0.Q w1 (by unfold pSum; omega), w1.nv (by unfold pSum; omega) (t1.nv (by omega) m1)⟩)
                      · refine lv_aload_n hx hb dX5_combineAdd_131 rfl (lv_at hl 1 rfl) ?_
                        refine lv_sipush (v := nI 441) hx hb dX5_combineAdd_132 rfl ?_
                        refine lv_sipush (v := nI 440) hx hb dX5_combineAdd_135 rfl ?_
                        refine lv_iload_n hx hb dX5_combineAdd_138 rfl (lv_at hl 2 rfl) ?_
                        refine lv_iload_n hx hb dX5_combineAdd_139 rfl (lv_at hl 0 rfl) ?_
                        refine z_calli0 (va_runS (As := [.int (nI rn), .int (nI k)]) (rest := [.int (nI 440), .int (nI 441), .ref o]) ⟨hx, hb, hml, hown, hts⟩ (m_placeOf l Γ hok G0 _ F5 L5 B5 _ rn k) (va_cwS 2 hts gX5_combineAdd_X5_placeOf rfl rfl rfl (by decide +kernel) ⟨Nat.le_of_ble_eq_true rfl, Nat.le_of_ble_eq_true rfl⟩) (zM.pre hK hM) rfl rfl hl.1 rfl (lv_room (Nat.le_of_ble_eq_true rfl)) dX5_combineAdd_140 ⟨Nat.le_of_ble_eq_true rfl, Nat.le_of_ble_eq_true rfl⟩) hM (fun r140 G140 H locs hp140 hM => ?_)
                        obtain ⟨rfl, rfl⟩ := hp140
                        have hz2 := nz0.Q w1 (by unfold pSum; omega)
                        have hr2 := ((mR rn k hrl (by omega)).sm t1 (by omega)).Q w1 (by unfold pSum; omega)
                        have hzl : L5 440 ≤ 20 := by rw [hz2.1.1]; exact hz20
                        have hrl2 : L5 (7 * rn + k) ≤ 48 := by rw [hr2.1.1]; exact hRs rn k hrl (by omega)
                        refine z_callv0 (va_runV (As := [.int (nI 441), .int (nI 440), .int (nI (7 * rn + k))]) (rest := []) ⟨hx, hb, hml, hown, hts⟩ (m_multiply l Γ hok G0 _ F5 L5 B5 _ 441 440 (7 * rn + k) z (R rn k) (by omega) (by omega) (by omega) (by omega) (by omega) hz2.1 hr2.1 hz2.2 hr2.2 (by omega)) (cwV 3 hts gX5_combineAdd_X5_multiply rfl rfl rfl (by decide +kernel) ⟨Nat.le_of_ble_eq_true rfl, Nat.le_of_ble_eq_true rfl⟩) (zM.preV hK hM (md_o hok) rfl rfl) rfl rfl hl.1 rfl (lv_room (Nat.le_of_ble_eq_true rfl)) dX5_combineAdd_143 ⟨Nat.le_of_ble_eq_true rfl, Nat.le_of_ble_eq_true rfl⟩) hM (fun G143 H locs hp143 hM => ?_)
                        obtain ⟨F3, rfl, f3, n3⟩ := hp143
                        obtain ⟨L3, B3, hM, s3, n3, b3⟩ := sign_rel hM f3 n3
                        have hl3 : L3 441 ≤ 68 := by rw [n3.1]; exact nl_imul (x := 20) (y := 48) hz20 (hRs rn k hrl (by omega))
                        refine lv_aload_n hx hb dX5_combineAdd_146 rfl (lv_at hl 1 rfl) ?_
                        refine lv_sipush (v := nI 442) hx hb dX5_combineAdd_147 rfl ?_
                        refine lv_sipush (v := nI 427) hx hb dX5_combineAdd_150 rfl ?_
                        refine lv_iload_n hx hb dX5_combineAdd_153 rfl (lv_at hl 0 rfl) ?_
                        refine z_iadd hx hb dX5_combineAdd_154 ?_
                        refine lv_sipush (v := nI 441) hx hb dX5_combineAdd_155 rfl ?_
                        have hs3 := (w3 k (Nat.le_refl _) (by omega)).sm s3 (by omega)
                        have hsl : L3 (427 + k) ≤ 48 := by rw [hs3.1.1]; exact hSs hbe1 k (by omega)
                        refine z_callv0 (va_runV (As := [.int (nI 442), .int (nI (427 + k)), .int (nI 441)]) (rest := []) ⟨hx, hb, hml, hown, hts⟩ (m_add l Γ hok G0 _ F3 L3 B3 _ 442 (427 + k) 441 (S k) (z * R rn k) (by omega) (by omega) (by omega) hs3.1 n3 hs3.2 b3 (by omega) (by omega)) (cwV 3 hts gX5_combineAdd_X5_add rfl rfl rfl (by decide +kernel) ⟨Nat.le_of_ble_eq_true rfl, Nat.le_of_ble_eq_true rfl⟩) (zM.preV hK hM (md_o hok) rfl rfl) rfl rfl hl.1 rfl (lv_room (Nat.le_of_ble_eq_true rfl)) dX5_combineAdd_158 ⟨Nat.le_of_ble_eq_true rfl, Nat.le_of_ble_eq_true rfl⟩) hM (fun G158 H locs hp158 hM => ?_)
                        obtain ⟨F4, rfl, f4, n4⟩ := hp158
                        obtain ⟨L4, B4, hM, s4, n4, b4⟩ := sign_rel hM f4 n4
                        refine lv_aload_n hx hb dX5_combineAdd_161 rfl (lv_at hl 1 rfl) ?_
                        refine lv_sipush (v := nI 427) hx hb dX5_combineAdd_162 rfl ?_
                        refine lv_iload_n hx hb dX5_combineAdd_165 rfl (lv_at hl 0 rfl) ?_
                        refine z_iadd hx hb dX5_combineAdd_166 ?_
                        refine lv_sipush (v := nI 442) hx hb dX5_combineAdd_167 rfl ?_
                        refine z_callv0 (va_runV (As := [.int (nI (427 + k)), .int (nI 442)]) (rest := []) ⟨hx, hb, hml, hown, hts⟩ (m_copy l Γ hok G0 _ F4 L4 B4 _ (427 + k) 442 (by omega) (by omega) (by omega) n4.le (by rw [b4]; exact sb_lt _)) (cwV 2 hts gX5_combineAdd_X5_copy rfl rfl rfl (by decide +kernel) ⟨Nat.le_of_ble_eq_true rfl, Nat.le_of_ble_eq_true rfl⟩) (zM.preV hK hM (md_o hok) rfl rfl) rfl rfl hl.1 rfl (lv_room (Nat.le_of_ble_eq_true rfl)) dX5_combineAdd_170 ⟨Nat.le_of_ble_eq_true rfl, Nat.le_of_ble_eq_true rfl⟩) hM (fun G170 H locs hp170 hM => ?_)
                        obtain rfl := hp170
                        obtain ⟨F6, L6, B6, hM, s6, n6, b6⟩ := copy_rel hM n4
                        refine z_iinc (v := (k + 1)) (lv' := [(2, .int (nI (k + 1))), (0, .ref o), (1, .int (nI rn))]) hx hb dX5_combineAdd_173 hl (k := 0) rfl (nI_p1 _) (by decide) rfl (fun ls hl => ?_)
                        refine lv_goto (tgt := 123) hx hb dX5_combineAdd_176 (by decide) ?_
                        exact ihlq _ (by omega) (k + 1) F6 L6 B6 rfl (by omega) (((w1.tr (s3.Q (fun a h => by unfold pSum at h; omega))).tr (s4.Q (fun a h => by unfold pSum at h; omega))).tr (s6.Q (fun a h => by unfold pSum at h; omega))) (fun j hj => by by_cases hc : j = k; subst hc; exact ⟨n6, by rw [b6]; exact b4⟩; exact (((w2 j (by omega)).sm s3 (by omega)).sm s4 (by omega)).sm s6 (by omega)) (fun j h1 h2 => (((w3 j (by omega) h2).sm s3 (by omega)).sm s4 (by omega)).sm s6 (by omega)) ls _ _ (lv_sub hl [0, 1, 2] rfl) hM
                  exact lq _ 0 F2 L2 B2 rfl (by omega) (u1.Q (fun a h => by unfold pSum at h; omega)) (fun j hj => by omega) (fun j _ h2 => ((mS hbe1 j h2).sm t1 (by omega)).sm u1 (by omega)) ls _ _ (lv_sub hl [0, 1, 2] rfl) hM
                · refine lv_aload_n hx hb dX5_combineAdd_69 rfl (lv_at hl 1 rfl) ?_
                  refine lv_sipush (v := nI 441) hx hb dX5_combineAdd_70 rfl ?_
                  refine lv_sipush (v := nI 440) hx hb dX5_combineAdd_73 rfl ?_
                  refine lv_iload_n hx hb dX5_combineAdd_76 rfl (lv_at hl 2 rfl) ?_
                  refine lv_iload_n hx hb dX5_combineAdd_77 rfl (lv_at hl 0 rfl) ?_
                  refine z_calli0 (va_runS (As := [.int (nI rn), .int (nI k)]) (rest := [.int (nI 440), .int (nI 441), .ref o]) ⟨hx, hb, hml, hown, hts⟩ (m_placeOf l Γ hok G0 _ F2 L2 B2 _ rn k) (va_cwS 2 hts gX5_combineAdd_X5_placeOf rfl rfl rfl (by decide +kernel) ⟨Nat.le_of_ble_eq_true rfl, Nat.le_of_ble_eq_true rfl⟩) (zM.pre hK hM) rfl rfl hl.1 rfl (lv_room (Nat.le_of_ble_eq_true rfl)) dX5_combineAdd_78 ⟨Nat.le_of_ble_eq_true rfl, Nat.le_of_ble_eq_true rfl⟩) hM (fun r78 G78 H locs hp78 hM => ?_)
                  obtain ⟨rfl, rfl⟩ := hp78
                  have hz2 := nz0.sm u1 (by omega)
                  have hr2 := ((mR rn k hrl (by omega)).sm t1 (by omega)).sm u1 (by omega)
                  have hzl : L2 440 ≤ 20 := by rw [hz2.1.1]; exact hz20
                  have hrl2 : L2 (7 * rn + k) ≤ 48 := by rw [hr2.1.1]; exact hRs rn k hrl (by omega)
                  refine z_callv0 (va_runV (As := [.int (nI 441), .int (nI 440), .int (nI (7 * rn + k))]) (rest := []) ⟨hx, hb, hml, hown, hts⟩ (m_multiply l Γ hok G0 _ F2 L2 B2 _ 441 440 (7 * rn + k) z (R rn k) (by omega) (by omega) (by omega) (by omega) (by omega) hz2.1 hr2.1 hz2.2 hr2.2 (by omega)) (cwV 3 hts gX5_combineAdd_X5_multiply rfl rfl rfl (by decide +kernel) ⟨Nat.le_of_ble_eq_true rfl, Nat.le_of_ble_eq_true rfl⟩) (zM.preV hK hM (md_o hok) rfl rfl) rfl rfl hl.1 rfl (lv_room (Nat.le_of_ble_eq_true rfl)) dX5_combineAdd_81 ⟨Nat.le_of_ble_eq_true rfl, Nat.le_of_ble_eq_true rfl⟩) hM (fun G81 H locs hp81 hM => ?_)
                  obtain ⟨F3, rfl, f3, n3⟩ := hp81
                  obtain ⟨L3, B3, hM, s3, n3, b3⟩ := sign_rel hM f3 n3
                  have hl3 : L3 441 ≤ 68 := by rw [n3.1]; exact nl_imul (x := 20) (y := 48) hz20 (hRs rn k hrl (by omega))
                  refine lv_aload_n hx hb dX5_combineAdd_84 rfl (lv_at hl 1 rfl) ?_
                  refine lv_sipush (v := nI 442) hx hb dX5_combineAdd_85 rfl ?_
                  refine lv_sipush (v := nI 427) hx hb dX5_combineAdd_88 rfl ?_
                  refine lv_iload_n hx hb dX5_combineAdd_91 rfl (lv_at hl 0 rfl) ?_
                  refine z_iadd hx hb dX5_combineAdd_92 ?_
                  refine lv_sipush (v := nI 441) hx hb dX5_combineAdd_93 rfl ?_
                  have hs3 := (((mS hbe1 k (by omega)).sm t1 (by omega)).sm u1 (by omega)).sm s3 (by omega)
                  have hsl : L3 (427 + k) ≤ 48 := by rw [hs3.1.1]; exact hSs hbe1 k (by omega)
                  refine z_callv0 (va_runV (As := [.int (nI 442), .int (nI (427 + k)), .int (nI 441)]) (rest := []) ⟨hx, hb, hml, hown, hts⟩ (m_add l Γ hok G0 _ F3 L3 B3 _ 442 (427 + k) 441 (S k) (z * R rn k) (by omega) (by omega) (by omega) hs3.1 n3 hs3.2 b3 (by omega) (by omega)) (cwV 3 hts gX5_combineAdd_X5_add rfl rfl rfl (by decide +kernel) ⟨Nat.le_of_ble_eq_true rfl, Nat.le_of_ble_eq_true rfl⟩) (zM.preV hK hM (md_o hok) rfl rfl) rfl rfl hl.1 rfl (lv_room (Nat.le_of_ble_eq_true rfl)) dX5_combineAdd_96 ⟨Nat.le_of_ble_eq_true rfl, Nat.le_of_ble_eq_true rfl⟩) hM (fun G96 H locs hp96 hM => ?_)
                  obtain ⟨F4, rfl, f4, n4⟩ := hp96
                  obtain ⟨L4, B4, hM, s4, n4, b4⟩ := sign_rel hM f4 n4
                  refine lv_aload_n hx hb dX5_combineAdd_99 rfl (lv_at hl 1 rfl) ?_
                  refine m_get hok hx hb hts hin5 hown hK hM 5 hf_length rfl (by decide) (v := .ref lL) rfl dX5_combineAdd_100 ?_
                  refine lv_sipush (v := nI 442) hx hb dX5_combineAdd_103 rfl ?_
                  refine m_ldL hok hx hb hK hM (by omega) dX5_combineAdd_106 ?_
                  have h472 := n4.2.1
                  refine z_asi (y := nI (nl (S k + z * R rn k).natAbs)) (congrArg nI n4.1) ?_
                  refine lv_bipush (v := nI 48) hx hb dX5_combineAdd_107 rfl ?_
                  refine z_icmp_le (tgt := 115) hx hb (by omega) (by omega) dX5_combineAdd_109 (by decide) (fun hc109 => ?_) (fun hc109 => ?_)
                  · refine z_iinc (v := (k + 1)) (lv' := [(2, .int (nI (k + 1))), (0, .ref o), (1, .int (nI rn))]) hx hb dX5_combineAdd_115 hl (k := 0) rfl (nI_p1 _) (by decide) rfl (fun ls hl => ?_)
                    refine lv_goto (tgt := 61) hx hb dX5_combineAdd_118 (by decide) ?_
                    exact ihlp _ (by omega) (k + 1) F4 L4 B4 rfl (by omega) (u1.tr ((s3.wid (by omega) (by omega)).tr (s4.wid (by omega) (by omega)))) (fun j hj => by by_cases hc : j = k; subst hc; exact hc109; exact u2 j (by omega)) ls _ _ (lv_sub hl [0, 1, 2] rfl) hM
                  · refine lv_bipush (v := -4) hx hb dX5_combineAdd_112 rfl ?_
                    rw [hQ]
                    rw [hAe] at hM
                    exact z_iret hsz hx hb hr hlocks hK hM dX5_combineAdd_114 (by
                          simp only [op_add]; rw [if_neg (by omega), if_neg hgood, if_neg (by omega), nI_clamp hrn, if_neg (fun h9 => absurd (fit48_iff.mp h9 k (by show k < vars + 1; omega)) (by show ¬ nl (S k + z * R rn k).natAbs ≤ 48; omega))]
                          exact ⟨F4, L4, B4, rfl, rfl, hR1.keep hA (u1.tr ((s3.wid (by omega) (by omega)).tr (s4.wid (by omega) (by omega)))) (by omega) (by omega)⟩)
            exact lp _ 0 F L1 B1 rfl (by omega) sm.rf (fun j hj => by omega) ls _ _ (lv_sub hl [0, 1, 2] rfl) hM
          · refine lv_bipush (v := -6) hx hb dX5_combineAdd_56 rfl ?_
            rw [hQ]
            rw [hAe] at hM
            exact z_iret hsz hx hb hr hlocks hK hM dX5_combineAdd_58 (by simp only [op_add]; rw [if_neg (by omega), if_neg hgood, if_pos (Or.inr (by have := sb_or z; have := sb_lt z; omega))]; exact ⟨F, L1, B1, rfl, rfl, hR1⟩)
      refine lv_aload_n hx hb dX5_combineAdd_26 rfl (lv_at hl 0 rfl) ?_
      refine m_get hok hx hb hts hin5 hown hK hM 12 hf_state rfl (by decide) (v := .int (nI st)) rfl dX5_combineAdd_27 ?_
      refine lv_iconst (v := nI 1) hx hb dX5_combineAdd_30 rfl ?_
      refine z_icmp_ne (tgt := 38) hx hb (by omega) (by omega) dX5_combineAdd_31 (by decide) (fun hc31 => ?_) (fun hc31 => ?_)
      · exact k38 L B (sm.rf) (fun h => mz (by omega)) ls _ _ (lv_sub hl [0, 1] rfl) hM
      · refine lv_aload_n hx hb dX5_combineAdd_34 rfl (lv_at hl 0 rfl) ?_
        have hst1 : st = 1 := by omega
        have hdg : dg (fun j => F (72 * 440 + j)) gv := fun j hj => by show F _ < _; rw [mg hst1 j hj]; exact hgd j hj
        have hzz : sg.toInt * (vl (fun j => F (72 * 440 + j)) gv : Nat) = z := by rw [hz1 hst1, vl_congr (fun j hj => mg hst1 j hj)]
        refine z_callv0 (va_runV (As := []) (rest := []) ⟨hx, hb, hml, hown, hts⟩ (m_settle l Γ hok G0 _ F L B _ sg gv rfl rfl hgv hsg hdg) (cwV 0 hts gX5_combineAdd_X5_settle rfl rfl rfl (by decide +kernel) ⟨Nat.le_of_ble_eq_true rfl, Nat.le_of_ble_eq_true rfl⟩) (zM.preV hK hM (md_o hok) rfl rfl) rfl rfl hl.1 rfl (lv_room (Nat.le_of_ble_eq_true rfl)) dX5_combineAdd_35 ⟨Nat.le_of_ble_eq_true rfl, Nat.le_of_ble_eq_true rfl⟩) hM (fun G35 H locs hp35 hM => ?_)
        obtain ⟨rfl, hns⟩ := hp35
        rw [hzz] at hM hns
        obtain ⟨L1, B1, hM, s1, n1, b1⟩ := sign_rel (F := F) hM (fun _ _ => rfl) hns
        exact k38 L1 B1 (s1) (fun _ => ⟨n1, b1⟩) ls _ _ (lv_sub hl [0, 1] rfl) hM
    · have hbad : row < 0 ∨ nI nr ≤ row := by by_cases h9 : row < 0 ∨ nI nr ≤ row; exact h9; rw [if_neg h9] at hc20; omega
      refine lv_bipush (v := -5) hx hb dX5_combineAdd_23 rfl ?_
      rw [hQ]
      rw [hAe] at hM
      exact z_iret hsz hx hb hr hlocks hK hM dX5_combineAdd_25 (by simp only [op_add]; rw [if_neg (by omega), if_pos hbad]; exact ⟨F, L, B, rfl, rfl, hR⟩)
  · refine lv_bipush (v := -7) hx hb dX5_combineAdd_12 rfl ?_
    rw [hQ]
    rw [hAe] at hM
    exact z_iret hsz hx hb hr hlocks hK hM dX5_combineAdd_14 (by simp only [op_add]; rw [if_pos (by omega)]; exact ⟨F, L, B, rfl, rfl, hR⟩)
