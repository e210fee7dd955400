set_option maxRecDepth 100000 in
set_option maxHeartbeats 4000000 in
theorem m_refuted (l : Launch) (Γ : zT) {o lF lL lB : Nat} (hok : mdk o lF lL lB) (G0 : zG) (F L B : Nat → Nat) (sz : Nat) (rf : Int32) (σ : AS)  (hA : AI σ) (hR : MRep F L B σ) : zMi l yX5_refuted wsX5_refuted (zR 2) Γ (md Γ o lF lL lB G0 (mfs rf σ) F L B) sz [.ref o] (fun r G' => r = op_refuted σ ∧ G' = md Γ o lF lL lB G0 (mfs (nI 0) σ) F L B) 0 0 := by
  obtain ⟨⟨vars, maxR, cells⟩, ⟨nr, inp, R⟩, ⟨fil, V⟩, ⟨se, be, S⟩, P, ⟨st, sg, gv, g, z⟩⟩ := σ
  obtain ⟨⟨hv1, hv6, hm1, hm60, hc4⟩, ⟨hnr, hinp, hsei, hRs⟩, ⟨hfil, hVs⟩, ⟨hse, hbe, hSs⟩, hPs, hst, hgv, hsg, hz1, hgd, hz20⟩ := id hA
  obtain ⟨mR, mV, mS, mP, mg, mz, m1⟩ := id hR
  refine z_start (cc := cX5_refuted) (maxL := 4) (ret := (some .boolean)) (by decide) rfl (Nat.le_of_ble_eq_true rfl) ?_
  intro p e s m args below meth c ls Q hQ hsz hx hb hr hml hown hts hlocks hnm hK hM hl
  obtain ⟨A, hAe⟩ : ∃ A, A = zA (md Γ o lF lL lB G0 (mfl rf (nI vars) (nI maxR) (nI cells) (nI nr) (nI inp) (nI fil) (nI se) (nI be) (nI st) sg (nI gv)) F L B) s.heap.size := ⟨_, rfl⟩
  have hM : zM Γ A s.heap (md Γ o lF lL lB G0 (mfl rf (nI vars) (nI maxR) (nI cells) (nI nr) (nI inp) (nI fil) (nI se) (nI be) (nI st) sg (nI gv)) F L B) s.heap [] := by rw [hAe]; exact hM
  have hl : lv_has ls 4 [(0, .ref o)] := hl
  have hin5 : ∀ w ∈ wsX50, w ∈ wsX5_refuted := by decide +kernel
  have hf_length := hts (.fieldLink RX5 13 "CutRowsModel" "length" "[I") (by decide +kernel)
  have hf_isBelow := hts (.fieldLink RX5 16 "CutRowsModel" "isBelow" "[Z") (by decide +kernel)
  have hf_vars := hts (.fieldLink RX5 24 "CutRowsModel" "vars" "I") (by decide +kernel)
  have hf_refusal := hts (.fieldLink RX5 34 "CutRowsModel" "refusal" "I") (by decide +kernel)
  have hf_rows := hts (.fieldLink RX5 96 "CutRowsModel" "rows" "I") (by decide +kernel)
  have hf_input := hts (.fieldLink RX5 109 "CutRowsModel" "input" "I") (by decide +kernel)
  refine lv_aload_n hx hb dX5_refuted_0 rfl (lv_at hl 0 rfl) ?_
  refine lv_iconst (v := nI 0) hx hb dX5_refuted_1 rfl ?_
  refine m_put hok hx hb hts hin5 hown hK hM 0 hf_refusal rfl (by decide) rfl (rfl) (rfl) (fl' := mfl (nI 0) (nI vars) (nI maxR) (nI cells) (nI nr) (nI inp) (nI fil) (nI se) (nI be) (nI st) sg (nI gv)) rfl dX5_refuted_2 (fun H locs hM => ?_)
  refine lv_aload_n hx hb dX5_refuted_5 rfl (lv_at hl 0 rfl) ?_
  refine m_get hok hx hb hts hin5 hown hK hM 8 hf_input rfl (by decide) (v := .int (nI inp)) rfl dX5_refuted_6 ?_
  refine lv_istore_n (lv' := [(1, .int (nI inp)), (0, .ref o)]) hx hb dX5_refuted_9 rfl hl (by decide) rfl (fun ls hl => ?_)
  have lp : ∀ (μ : Nat) (rr : Nat), nr - rr = μ → (inp ≤ rr) → (rr ≤ nr) → (anyBot R vars inp rr = false) → ∀ (ls : Array Slot) (H : Heap) (locs : List Loc), lv_has ls 4 [(1, .int (nI rr)), (0, .ref o)] → zM Γ A s.heap (md Γ o lF lL lB G0 (mfl (nI 0) (nI vars) (nI maxR) (nI cells) (nI nr) (nI inp) (nI fil) (nI se) (nI be) (nI st) sg (nI gv)) F L B) H locs → W p l e (zR 2) s m args below meth c H locs 0 0 Q (F0 m 10 ls []) := by
    intro μ
    induction μ using Nat.strongRecOn with
    | _ μ ihlp =>
      intro rr hμ hin hrr g1 ls H locs hl hM
      refine lv_iload_n hx hb dX5_refuted_10 rfl (lv_at hl 0 rfl) ?_
      refine lv_aload_n hx hb dX5_refuted_11 rfl (lv_at hl 1 rfl) ?_
      refine m_get hok hx hb hts hin5 hown hK hM 7 hf_rows rfl (by decide) (v := .int (nI nr)) rfl dX5_refuted_12 ?_
      refine z_icmp_ge (tgt := 83) hx hb (by omega) (by omega) dX5_refuted_15 (by decide) (fun hc15 => ?_) (fun hc15 => ?_)
      · refine lv_iconst (v := nI 0) hx hb dX5_refuted_83 rfl ?_
        rw [hQ]
        rw [hAe] at hM
        exact z_zret (by omega) hsz hx hb hr hlocks hK hM dX5_refuted_84 (⟨by simp only [op_refuted]; rw [show nr = rr by omega, g1]; rfl, rfl⟩)
      · refine lv_aload_n hx hb dX5_refuted_18 rfl (lv_at hl 1 rfl) ?_
        refine m_get hok hx hb hts hin5 hown hK hM 6 hf_isBelow rfl (by decide) (v := .ref lB) rfl dX5_refuted_19 ?_
        refine lv_iload_n hx hb dX5_refuted_22 rfl (lv_at hl 0 rfl) ?_
        refine lv_aload_n hx hb dX5_refuted_23 rfl (lv_at hl 1 rfl) ?_
        refine m_get hok hx hb hts hin5 hown hK hM 1 hf_vars rfl (by decide) (v := .int (nI vars)) rfl dX5_refuted_24 ?_
        refine z_calli0 (va_runS (As := [.int (nI rr), .int (nI vars)]) (rest := [.ref lB]) ⟨hx, hb, hml, hown, hts⟩ (m_placeOf l Γ hok G0 _ F L B _ rr vars) (va_cwS 2 hts gX5_refuted_X5_placeOf rfl rfl rfl (by decide +kernel) ⟨Nat.le_of_ble_eq_true rfl, Nat.le_of_ble_eq_true rfl⟩) (zM.pre hK hM) rfl rfl hl.1 rfl (lv_room (Nat.le_of_ble_eq_true rfl)) dX5_refuted_27 ⟨Nat.le_of_ble_eq_true rfl, Nat.le_of_ble_eq_true rfl⟩) hM (fun r27 G27 H locs hp27 hM => ?_)
        obtain ⟨rfl, rfl⟩ := hp27
        refine m_ldB hok hx hb hK hM (by omega) dX5_refuted_30 ?_
        refine z_asi (y := nI (sb (R rr vars))) (congrArg nI (mR rr vars (by omega) (Nat.le_refl _)).2) ?_
        refine lv_istore_n (lv' := [(2, .int (nI (sb (R rr vars)))), (1, .int (nI rr)), (0, .ref o)]) hx hb dX5_refuted_31 rfl hl (by decide) rfl (fun ls hl => ?_)
        refine lv_iconst (v := nI 0) hx hb dX5_refuted_32 rfl ?_
        refine lv_istore_n (lv' := [(3, .int (nI 0)), (2, .int (nI (sb (R rr vars)))), (1, .int (nI rr)), (0, .ref o)]) hx hb dX5_refuted_33 rfl hl (by decide) rfl (fun ls hl => ?_)
        have lq : ∀ (μ : Nat) (k : Nat) (nn : Nat), vars - k = μ → (k ≤ vars) → ((nn = 1 ∧ R rr vars < 0 ∧ ∀ j, j < k → R rr j = 0) ∨ (nn = 0 ∧ ¬ (R rr vars < 0 ∧ ∀ j, j < k → R rr j = 0))) → ∀ (ls : Array Slot) (H : Heap) (locs : List Loc), lv_has ls 4 [(3, .int (nI k)), (2, .int (nI nn)), (1, .int (nI rr)), (0, .ref o)] → zM Γ A s.heap (md Γ o lF lL lB G0 (mfl (nI 0) (nI vars) (nI maxR) (nI cells) (nI nr) (nI inp) (nI fil) (nI se) (nI be) (nI st) sg (nI gv)) F L B) H locs → W p l e (zR 2) s m args below meth c H locs 0 0 Q (F0 m 34 ls []) := by
          intro μ
          induction μ using Nat.strongRecOn with
          | _ μ ihlq =>
            intro k nn hμ hk g2 ls H locs hl hM
            refine lv_iload_n hx hb dX5_refuted_34 rfl (lv_at hl 0 rfl) ?_
            refine lv_aload_n hx hb dX5_refuted_35 rfl (lv_at hl 3 rfl) ?_
            refine m_get hok hx hb hts hin5 hown hK hM 1 hf_vars rfl (by decide) (v := .int (nI vars)) rfl dX5_refuted_36 ?_
            refine z_icmp_ge (tgt := 71) hx hb (by omega) (by omega) dX5_refuted_39 (by decide) (fun hc39 => ?_) (fun hc39 => ?_)
            · refine lv_iload_n hx hb dX5_refuted_71 rfl (lv_at hl 1 rfl) ?_
              refine z_if_eq (tgt := 77) hx hb (by omega) dX5_refuted_72 (by decide) (fun hc72 => ?_) (fun hc72 => ?_)
              · have hb0 : bot (R rr) vars = false := bot_niff.mpr (fun q => by rcases g2 with ⟨h9, -⟩ | ⟨-, h9⟩; omega; exact h9 ⟨q.1, fun j hj => q.2 j (by omega)⟩)
                refine z_iinc (v := (rr + 1)) (lv' := [(1, .int (nI (rr + 1))), (3, .int (nI k)), (2, .int (nI nn)), (0, .ref o)]) hx hb dX5_refuted_77 hl (k := 2) rfl (nI_p1 _) (by decide) rfl (fun ls hl => ?_)
                refine lv_goto (tgt := 10) hx hb dX5_refuted_80 (by decide) ?_
                exact ihlp _ (by omega) (rr + 1) rfl (by omega) (by omega) (anyBot_s g1 hb0) ls _ _ (lv_sub hl [0, 3] rfl) hM
              · refine lv_iconst (v := nI 1) hx hb dX5_refuted_75 rfl ?_
                rw [hQ]
                rw [hAe] at hM
                exact z_zret (by omega) hsz hx hb hr hlocks hK hM dX5_refuted_76 (by
                      have hb1 : bot (R rr) vars = true := bot_iff.mpr (by rcases g2 with ⟨-, h9⟩ | ⟨h9, -⟩; exact ⟨h9.1, fun j hj => h9.2 j (by omega)⟩; omega)
                      exact ⟨by simp only [op_refuted]; rw [anyBot_t hin hb1 (by omega)]; rfl, rfl⟩)
            · refine lv_iload_n hx hb dX5_refuted_42 rfl (lv_at hl 1 rfl) ?_
              refine z_if_eq (tgt := 63) hx hb (by omega) dX5_refuted_43 (by decide) (fun hc43 => ?_) (fun hc43 => ?_)
              · refine lv_iconst (v := nI 0) hx hb dX5_refuted_63 rfl ?_
                refine lv_istore_n (lv' := [(2, .int (nI 0)), (3, .int (nI k)), (1, .int (nI rr)), (0, .ref o)]) hx hb dX5_refuted_64 rfl hl (by decide) rfl (fun ls hl => ?_)
                refine z_iinc (v := (k + 1)) (lv' := [(3, .int (nI (k + 1))), (2, .int (nI 0)), (1, .int (nI rr)), (0, .ref o)]) hx hb dX5_refuted_65 hl (k := 1) rfl (nI_p1 _) (by decide) rfl (fun ls hl => ?_)
                refine lv_goto (tgt := 34) hx hb dX5_refuted_68 (by decide) ?_
                exact ihlq _ (by omega) (k + 1) 0 rfl (by omega) (Or.inr ⟨rfl, fun q => by rcases g2 with ⟨h9, -⟩ | ⟨-, h9⟩; omega; exact h9 ⟨q.1, fun j hj => q.2 j (by omega)⟩⟩) ls _ _ (lv_sub hl [0, 1, 2, 3] rfl) hM
              · refine lv_aload_n hx hb dX5_refuted_46 rfl (lv_at hl 3 rfl) ?_
                refine m_get hok hx hb hts hin5 hown hK hM 5 hf_length rfl (by decide) (v := .ref lL) rfl dX5_refuted_47 ?_
                refine lv_iload_n hx hb dX5_refuted_50 rfl (lv_at hl 2 rfl) ?_
                refine lv_iload_n hx hb dX5_refuted_51 rfl (lv_at hl 0 rfl) ?_
                refine z_calli0 (va_runS (As := [.int (nI rr), .int (nI k)]) (rest := [.ref lL]) ⟨hx, hb, hml, hown, hts⟩ (m_placeOf l Γ hok G0 _ F L B _ rr k) (va_cwS 2 hts gX5_refuted_X5_placeOf rfl rfl rfl (by decide +kernel) ⟨Nat.le_of_ble_eq_true rfl, Nat.le_of_ble_eq_true rfl⟩) (zM.pre hK hM) rfl rfl hl.1 rfl (lv_room (Nat.le_of_ble_eq_true rfl)) dX5_refuted_52 ⟨Nat.le_of_ble_eq_true rfl, Nat.le_of_ble_eq_true rfl⟩) hM (fun r52 G52 H locs hp52 hM => ?_)
                obtain ⟨rfl, rfl⟩ := hp52
                refine m_ldL hok hx hb hK hM (by omega) dX5_refuted_55 ?_
                have hrk := (mR rr k (by omega) (by omega)).1
                have hnp := @nl_pos (R rr k).natAbs
                have h72 := hrk.2.1
                refine z_asi (y := nI (nl (R rr k).natAbs)) (congrArg nI hrk.1) ?_
                refine z_if_ne (tgt := 63) hx hb (by omega) dX5_refuted_56 (by decide) (fun hc56 => ?_) (fun hc56 => ?_)
                · refine lv_iconst (v := nI 0) hx hb dX5_refuted_63 rfl ?_
                  refine lv_istore_n (lv' := [(2, .int (nI 0)), (3, .int (nI k)), (1, .int (nI rr)), (0, .ref o)]) hx hb dX5_refuted_64 rfl hl (by decide) rfl (fun ls hl => ?_)
                  refine z_iinc (v := (k + 1)) (lv' := [(3, .int (nI (k + 1))), (2, .int (nI 0)), (1, .int (nI rr)), (0, .ref o)]) hx hb dX5_refuted_65 hl (k := 1) rfl (nI_p1 _) (by decide) rfl (fun ls hl => ?_)
                  refine lv_goto (tgt := 34) hx hb dX5_refuted_68 (by decide) ?_
                  exact ihlq _ (by omega) (k + 1) 0 rfl (by omega) (Or.inr ⟨rfl, fun q => by have := q.2 k (by omega); omega⟩) ls _ _ (lv_sub hl [0, 1, 2, 3] rfl) hM
                · refine lv_iconst (v := nI 1) hx hb dX5_refuted_59 rfl ?_
                  refine lv_goto (tgt := 64) hx hb dX5_refuted_60 (by decide) ?_
                  refine lv_istore_n (lv' := [(2, .int (nI 1)), (3, .int (nI k)), (1, .int (nI rr)), (0, .ref o)]) hx hb dX5_refuted_64 rfl hl (by decide) rfl (fun ls hl => ?_)
                  refine z_iinc (v := (k + 1)) (lv' := [(3, .int (nI (k + 1))), (2, .int (nI 1)), (1, .int (nI rr)), (0, .ref o)]) hx hb dX5_refuted_65 hl (k := 1) rfl (nI_p1 _) (by decide) rfl (fun ls hl => ?_)
                  refine lv_goto (tgt := 34) hx hb dX5_refuted_68 (by decide) ?_
                  exact ihlq _ (by omega) (k + 1) 1 rfl (by omega) (Or.inl ⟨rfl, by rcases g2 with ⟨-, h9⟩ | ⟨h9, -⟩; exact ⟨h9.1, fun j hj => by by_cases hc : j = k; subst hc; omega; exact h9.2 j (by omega)⟩; omega⟩) ls _ _ (lv_sub hl [0, 1, 2, 3] rfl) hM
        exact lq _ 0 (sb (R rr vars)) rfl (by omega) (by have e1 := sb_or (R rr vars); rcases e1 with ⟨e1, e2⟩ | ⟨e1, e2⟩; exact Or.inl ⟨e2, e1, fun j hj => by omega⟩; exact Or.inr ⟨e2, fun q => by omega⟩) ls _ _ (lv_sub hl [0, 1, 2, 3] rfl) hM
  exact lp _ inp rfl (Nat.le_refl _) hinp (anyBot_0 (Nat.le_refl _)) ls _ _ (lv_sub hl [0, 1] rfl) hM

set_option maxRecDepth 100000 in
set_option maxHeartbeats 4000000 in
theorem m_holds (l : Launch) (Γ : zT) {o lF lL lB : Nat} (hok : mdk o lF lL lB) (G0 : zG) (F L B : Nat → Nat) (sz : Nat) (rf : Int32) (σ : AS) (rn : Nat) (hrl : rn < σ.2.1.1) (hA : AI σ) (hR : MRep F L B σ) : zMi l yX5_holds wsX5_holds (zR 4) Γ (md Γ o lF lL lB G0 (mfs rf σ) F L B) sz [.ref o, .int (nI rn)] (fun r G' => ∃ F' L' B', G' = md Γ o lF lL lB G0 (mfs rf σ) F' L' B' ∧ sm 441 444 F L B F' L' B' ∧ r = op_hold rn σ) 0 0 := by
  obtain ⟨⟨vars, maxR, cells⟩, ⟨nr, inp, R⟩, ⟨fil, V⟩, ⟨se, be, S⟩, P, ⟨st, sg, gv, g, z⟩⟩ := σ
  obtain ⟨⟨hv1, hv6, hm1, hm60, hc4⟩, ⟨hnr, hinp, hsei, hRs⟩, ⟨hfil, hVs⟩, ⟨hse, hbe, hSs⟩, hPs, hst, hgv, hsg, hz1, hgd, hz20⟩ := id hA
  obtain ⟨mR, mV, mS, mP, mg, mz, m1⟩ := id hR
  refine z_start (cc := cX5_holds) (maxL := 3) (ret := (some .boolean)) (by decide) rfl (Nat.le_of_ble_eq_true rfl) ?_
  intro p e s m args below meth c ls Q hQ hsz hx hb hr hml hown hts hlocks hnm hK hM hl
  obtain ⟨A, hAe⟩ : ∃ A, A = zA (md Γ o lF lL lB G0 (mfl rf (nI vars) (nI maxR) (nI cells) (nI nr) (nI inp) (nI fil) (nI se) (nI be) (nI st) sg (nI gv)) F L B) s.heap.size := ⟨_, rfl⟩
  have hM : zM Γ A s.heap (md Γ o lF lL lB G0 (mfl rf (nI vars) (nI maxR) (nI cells) (nI nr) (nI inp) (nI fil) (nI se) (nI be) (nI st) sg (nI gv)) F L B) s.heap [] := by rw [hAe]; exact hM
  have hl : lv_has ls 3 [(0, .ref o), (1, .int (nI rn))] := hl
  have hin5 : ∀ w ∈ wsX50, w ∈ wsX5_holds := by decide +kernel
  have hf_length := hts (.fieldLink RX5 13 "CutRowsModel" "length" "[I") (by decide +kernel)
  have hf_isBelow := hts (.fieldLink RX5 16 "CutRowsModel" "isBelow" "[Z") (by decide +kernel)
  have hf_vars := hts (.fieldLink RX5 24 "CutRowsModel" "vars" "I") (by decide +kernel)
  have hrl : rn < nr := hrl
  have hPR : ∀ k, k < vars → nl (P k).natAbs ≤ 20 ∧ nl (R rn k).natAbs ≤ 48 := fun k hk => ⟨hPs k hk, hRs rn k hrl (by omega)⟩
  refine lv_aload_n hx hb dX5_holds_0 rfl (lv_at hl 0 rfl) ?_
  refine lv_sipush (v := nI 442) hx hb dX5_holds_1 rfl ?_
  refine z_callv0 (va_runV (As := [.int (nI 442)]) (rest := []) ⟨hx, hb, hml, hown, hts⟩ (m_clear l Γ hok G0 _ F L B _ 442 (by omega)) (cwV 1 hts gX5_holds_X5_clear rfl rfl rfl (by decide +kernel) ⟨Nat.le_of_ble_eq_true rfl, Nat.le_of_ble_eq_true rfl⟩) (zM.preV hK hM (md_o hok) rfl rfl) rfl rfl hl.1 rfl (lv_room (Nat.le_of_ble_eq_true rfl)) dX5_holds_4 ⟨Nat.le_of_ble_eq_true rfl, Nat.le_of_ble_eq_true rfl⟩) hM (fun G4 H locs hp4 hM => ?_)
  obtain rfl := hp4
  obtain ⟨L1, B1, hM, s1, n1, b1⟩ := clear_rel hM
  refine lv_iconst (v := nI 0) hx hb dX5_holds_7 rfl ?_
  refine lv_istore_n (lv' := [(2, .int (nI 0)), (0, .ref o), (1, .int (nI rn))]) hx hb dX5_holds_8 rfl hl (by decide) rfl (fun ls hl => ?_)
  have lp : ∀ (μ : Nat) (k : Nat) (F2 : Nat → Nat) (L2 : Nat → Nat) (B2 : Nat → Nat), vars - k = μ → (k ≤ vars) → (sm 441 444 F L B F2 L2 B2) → (nz F2 L2 B2 442 (dotN P (R rn) k)) → ∀ (ls : Array Slot) (H : Heap) (locs : List Loc), lv_has ls 3 [(2, .int (nI k)), (0, .ref o), (1, .int (nI rn))] → zM Γ A s.heap (md Γ o lF lL lB G0 (mfl rf (nI vars) (nI maxR) (nI cells) (nI nr) (nI inp) (nI fil) (nI se) (nI be) (nI st) sg (nI gv)) F2 L2 B2) H locs → W p l e (zR 4) s m args below meth c H locs 0 0 Q (F0 m 9 ls []) := by
    intro μ
    induction μ using Nat.strongRecOn with
    | _ μ ihlp =>
      intro k F2 L2 B2 hμ hk u1 u2 ls H locs hl hM
      refine lv_iload_n hx hb dX5_holds_9 rfl (lv_at hl 0 rfl) ?_
      refine lv_aload_n hx hb dX5_holds_10 rfl (lv_at hl 1 rfl) ?_
      refine m_get hok hx hb hts hin5 hown hK hM 1 hf_vars rfl (by decide) (v := .int (nI vars)) rfl dX5_holds_11 ?_
      refine z_icmp_ge (tgt := 63) hx hb (by omega) (by omega) dX5_holds_14 (by decide) (fun hc14 => ?_) (fun hc14 => ?_)
      · have hkv : k = vars := by omega
        rw [hkv] at u2
        obtain ⟨dt, hdt⟩ : ∃ dt, dt = dotN P (R rn) vars := ⟨_, rfl⟩
        rw [← hdt] at u2
        have hdl : nl dt.natAbs ≤ 69 := by rw [hdt]; exact dotN_nl hv6 hPR
        have hnp := @nl_pos dt.natAbs
        have hso := sb_or dt
        have k98 : ∀ (B6 : Nat → Nat), (sm 442 443 F2 L2 B2 F2 L2 B6) → (nz F2 L2 B6 442 (-dt)) → ∀ (ls : Array Slot) (H : Heap) (locs : List Loc), lv_has ls 3 [(2, .int (nI k)), (0, .ref o), (1, .int (nI rn))] → zM Γ A s.heap (md Γ o lF lL lB G0 (mfl rf (nI vars) (nI maxR) (nI cells) (nI nr) (nI inp) (nI fil) (nI se) (nI be) (nI st) sg (nI gv)) F2 L2 B6) H locs → W p l e (zR 4) s m args below meth c H locs 0 0 Q (F0 m 98 ls []) := by
          intro B6 t1 t2 ls H locs hl hM
          refine lv_aload_n hx hb dX5_holds_98 rfl (lv_at hl 1 rfl) ?_
          refine lv_sipush (v := nI 443) hx hb dX5_holds_99 rfl ?_
          refine lv_iload_n hx hb dX5_holds_102 rfl (lv_at hl 2 rfl) ?_
          refine lv_aload_n hx hb dX5_holds_103 rfl (lv_at hl 1 rfl) ?_
          refine m_get hok hx hb hts hin5 hown hK hM 1 hf_vars rfl (by decide) (v := .int (nI vars)) rfl dX5_holds_104 ?_
          refine z_calli0 (va_runS (As := [.int (nI rn), .int (nI vars)]) (rest := [.int (nI 443), .ref o]) ⟨hx, hb, hml, hown, hts⟩ (m_placeOf l Γ hok G0 _ F2 L2 B6 _ rn vars) (va_cwS 2 hts gX5_holds_X5_placeOf rfl rfl rfl (by decide +kernel) ⟨Nat.le_of_ble_eq_true rfl, Nat.le_of_ble_eq_true rfl⟩) (zM.pre hK hM) rfl rfl hl.1 rfl (lv_room (Nat.le_of_ble_eq_true rfl)) dX5_holds_107 ⟨Nat.le_of_ble_eq_true rfl, Nat.le_of_ble_eq_true rfl⟩) hM (fun r107 G107 H locs hp107 hM => ?_)
          obtain ⟨rfl, rfl⟩ := hp107
          refine lv_sipush (v := nI 442) hx hb dX5_holds_110 rfl ?_
          have hb2 := (mR rn vars hrl (Nat.le_refl _)).sm (u1.tr (t1.wid (by omega) (by omega))) (by omega)
          have hbl : L2 (7 * rn + vars) ≤ 48 := by rw [hb2.1.1]; exact hRs rn vars hrl (Nat.le_refl _)
          have htl : L2 442 ≤ 69 := by rw [t2.1.1, Int.natAbs_neg]; exact hdl
          refine z_callv0 (va_runV (As := [.int (nI 443), .int (nI (7 * rn + vars)), .int (nI 442)]) (rest := []) ⟨hx, hb, hml, hown, hts⟩ (m_add l Γ hok G0 _ F2 L2 B6 _ 443 (7 * rn + vars) 442 (R rn vars) (-dt) (by omega) (by omega) (by omega) hb2.1 t2.1 hb2.2 t2.2 (by omega) (by omega)) (cwV 3 hts gX5_holds_X5_add rfl rfl rfl (by decide +kernel) ⟨Nat.le_of_ble_eq_true rfl, Nat.le_of_ble_eq_true rfl⟩) (zM.preV hK hM (md_o hok) rfl rfl) rfl rfl hl.1 rfl (lv_room (Nat.le_of_ble_eq_true rfl)) dX5_holds_113 ⟨Nat.le_of_ble_eq_true rfl, Nat.le_of_ble_eq_true rfl⟩) hM (fun G113 H locs hp113 hM => ?_)
          obtain ⟨F7, rfl, f7, n7⟩ := hp113
          obtain ⟨L7, B7, hM, s7, n7, b7⟩ := sign_rel hM f7 n7
          have hse7 := sb_or (R rn vars + -dt)
          refine lv_aload_n hx hb dX5_holds_116 rfl (lv_at hl 1 rfl) ?_
          refine m_get hok hx hb hts hin5 hown hK hM 6 hf_isBelow rfl (by decide) (v := .ref lB) rfl dX5_holds_117 ?_
          refine lv_sipush (v := nI 443) hx hb dX5_holds_120 rfl ?_
          refine m_ldB hok hx hb hK hM (by omega) dX5_holds_123 ?_
          refine z_asi (y := nI (sb (R rn vars + -dt))) (congrArg nI b7) ?_
          refine z_if_ne (tgt := 131) hx hb (by omega) dX5_holds_124 (by decide) (fun hc124 => ?_) (fun hc124 => ?_)
          · refine lv_iconst (v := nI 0) hx hb dX5_holds_131 rfl ?_
            rw [hQ]
            rw [hAe] at hM
            exact z_zret (by omega) hsz hx hb hr hlocks hK hM dX5_holds_132 (⟨F7, L7, B7, rfl, u1.tr ((t1.wid (by omega) (by omega)).tr (s7.wid (by omega) (by omega))), by simp only [op_hold]; rw [← hdt, if_neg (by omega)]⟩)
          · refine lv_iconst (v := nI 1) hx hb dX5_holds_127 rfl ?_
            refine lv_goto (tgt := 132) hx hb dX5_holds_128 (by decide) ?_
            rw [hQ]
            rw [hAe] at hM
            exact z_zret (by omega) hsz hx hb hr hlocks hK hM dX5_holds_132 (⟨F7, L7, B7, rfl, u1.tr ((t1.wid (by omega) (by omega)).tr (s7.wid (by omega) (by omega))), by simp only [op_hold]; rw [← hdt, if_pos (by omega)]⟩)
        refine lv_aload_n hx hb dX5_holds_63 rfl (lv_at hl 1 rfl) ?_
        refine m_get hok hx hb hts hin5 hown hK hM 6 hf_isBelow rfl (by decide) (v := .ref lB) rfl dX5_holds_64 ?_
        refine lv_sipush (v := nI 442) hx hb dX5_holds_67 rfl ?_
        refine lv_aload_n hx hb dX5_holds_70 rfl (lv_at hl 1 rfl) ?_
        refine m_get hok hx hb hts hin5 hown hK hM 5 hf_length rfl (by decide) (v := .ref lL) rfl dX5_holds_71 ?_
        refine lv_sipush (v := nI 442) hx hb dX5_holds_74 rfl ?_
        refine m_ldL hok hx hb hK hM (by omega) dX5_holds_77 ?_
        refine z_asi (y := nI (nl dt.natAbs)) (congrArg nI u2.1.1) ?_
        refine z_if_le (tgt := 96) hx hb (by omega) dX5_holds_78 (by decide) (fun hc78 => ?_) (fun hc78 => ?_)
        · refine lv_iconst (v := nI 0) hx hb dX5_holds_96 rfl ?_
          refine m_stB hok hx hb hK hM (by omega) (by omega) dX5_holds_97 (fun H locs hM => ?_)
          exact k98 (va_up B2 442 0) (smB) (⟨by rw [Int.natAbs_neg]; exact u2.1, by rw [va_up_self]; have := sb_or (-dt); omega⟩) ls _ _ (lv_sub hl [0, 1, 2] rfl) hM
        · refine lv_aload_n hx hb dX5_holds_81 rfl (lv_at hl 1 rfl) ?_
          refine m_get hok hx hb hts hin5 hown hK hM 6 hf_isBelow rfl (by decide) (v := .ref lB) rfl dX5_holds_82 ?_
          refine lv_sipush (v := nI 442) hx hb dX5_holds_85 rfl ?_
          refine m_ldB hok hx hb hK hM (by omega) dX5_holds_88 ?_
          refine z_asi (y := nI (sb dt)) (congrArg nI u2.2) ?_
          refine z_if_ne (tgt := 96) hx hb (by omega) dX5_holds_89 (by decide) (fun hc89 => ?_) (fun hc89 => ?_)
          · refine lv_iconst (v := nI 0) hx hb dX5_holds_96 rfl ?_
            refine m_stB hok hx hb hK hM (by omega) (by omega) dX5_holds_97 (fun H locs hM => ?_)
            exact k98 (va_up B2 442 0) (smB) (⟨by rw [Int.natAbs_neg]; exact u2.1, by rw [va_up_self]; have := sb_or (-dt); omega⟩) ls _ _ (lv_sub hl [0, 1, 2] rfl) hM
          · refine lv_iconst (v := nI 1) hx hb dX5_holds_92 rfl ?_
            refine lv_goto (tgt := 97) hx hb dX5_holds_93 (by decide) ?_
            refine m_stB hok hx hb hK hM (by omega) (by omega) dX5_holds_97 (fun H locs hM => ?_)
            exact k98 (va_up B2 442 1) (smB) (⟨by rw [Int.natAbs_neg]; exact u2.1, by rw [va_up_self]; have := sb_or (-dt); omega⟩) ls _ _ (lv_sub hl [0, 1, 2] rfl) hM
      · refine lv_aload_n hx hb dX5_holds_17 rfl (lv_at hl 1 rfl) ?_
        refine lv_sipush (v := nI 441) hx hb dX5_holds_18 rfl ?_
        refine lv_sipush (v := nI 434) hx hb dX5_holds_21 rfl ?_
        refine lv_iload_n hx hb dX5_holds_24 rfl (lv_at hl 0 rfl) ?_
        refine z_iadd hx hb dX5_holds_25 ?_
        refine lv_iload_n hx hb dX5_holds_26 rfl (lv_at hl 2 rfl) ?_
        refine lv_iload_n hx hb dX5_holds_27 rfl (lv_at hl 0 rfl) ?_
        refine z_calli0 (va_runS (As := [.int (nI rn), .int (nI k)]) (rest := [.int (nI (434 + k)), .int (nI 441), .ref o]) ⟨hx, hb, hml, hown, hts⟩ (m_placeOf l Γ hok G0 _ F2 L2 B2 _ rn k) (va_cwS 2 hts gX5_holds_X5_placeOf rfl rfl rfl (by decide +kernel) ⟨Nat.le_of_ble_eq_true rfl, Nat.le_of_ble_eq_true rfl⟩) (zM.pre hK hM) rfl rfl hl.1 rfl (lv_room (Nat.le_of_ble_eq_true rfl)) dX5_holds_28 ⟨Nat.le_of_ble_eq_true rfl, Nat.le_of_ble_eq_true rfl⟩) hM (fun r28 G28 H locs hp28 hM => ?_)
        obtain ⟨rfl, rfl⟩ := hp28
        have hp2 := (mP k (by omega)).sm u1 (by omega)
        have hr2 := (mR rn k hrl (by omega)).sm u1 (by omega)
        have hpl : L2 (434 + k) ≤ 20 := by rw [hp2.1.1]; exact (hPR k (by omega)).1
        have hrl2 : L2 (7 * rn + k) ≤ 48 := by rw [hr2.1.1]; exact (hPR k (by omega)).2
        refine z_callv0 (va_runV (As := [.int (nI 441), .int (nI (434 + k)), .int (nI (7 * rn + k))]) (rest := []) ⟨hx, hb, hml, hown, hts⟩ (m_multiply l Γ hok G0 _ F2 L2 B2 _ 441 (434 + k) (7 * rn + k) (P k) (R rn k) (by omega) (by omega) (by omega) (by omega) (by omega) hp2.1 hr2.1 hp2.2 hr2.2 (by omega)) (cwV 3 hts gX5_holds_X5_multiply rfl rfl rfl (by decide +kernel) ⟨Nat.le_of_ble_eq_true rfl, Nat.le_of_ble_eq_true rfl⟩) (zM.preV hK hM (md_o hok) rfl rfl) rfl rfl hl.1 rfl (lv_room (Nat.le_of_ble_eq_true rfl)) dX5_holds_31 ⟨Nat.le_of_ble_eq_true rfl, Nat.le_of_ble_eq_true rfl⟩) hM (fun G31 H locs hp31 hM => ?_)
        obtain ⟨F3, rfl, f3, n3⟩ := hp31
        obtain ⟨L3, B3, hM, s3, n3, b3⟩ := sign_rel hM f3 n3
        have hl3 : L3 441 ≤ 68 := by rw [n3.1]; exact nl_imul (x := 20) (y := 48) (hPR k (by omega)).1 (hPR k (by omega)).2
        refine lv_aload_n hx hb dX5_holds_34 rfl (lv_at hl 1 rfl) ?_
        refine lv_sipush (v := nI 443) hx hb dX5_holds_35 rfl ?_
        refine lv_sipush (v := nI 442) hx hb dX5_holds_38 rfl ?_
        refine lv_sipush (v := nI 441) hx hb dX5_holds_41 rfl ?_
        have ht3 := u2.sm s3 (by omega)
        have htl : L3 442 ≤ 69 := by rw [ht3.1.1]; exact dotN_nl (by omega) (fun j hj => hPR j (by omega))
        refine z_callv0 (va_runV (As := [.int (nI 443), .int (nI 442), .int (nI 441)]) (rest := []) ⟨hx, hb, hml, hown, hts⟩ (m_add l Γ hok G0 _ F3 L3 B3 _ 443 442 441 (dotN P (R rn) k) (P k * R rn k) (by omega) (by omega) (by omega) ht3.1 n3 ht3.2 b3 (by omega) (by omega)) (cwV 3 hts gX5_holds_X5_add rfl rfl rfl (by decide +kernel) ⟨Nat.le_of_ble_eq_true rfl, Nat.le_of_ble_eq_true rfl⟩) (zM.preV hK hM (md_o hok) rfl rfl) rfl rfl hl.1 rfl (lv_room (Nat.le_of_ble_eq_true rfl)) dX5_holds_44 ⟨Nat.le_of_ble_eq_true rfl, Nat.le_of_ble_eq_true rfl⟩) hM (fun G44 H locs hp44 hM => ?_)
        obtain ⟨F4, rfl, f4, n4⟩ := hp44
        obtain ⟨L4, B4, hM, s4, n4, b4⟩ := sign_rel hM f4 n4
        refine lv_aload_n hx hb dX5_holds_47 rfl (lv_at hl 1 rfl) ?_
        refine lv_sipush (v := nI 442) hx hb dX5_holds_48 rfl ?_
        refine lv_sipush (v := nI 443) hx hb dX5_holds_51 rfl ?_
        refine z_callv0 (va_runV (As := [.int (nI 442), .int (nI 443)]) (rest := []) ⟨hx, hb, hml, hown, hts⟩ (m_copy l Γ hok G0 _ F4 L4 B4 _ 442 443 (by omega) (by omega) (by omega) n4.le (by rw [b4]; exact sb_lt _)) (cwV 2 hts gX5_holds_X5_copy rfl rfl rfl (by decide +kernel) ⟨Nat.le_of_ble_eq_true rfl, Nat.le_of_ble_eq_true rfl⟩) (zM.preV hK hM (md_o hok) rfl rfl) rfl rfl hl.1 rfl (lv_room (Nat.le_of_ble_eq_true rfl)) dX5_holds_54 ⟨Nat.le_of_ble_eq_true rfl, Nat.le_of_ble_eq_true rfl⟩) hM (fun G54 H locs hp54 hM => ?_)
        obtain rfl := hp54
        obtain ⟨F5, L5, B5, hM, s5, n5, b5⟩ := copy_rel hM n4
        refine z_iinc (v := (k + 1)) (lv' := [(2, .int (nI (k + 1))), (0, .ref o), (1, .int (nI rn))]) hx hb dX5_holds_57 hl (k := 0) rfl (nI_p1 _) (by decide) rfl (fun ls hl => ?_)
        refine lv_goto (tgt := 9) hx hb dX5_holds_60 (by decide) ?_
        exact ihlp _ (by omega) (k + 1) F5 L5 B5 rfl (by omega) (u1.tr ((s3.wid (by omega) (by omega)).tr ((s4.wid (by omega) (by omega)).tr (s5.wid (by omega) (by omega))))) (⟨n5, by rw [b5]; exact b4⟩) ls _ _ (lv_sub hl [0, 1, 2] rfl) hM
  exact lp _ 0 F L1 B1 rfl (by omega) (s1.wid (by omega) (by omega)) (nz_0 n1 b1) ls _ _ (lv_sub hl [0, 1, 2] rfl) hM

set_option maxRecDepth 100000 in
set_option maxHeartbeats 4000000 in
theorem m_evalSatisfied (l : Launch) (Γ : zT) {o lF lL lB : Nat} (hok : mdk o lF lL lB) (G0 : zG) (F L B : Nat → Nat) (sz : Nat) (rf : Int32) (σ : AS)  (hA : AI σ) (hR : MRep F L B σ) : zMi l yX5_evalSatisfied wsX5_evalSatisfied (zR 5) Γ (md Γ o lF lL lB G0 (mfs rf σ) F L B) sz [.ref o] (fun r G' => ∃ F' L' B', G' = md Γ o lF lL lB G0 (mfs (nI 0) σ) F' L' B' ∧ r = op_sat σ ∧ MRep F' L' B' σ) 0 0 := by
  obtain ⟨⟨vars, maxR, cells⟩, ⟨nr, inp, R⟩, ⟨fil, V⟩, ⟨se, be, S⟩, P, ⟨st, sg, gv, g, z⟩⟩ := σ
  obtain ⟨⟨hv1, hv6, hm1, hm60, hc4⟩, ⟨hnr, hinp, hsei, hRs⟩, ⟨hfil, hVs⟩, ⟨hse, hbe, hSs⟩, hPs, hst, hgv, hsg, hz1, hgd, hz20⟩ := id hA
  obtain ⟨mR, mV, mS, mP, mg, mz, m1⟩ := id hR
  refine z_start (cc := cX5_evalSatisfied) (maxL := 2) (ret := (some .int)) (by decide) rfl (Nat.le_of_ble_eq_true rfl) ?_
  intro p e s m args below meth c ls Q hQ hsz hx hb hr hml hown hts hlocks hnm hK hM hl
  obtain ⟨A, hAe⟩ : ∃ A, A = zA (md Γ o lF lL lB G0 (mfl rf (nI vars) (nI maxR) (nI cells) (nI nr) (nI inp) (nI fil) (nI se) (nI be) (nI st) sg (nI gv)) F L B) s.heap.size := ⟨_, rfl⟩
  have hM : zM Γ A s.heap (md Γ o lF lL lB G0 (mfl rf (nI vars) (nI maxR) (nI cells) (nI nr) (nI inp) (nI fil) (nI se) (nI be) (nI st) sg (nI gv)) F L B) s.heap [] := by rw [hAe]; exact hM
  have hl : lv_has ls 2 [(0, .ref o)] := hl
  have hin5 : ∀ w ∈ wsX50, w ∈ wsX5_evalSatisfied := by decide +kernel
  have hf_refusal := hts (.fieldLink RX5 34 "CutRowsModel" "refusal" "I") (by decide +kernel)
  have hf_input := hts (.fieldLink RX5 109 "CutRowsModel" "input" "I") (by decide +kernel)
  refine lv_aload_n hx hb dX5_evalSatisfied_0 rfl (lv_at hl 0 rfl) ?_
  refine lv_iconst (v := nI 0) hx hb dX5_evalSatisfied_1 rfl ?_
  refine m_put hok hx hb hts hin5 hown hK hM 0 hf_refusal rfl (by decide) rfl (rfl) (rfl) (fl' := mfl (nI 0) (nI vars) (nI maxR) (nI cells) (nI nr) (nI inp) (nI fil) (nI se) (nI be) (nI st) sg (nI gv)) rfl dX5_evalSatisfied_2 (fun H locs hM => ?_)
  refine lv_iconst (v := nI 0) hx hb dX5_evalSatisfied_5 rfl ?_
  refine lv_istore_n (lv' := [(1, .int (nI 0)), (0, .ref o)]) hx hb dX5_evalSatisfied_6 rfl hl (by decide) rfl (fun ls hl => ?_)
  have lp : ∀ (μ : Nat) (rr : Nat) (F2 : Nat → Nat) (L2 : Nat → Nat) (B2 : Nat → Nat), inp - rr = μ → (rr ≤ inp) → (∀ r, r < rr → dotN P (R r) vars ≤ R r vars) → (MRep F2 L2 B2 ((vars, maxR, cells), (nr, inp, R), (fil, V), (se, be, S), P, (st, sg, gv, g, z))) → ∀ (ls : Array Slot) (H : Heap) (locs : List Loc), lv_has ls 2 [(1, .int (nI rr)), (0, .ref o)] → zM Γ A s.heap (md Γ o lF lL lB G0 (mfl (nI 0) (nI vars) (nI maxR) (nI cells) (nI nr) (nI inp) (nI fil) (nI se) (nI be) (nI st) sg (nI gv)) F2 L2 B2) H locs → W p l e (zR 5) s m args below meth c H locs 0 0 Q (F0 m 7 ls []) := by
    intro μ
    induction μ using Nat.strongRecOn with
    | _ μ ihlp =>
      intro rr F2 L2 B2 hμ hrr u1 u2 ls H locs hl hM
      refine lv_iload_n hx hb dX5_evalSatisfied_7 rfl (lv_at hl 0 rfl) ?_
      refine lv_aload_n hx hb dX5_evalSatisfied_8 rfl (lv_at hl 1 rfl) ?_
      refine m_get hok hx hb hts hin5 hown hK hM 8 hf_input rfl (by decide) (v := .int (nI inp)) rfl dX5_evalSatisfied_9 ?_
      refine z_icmp_ge (tgt := 31) hx hb (by omega) (by omega) dX5_evalSatisfied_12 (by decide) (fun hc12 => ?_) (fun hc12 => ?_)
      · refine lv_iconst (v := nI 1) hx hb dX5_evalSatisfied_31 rfl ?_
        rw [hQ]
        rw [hAe] at hM
        exact z_iret hsz hx hb hr hlocks hK hM dX5_evalSatisfied_32 (⟨F2, L2, B2, rfl, by simp only [op_sat]; rw [show allHold R P vars inp = true from allHold_iff.mpr (fun r hr => u1 r (by omega))]; rfl, u2⟩)
      · refine lv_aload_n hx hb dX5_evalSatisfied_15 rfl (lv_at hl 1 rfl) ?_
        refine lv_iload_n hx hb dX5_evalSatisfied_16 rfl (lv_at hl 0 rfl) ?_
        refine z_calli0 (va_runV (As := [.int (nI rr)]) (rest := []) ⟨hx, hb, hml, hown, hts⟩ (m_holds l Γ hok G0 F2 L2 B2 _ (nI 0) ((vars, maxR, cells), (nr, inp, R), (fil, V), (se, be, S), P, (st, sg, gv, g, z)) rr (show rr < nr by omega) hA u2) (cwV 1 hts gX5_evalSatisfied_X5_holds rfl rfl rfl (by decide +kernel) ⟨Nat.le_of_ble_eq_true rfl, Nat.le_of_ble_eq_true rfl⟩) (zM.preV hK hM (md_o hok) rfl rfl) rfl rfl hl.1 rfl (lv_room (Nat.le_of_ble_eq_true rfl)) dX5_evalSatisfied_17 ⟨Nat.le_of_ble_eq_true rfl, Nat.le_of_ble_eq_true rfl⟩) hM (fun r17 G17 H locs hp17 hM => ?_)
        obtain ⟨F3, L3, B3, rfl, s3, rfl⟩ := hp17
        have hM : zM Γ A s.heap (md Γ o lF lL lB G0 (mfl (nI 0) (nI vars) (nI maxR) (nI cells) (nI nr) (nI inp) (nI fil) (nI se) (nI be) (nI st) sg (nI gv)) F3 L3 B3) H locs := hM
        refine z_asi (y := nI (if dotN P (R rr) vars ≤ R rr vars then 1 else 0)) (rfl) ?_
        refine z_if_ne (tgt := 25) hx hb (by split <;> omega) dX5_evalSatisfied_20 (by decide) (fun hc20 => ?_) (fun hc20 => ?_)
        · have hy : dotN P (R rr) vars ≤ R rr vars := by by_cases h9 : dotN P (R rr) vars ≤ R rr vars; exact h9; rw [if_neg h9] at hc20; omega
          refine z_iinc (v := (rr + 1)) (lv' := [(1, .int (nI (rr + 1))), (0, .ref o)]) hx hb dX5_evalSatisfied_25 hl (k := 0) rfl (nI_p1 _) (by decide) rfl (fun ls hl => ?_)
          refine lv_goto (tgt := 7) hx hb dX5_evalSatisfied_28 (by decide) ?_
          exact ihlp _ (by omega) (rr + 1) F3 L3 B3 rfl (by omega) (fun r hr => by by_cases hc : r = rr; subst hc; exact hy; exact u1 r (by omega)) (u2.keep hA s3 (by omega) (by omega)) ls _ _ (lv_sub hl [0, 1] rfl) hM
        · have hn : ¬ dotN P (R rr) vars ≤ R rr vars := fun h9 => by rw [if_pos h9] at hc20; omega
          refine lv_iconst (v := nI 0) hx hb dX5_evalSatisfied_23 rfl ?_
          rw [hQ]
          rw [hAe] at hM
          exact z_iret hsz hx hb hr hlocks hK hM dX5_evalSatisfied_24 (⟨F3, L3, B3, rfl, by simp only [op_sat]; rw [show allHold R P vars inp = false by rw [← Bool.not_eq_true, allHold_iff]; exact fun q => hn (q rr (by omega))]; rfl, u2.keep hA s3 (by omega) (by omega)⟩)
  exact lp _ 0 F L B rfl (by omega) (fun r hr => by omega) hR ls _ _ (lv_sub hl [0, 1] rfl) hM
