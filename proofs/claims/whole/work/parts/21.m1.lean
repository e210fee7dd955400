set_option maxRecDepth 100000 in
set_option maxHeartbeats 4000000 in
theorem m_trim (l : Launch) (Γ : zT) {o lF lL lB : Nat} (hok : mdk o lF lL lB) (G0 : zG) (fl : Nat → Int32) (F L B : Nat → Nat) (sz : Nat) (a : Nat) (ha : a < 455) (hL : L a ≤ 72) (hd : dg (fun k => F (72 * a + k)) (L a)) : zMv l yX5_trim wsX5_trim (zR 1) Γ (md Γ o lF lL lB G0 fl F L B) sz [.ref o, .int (nI a)] (fun G' => G' = md Γ o lF lL lB G0 fl F (va_up L a (tr (fun k => F (72 * a + k)) (L a))) (if tr (fun k => F (72 * a + k)) (L a) = 0 then va_up B a 0 else B)) 0 0 := by
  refine z_start (cc := cX5_trim) (maxL := 2) (ret := none) (by decide) rfl (Nat.le_of_ble_eq_true rfl) ?_
  intro p e s m args below meth c ls Q hQ hsz hx hb hr hml hown hts hlocks hnm hK hM hl
  obtain ⟨A, hAe⟩ : ∃ A, A = zA (md Γ o lF lL lB G0 fl F L B) s.heap.size := ⟨_, rfl⟩
  rw [← hAe] at hM
  have hl : lv_has ls 2 [(0, .ref o), (1, .int (nI a))] := hl
  have hin5 : ∀ w ∈ wsX50, w ∈ wsX5_trim := by decide +kernel
  have hf_limbs := hts (.fieldLink RX5 7 "CutRowsModel" "limbs" "[I") (by decide +kernel)
  have hf_length := hts (.fieldLink RX5 13 "CutRowsModel" "length" "[I") (by decide +kernel)
  have hf_isBelow := hts (.fieldLink RX5 16 "CutRowsModel" "isBelow" "[Z") (by decide +kernel)
  generalize hT : tr (fun k => F (72 * a + k)) (L a) = T at hQ
  have loop : ∀ n : Nat, n ≤ L a → tr (fun k => F (72 * a + k)) n = T → ∀ (ls : Array Slot) (H : Heap) (locs : List Loc), lv_has ls 2 [(0, .ref o), (1, .int (nI a))] → zM Γ A s.heap (md Γ o lF lL lB G0 fl F (va_up L a n) B) H locs → W p l e (zR 1) s m args below meth c H locs 0 0 Q (F0 m 0 ls []) := by
    intro n
    induction n using Nat.strongRecOn with
    | _ n ih =>
      intro hn hT ls H locs hl hM
      have k43 : T = n → ∀ (ls : Array Slot) (H : Heap) (locs : List Loc), lv_has ls 2 [(0, .ref o), (1, .int (nI a))] → zM Γ A s.heap (md Γ o lF lL lB G0 fl F (va_up L a n) B) H locs → W p l e (zR 1) s m args below meth c H locs 0 0 Q (F0 m 43 ls []) := by
        intro hTn ls H locs hl hM
        refine lv_aload_n hx hb dX5_trim_43 rfl (lv_at hl 0 rfl) ?_
        refine m_get hok hx hb hts hin5 hown hK hM 5 hf_length rfl (by decide) (v := .ref lL) rfl dX5_trim_44 ?_
        refine lv_iload_n hx hb dX5_trim_47 rfl (lv_at hl 1 rfl) ?_
        refine m_ldL hok hx hb hK hM (by omega) dX5_trim_48 ?_
        refine z_asi (y := nI n) (congrArg nI (va_up_self _ _ _)) ?_
        refine z_if_ne (tgt := 59) hx hb (by omega) dX5_trim_49 (by decide) (fun hc49 => ?_) (fun hc49 => ?_)
        · rw [hQ]
          rw [hAe] at hM
          exact z_vret hsz hx hb hr hlocks hK hM dX5_trim_59 (by rw [hTn]; rw [if_neg (by omega)])
        · refine lv_aload_n hx hb dX5_trim_52 rfl (lv_at hl 0 rfl) ?_
          refine m_get hok hx hb hts hin5 hown hK hM 6 hf_isBelow rfl (by decide) (v := .ref lB) rfl dX5_trim_53 ?_
          refine lv_iload_n hx hb dX5_trim_56 rfl (lv_at hl 1 rfl) ?_
          refine lv_iconst (v := nI 0) hx hb dX5_trim_57 rfl ?_
          refine m_stB hok hx hb hK hM (by omega) (by omega) dX5_trim_58 (fun H locs hM => ?_)
          rw [hQ]
          rw [hAe] at hM
          exact z_vret hsz hx hb hr hlocks hK hM dX5_trim_59 (by rw [hTn]; rw [if_pos (by omega)])
      refine lv_aload_n hx hb dX5_trim_0 rfl (lv_at hl 0 rfl) ?_
      refine m_get hok hx hb hts hin5 hown hK hM 5 hf_length rfl (by decide) (v := .ref lL) rfl dX5_trim_1 ?_
      refine lv_iload_n hx hb dX5_trim_4 rfl (lv_at hl 1 rfl) ?_
      refine m_ldL hok hx hb hK hM (by omega) dX5_trim_5 ?_
      refine z_asi (y := nI n) (congrArg nI (va_up_self _ _ _)) ?_
      refine z_if_le (tgt := 43) hx hb (by omega) dX5_trim_6 (by decide) (fun hc6 => ?_) (fun hc6 => ?_)
      · exact k43 (by rw [← hT, show n = 0 by omega]; rfl) ls H locs hl hM
      · refine lv_aload_n hx hb dX5_trim_9 rfl (lv_at hl 0 rfl) ?_
        refine m_get hok hx hb hts hin5 hown hK hM 4 hf_limbs rfl (by decide) (v := .ref lF) rfl dX5_trim_10 ?_
        refine lv_bipush (v := nI 72) hx hb dX5_trim_13 rfl ?_
        refine lv_iload_n hx hb dX5_trim_15 rfl (lv_at hl 1 rfl) ?_
        refine z_imul hx hb dX5_trim_16 ?_
        refine lv_aload_n hx hb dX5_trim_17 rfl (lv_at hl 0 rfl) ?_
        refine m_get hok hx hb hts hin5 hown hK hM 5 hf_length rfl (by decide) (v := .ref lL) rfl dX5_trim_18 ?_
        refine lv_iload_n hx hb dX5_trim_21 rfl (lv_at hl 1 rfl) ?_
        refine m_ldL hok hx hb hK hM (by omega) dX5_trim_22 ?_
        refine z_asi (y := nI n) (congrArg nI (va_up_self _ _ _)) ?_
        refine z_iadd hx hb dX5_trim_23 ?_
        refine lv_iconst (v := nI 1) hx hb dX5_trim_24 rfl ?_
        refine z_isub hx hb (by omega) dX5_trim_25 ?_
        refine z_asi (y := nI (72 * a + (n - 1))) (congrArg nI (by omega)) ?_
        refine m_ldF hok hx hb hK hM (by omega) dX5_trim_26 ?_
        refine z_if_ne (tgt := 43) hx hb (hd (n - 1) (by omega)) dX5_trim_27 (by decide) (fun hc27 => ?_) (fun hc27 => ?_)
        · exact k43 (by rw [← hT]; obtain ⟨q, rfl⟩ : ∃ q, n = q + 1 := ⟨n - 1, by omega⟩; simp only [tr]; rw [if_neg (by simpa using hc27)]) ls H locs hl hM
        · refine lv_aload_n hx hb dX5_trim_30 rfl (lv_at hl 0 rfl) ?_
          refine m_get hok hx hb hts hin5 hown hK hM 5 hf_length rfl (by decide) (v := .ref lL) rfl dX5_trim_31 ?_
          refine lv_iload_n hx hb dX5_trim_34 rfl (lv_at hl 1 rfl) ?_
          refine lv_dup2_11 hx hb dX5_trim_35 rfl rfl ?_
          refine m_ldL hok hx hb hK hM (by omega) dX5_trim_36 ?_
          refine z_asi (y := nI n) (congrArg nI (va_up_self _ _ _)) ?_
          refine lv_iconst (v := nI 1) hx hb dX5_trim_37 rfl ?_
          refine z_isub hx hb (by omega) dX5_trim_38 ?_
          refine m_stL hok hx hb hK hM (by omega) dX5_trim_39 (fun H locs hM => ?_)
          rw [va_up_up] at hM
          refine lv_goto (tgt := 0) hx hb dX5_trim_40 (by decide) ?_
          exact ih (n - 1) (by omega) (by omega) (by rw [← hT]; obtain ⟨q, rfl⟩ : ∃ q, n = q + 1 := ⟨n - 1, by omega⟩; simp only [tr]; rw [if_pos (by simpa using hc27)]; rfl) ls H locs hl hM
  exact loop (L a) (Nat.le_refl _) hT ls _ _ hl (by rw [va_up_eq]; exact hM)
