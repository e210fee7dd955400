set_option maxRecDepth 100000 in
set_option maxHeartbeats 4000000 in
theorem m_trim (l : Launch) (Γ : zT) {o lF lL lB : Nat} (hok : mdk o lF lL lB) (G0 : zG) (fl : Nat → Int32) (F L B : Nat → Nat) (sz : Nat) (a n : Nat) (ha : a < 455) (hLn : L a = n) (hL : n ≤ 72) (hd : dg (fun k => F (72 * a + k)) n) : zMv l yX5_trim wsX5_trim (zR 1) Γ (md Γ o lF lL lB G0 fl F L B) sz [.ref o, .int (nI a)] (fun G' => G' = md Γ o lF lL lB G0 fl F (va_up L a (tr (fun k => F (72 * a + k)) n)) (if tr (fun k => F (72 * a + k)) n = 0 then va_up B a 0 else B)) 0 0 := by
  refine z_start (cc := cX5_trim) (maxL := 2) (ret := none) (by decide) rfl (Nat.le_of_ble_eq_true rfl) ?_
  intro p e s m args below meth c ls Q hQ hsz hx hb hr hml hown hts hlocks hnm hK hM hl
  obtain ⟨A, hAe⟩ : ∃ A, A = zA (md Γ o lF lL lB G0 fl F L B) s.heap.size := ⟨_, rfl⟩
  rw [← hAe] at hM
  have hl : lv_has ls 2 [(0, .ref o), (1, .int (nI a))] := hl
  have hin5 : ∀ w ∈ wsX50, w ∈ wsX5_trim := by decide +kernel
  have hf_limbs := hts (.fieldLink RX5 7 "CutRowsModel" "limbs" "[I") (by decide +kernel)
  have hf_length := hts (.fieldLink RX5 13 "CutRowsModel" "length" "[I") (by decide +kernel)
  have hf_isBelow := hts (.fieldLink RX5 16 "CutRowsModel" "isBelow" "[Z") (by decide +kernel)
  subst hLn
  generalize hT : tr (fun k => F (72 * a + k)) (L a) = T at hQ
  have loop : ∀ n : Nat, n ≤ L a → tr (fun k => F (72 * a + k)) n = T → ∀ (ls : Array Slot) (H : Heap) (locs : List Loc), lv_has ls 2 [(0, .ref o), (1, .int (nI a))] → zM Γ A s.heap (md Γ o lF lL lB G0 fl F (va_up L a n) B) H locs → W p l e (zR 1) s m args below meth c H locs 0 0 Q (F0 m 0 ls []) := by
    intro n
    induction n using Nat.strongRecOn with
    | _ n ih =>
      intro hn hT ls H locs hl hM
      have k43 : T = n → ∀ (ls : Array Slot) (H : Heap) (locs : List Loc), lv_has ls 2 [(0, .ref o), (1, .int (nI a))] → zM Γ A s.heap (md Γ o lF lL lB G0 fl F (va_up L a n) B) H locs → W p l e (zR 1) s m args below meth c H locs 0 0 Q (F0 m 43 ls []) := by
        intro hTn ls H locs hl hM
        refine lv_aload_n hx hb dX5_trim_43 rfl (lv_at hl 0 rfl) ?_
        refine m_get hok hx hb hts hin5 hown hK hM 5 hf_length rfl (by decide) (v := .ref lL) rfl dX5_trim_44 ?_
        refine lv_iload_n hx hb dX5_trim_47 rfl (lv_at hl 1 rfl) ?_
        refine m_ldL hok hx hb hK hM (by omega) dX5_trim_48 ?_
        refine z_asi (y := nI n) (congrArg nI (va_up_self _ _ _)) ?_
        refine z_if_ne (tgt := 59) hx hb (by omega) dX5_trim_49 (by decide) (fun hc49 => ?_) (fun hc49 => ?_)
        · rw [hQ]
          rw [hAe] at hM
          exact z_vret hsz hx hb hr hlocks hK hM dX5_trim_59 (by rw [hTn]; rw [if_neg (by omega)])
        · refine lv_aload_n hx hb dX5_trim_52 rfl (lv_at hl 0 rfl) ?_
          refine m_get hok hx hb hts hin5 hown hK hM 6 hf_isBelow rfl (by decide) (v := .ref lB) rfl dX5_trim_53 ?_
          refine lv_iload_n hx hb dX5_trim_56 rfl (lv_at hl 1 rfl) ?_
          refine lv_iconst (v := nI 0) hx hb dX5_trim_57 rfl ?_
          refine m_stB hok hx hb hK hM (by omega) (by omega) dX5_trim_58 (fun H locs hM => ?_)
          rw [hQ]
          rw [hAe] at hM
          exact z_vret hsz hx hb hr hlocks hK hM dX5_trim_59 (by rw [hTn]; rw [if_pos (by omega)])
      refine lv_aload_n hx hb dX5_trim_0 rfl (lv_at hl 0 rfl) ?_
      refine m_get hok hx hb hts hin5 hown hK hM 5 hf_length rfl (by decide) (v := .ref lL) rfl dX5_trim_1 ?_
      refine lv_iload_n hx hb dX5_trim_4 rfl (lv_at hl 1 rfl) ?_
      refine m_ldL hok hx hb hK hM (by omega) dX5_trim_5 ?_
      refine z_asi (y := nI n) (congrArg nI (va_up_self _ _ _)) ?_
      refine z_if_le (tgt := 43) hx hb (by omega) dX5_trim_6 (by decide) (fun hc6 => ?_) (fun hc6 => ?_)
      · exact k43 (by rw [← hT, show n = 0 by omega]; rfl) ls H locs hl hM
      · refine lv_aload_n hx hb dX5_trim_9 rfl (lv_at hl 0 rfl) ?_
        refine m_get hok hx hb hts hin5 hown hK hM 4 hf_limbs rfl (by decide) (v := .ref lF) rfl dX5_trim_10 ?_
        refine lv_bipush (v := nI 72) hx hb dX5_trim_13 rfl ?_
        refine lv_iload_n hx hb dX5_trim_15 rfl (lv_at hl 1 rfl) ?_
        refine z_imul hx hb dX5_trim_16 ?_
        refine lv_aload_n hx hb dX5_trim_17 rfl (lv_at hl 0 rfl) ?_
        refine m_get hok hx hb hts hin5 hown hK hM 5 hf_length rfl (by decide) (v := .ref lL) rfl dX5_trim_18 ?_
        refine lv_iload_n hx hb dX5_trim_21 rfl (lv_at hl 1 rfl) ?_
        refine m_ldL hok hx hb hK hM (by omega) dX5_trim_22 ?_
        refine z_asi (y := nI n) (congrArg nI (va_up_self _ _ _)) ?_
        refine z_iadd hx hb dX5_trim_23 ?_
        refine lv_iconst (v := nI 1) hx hb dX5_trim_24 rfl ?_
        refine z_isub hx hb (by omega) dX5_trim_25 ?_
        refine z_asi (y := nI (72 * a + (n - 1))) (congrArg nI (by omega)) ?_
        refine m_ldF hok hx hb hK hM (by omega) dX5_trim_26 ?_
        refine z_if_ne (tgt := 43) hx hb (hd (n - 1) (by omega)) dX5_trim_27 (by decide) (fun hc27 => ?_) (fun hc27 => ?_)
        · exact k43 (by rw [← hT]; obtain ⟨q, rfl⟩ : ∃ q, n = q + 1 := ⟨n - 1, by omega⟩; simp only [tr]; rw [if_neg (by simpa using hc27)]) ls H locs hl hM
        · refine lv_aload_n hx hb dX5_trim_30 rfl (lv_at hl 0 rfl) ?_
          refine m_get hok hx hb hts hin5 hown hK hM 5 hf_length rfl (by decide) (v := .ref lL) rfl dX5_trim_31 ?_
          refine lv_iload_n hx hb dX5_trim_34 rfl (lv_at hl 1 rfl) ?_
          refine lv_dup2_11 hx hb dX5_trim_35 rfl rfl ?_
          refine m_ldL hok hx hb hK hM (by omega) dX5_trim_36 ?_
          refine z_asi (y := nI n) (congrArg nI (va_up_self _ _ _)) ?_
          refine lv_iconst (v := nI 1) hx hb dX5_trim_37 rfl ?_
          refine z_isub hx hb (by omega) dX5_trim_38 ?_
          refine m_stL hok hx hb hK hM (by omega) dX5_trim_39 (fun H locs hM => ?_)
          rw [va_up_up] at hM
          refine lv_goto (tgt := 0) hx hb dX5_trim_40 (by decide) ?_
          exact ih (n - 1) (by omega) (by omega) (by rw [← hT]; obtain ⟨q, rfl⟩ : ∃ q, n = q + 1 := ⟨n - 1, by omega⟩; simp only [tr]; rw [if_pos (by simpa using hc27)]; rfl) ls H locs hl hM
  exact loop (L a) (Nat.le_refl _) hT ls _ _ hl (by rw [va_up_eq]; exact hM)

set_option maxRecDepth 100000 in
set_option maxHeartbeats 4000000 in
theorem m_clear (l : Launch) (Γ : zT) {o lF lL lB : Nat} (hok : mdk o lF lL lB) (G0 : zG) (fl : Nat → Int32) (F L B : Nat → Nat) (sz : Nat) (a : Nat) (ha : a < 455) : zMv l yX5_clear wsX5_clear (zR 1) Γ (md Γ o lF lL lB G0 fl F L B) sz [.ref o, .int (nI a)] (fun G' => G' = md Γ o lF lL lB G0 fl F (va_up L a 0) (va_up B a 0)) 0 0 := by
  refine z_start (cc := cX5_clear) (maxL := 2) (ret := none) (by decide) rfl (Nat.le_of_ble_eq_true rfl) ?_
  intro p e s m args below meth c ls Q hQ hsz hx hb hr hml hown hts hlocks hnm hK hM hl
  obtain ⟨A, hAe⟩ : ∃ A, A = zA (md Γ o lF lL lB G0 fl F L B) s.heap.size := ⟨_, rfl⟩
  rw [← hAe] at hM
  have hl : lv_has ls 2 [(0, .ref o), (1, .int (nI a))] := hl
  have hin5 : ∀ w ∈ wsX50, w ∈ wsX5_clear := by decide +kernel
  have hf_length := hts (.fieldLink RX5 13 "CutRowsModel" "length" "[I") (by decide +kernel)
  have hf_isBelow := hts (.fieldLink RX5 16 "CutRowsModel" "isBelow" "[Z") (by decide +kernel)
  refine lv_aload_n hx hb dX5_clear_0 rfl (lv_at hl 0 rfl) ?_
  refine m_get hok hx hb hts hin5 hown hK hM 5 hf_length rfl (by decide) (v := .ref lL) rfl dX5_clear_1 ?_
  refine lv_iload_n hx hb dX5_clear_4 rfl (lv_at hl 1 rfl) ?_
  refine lv_iconst (v := nI 0) hx hb dX5_clear_5 rfl ?_
  refine m_stL hok hx hb hK hM (by omega) dX5_clear_6 (fun H locs hM => ?_)
  refine lv_aload_n hx hb dX5_clear_7 rfl (lv_at hl 0 rfl) ?_
  refine m_get hok hx hb hts hin5 hown hK hM 6 hf_isBelow rfl (by decide) (v := .ref lB) rfl dX5_clear_8 ?_
  refine lv_iload_n hx hb dX5_clear_11 rfl (lv_at hl 1 rfl) ?_
  refine lv_iconst (v := nI 0) hx hb dX5_clear_12 rfl ?_
  refine m_stB hok hx hb hK hM (by omega) (by omega) dX5_clear_13 (fun H locs hM => ?_)
  rw [hQ]
  rw [hAe] at hM
  exact z_vret hsz hx hb hr hlocks hK hM dX5_clear_14 (rfl)

set_option maxRecDepth 100000 in
set_option maxHeartbeats 4000000 in
theorem m_limbOf (l : Launch) (Γ : zT) {o lF lL lB : Nat} (hok : mdk o lF lL lB) (G0 : zG) (fl : Nat → Int32) (F L B : Nat → Nat) (sz : Nat) (a k : Nat) (ha : a < 455) (hk : k < 2 ^ 31) (hL : L a ≤ 72) (hd : dg (fun k => F (72 * a + k)) (L a)) : zMl l yX5_limbOf wsX5_limbOf (zR 1) Γ (md Γ o lF lL lB G0 fl F L B) sz [.ref o, .int (nI a), .int (nI k)] (fun r G' => r = lN (lmb F L a k) ∧ G' = md Γ o lF lL lB G0 fl F L B) 0 0 := by
  refine z_start (cc := cX5_limbOf) (maxL := 3) (ret := (some .long)) (by decide) rfl (Nat.le_of_ble_eq_true rfl) ?_
  intro p e s m args below meth c ls Q hQ hsz hx hb hr hml hown hts hlocks hnm hK hM hl
  obtain ⟨A, hAe⟩ : ∃ A, A = zA (md Γ o lF lL lB G0 fl F L B) s.heap.size := ⟨_, rfl⟩
  rw [← hAe] at hM
  have hl : lv_has ls 3 [(0, .ref o), (1, .int (nI a)), (2, .int (nI k))] := hl
  have hin5 : ∀ w ∈ wsX50, w ∈ wsX5_limbOf := by decide +kernel
  have hf_limbs := hts (.fieldLink RX5 7 "CutRowsModel" "limbs" "[I") (by decide +kernel)
  have hf_length := hts (.fieldLink RX5 13 "CutRowsModel" "length" "[I") (by decide +kernel)
  refine lv_iload_n hx hb dX5_limbOf_0 rfl (lv_at hl 2 rfl) ?_
  refine lv_aload_n hx hb dX5_limbOf_1 rfl (lv_at hl 0 rfl) ?_
  refine m_get hok hx hb hts hin5 hown hK hM 5 hf_length rfl (by decide) (v := .ref lL) rfl dX5_limbOf_2 ?_
  refine lv_iload_n hx hb dX5_limbOf_5 rfl (lv_at hl 1 rfl) ?_
  refine m_ldL hok hx hb hK hM (by omega) dX5_limbOf_6 ?_
  refine z_icmp_ge (tgt := 25) hx hb (by omega) (by omega) dX5_limbOf_7 (by decide) (fun hc7 => ?_) (fun hc7 => ?_)
  · refine lv_lconst (v := lN 0) hx hb dX5_limbOf_25 rfl ?_
    rw [hQ]
    rw [hAe] at hM
    exact z_lret hsz hx hb hr hlocks hK hM dX5_limbOf_26 (⟨congrArg lN (by unfold lmb; rw [if_neg (by omega)]), rfl⟩)
  · refine lv_aload_n hx hb dX5_limbOf_10 rfl (lv_at hl 0 rfl) ?_
    refine m_get hok hx hb hts hin5 hown hK hM 4 hf_limbs rfl (by decide) (v := .ref lF) rfl dX5_limbOf_11 ?_
    refine lv_bipush (v := nI 72) hx hb dX5_limbOf_14 rfl ?_
    refine lv_iload_n hx hb dX5_limbOf_16 rfl (lv_at hl 1 rfl) ?_
    refine z_imul hx hb dX5_limbOf_17 ?_
    refine lv_iload_n hx hb dX5_limbOf_18 rfl (lv_at hl 2 rfl) ?_
    refine z_iadd hx hb dX5_limbOf_19 ?_
    refine m_ldF hok hx hb hK hM (by omega) dX5_limbOf_20 ?_
    refine z_i2l hx hb (hd k (by omega)) dX5_limbOf_21 ?_
    refine lv_goto (tgt := 26) hx hb dX5_limbOf_22 (by decide) ?_
    rw [hQ]
    rw [hAe] at hM
    exact z_lret hsz hx hb hr hlocks hK hM dX5_limbOf_26 (⟨congrArg lN (by unfold lmb; rw [if_pos (by omega)]), rfl⟩)

set_option maxRecDepth 100000 in
set_option maxHeartbeats 4000000 in
theorem m_copy (l : Launch) (Γ : zT) {o lF lL lB : Nat} (hok : mdk o lF lL lB) (G0 : zG) (fl : Nat → Int32) (F L B : Nat → Nat) (sz : Nat) (t f : Nat) (ht : t < 455) (hf : f < 455) (htf : t ≠ f) (hL : L f ≤ 72) (hB : B f < 2) : zMv l yX5_copy wsX5_copy (zR 1) Γ (md Γ o lF lL lB G0 fl F L B) sz [.ref o, .int (nI t), .int (nI f)] (fun G' => G' = md Γ o lF lL lB G0 fl (cpF F t f (L f)) (va_up L t (L f)) (va_up B t (B f))) 0 0 := by
  refine z_start (cc := cX5_copy) (maxL := 4) (ret := none) (by decide) rfl (Nat.le_of_ble_eq_true rfl) ?_
  intro p e s m args below meth c ls Q hQ hsz hx hb hr hml hown hts hlocks hnm hK hM hl
  obtain ⟨A, hAe⟩ : ∃ A, A = zA (md Γ o lF lL lB G0 fl F L B) s.heap.size := ⟨_, rfl⟩
  rw [← hAe] at hM
  have hl : lv_has ls 4 [(0, .ref o), (1, .int (nI t)), (2, .int (nI f))] := hl
  have hin5 : ∀ w ∈ wsX50, w ∈ wsX5_copy := by decide +kernel
  have hf_limbs := hts (.fieldLink RX5 7 "CutRowsModel" "limbs" "[I") (by decide +kernel)
  have hf_length := hts (.fieldLink RX5 13 "CutRowsModel" "length" "[I") (by decide +kernel)
  have hf_isBelow := hts (.fieldLink RX5 16 "CutRowsModel" "isBelow" "[Z") (by decide +kernel)
  refine lv_aload_n hx hb dX5_copy_0 rfl (lv_at hl 0 rfl) ?_
  refine m_get hok hx hb hts hin5 hown hK hM 5 hf_length rfl (by decide) (v := .ref lL) rfl dX5_copy_1 ?_
  refine lv_iload_n hx hb dX5_copy_4 rfl (lv_at hl 1 rfl) ?_
  refine lv_aload_n hx hb dX5_copy_5 rfl (lv_at hl 0 rfl) ?_
  refine m_get hok hx hb hts hin5 hown hK hM 5 hf_length rfl (by decide) (v := .ref lL) rfl dX5_copy_6 ?_
  refine lv_iload_n hx hb dX5_copy_9 rfl (lv_at hl 2 rfl) ?_
  refine m_ldL hok hx hb hK hM (by omega) dX5_copy_10 ?_
  refine m_stL hok hx hb hK hM (by omega) dX5_copy_11 (fun H locs hM => ?_)
  refine lv_aload_n hx hb dX5_copy_12 rfl (lv_at hl 0 rfl) ?_
  refine m_get hok hx hb hts hin5 hown hK hM 6 hf_isBelow rfl (by decide) (v := .ref lB) rfl dX5_copy_13 ?_
  refine lv_iload_n hx hb dX5_copy_16 rfl (lv_at hl 1 rfl) ?_
  refine lv_aload_n hx hb dX5_copy_17 rfl (lv_at hl 0 rfl) ?_
  refine m_get hok hx hb hts hin5 hown hK hM 6 hf_isBelow rfl (by decide) (v := .ref lB) rfl dX5_copy_18 ?_
  refine lv_iload_n hx hb dX5_copy_21 rfl (lv_at hl 2 rfl) ?_
  refine m_ldB hok hx hb hK hM (by omega) dX5_copy_22 ?_
  refine m_stB hok hx hb hK hM (by omega) (by omega) dX5_copy_23 (fun H locs hM => ?_)
  refine lv_iconst (v := nI 0) hx hb dX5_copy_24 rfl ?_
  refine lv_istore_n (lv' := [(3, .int (nI 0)), (0, .ref o), (1, .int (nI t)), (2, .int (nI f))]) hx hb dX5_copy_25 rfl hl (by decide) rfl (fun ls hl => ?_)
  have lp : ∀ (μ : Nat) (k : Nat), L f - k = μ → (k ≤ L f) → ∀ (ls : Array Slot) (H : Heap) (locs : List Loc), lv_has ls 4 [(3, .int (nI k)), (0, .ref o), (1, .int (nI t)), (2, .int (nI f))] → zM Γ A s.heap (md Γ o lF lL lB G0 fl (cpF F t f k) (va_up L t (L f)) (va_up B t (B f))) H locs → W p l e (zR 1) s m args below meth c H locs 0 0 Q (F0 m 26 ls []) := by
    intro μ
    induction μ using Nat.strongRecOn with
    | _ μ ihlp =>
      intro k hμ hk ls H locs hl hM
      refine lv_iload_n hx hb dX5_copy_26 rfl (lv_at hl 0 rfl) ?_
      refine lv_aload_n hx hb dX5_copy_27 rfl (lv_at hl 1 rfl) ?_
      refine m_get hok hx hb hts hin5 hown hK hM 5 hf_length rfl (by decide) (v := .ref lL) rfl dX5_copy_28 ?_
      refine lv_iload_n hx hb dX5_copy_31 rfl (lv_at hl 3 rfl) ?_
      refine m_ldL hok hx hb hK hM (by omega) dX5_copy_32 ?_
      refine z_asi (y := nI (L f)) (congrArg nI (va_up_ne _ _ (Ne.symm htf))) ?_
      refine z_icmp_ge (tgt := 64) hx hb (by omega) (by omega) dX5_copy_33 (by decide) (fun hc33 => ?_) (fun hc33 => ?_)
      · rw [hQ]
        rw [hAe] at hM
        exact z_vret hsz hx hb hr hlocks hK hM dX5_copy_64 (by rw [show k = L f by omega])
      · refine lv_aload_n hx hb dX5_copy_36 rfl (lv_at hl 1 rfl) ?_
        refine m_get hok hx hb hts hin5 hown hK hM 4 hf_limbs rfl (by decide) (v := .ref lF) rfl dX5_copy_37 ?_
        refine lv_bipush (v := nI 72) hx hb dX5_copy_40 rfl ?_
        refine lv_iload_n hx hb dX5_copy_42 rfl (lv_at hl 2 rfl) ?_
        refine z_imul hx hb dX5_copy_43 ?_
        refine lv_iload_n hx hb dX5_copy_44 rfl (lv_at hl 0 rfl) ?_
        refine z_iadd hx hb dX5_copy_45 ?_
        refine lv_aload_n hx hb dX5_copy_46 rfl (lv_at hl 1 rfl) ?_
        refine m_get hok hx hb hts hin5 hown hK hM 4 hf_limbs rfl (by decide) (v := .ref lF) rfl dX5_copy_47 ?_
        refine lv_bipush (v := nI 72) hx hb dX5_copy_50 rfl ?_
        refine lv_iload_n hx hb dX5_copy_52 rfl (lv_at hl 3 rfl) ?_
        refine z_imul hx hb dX5_copy_53 ?_
        refine lv_iload_n hx hb dX5_copy_54 rfl (lv_at hl 0 rfl) ?_
        refine z_iadd hx hb dX5_copy_55 ?_
        refine m_ldF hok hx hb hK hM (by omega) dX5_copy_56 ?_
        refine m_stF hok hx hb hK hM (by omega) dX5_copy_57 (fun H locs hM => ?_)
        rw [cpF_s F htf (by omega)] at hM
        refine z_iinc (v := (k + 1)) (lv' := [(3, .int (nI (k + 1))), (0, .ref o), (1, .int (nI t)), (2, .int (nI f))]) hx hb dX5_copy_58 hl (k := 0) rfl (nI_p1 _) (by decide) rfl (fun ls hl => ?_)
        refine lv_goto (tgt := 26) hx hb dX5_copy_61 (by decide) ?_
        exact ihlp _ (by omega) (k + 1) rfl (by omega) ls _ _ (lv_sub hl [0, 1, 2, 3] rfl) hM
  exact lp _ 0 rfl (by omega) ls _ _ (lv_sub hl [0, 1, 2, 3] rfl) (by rw [cpF_0]; exact hM)
