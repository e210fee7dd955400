set_option maxRecDepth 100000 in
set_option maxHeartbeats 4000000 in
theorem m_bitsOf (l : Launch) (Γ : zT) {o lF lL lB : Nat} (hok : mdk o lF lL lB) (G0 : zG) (fl : Nat → Int32) (F L B : Nat → Nat) (sz : Nat) (a va : Nat) (ha : a < 455) (na : nv F L a va) : zMi l yX5_bitsOf wsX5_bitsOf (zR 1) Γ (md Γ o lF lL lB G0 fl F L B) sz [.ref o, .int (nI a)] (fun r G' => (∃ n : Nat, r = nI n ∧ va < 2 ^ n ∧ n ≤ 31 * L a) ∧ G' = md Γ o lF lL lB G0 fl F L B) 0 0 := by
  refine z_start (cc := cX5_bitsOf) (maxL := 4) (ret := (some .int)) (by decide) rfl (Nat.le_of_ble_eq_true rfl) ?_
  intro p e s m args below meth c ls Q hQ hsz hx hb hr hml hown hts hlocks hnm hK hM hl
  obtain ⟨A, hAe⟩ : ∃ A, A = zA (md Γ o lF lL lB G0 fl F L B) s.heap.size := ⟨_, rfl⟩
  rw [← hAe] at hM
  have hl : lv_has ls 4 [(0, .ref o), (1, .int (nI a))] := hl
  have hin5 : ∀ w ∈ wsX50, w ∈ wsX5_bitsOf := by decide +kernel
  have hf_limbs := hts (.fieldLink RX5 7 "CutRowsModel" "limbs" "[I") (by decide +kernel)
  have hf_length := hts (.fieldLink RX5 13 "CutRowsModel" "length" "[I") (by decide +kernel)
  have hLa := na.le
  refine lv_bipush (v := nI 31) hx hb dX5_bitsOf_0 rfl ?_
  refine lv_aload_n hx hb dX5_bitsOf_2 rfl (lv_at hl 0 rfl) ?_
  refine m_get hok hx hb hts hin5 hown hK hM 5 hf_length rfl (by decide) (v := .ref lL) rfl dX5_bitsOf_3 ?_
  refine lv_iload_n hx hb dX5_bitsOf_6 rfl (lv_at hl 1 rfl) ?_
  refine m_ldL hok hx hb hK hM (by omega) dX5_bitsOf_7 ?_
  refine z_imul hx hb dX5_bitsOf_8 ?_
  refine lv_istore_n (lv' := [(2, .int (nI (31 * (L a)))), (0, .ref o), (1, .int (nI a))]) hx hb dX5_bitsOf_9 rfl hl (by decide) rfl (fun ls hl => ?_)
  refine lv_aload_n hx hb dX5_bitsOf_10 rfl (lv_at hl 1 rfl) ?_
  refine m_get hok hx hb hts hin5 hown hK hM 5 hf_length rfl (by decide) (v := .ref lL) rfl dX5_bitsOf_11 ?_
  refine lv_iload_n hx hb dX5_bitsOf_14 rfl (lv_at hl 2 rfl) ?_
  refine m_ldL hok hx hb hK hM (by omega) dX5_bitsOf_15 ?_
  refine z_if_le (tgt := 54) hx hb (by omega) dX5_bitsOf_16 (by decide) (fun hc16 => ?_) (fun hc16 => ?_)
  · refine lv_iload_n hx hb dX5_bitsOf_54 rfl (lv_at hl 0 rfl) ?_
    rw [hQ]
    rw [hAe] at hM
    exact z_iret hsz hx hb hr hlocks hK hM dX5_bitsOf_55 (⟨⟨_, rfl, by rw [show va = 0 by (have := na.lt; rw [hc16, bp_0] at this; omega)]; exact Nat.pow_pos (by decide), by omega⟩, rfl⟩)
  · refine lv_aload_n hx hb dX5_bitsOf_19 rfl (lv_at hl 1 rfl) ?_
    refine m_get hok hx hb hts hin5 hown hK hM 4 hf_limbs rfl (by decide) (v := .ref lF) rfl dX5_bitsOf_20 ?_
    refine lv_bipush (v := nI 72) hx hb dX5_bitsOf_23 rfl ?_
    refine lv_iload_n hx hb dX5_bitsOf_25 rfl (lv_at hl 2 rfl) ?_
    refine z_imul hx hb dX5_bitsOf_26 ?_
    refine lv_aload_n hx hb dX5_bitsOf_27 rfl (lv_at hl 1 rfl) ?_
    refine m_get hok hx hb hts hin5 hown hK hM 5 hf_length rfl (by decide) (v := .ref lL) rfl dX5_bitsOf_28 ?_
    refine lv_iload_n hx hb dX5_bitsOf_31 rfl (lv_at hl 2 rfl) ?_
    refine m_ldL hok hx hb hK hM (by omega) dX5_bitsOf_32 ?_
    refine z_iadd hx hb dX5_bitsOf_33 ?_
    refine lv_iconst (v := nI 1) hx hb dX5_bitsOf_34 rfl ?_
    refine z_isub hx hb (by omega) dX5_bitsOf_35 ?_
    refine z_asi (y := nI (72 * a + (L a - 1))) (congrArg nI (by omega)) ?_
    refine m_ldF hok hx hb hK hM (by omega) dX5_bitsOf_36 ?_
    refine lv_istore_n (lv' := [(3, .int (nI (F (72 * a + (L a - 1))))), (2, .int (nI (31 * (L a)))), (0, .ref o), (1, .int (nI a))]) hx hb dX5_bitsOf_37 rfl hl (by decide) rfl (fun ls hl => ?_)
    have hT0 : F (72 * a + (L a - 1)) ≠ 0 := na.top (by omega)
    have hT1 : F (72 * a + (L a - 1)) < 2147483648 := na.digs _ (by omega)
    have hKp : 2147483648 * bp (L a - 1) = 2 ^ (31 * L a) := by rw [← bp_s, bp_2, show L a - 1 + 1 = L a by omega]
    have hvT : va < (F (72 * a + (L a - 1)) + 1) * bp (L a - 1) := by
      have e1 := na.val
      obtain ⟨q, hq⟩ : ∃ q, L a = q + 1 := ⟨L a - 1, by omega⟩
      have e2 := vl_lt (d := fun k => F (72 * a + k)) (n := q) (fun k hk => na.digs k (by omega))
      rw [hq, vl_s] at e1
      rw [hq, Nat.add_sub_cancel, Nat.add_mul]
      omega
    have lp : ∀ (μ : Nat) (tp : Nat) (n : Nat) (sx : Nat), 1073741824 - tp = μ → (tp = F (72 * a + (L a - 1)) * 2 ^ sx) → (n + sx = 31 * L a) → ((F (72 * a + (L a - 1)) + 1) * 2 ^ sx ≤ 2147483648) → (sx < 31) → ∀ (ls : Array Slot) (H : Heap) (locs : List Loc), lv_has ls 4 [(3, .int (nI tp)), (2, .int (nI n)), (0, .ref o), (1, .int (nI a))] → zM Γ A s.heap (md Γ o lF lL lB G0 fl F L B) H locs → W p l e (zR 1) s m args below meth c H locs 0 0 Q (F0 m 38 ls []) := by
      intro μ
      induction μ using Nat.strongRecOn with
      | _ μ ihlp =>
        intro tp n sx hμ htp hns hJ hsx ls H locs hl hM
        have hps : 1 ≤ 2 ^ sx := Nat.pow_pos (by decide)
        have htpos : 1 ≤ tp := by rw [htp]; exact Nat.mul_pos (by omega) hps
        have htl : tp < 2147483648 := by rw [htp]; rw [Nat.add_mul] at hJ; omega
        refine lv_iload_n hx hb dX5_bitsOf_38 rfl (lv_at hl 0 rfl) ?_
        refine lv_ldc hx hb hown (hts (.constant RX5 57 (1073741824)) (by decide +kernel)) dX5_bitsOf_39 ?_
        refine z_asi (y := nI 1073741824) (rfl) ?_
        refine z_icmp_ge (tgt := 54) hx hb (by omega) (by omega) dX5_bitsOf_41 (by decide) (fun hc41 => ?_) (fun hc41 => ?_)
        · refine lv_iload_n hx hb dX5_bitsOf_54 rfl (lv_at hl 1 rfl) ?_
          rw [hQ]
          rw [hAe] at hM
          exact z_iret hsz hx hb hr hlocks hK hM dX5_bitsOf_55 (⟨⟨n, rfl, bits_fin (T := F (72 * a + (L a - 1))) (P := bp (L a - 1)) hvT hJ hKp hns, by omega⟩, rfl⟩)
        · have hsx2 : sx < 30 := by
            rcases Nat.lt_or_ge sx 30 with g | g
            · exact g
            · have q1 : 2 ^ 30 ≤ 2 ^ sx := Nat.pow_le_pow_right (by decide) g
              have q2 := mul_le_r (2 ^ sx) (show 1 ≤ F (72 * a + (L a - 1)) by omega)
              omega
          refine lv_iconst (v := nI 2) hx hb dX5_bitsOf_44 rfl ?_
          refine lv_iload_n hx hb dX5_bitsOf_45 rfl (lv_at hl 0 rfl) ?_
          refine z_imul hx hb dX5_bitsOf_46 ?_
          refine lv_istore_n (lv' := [(3, .int (nI (2 * tp))), (2, .int (nI n)), (0, .ref o), (1, .int (nI a))]) hx hb dX5_bitsOf_47 rfl hl (by decide) rfl (fun ls hl => ?_)
          refine z_iinc (v := (n - 1)) (lv' := [(2, .int (nI (n - 1))), (3, .int (nI (2 * tp))), (0, .ref o), (1, .int (nI a))]) hx hb dX5_bitsOf_48 hl (k := 1) rfl (nI_m1 (by omega)) (by decide) rfl (fun ls hl => ?_)
          refine lv_goto (tgt := 38) hx hb dX5_bitsOf_51 (by decide) ?_
          exact ihlp _ (by omega) (2 * tp) (n - 1) (sx + 1) rfl (by rw [htp, Nat.pow_succ, Nat.mul_comm 2, Nat.mul_assoc]) (by omega) (bits_step (by omega) (by rw [← htp]; omega)) (by omega) ls _ _ (lv_sub hl [1, 0, 2, 3] rfl) hM
    exact lp _ (F (72 * a + (L a - 1))) (31 * L a) 0 rfl (by simp) (by omega) (by simp; omega) (by omega) ls _ _ (lv_sub hl [0, 1, 2, 3] rfl) hM

set_option maxRecDepth 100000 in
set_option maxHeartbeats 4000000 in
theorem m_bitOf (l : Launch) (Γ : zT) {o lF lL lB : Nat} (hok : mdk o lF lL lB) (G0 : zG) (fl : Nat → Int32) (F L B : Nat → Nat) (sz : Nat) (a k va : Nat) (ha : a < 455) (hk : k < 2 ^ 31) (na : nv F L a va) : zMi l yX5_bitOf wsX5_bitOf (zR 2) Γ (md Γ o lF lL lB G0 fl F L B) sz [.ref o, .int (nI a), .int (nI k)] (fun r G' => r = nI (va / 2 ^ k % 2) ∧ G' = md Γ o lF lL lB G0 fl F L B) 0 0 := by
  refine z_start (cc := cX5_bitOf) (maxL := 3) (ret := (some .int)) (by decide) rfl (Nat.le_of_ble_eq_true rfl) ?_
  intro p e s m args below meth c ls Q hQ hsz hx hb hr hml hown hts hlocks hnm hK hM hl
  obtain ⟨A, hAe⟩ : ∃ A, A = zA (md Γ o lF lL lB G0 fl F L B) s.heap.size := ⟨_, rfl⟩
  rw [← hAe] at hM
  have hl : lv_has ls 3 [(0, .ref o), (1, .int (nI a)), (2, .int (nI k))] := hl
  have hLa := na.le
  refine lv_aload_n hx hb dX5_bitOf_0 rfl (lv_at hl 0 rfl) ?_
  refine lv_iload_n hx hb dX5_bitOf_1 rfl (lv_at hl 1 rfl) ?_
  refine lv_iload_n hx hb dX5_bitOf_2 rfl (lv_at hl 2 rfl) ?_
  refine lv_bipush (v := nI 31) hx hb dX5_bitOf_3 rfl ?_
  refine z_idiv hx hb (by omega) (by omega) (by omega) dX5_bitOf_5 ?_
  refine z_calll0 (va_runV (As := [.int (nI a), .int (nI (k / 31))]) (rest := []) ⟨hx, hb, hml, hown, hts⟩ (m_limbOf l Γ hok G0 fl F L B _ a (k / 31) ha (by omega) na.le na.digs) (cwV 2 hts gX5_bitOf_X5_limbOf rfl rfl rfl (by decide +kernel) ⟨Nat.le_of_ble_eq_true rfl, Nat.le_of_ble_eq_true rfl⟩) (zM.preV hK hM (md_o hok) rfl rfl) rfl rfl hl.1 rfl (lv_room (Nat.le_of_ble_eq_true rfl)) dX5_bitOf_6 ⟨Nat.le_of_ble_eq_true rfl, Nat.le_of_ble_eq_true rfl⟩) hM (fun r6 G6 H locs hp6 hM => ?_)
  obtain ⟨rfl, rfl⟩ := hp6
  have hlm := lmb_lt na (k / 31)
  refine lv_iload_n hx hb dX5_bitOf_9 rfl (lv_at hl 2 rfl) ?_
  refine lv_bipush (v := nI 31) hx hb dX5_bitOf_10 rfl ?_
  refine z_irem hx hb (by omega) (by omega) (by omega) dX5_bitOf_12 ?_
  refine z_lshrK hx hb (by omega) (by omega) dX5_bitOf_13 ?_
  have hlm2 : lmb F L a (k / 31) / 2 ^ (k % 31) < 2 ^ 63 := Nat.lt_of_le_of_lt (Nat.div_le_self _ _) (by omega)
  refine lv_lconst (v := lN 1) hx hb dX5_bitOf_14 rfl ?_
  refine z_land1 hx hb (by omega) dX5_bitOf_15 ?_
  refine z_l2i hx hb dX5_bitOf_16 ?_
  rw [hQ]
  rw [hAe] at hM
  exact z_iret hsz hx hb hr hlocks hK hM dX5_bitOf_17 (⟨congrArg nI (bit_of na k), rfl⟩)

theorem halve_inv {F F1 : Nat → Nat} {a q n cy : Nat} (hk : q + 1 ≤ n) (h3 : vl (fun j => F1 (72 * a + (q + 1 + j))) (n - (q + 1)) = vl (fun j => F (72 * a + (q + 1 + j))) (n - (q + 1)) / 2 ∧ cy = vl (fun j => F (72 * a + (q + 1 + j))) (n - (q + 1)) % 2) (hq : F1 (72 * a + q) = F (72 * a + q)) :
    vl (fun j => va_up F1 (72 * a + q) ((cy * 2147483648 + F1 (72 * a + q)) / 2 ^ 1) (72 * a + (q + j))) (n - q) = vl (fun j => F (72 * a + (q + j))) (n - q) / 2 ∧ (cy * 2147483648 + F1 (72 * a + q)) % 2 = vl (fun j => F (72 * a + (q + j))) (n - q) % 2 := by
  obtain ⟨r, hr⟩ : ∃ r, n - q = r + 1 := ⟨n - q - 1, by omega⟩
  rw [show n - (q + 1) = r by omega] at h3
  rw [hr, vl_cons, vl_cons]
  have e1 : vl (fun j => va_up F1 (72 * a + q) ((cy * 2147483648 + F1 (72 * a + q)) / 2 ^ 1) (72 * a + (q + (1 + j)))) r = vl (fun j => F1 (72 * a + (q + 1 + j))) r := vl_congr (fun j _ => by rw [va_up_ne _ _ (by omega), Nat.add_assoc q 1 j])
  have e2 : vl (fun j => F (72 * a + (q + (1 + j)))) r = vl (fun j => F (72 * a + (q + 1 + j))) r := vl_congr (fun j _ => by rw [Nat.add_assoc q 1 j])
  rw [e1, e2, Nat.add_zero, va_up_self, hq]
  have := half_step (f := F (72 * a + q)) h3.2 h3.1
  exact ⟨by rw [← this.1], this.2⟩

set_option maxRecDepth 100000 in
set_option maxHeartbeats 4000000 in
theorem m_halve (l : Launch) (Γ : zT) {o lF lL lB : Nat} (hok : mdk o lF lL lB) (G0 : zG) (fl : Nat → Int32) (F L B : Nat → Nat) (sz : Nat) (a va : Nat) (ha : a < 455) (na : nv F L a va) : zMv l yX5_halve wsX5_halve (zR 2) Γ (md Γ o lF lL lB G0 fl F L B) sz [.ref o, .int (nI a)] (fun G' => ∃ F', G' = md Γ o lF lL lB G0 fl F' (va_up L a (nl (va / 2))) (bz B a (va / 2)) ∧ fr72 F F' a ∧ nv F' (va_up L a (nl (va / 2))) a (va / 2)) 0 0 := by
  refine z_start (cc := cX5_halve) (maxL := 6) (ret := none) (by decide) rfl (Nat.le_of_ble_eq_true rfl) ?_
  intro p e s m args below meth c ls Q hQ hsz hx hb hr hml hown hts hlocks hnm hK hM hl
  obtain ⟨A, hAe⟩ : ∃ A, A = zA (md Γ o lF lL lB G0 fl F L B) s.heap.size := ⟨_, rfl⟩
  rw [← hAe] at hM
  have hl : lv_has ls 6 [(0, .ref o), (1, .int (nI a))] := hl
  have hin5 : ∀ w ∈ wsX50, w ∈ wsX5_halve := by decide +kernel
  have hf_limbs := hts (.fieldLink RX5 7 "CutRowsModel" "limbs" "[I") (by decide +kernel)
  have hf_length := hts (.fieldLink RX5 13 "CutRowsModel" "length" "[I") (by decide +kernel)
  have hLa := na.le
  refine lv_iconst (v := nI 0) hx hb dX5_halve_0 rfl ?_
  refine lv_istore_n (lv' := [(2, .int (nI 0)), (0, .ref o), (1, .int (nI a))]) hx hb dX5_halve_1 rfl hl (by decide) rfl (fun ls hl => ?_)
  refine lv_aload_n hx hb dX5_halve_2 rfl (lv_at hl 1 rfl) ?_
  refine m_get hok hx hb hts hin5 hown hK hM 5 hf_length rfl (by decide) (v := .ref lL) rfl dX5_halve_3 ?_
  refine lv_iload_n hx hb dX5_halve_6 rfl (lv_at hl 2 rfl) ?_
  refine m_ldL hok hx hb hK hM (by omega) dX5_halve_7 ?_
  refine lv_iconst (v := nI 1) hx hb dX5_halve_8 rfl ?_
  refine lv_isub hx hb dX5_halve_9 ?_
  refine lv_istore_n (lv' := [(3, .int ((nI (L a)) - (nI 1))), (2, .int (nI 0)), (0, .ref o), (1, .int (nI a))]) hx hb dX5_halve_10 rfl hl (by decide) rfl (fun ls hl => ?_)
  have lp : ∀ (μ : Nat) (k : Nat) (cy : Nat) (F1 : Nat → Nat), k = μ → (k ≤ L a) → (cy ≤ 1) → (∀ j, (j < 72 * a + k ∨ 72 * a + L a ≤ j) → F1 j = F j) → (dg (fun j => F1 (72 * a + j)) (L a)) → (vl (fun j => F1 (72 * a + (k + j))) (L a - k) = vl (fun j => F (72 * a + (k + j))) (L a - k) / 2 ∧ cy = vl (fun j => F (72 * a + (k + j))) (L a - k) % 2) → ∀ (ls : Array Slot) (H : Heap) (locs : List Loc), lv_has ls 6 [(3, .int (nI k - 1)), (2, .int (nI cy)), (0, .ref o), (1, .int (nI a))] → zM Γ A s.heap (md Γ o lF lL lB G0 fl F1 L B) H locs → W p l e (zR 2) s m args below meth c H locs 0 0 Q (F0 m 11 ls []) := by
    intro μ
    induction μ using Nat.strongRecOn with
    | _ μ ihlp =>
      intro k cy F1 hμ hk hcy h1 h2 h3 ls H locs hl hM
      rcases Nat.eq_zero_or_pos k with hk0 | hk0
      · subst hk0
        rw [show nI 0 - 1 = (-1 : Int32) from rfl] at hl
        refine lv_iload_n hx hb dX5_halve_11 rfl (lv_at hl 0 rfl) ?_
        refine lv_if_lt (tgt := 63) hx hb dX5_halve_12 (by decide) (fun hc12 => ?_) (fun hc12 => ?_)
        · simp only [Nat.zero_add, Nat.sub_zero] at h3
          rw [na.val] at h3
          refine lv_aload_n hx hb dX5_halve_63 rfl (lv_at hl 2 rfl) ?_
          refine lv_iload_n hx hb dX5_halve_64 rfl (lv_at hl 3 rfl) ?_
          refine z_callv0 (va_runV (As := [.int (nI a)]) (rest := []) ⟨hx, hb, hml, hown, hts⟩ (m_trim l Γ hok G0 fl F1 L B _ a (L a) ha rfl hLa h2) (cwV 1 hts gX5_halve_X5_trim rfl rfl rfl (by decide +kernel) ⟨Nat.le_of_ble_eq_true rfl, Nat.le_of_ble_eq_true rfl⟩) (zM.preV hK hM (md_o hok) rfl rfl) rfl rfl hl.1 rfl (lv_room (Nat.le_of_ble_eq_true rfl)) dX5_halve_65 ⟨Nat.le_of_ble_eq_true rfl, Nat.le_of_ble_eq_true rfl⟩) hM (fun G65 H locs hp65 hM => ?_)
          obtain rfl := hp65
          rw [hQ]
          rw [hAe] at hM
          exact z_vret hsz hx hb hr hlocks hK hM dX5_halve_68 (⟨F1, by rw [tr_of h2 h3.1]; rfl, fun j hj => h1 j (by omega), nv_of h2 h3.1 (by omega)⟩)
        · exact absurd (by decide) hc12
      · obtain ⟨q, rfl⟩ : ∃ q, k = q + 1 := ⟨k - 1, by omega⟩
        rw [nI_pred] at hl
        have hq1 : F1 (72 * a + q) < 2147483648 := h2 q (by omega)
        have hq2 : F1 (72 * a + q) = F (72 * a + q) := h1 _ (by omega)
        refine lv_iload_n hx hb dX5_halve_11 rfl (lv_at hl 0 rfl) ?_
        refine z_if_ltN hx hb (by omega) dX5_halve_12 (tgt := 63) (by decide) ?_
        refine lv_iload_n hx hb dX5_halve_15 rfl (lv_at hl 1 rfl) ?_
        refine z_i2l hx hb (by omega) dX5_halve_16 ?_
        refine lv_bipush (v := nI 31) hx hb dX5_halve_17 rfl ?_
        refine z_lshl31 hx hb dX5_halve_19 ?_
        refine lv_aload_n hx hb dX5_halve_20 rfl (lv_at hl 2 rfl) ?_
        refine m_get hok hx hb hts hin5 hown hK hM 4 hf_limbs rfl (by decide) (v := .ref lF) rfl dX5_halve_21 ?_
        refine lv_bipush (v := nI 72) hx hb dX5_halve_24 rfl ?_
        refine lv_iload_n hx hb dX5_halve_26 rfl (lv_at hl 3 rfl) ?_
        refine z_imul hx hb dX5_halve_27 ?_
        refine lv_iload_n hx hb dX5_halve_28 rfl (lv_at hl 0 rfl) ?_
        refine z_iadd hx hb dX5_halve_29 ?_
        refine m_ldF hok hx hb hK hM (by omega) dX5_halve_30 ?_
        refine z_i2l hx hb (hq1) dX5_halve_31 ?_
        refine z_lor31 hx hb (by omega) (by omega) dX5_halve_32 ?_
        refine lv_lstore (lv' := [(4, .long (lN (cy * 2147483648 + (F1 (72 * a + q))))), (3, .int (nI q)), (2, .int (nI cy)), (0, .ref o), (1, .int (nI a))]) hx hb dX5_halve_33 hl (by decide) rfl (fun ls hl => ?_)
        refine lv_aload_n hx hb dX5_halve_35 rfl (lv_at hl 3 rfl) ?_
        refine m_get hok hx hb hts hin5 hown hK hM 4 hf_limbs rfl (by decide) (v := .ref lF) rfl dX5_halve_36 ?_
        refine lv_bipush (v := nI 72) hx hb dX5_halve_39 rfl ?_
        refine lv_iload_n hx hb dX5_halve_41 rfl (lv_at hl 4 rfl) ?_
        refine z_imul hx hb dX5_halve_42 ?_
        refine lv_iload_n hx hb dX5_halve_43 rfl (lv_at hl 1 rfl) ?_
        refine z_iadd hx hb dX5_halve_44 ?_
        refine lv_lload hx hb dX5_halve_45 (lv_at hl 0 rfl) ?_
        refine lv_iconst (v := nI 1) hx hb dX5_halve_47 rfl ?_
        refine z_lshrK hx hb (by omega) (by omega) dX5_halve_48 ?_
        refine z_l2i hx hb dX5_halve_49 ?_
        refine m_stF hok hx hb hK hM (by omega) dX5_halve_50 (fun H locs hM => ?_)
        refine lv_lload hx hb dX5_halve_51 (lv_at hl 0 rfl) ?_
        refine lv_lconst (v := lN 1) hx hb dX5_halve_53 rfl ?_
        refine z_land1 hx hb (by omega) dX5_halve_54 ?_
        refine z_l2i hx hb dX5_halve_55 ?_
        refine lv_istore_n (lv' := [(2, .int (nI ((cy * 2147483648 + (F1 (72 * a + q))) % 2))), (4, .long (lN (cy * 2147483648 + (F1 (72 * a + q))))), (3, .int (nI q)), (0, .ref o), (1, .int (nI a))]) hx hb dX5_halve_56 rfl hl (by decide) rfl (fun ls hl => ?_)
        refine lv_iinc (v := nI q - 1) (lv' := [(3, .int (nI q - 1)), (2, .int (nI ((cy * 2147483648 + (F1 (72 * a + q))) % 2))), (4, .long (lN (cy * 2147483648 + (F1 (72 * a + q))))), (0, .ref o), (1, .int (nI a))]) hx hb dX5_halve_57 hl (k := 2) rfl (nI_dec _) (by decide) rfl (fun ls hl => ?_)
        refine lv_goto (tgt := 11) hx hb dX5_halve_60 (by decide) ?_
        exact ihlp _ (by omega) q ((cy * 2147483648 + F1 (72 * a + q)) % 2) (va_up F1 (72 * a + q) ((cy * 2147483648 + F1 (72 * a + q)) / 2 ^ 1)) rfl (by omega) (by omega) (fun j hj => by rw [va_up_ne _ _ (by omega)]; exact h1 j (by omega)) (fun j hj => by show va_up F1 _ _ _ < _; by_cases hc : j = q; subst hc; rw [va_up_self]; omega; rw [va_up_ne _ _ (by omega)]; exact h2 j hj) (halve_inv hk h3 hq2) ls _ _ (lv_sub hl [0, 1, 3, 4] rfl) hM
  exact lp _ (L a) 0 F rfl (by omega) (by omega) (fun _ _ => rfl) na.digs (by simp [vl_0]) ls _ _ (lv_sub hl [0, 1, 2, 3] rfl) hM

set_option maxRecDepth 100000 in
set_option maxHeartbeats 4000000 in
theorem m_isEven (l : Launch) (Γ : zT) {o lF lL lB : Nat} (hok : mdk o lF lL lB) (G0 : zG) (fl : Nat → Int32) (F L B : Nat → Nat) (sz : Nat) (a va : Nat) (ha : a < 455) (na : nv F L a va) : zMi l yX5_isEven wsX5_isEven (zR 2) Γ (md Γ o lF lL lB G0 fl F L B) sz [.ref o, .int (nI a)] (fun r G' => r = nI (if va % 2 = 0 then 1 else 0) ∧ G' = md Γ o lF lL lB G0 fl F L B) 0 0 := by
  refine z_start (cc := cX5_isEven) (maxL := 2) (ret := (some .boolean)) (by decide) rfl (Nat.le_of_ble_eq_true rfl) ?_
  intro p e s m args below meth c ls Q hQ hsz hx hb hr hml hown hts hlocks hnm hK hM hl
  obtain ⟨A, hAe⟩ : ∃ A, A = zA (md Γ o lF lL lB G0 fl F L B) s.heap.size := ⟨_, rfl⟩
  rw [← hAe] at hM
  have hl : lv_has ls 2 [(0, .ref o), (1, .int (nI a))] := hl
  refine lv_aload_n hx hb dX5_isEven_0 rfl (lv_at hl 0 rfl) ?_
  refine lv_iload_n hx hb dX5_isEven_1 rfl (lv_at hl 1 rfl) ?_
  refine lv_iconst (v := nI 0) hx hb dX5_isEven_2 rfl ?_
  refine z_calll0 (va_runV (As := [.int (nI a), .int (nI 0)]) (rest := []) ⟨hx, hb, hml, hown, hts⟩ (m_limbOf l Γ hok G0 fl F L B _ a 0 ha (by omega) na.le na.digs) (cwV 2 hts gX5_isEven_X5_limbOf rfl rfl rfl (by decide +kernel) ⟨Nat.le_of_ble_eq_true rfl, Nat.le_of_ble_eq_true rfl⟩) (zM.preV hK hM (md_o hok) rfl rfl) rfl rfl hl.1 rfl (lv_room (Nat.le_of_ble_eq_true rfl)) dX5_isEven_3 ⟨Nat.le_of_ble_eq_true rfl, Nat.le_of_ble_eq_true rfl⟩) hM (fun r3 G3 H locs hp3 hM => ?_)
  obtain ⟨rfl, rfl⟩ := hp3
  have hlm := lmb_lt na 0
  have hlm2 : lmb F L a 0 % 2 = va % 2 := by rw [lmb_digit na, bp_0]; omega
  refine lv_ldc2 hx hb hown (hts (.constantLong RX5 72 (2)) (by decide +kernel)) dX5_isEven_6 ?_
  refine z_asl (y := lN 2) (rfl) ?_
  refine z_lrem hx hb (by omega) (by omega) (by omega) dX5_isEven_9 ?_
  refine lv_lconst (v := lN 0) hx hb dX5_isEven_10 rfl ?_
  refine W.lcmp hx hb dX5_isEven_11 ?_
  refine lv_if_ne (tgt := 19) hx hb dX5_isEven_12 (by decide) (fun hc12 => ?_) (fun hc12 => ?_)
  · have hne : ¬ va % 2 = 0 := fun h => hc12 ((lg_cmp_eq _ _).mpr (by rw [hlm2, h]))
    refine lv_iconst (v := nI 0) hx hb dX5_isEven_19 rfl ?_
    rw [hQ]
    rw [hAe] at hM
    exact z_zret (by omega) hsz hx hb hr hlocks hK hM dX5_isEven_20 (⟨by rw [if_neg hne], rfl⟩)
  · have he : va % 2 = 0 := by
      have := (pk_lEQ (show lmb F L a 0 % 2 < 2 ^ 63 by omega) (show 0 < 2 ^ 63 by decide)).mp ((lg_cmp_eq _ _).mp hc12)
      omega
    refine lv_iconst (v := nI 1) hx hb dX5_isEven_15 rfl ?_
    refine lv_goto (tgt := 20) hx hb dX5_isEven_16 (by decide) ?_
    rw [hQ]
    rw [hAe] at hM
    exact z_zret (by omega) hsz hx hb hr hlocks hK hM dX5_isEven_20 (⟨by rw [if_pos he], rfl⟩)
