/-! the law, case by case -/
def LC (p : Program) (s : State) (m : MethodId) (c : Code) (b L : Nat) (xs : Nat → Int32) (Γ : zT) (X : Nat → Nat) (o lF lL lB lo vars sa sb : Nat) : Prop :=
  p.tables.exec = Jvm.exec ∧ c.code = cL_law ∧ c.maxLocals = 7 ∧ s.vm.findClass RL = some m.cls ∧ (∀ w ∈ wsL_law, w.before #[Value.ref b] s = true) ∧ va_X b L xs s s.heap ∧ b < s.heap.size ∧ L ≤ 2051 ∧ zK Γ s ∧ zE (fun q : Nat => s.heap.size ≤ q) sa sb s s.heap ∧ LF X o lF lL lB lo vars
set_option maxRecDepth 100000 in
set_option maxHeartbeats 4000000 in
theorem lw_k0 {p : Program} {l : Launch} {e : Env} {s : State} {m : MethodId} {below : List Frame} {meth : Method} {c : Code} {b L : Nat} {xs : Nat → Int32} {Γ : zT} {X : Nat → Nat} {o lF lL lB lo vars sa sb : Nat} (hl9 : l.stackTraces = false) (hC : LC p s m c b L xs Γ X o lF lL lB lo vars sa sb) (i : Nat) (hi : i + 4 ≤ L) (G : zG) (σ : AS) (hI : LI Γ G X o lF lL lB lo vars σ) (ls : Array Slot) (H : Heap) (locs : List Loc) (hl : lv_has ls 7 [(4, .int (nI i)), (3, .ref lo), (2, .ref o), (1, .ref (X 80)), (0, .ref b)]) (hM : zM Γ (fun q : Nat => s.heap.size ≤ q) s.heap G H locs) (Q : State → Prop) (k526 : ∀ (G2 : zG) (σ2 : AS) (ls : Array Slot) (H : Heap) (locs : List Loc), LI Γ G2 X o lF lL lB lo vars σ2 → lv_has ls 7 [(4, .int (nI i)), (3, .ref lo), (2, .ref o), (1, .ref (X 80)), (0, .ref b)] → zM Γ (fun q : Nat => s.heap.size ≤ q) s.heap G2 H locs → W p l e room_1 s m #[Value.ref b] below meth c H locs (201 + i) (42006 + 6 * i) Q (F0 m 526 ls [])) : W p l e room_1 s m #[Value.ref b] below meth c H locs (200 + i) (42000 + 6 * i) Q (F0 m 148 ls []) := by
  obtain ⟨hx, hb, hml, hown, hts, hXs, hbl, hL, hK, hE, hd⟩ := hC
  have hbA : ¬ (fun q : Nat => s.heap.size ≤ q) b := Nat.not_le.mpr hbl
  obtain ⟨hJ, hv, hR, F9, L9, B9, rf, f, hLM⟩ := hI
  have hXv : XI X σ.1.1 := by rw [hv]; exact hd.1
  obtain ⟨fs, hO⟩ := hR.o
  refine lv_aload_n hx hb dL_law_148 rfl (lv_at hl 3 rfl) ?_
  refine lv_aload_n hx hb dL_law_149 rfl (lv_at hl 4 rfl) ?_
  refine lv_iload hx hb dL_law_150 (lv_at hl 0 rfl) ?_
  refine lv_iconst (v := nI 1) hx hb dL_law_152 rfl ?_
  refine z_iadd hx hb dL_law_153 ?_
  refine va_sld hx hb hXs hbl hbA hM.2.2.1 (vp_in_nI (by omega) (by omega)) dL_law_154 ?_
  refine z_asi (y := xs (i + 1)) (by rw [nI_clamp (by omega)]) ?_
  refine z_calli0 (va_runV (As := [.int (xs (i + 1))]) (rest := []) ⟨hx, hb, hml, hown, hts⟩ (c_beginNumber l Γ G _ X σ (xs (i + 1)) hXv hJ.1 hR) (cwV 1 hts gL_law_X4_beginNumber rfl rfl rfl (by decide +kernel) ⟨(Nat.le_of_ble_eq_true rfl), (Nat.le_of_ble_eq_true rfl)⟩) (zM.preV hK hM hO rfl rfl) rfl rfl hl.1 rfl (lv_room (Nat.le_of_ble_eq_true rfl)) dL_law_155 ⟨(by show _ ≤ 601024; omega), (by show _ ≤ 7293000; omega)⟩) hM (fun r1 G1 H locs hp1 hM => ?_)
  obtain ⟨e1, hR1, hf1⟩ := hp1
  have hLM1 := li_cls hd hv hf1 hLM
  rw [← hLM1.self] at hM
  refine lv_aload_n hx hb dL_law_158 rfl (lv_at hl 2 rfl) ?_
  refine lv_aload_n hx hb dL_law_159 rfl (lv_at hl 4 rfl) ?_
  refine lv_iload hx hb dL_law_160 (lv_at hl 0 rfl) ?_
  refine lv_iconst (v := nI 1) hx hb dL_law_162 rfl ?_
  refine z_iadd hx hb dL_law_163 ?_
  refine va_sld hx hb hXs hbl hbA hM.2.2.1 (vp_in_nI (by omega) (by omega)) dL_law_164 ?_
  refine z_asi (y := xs (i + 1)) (by rw [nI_clamp (by omega)]) ?_
  refine z_calli0 (va_runV (As := [.int (xs (i + 1))]) (rest := [.int r1]) ⟨hx, hb, hml, hown, hts⟩ (m_beginNumber l Γ hd.2.1 G1 F9 L9 B9 _ rf σ (xs (i + 1)) hJ.1 hLM1.1) (cwV 1 hts gL_law_X5_beginNumber rfl rfl rfl (by decide +kernel) ⟨(Nat.le_of_ble_eq_true rfl), (Nat.le_of_ble_eq_true rfl)⟩) (zM.preV hK hM (md_o hd.2.1) rfl rfl) rfl rfl hl.1 rfl (lv_room (Nat.le_of_ble_eq_true rfl)) dL_law_165 ⟨(by show _ ≤ 601024; omega), (by show _ ≤ 7293000; omega)⟩) hM (fun r2 G2 H locs hp2 hM => ?_)
  obtain ⟨F2, L2, B2, hG2, e2, hMR2⟩ := hp2
  have hv2 : (op_begin (xs (i + 1)) σ).2.1.1 = vars := (ov_begin σ _).trans hv
  obtain ⟨hR2, hLM2⟩ := li_ref hd hv2 hR1 hMR2 hLM1.2.2.2.2.2 hG2
  have hI2 : LI Γ G2 X o lF lL lB lo vars (op_begin (xs (i + 1)) σ).2 := ⟨aj_begin hJ _, hv2, hR2, _, _, _, _, _, hLM2⟩
  refine lv_icmp_eq (tgt := 526) hx hb dL_law_168 (by decide) (fun hc168 => ?_) (fun hc168 => ?_)
  · exact W.widen (by omega) (by omega) (k526 G2 _ ls H locs hI2 hl hM)
  · exact absurd (e1.trans e2.symm) hc168

set_option maxRecDepth 100000 in
set_option maxHeartbeats 4000000 in
theorem lw_k1 {p : Program} {l : Launch} {e : Env} {s : State} {m : MethodId} {below : List Frame} {meth : Method} {c : Code} {b L : Nat} {xs : Nat → Int32} {Γ : zT} {X : Nat → Nat} {o lF lL lB lo vars sa sb : Nat} (hl9 : l.stackTraces = false) (hC : LC p s m c b L xs Γ X o lF lL lB lo vars sa sb) (i : Nat) (hi : i + 4 ≤ L) (G : zG) (σ : AS) (hI : LI Γ G X o lF lL lB lo vars σ) (ls : Array Slot) (H : Heap) (locs : List Loc) (hl : lv_has ls 7 [(4, .int (nI i)), (3, .ref lo), (2, .ref o), (1, .ref (X 80)), (0, .ref b)]) (hM : zM Γ (fun q : Nat => s.heap.size ≤ q) s.heap G H locs) (Q : State → Prop) (k526 : ∀ (G2 : zG) (σ2 : AS) (ls : Array Slot) (H : Heap) (locs : List Loc), LI Γ G2 X o lF lL lB lo vars σ2 → lv_has ls 7 [(4, .int (nI i)), (3, .ref lo), (2, .ref o), (1, .ref (X 80)), (0, .ref b)] → zM Γ (fun q : Nat => s.heap.size ≤ q) s.heap G2 H locs → W p l e room_1 s m #[Value.ref b] below meth c H locs (201 + i) (42006 + 6 * i) Q (F0 m 526 ls [])) : W p l e room_1 s m #[Value.ref b] below meth c H locs (200 + i) (42000 + 6 * i) Q (F0 m 173 ls []) := by
  obtain ⟨hx, hb, hml, hown, hts, hXs, hbl, hL, hK, hE, hd⟩ := hC
  have hbA : ¬ (fun q : Nat => s.heap.size ≤ q) b := Nat.not_le.mpr hbl
  obtain ⟨hJ, hv, hR, F9, L9, B9, rf, f, hLM⟩ := hI
  have hXv : XI X σ.1.1 := by rw [hv]; exact hd.1
  obtain ⟨fs, hO⟩ := hR.o
  refine lv_aload_n hx hb dL_law_173 rfl (lv_at hl 3 rfl) ?_
  refine lv_aload_n hx hb dL_law_174 rfl (lv_at hl 4 rfl) ?_
  refine lv_iload hx hb dL_law_175 (lv_at hl 0 rfl) ?_
  refine lv_iconst (v := nI 1) hx hb dL_law_177 rfl ?_
  refine z_iadd hx hb dL_law_178 ?_
  refine va_sld hx hb hXs hbl hbA hM.2.2.1 (vp_in_nI (by omega) (by omega)) dL_law_179 ?_
  refine z_asi (y := xs (i + 1)) (by rw [nI_clamp (by omega)]) ?_
  refine z_calli0 (va_runV (As := [.int (xs (i + 1))]) (rest := []) ⟨hx, hb, hml, hown, hts⟩ (c_limb l Γ G _ X σ (xs (i + 1)) hXv hJ.1 hR) (cwV 1 hts gL_law_X4_limb rfl rfl rfl (by decide +kernel) ⟨(Nat.le_of_ble_eq_true rfl), (Nat.le_of_ble_eq_true rfl)⟩) (zM.preV hK hM hO rfl rfl) rfl rfl hl.1 rfl (lv_room (Nat.le_of_ble_eq_true rfl)) dL_law_180 ⟨(by show _ ≤ 601024; omega), (by show _ ≤ 7293000; omega)⟩) hM (fun r1 G1 H locs hp1 hM => ?_)
  obtain ⟨e1, hR1, hf1⟩ := hp1
  have hLM1 := li_cls hd hv hf1 hLM
  rw [← hLM1.self] at hM
  refine lv_aload_n hx hb dL_law_183 rfl (lv_at hl 2 rfl) ?_
  refine lv_aload_n hx hb dL_law_184 rfl (lv_at hl 4 rfl) ?_
  refine lv_iload hx hb dL_law_185 (lv_at hl 0 rfl) ?_
  refine lv_iconst (v := nI 1) hx hb dL_law_187 rfl ?_
  refine z_iadd hx hb dL_law_188 ?_
  refine va_sld hx hb hXs hbl hbA hM.2.2.1 (vp_in_nI (by omega) (by omega)) dL_law_189 ?_
  refine z_asi (y := xs (i + 1)) (by rw [nI_clamp (by omega)]) ?_
  refine z_calli0 (va_runV (As := [.int (xs (i + 1))]) (rest := [.int r1]) ⟨hx, hb, hml, hown, hts⟩ (m_limb l Γ hd.2.1 G1 F9 L9 B9 _ rf σ (xs (i + 1)) hJ.1 hLM1.1) (cwV 1 hts gL_law_X5_limb rfl rfl rfl (by decide +kernel) ⟨(Nat.le_of_ble_eq_true rfl), (Nat.le_of_ble_eq_true rfl)⟩) (zM.preV hK hM (md_o hd.2.1) rfl rfl) rfl rfl hl.1 rfl (lv_room (Nat.le_of_ble_eq_true rfl)) dL_law_190 ⟨(by show _ ≤ 601024; omega), (by show _ ≤ 7293000; omega)⟩) hM (fun r2 G2 H locs hp2 hM => ?_)
  obtain ⟨F2, L2, B2, hG2, e2, hMR2⟩ := hp2
  have hv2 : (op_limb (xs (i + 1)) σ).2.1.1 = vars := (ov_limb σ _).trans hv
  obtain ⟨hR2, hLM2⟩ := li_ref hd hv2 hR1 hMR2 hLM1.2.2.2.2.2 hG2
  have hI2 : LI Γ G2 X o lF lL lB lo vars (op_limb (xs (i + 1)) σ).2 := ⟨aj_limb hJ _, hv2, hR2, _, _, _, _, _, hLM2⟩
  refine lv_icmp_eq (tgt := 526) hx hb dL_law_193 (by decide) (fun hc193 => ?_) (fun hc193 => ?_)
  · exact W.widen (by omega) (by omega) (k526 G2 _ ls H locs hI2 hl hM)
  · exact absurd (e1.trans e2.symm) hc193

set_option maxRecDepth 100000 in
set_option maxHeartbeats 4000000 in
theorem lw_k2 {p : Program} {l : Launch} {e : Env} {s : State} {m : MethodId} {below : List Frame} {meth : Method} {c : Code} {b L : Nat} {xs : Nat → Int32} {Γ : zT} {X : Nat → Nat} {o lF lL lB lo vars sa sb : Nat} (hl9 : l.stackTraces = false) (hC : LC p s m c b L xs Γ X o lF lL lB lo vars sa sb) (i : Nat) (hi : i + 4 ≤ L) (G : zG) (σ : AS) (hI : LI Γ G X o lF lL lB lo vars σ) (ls : Array Slot) (H : Heap) (locs : List Loc) (hl : lv_has ls 7 [(4, .int (nI i)), (3, .ref lo), (2, .ref o), (1, .ref (X 80)), (0, .ref b)]) (hM : zM Γ (fun q : Nat => s.heap.size ≤ q) s.heap G H locs) (Q : State → Prop) (k526 : ∀ (G2 : zG) (σ2 : AS) (ls : Array Slot) (H : Heap) (locs : List Loc), LI Γ G2 X o lF lL lB lo vars σ2 → lv_has ls 7 [(4, .int (nI i)), (3, .ref lo), (2, .ref o), (1, .ref (X 80)), (0, .ref b)] → zM Γ (fun q : Nat => s.heap.size ≤ q) s.heap G2 H locs → W p l e room_1 s m #[Value.ref b] below meth c H locs (201 + i) (42006 + 6 * i) Q (F0 m 526 ls [])) : W p l e room_1 s m #[Value.ref b] below meth c H locs (200 + i) (42000 + 6 * i) Q (F0 m 198 ls []) := by
  obtain ⟨hx, hb, hml, hown, hts, hXs, hbl, hL, hK, hE, hd⟩ := hC
  have hbA : ¬ (fun q : Nat => s.heap.size ≤ q) b := Nat.not_le.mpr hbl
  obtain ⟨hJ, hv, hR, F9, L9, B9, rf, f, hLM⟩ := hI
  have hXv : XI X σ.1.1 := by rw [hv]; exact hd.1
  obtain ⟨fs, hO⟩ := hR.o
  refine lv_aload_n hx hb dL_law_198 rfl (lv_at hl 3 rfl) ?_
  refine z_calli0 (va_runV (As := []) (rest := []) ⟨hx, hb, hml, hown, hts⟩ (c_endCoefficient l Γ G _ X σ hXv hJ.1 hR) (cwV 0 hts gL_law_X4_endCoefficient rfl rfl rfl (by decide +kernel) ⟨(Nat.le_of_ble_eq_true rfl), (Nat.le_of_ble_eq_true rfl)⟩) (zM.preV hK hM hO rfl rfl) rfl rfl hl.1 rfl (lv_room (Nat.le_of_ble_eq_true rfl)) dL_law_199 ⟨(by show _ ≤ 601024; omega), (by show _ ≤ 7293000; omega)⟩) hM (fun r1 G1 H locs hp1 hM => ?_)
  obtain ⟨e1, hR1, hf1⟩ := hp1
  have hLM1 := li_cls hd hv hf1 hLM
  rw [← hLM1.self] at hM
  refine lv_aload_n hx hb dL_law_202 rfl (lv_at hl 2 rfl) ?_
  refine z_calli0 (va_runV (As := []) (rest := [.int r1]) ⟨hx, hb, hml, hown, hts⟩ (m_endCoefficient l Γ hd.2.1 G1 F9 L9 B9 _ rf σ hJ.1 hLM1.1) (cwV 0 hts gL_law_X5_endCoefficient rfl rfl rfl (by decide +kernel) ⟨(Nat.le_of_ble_eq_true rfl), (Nat.le_of_ble_eq_true rfl)⟩) (zM.preV hK hM (md_o hd.2.1) rfl rfl) rfl rfl hl.1 rfl (lv_room (Nat.le_of_ble_eq_true rfl)) dL_law_203 ⟨(by show _ ≤ 601024; omega), (by show _ ≤ 7293000; omega)⟩) hM (fun r2 G2 H locs hp2 hM => ?_)
  obtain ⟨F2, L2, B2, hG2, e2, hMR2⟩ := hp2
  have hv2 : (op_endCoef σ).2.1.1 = vars := (ov_endCoef σ).trans hv
  obtain ⟨hR2, hLM2⟩ := li_ref hd hv2 hR1 hMR2 hLM1.2.2.2.2.2 hG2
  have hI2 : LI Γ G2 X o lF lL lB lo vars (op_endCoef σ).2 := ⟨aj_endCoef hJ, hv2, hR2, _, _, _, _, _, hLM2⟩
  refine lv_icmp_eq (tgt := 526) hx hb dL_law_206 (by decide) (fun hc206 => ?_) (fun hc206 => ?_)
  · exact W.widen (by omega) (by omega) (k526 G2 _ ls H locs hI2 hl hM)
  · exact absurd (e1.trans e2.symm) hc206

set_option maxRecDepth 100000 in
set_option maxHeartbeats 4000000 in
theorem lw_k3 {p : Program} {l : Launch} {e : Env} {s : State} {m : MethodId} {below : List Frame} {meth : Method} {c : Code} {b L : Nat} {xs : Nat → Int32} {Γ : zT} {X : Nat → Nat} {o lF lL lB lo vars sa sb : Nat} (hl9 : l.stackTraces = false) (hC : LC p s m c b L xs Γ X o lF lL lB lo vars sa sb) (i : Nat) (hi : i + 4 ≤ L) (G : zG) (σ : AS) (hI : LI Γ G X o lF lL lB lo vars σ) (ls : Array Slot) (H : Heap) (locs : List Loc) (hl : lv_has ls 7 [(4, .int (nI i)), (3, .ref lo), (2, .ref o), (1, .ref (X 80)), (0, .ref b)]) (hM : zM Γ (fun q : Nat => s.heap.size ≤ q) s.heap G H locs) (Q : State → Prop) (k526 : ∀ (G2 : zG) (σ2 : AS) (ls : Array Slot) (H : Heap) (locs : List Loc), LI Γ G2 X o lF lL lB lo vars σ2 → lv_has ls 7 [(4, .int (nI i)), (3, .ref lo), (2, .ref o), (1, .ref (X 80)), (0, .ref b)] → zM Γ (fun q : Nat => s.heap.size ≤ q) s.heap G2 H locs → W p l e room_1 s m #[Value.ref b] below meth c H locs (201 + i) (42006 + 6 * i) Q (F0 m 526 ls [])) : W p l e room_1 s m #[Value.ref b] below meth c H locs (200 + i) (42000 + 6 * i) Q (F0 m 211 ls []) := by
  obtain ⟨hx, hb, hml, hown, hts, hXs, hbl, hL, hK, hE, hd⟩ := hC
  have hbA : ¬ (fun q : Nat => s.heap.size ≤ q) b := Nat.not_le.mpr hbl
  obtain ⟨hJ, hv, hR, F9, L9, B9, rf, f, hLM⟩ := hI
  have hXv : XI X σ.1.1 := by rw [hv]; exact hd.1
  obtain ⟨fs, hO⟩ := hR.o
  refine lv_aload_n hx hb dL_law_211 rfl (lv_at hl 3 rfl) ?_
  refine z_calli0 (va_runV (As := []) (rest := []) ⟨hx, hb, hml, hown, hts⟩ (c_endConstraint l Γ G _ X σ hXv hJ.1 hR) (cwV 0 hts gL_law_X4_endConstraint rfl rfl rfl (by decide +kernel) ⟨(Nat.le_of_ble_eq_true rfl), (Nat.le_of_ble_eq_true rfl)⟩) (zM.preV hK hM hO rfl rfl) rfl rfl hl.1 rfl (lv_room (Nat.le_of_ble_eq_true rfl)) dL_law_212 ⟨(by show _ ≤ 601024; omega), (by show _ ≤ 7293000; omega)⟩) hM (fun r1 G1 H locs hp1 hM => ?_)
  obtain ⟨e1, hR1, hf1⟩ := hp1
  have hLM1 := li_cls hd hv hf1 hLM
  rw [← hLM1.self] at hM
  refine lv_aload_n hx hb dL_law_215 rfl (lv_at hl 2 rfl) ?_
  refine z_calli0 (va_runV (As := []) (rest := [.int r1]) ⟨hx, hb, hml, hown, hts⟩ (m_endConstraint l Γ hd.2.1 G1 F9 L9 B9 _ rf σ hJ.1 hLM1.1) (cwV 0 hts gL_law_X5_endConstraint rfl rfl rfl (by decide +kernel) ⟨(Nat.le_of_ble_eq_true rfl), (Nat.le_of_ble_eq_true rfl)⟩) (zM.preV hK hM (md_o hd.2.1) rfl rfl) rfl rfl hl.1 rfl (lv_room (Nat.le_of_ble_eq_true rfl)) dL_law_216 ⟨(by show _ ≤ 601024; omega), (by show _ ≤ 7293000; omega)⟩) hM (fun r2 G2 H locs hp2 hM => ?_)
  obtain ⟨F2, L2, B2, hG2, e2, hMR2⟩ := hp2
  have hv2 : (op_endCons σ).2.1.1 = vars := (ov_endCons σ).trans hv
  obtain ⟨hR2, hLM2⟩ := li_ref hd hv2 hR1 hMR2 hLM1.2.2.2.2.2 hG2
  have hI2 : LI Γ G2 X o lF lL lB lo vars (op_endCons σ).2 := ⟨aj_endCons hJ, hv2, hR2, _, _, _, _, _, hLM2⟩
  refine lv_icmp_eq (tgt := 526) hx hb dL_law_219 (by decide) (fun hc219 => ?_) (fun hc219 => ?_)
  · exact W.widen (by omega) (by omega) (k526 G2 _ ls H locs hI2 hl hM)
  · exact absurd (e1.trans e2.symm) hc219

set_option maxRecDepth 100000 in
set_option maxHeartbeats 4000000 in
theorem lw_k4 {p : Program} {l : Launch} {e : Env} {s : State} {m : MethodId} {below : List Frame} {meth : Method} {c : Code} {b L : Nat} {xs : Nat → Int32} {Γ : zT} {X : Nat → Nat} {o lF lL lB lo vars sa sb : Nat} (hl9 : l.stackTraces = false) (hC : LC p s m c b L xs Γ X o lF lL lB lo vars sa sb) (i : Nat) (hi : i + 4 ≤ L) (G : zG) (σ : AS) (hI : LI Γ G X o lF lL lB lo vars σ) (ls : Array Slot) (H : Heap) (locs : List Loc) (hl : lv_has ls 7 [(4, .int (nI i)), (3, .ref lo), (2, .ref o), (1, .ref (X 80)), (0, .ref b)]) (hM : zM Γ (fun q : Nat => s.heap.size ≤ q) s.heap G H locs) (Q : State → Prop) (k526 : ∀ (G2 : zG) (σ2 : AS) (ls : Array Slot) (H : Heap) (locs : List Loc), LI Γ G2 X o lF lL lB lo vars σ2 → lv_has ls 7 [(4, .int (nI i)), (3, .ref lo), (2, .ref o), (1, .ref (X 80)), (0, .ref b)] → zM Γ (fun q : Nat => s.heap.size ≤ q) s.heap G2 H locs → W p l e room_1 s m #[Value.ref b] below meth c H locs (201 + i) (42006 + 6 * i) Q (F0 m 526 ls [])) : W p l e room_1 s m #[Value.ref b] below meth c H locs (200 + i) (42000 + 6 * i) Q (F0 m 224 ls []) := by
  obtain ⟨hx, hb, hml, hown, hts, hXs, hbl, hL, hK, hE, hd⟩ := hC
  have hbA : ¬ (fun q : Nat => s.heap.size ≤ q) b := Nat.not_le.mpr hbl
  obtain ⟨hJ, hv, hR, F9, L9, B9, rf, f, hLM⟩ := hI
  have hXv : XI X σ.1.1 := by rw [hv]; exact hd.1
  obtain ⟨fs, hO⟩ := hR.o
  refine lv_aload_n hx hb dL_law_224 rfl (lv_at hl 3 rfl) ?_
  refine z_calli0 (va_runV (As := []) (rest := []) ⟨hx, hb, hml, hown, hts⟩ (c_sealInput l Γ G _ X σ hXv hJ.1 hR) (cwV 0 hts gL_law_X4_sealInput rfl rfl rfl (by decide +kernel) ⟨(Nat.le_of_ble_eq_true rfl), (Nat.le_of_ble_eq_true rfl)⟩) (zM.preV hK hM hO rfl rfl) rfl rfl hl.1 rfl (lv_room (Nat.le_of_ble_eq_true rfl)) dL_law_225 ⟨(by show _ ≤ 601024; omega), (by show _ ≤ 7293000; omega)⟩) hM (fun r1 G1 H locs hp1 hM => ?_)
  obtain ⟨e1, hR1, hf1⟩ := hp1
  have hLM1 := li_cls hd hv hf1 hLM
  rw [← hLM1.self] at hM
  refine lv_aload_n hx hb dL_law_228 rfl (lv_at hl 2 rfl) ?_
  refine z_calli0 (va_runV (As := []) (rest := [.int r1]) ⟨hx, hb, hml, hown, hts⟩ (m_sealInput l Γ hd.2.1 G1 F9 L9 B9 _ rf σ hJ.1 hLM1.1) (cwV 0 hts gL_law_X5_sealInput rfl rfl rfl (by decide +kernel) ⟨(Nat.le_of_ble_eq_true rfl), (Nat.le_of_ble_eq_true rfl)⟩) (zM.preV hK hM (md_o hd.2.1) rfl rfl) rfl rfl hl.1 rfl (lv_room (Nat.le_of_ble_eq_true rfl)) dL_law_229 ⟨(by show _ ≤ 601024; omega), (by show _ ≤ 7293000; omega)⟩) hM (fun r2 G2 H locs hp2 hM => ?_)
  obtain ⟨F2, L2, B2, hG2, e2, hMR2⟩ := hp2
  have hv2 : (op_seal σ).2.1.1 = vars := (ov_seal σ).trans hv
  obtain ⟨hR2, hLM2⟩ := li_ref hd hv2 hR1 hMR2 hLM1.2.2.2.2.2 hG2
  have hI2 : LI Γ G2 X o lF lL lB lo vars (op_seal σ).2 := ⟨aj_seal hJ, hv2, hR2, _, _, _, _, _, hLM2⟩
  refine lv_icmp_eq (tgt := 526) hx hb dL_law_232 (by decide) (fun hc232 => ?_) (fun hc232 => ?_)
  · exact W.widen (by omega) (by omega) (k526 G2 _ ls H locs hI2 hl hM)
  · exact absurd (e1.trans e2.symm) hc232

set_option maxRecDepth 100000 in
set_option maxHeartbeats 4000000 in
theorem lw_k5 {p : Program} {l : Launch} {e : Env} {s : State} {m : MethodId} {below : List Frame} {meth : Method} {c : Code} {b L : Nat} {xs : Nat → Int32} {Γ : zT} {X : Nat → Nat} {o lF lL lB lo vars sa sb : Nat} (hl9 : l.stackTraces = false) (hC : LC p s m c b L xs Γ X o lF lL lB lo vars sa sb) (i : Nat) (hi : i + 4 ≤ L) (G : zG) (σ : AS) (hI : LI Γ G X o lF lL lB lo vars σ) (ls : Array Slot) (H : Heap) (locs : List Loc) (hl : lv_has ls 7 [(4, .int (nI i)), (3, .ref lo), (2, .ref o), (1, .ref (X 80)), (0, .ref b)]) (hM : zM Γ (fun q : Nat => s.heap.size ≤ q) s.heap G H locs) (Q : State → Prop) (k526 : ∀ (G2 : zG) (σ2 : AS) (ls : Array Slot) (H : Heap) (locs : List Loc), LI Γ G2 X o lF lL lB lo vars σ2 → lv_has ls 7 [(4, .int (nI i)), (3, .ref lo), (2, .ref o), (1, .ref (X 80)), (0, .ref b)] → zM Γ (fun q : Nat => s.heap.size ≤ q) s.heap G2 H locs → W p l e room_1 s m #[Value.ref b] below meth c H locs (201 + i) (42006 + 6 * i) Q (F0 m 526 ls [])) : W p l e room_1 s m #[Value.ref b] below meth c H locs (200 + i) (42000 + 6 * i) Q (F0 m 237 ls []) := by
  obtain ⟨hx, hb, hml, hown, hts, hXs, hbl, hL, hK, hE, hd⟩ := hC
  have hbA : ¬ (fun q : Nat => s.heap.size ≤ q) b := Nat.not_le.mpr hbl
  obtain ⟨hJ, hv, hR, F9, L9, B9, rf, f, hLM⟩ := hI
  have hXv : XI X σ.1.1 := by rw [hv]; exact hd.1
  obtain ⟨fs, hO⟩ := hR.o
  refine lv_aload_n hx hb dL_law_237 rfl (lv_at hl 3 rfl) ?_
  refine z_calli0 (va_runV (As := []) (rest := []) ⟨hx, hb, hml, hown, hts⟩ (c_combineStart l Γ G _ X σ hXv hJ.1 hR) (cwV 0 hts gL_law_X4_combineStart rfl rfl rfl (by decide +kernel) ⟨(Nat.le_of_ble_eq_true rfl), (Nat.le_of_ble_eq_true rfl)⟩) (zM.preV hK hM hO rfl rfl) rfl rfl hl.1 rfl (lv_room (Nat.le_of_ble_eq_true rfl)) dL_law_238 ⟨(by show _ ≤ 601024; omega), (by show _ ≤ 7293000; omega)⟩) hM (fun r1 G1 H locs hp1 hM => ?_)
  obtain ⟨e1, hR1, hf1⟩ := hp1
  have hLM1 := li_cls hd hv hf1 hLM
  rw [← hLM1.self] at hM
  refine lv_aload_n hx hb dL_law_241 rfl (lv_at hl 2 rfl) ?_
  refine z_calli0 (va_runV (As := []) (rest := [.int r1]) ⟨hx, hb, hml, hown, hts⟩ (m_combineStart l Γ hd.2.1 G1 F9 L9 B9 _ rf σ hJ.1 hLM1.1) (cwV 0 hts gL_law_X5_combineStart rfl rfl rfl (by decide +kernel) ⟨(Nat.le_of_ble_eq_true rfl), (Nat.le_of_ble_eq_true rfl)⟩) (zM.preV hK hM (md_o hd.2.1) rfl rfl) rfl rfl hl.1 rfl (lv_room (Nat.le_of_ble_eq_true rfl)) dL_law_242 ⟨(by show _ ≤ 601024; omega), (by show _ ≤ 7293000; omega)⟩) hM (fun r2 G2 H locs hp2 hM => ?_)
  obtain ⟨F2, L2, B2, hG2, e2, hMR2⟩ := hp2
  have hv2 : (op_start σ).2.1.1 = vars := (ov_start σ).trans hv
  obtain ⟨hR2, hLM2⟩ := li_ref hd hv2 hR1 hMR2 hLM1.2.2.2.2.2 hG2
  have hI2 : LI Γ G2 X o lF lL lB lo vars (op_start σ).2 := ⟨aj_start hJ, hv2, hR2, _, _, _, _, _, hLM2⟩
  refine lv_icmp_eq (tgt := 526) hx hb dL_law_245 (by decide) (fun hc245 => ?_) (fun hc245 => ?_)
  · exact W.widen (by omega) (by omega) (k526 G2 _ ls H locs hI2 hl hM)
  · exact absurd (e1.trans e2.symm) hc245

set_option maxRecDepth 100000 in
set_option maxHeartbeats 4000000 in
theorem lw_k6 {p : Program} {l : Launch} {e : Env} {s : State} {m : MethodId} {below : List Frame} {meth : Method} {c : Code} {b L : Nat} {xs : Nat → Int32} {Γ : zT} {X : Nat → Nat} {o lF lL lB lo vars sa sb : Nat} (hl9 : l.stackTraces = false) (hC : LC p s m c b L xs Γ X o lF lL lB lo vars sa sb) (i : Nat) (hi : i + 4 ≤ L) (G : zG) (σ : AS) (hI : LI Γ G X o lF lL lB lo vars σ) (ls : Array Slot) (H : Heap) (locs : List Loc) (hl : lv_has ls 7 [(4, .int (nI i)), (3, .ref lo), (2, .ref o), (1, .ref (X 80)), (0, .ref b)]) (hM : zM Γ (fun q : Nat => s.heap.size ≤ q) s.heap G H locs) (Q : State → Prop) (k526 : ∀ (G2 : zG) (σ2 : AS) (ls : Array Slot) (H : Heap) (locs : List Loc), LI Γ G2 X o lF lL lB lo vars σ2 → lv_has ls 7 [(4, .int (nI i)), (3, .ref lo), (2, .ref o), (1, .ref (X 80)), (0, .ref b)] → zM Γ (fun q : Nat => s.heap.size ≤ q) s.heap G2 H locs → W p l e room_1 s m #[Value.ref b] below meth c H locs (201 + i) (42006 + 6 * i) Q (F0 m 526 ls [])) : W p l e room_1 s m #[Value.ref b] below meth c H locs (200 + i) (42000 + 6 * i) Q (F0 m 250 ls []) := by
  obtain ⟨hx, hb, hml, hown, hts, hXs, hbl, hL, hK, hE, hd⟩ := hC
  have hbA : ¬ (fun q : Nat => s.heap.size ≤ q) b := Nat.not_le.mpr hbl
  obtain ⟨hJ, hv, hR, F9, L9, B9, rf, f, hLM⟩ := hI
  have hXv : XI X σ.1.1 := by rw [hv]; exact hd.1
  obtain ⟨fs, hO⟩ := hR.o
  refine lv_aload_n hx hb dL_law_250 rfl (lv_at hl 3 rfl) ?_
  refine lv_aload_n hx hb dL_law_251 rfl (lv_at hl 4 rfl) ?_
  refine lv_iload hx hb dL_law_252 (lv_at hl 0 rfl) ?_
  refine lv_iconst (v := nI 1) hx hb dL_law_254 rfl ?_
  refine z_iadd hx hb dL_law_255 ?_
  refine va_sld hx hb hXs hbl hbA hM.2.2.1 (vp_in_nI (by omega) (by omega)) dL_law_256 ?_
  refine z_asi (y := xs (i + 1)) (by rw [nI_clamp (by omega)]) ?_
  refine z_calli0 (va_runV (As := [.int (xs (i + 1))]) (rest := []) ⟨hx, hb, hml, hown, hts⟩ (c_combineAdd l Γ G _ X σ (xs (i + 1)) hXv hJ.1 hR) (cwV 1 hts gL_law_X4_combineAdd rfl rfl rfl (by decide +kernel) ⟨(Nat.le_of_ble_eq_true rfl), (Nat.le_of_ble_eq_true rfl)⟩) (zM.preV hK hM hO rfl rfl) rfl rfl hl.1 rfl (lv_room (Nat.le_of_ble_eq_true rfl)) dL_law_257 ⟨(by show _ ≤ 601024; omega), (by show _ ≤ 7293000; omega)⟩) hM (fun r1 G1 H locs hp1 hM => ?_)
  obtain ⟨e1, hR1, hf1⟩ := hp1
  have hLM1 := li_cls hd hv hf1 hLM
  rw [← hLM1.self] at hM
  refine lv_aload_n hx hb dL_law_260 rfl (lv_at hl 2 rfl) ?_
  refine lv_aload_n hx hb dL_law_261 rfl (lv_at hl 4 rfl) ?_
  refine lv_iload hx hb dL_law_262 (lv_at hl 0 rfl) ?_
  refine lv_iconst (v := nI 1) hx hb dL_law_264 rfl ?_
  refine z_iadd hx hb dL_law_265 ?_
  refine va_sld hx hb hXs hbl hbA hM.2.2.1 (vp_in_nI (by omega) (by omega)) dL_law_266 ?_
  refine z_asi (y := xs (i + 1)) (by rw [nI_clamp (by omega)]) ?_
  refine z_calli0 (va_runV (As := [.int (xs (i + 1))]) (rest := [.int r1]) ⟨hx, hb, hml, hown, hts⟩ (m_combineAdd l Γ hd.2.1 G1 F9 L9 B9 _ rf σ (xs (i + 1)) hJ.1 hLM1.1) (cwV 1 hts gL_law_X5_combineAdd rfl rfl rfl (by decide +kernel) ⟨(Nat.le_of_ble_eq_true rfl), (Nat.le_of_ble_eq_true rfl)⟩) (zM.preV hK hM (md_o hd.2.1) rfl rfl) rfl rfl hl.1 rfl (lv_room (Nat.le_of_ble_eq_true rfl)) dL_law_267 ⟨(by show _ ≤ 601024; omega), (by show _ ≤ 7293000; omega)⟩) hM (fun r2 G2 H locs hp2 hM => ?_)
  obtain ⟨F2, L2, B2, hG2, e2, hMR2⟩ := hp2
  have hv2 : (op_add (xs (i + 1)) σ).2.1.1 = vars := (ov_add σ _).trans hv
  obtain ⟨hR2, hLM2⟩ := li_ref hd hv2 hR1 hMR2 hLM1.2.2.2.2.2 hG2
  have hI2 : LI Γ G2 X o lF lL lB lo vars (op_add (xs (i + 1)) σ).2 := ⟨aj_add hJ _, hv2, hR2, _, _, _, _, _, hLM2⟩
  refine lv_icmp_eq (tgt := 526) hx hb dL_law_270 (by decide) (fun hc270 => ?_) (fun hc270 => ?_)
  · exact W.widen (by omega) (by omega) (k526 G2 _ ls H locs hI2 hl hM)
  · exact absurd (e1.trans e2.symm) hc270

set_option maxRecDepth 100000 in
set_option maxHeartbeats 4000000 in
theorem lw_k7 {p : Program} {l : Launch} {e : Env} {s : State} {m : MethodId} {below : List Frame} {meth : Method} {c : Code} {b L : Nat} {xs : Nat → Int32} {Γ : zT} {X : Nat → Nat} {o lF lL lB lo vars sa sb : Nat} (hl9 : l.stackTraces = false) (hC : LC p s m c b L xs Γ X o lF lL lB lo vars sa sb) (i : Nat) (hi : i + 4 ≤ L) (G : zG) (σ : AS) (hI : LI Γ G X o lF lL lB lo vars σ) (ls : Array Slot) (H : Heap) (locs : List Loc) (hl : lv_has ls 7 [(4, .int (nI i)), (3, .ref lo), (2, .ref o), (1, .ref (X 80)), (0, .ref b)]) (hM : zM Γ (fun q : Nat => s.heap.size ≤ q) s.heap G H locs) (Q : State → Prop) (k526 : ∀ (G2 : zG) (σ2 : AS) (ls : Array Slot) (H : Heap) (locs : List Loc), LI Γ G2 X o lF lL lB lo vars σ2 → lv_has ls 7 [(4, .int (nI i)), (3, .ref lo), (2, .ref o), (1, .ref (X 80)), (0, .ref b)] → zM Γ (fun q : Nat => s.heap.size ≤ q) s.heap G2 H locs → W p l e room_1 s m #[Value.ref b] below meth c H locs (201 + i) (42006 + 6 * i) Q (F0 m 526 ls [])) : W p l e room_1 s m #[Value.ref b] below meth c H locs (200 + i) (42000 + 6 * i) Q (F0 m 275 ls []) := by
  obtain ⟨hx, hb, hml, hown, hts, hXs, hbl, hL, hK, hE, hd⟩ := hC
  have hbA : ¬ (fun q : Nat => s.heap.size ≤ q) b := Nat.not_le.mpr hbl
  obtain ⟨hJ, hv, hR, F9, L9, B9, rf, f, hLM⟩ := hI
  have hXv : XI X σ.1.1 := by rw [hv]; exact hd.1
  obtain ⟨fs, hO⟩ := hR.o
  refine lv_aload_n hx hb dL_law_275 rfl (lv_at hl 3 rfl) ?_
  refine z_calli0 (va_runV (As := []) (rest := []) ⟨hx, hb, hml, hown, hts⟩ (c_combineEnd l Γ G _ X σ hXv hJ.1 hR) (cwV 0 hts gL_law_X4_combineEnd rfl rfl rfl (by decide +kernel) ⟨(Nat.le_of_ble_eq_true rfl), (Nat.le_of_ble_eq_true rfl)⟩) (zM.preV hK hM hO rfl rfl) rfl rfl hl.1 rfl (lv_room (Nat.le_of_ble_eq_true rfl)) dL_law_276 ⟨(by show _ ≤ 601024; omega), (by show _ ≤ 7293000; omega)⟩) hM (fun r1 G1 H locs hp1 hM => ?_)
  obtain ⟨e1, hR1, hf1⟩ := hp1
  have hLM1 := li_cls hd hv hf1 hLM
  rw [← hLM1.self] at hM
  refine lv_aload_n hx hb dL_law_279 rfl (lv_at hl 2 rfl) ?_
  refine z_calli0 (va_runV (As := []) (rest := [.int r1]) ⟨hx, hb, hml, hown, hts⟩ (m_combineEnd l Γ hd.2.1 G1 F9 L9 B9 _ rf σ hJ.1 hLM1.1) (cwV 0 hts gL_law_X5_combineEnd rfl rfl rfl (by decide +kernel) ⟨(Nat.le_of_ble_eq_true rfl), (Nat.le_of_ble_eq_true rfl)⟩) (zM.preV hK hM (md_o hd.2.1) rfl rfl) rfl rfl hl.1 rfl (lv_room (Nat.le_of_ble_eq_true rfl)) dL_law_280 ⟨(by show _ ≤ 601024; omega), (by show _ ≤ 7293000; omega)⟩) hM (fun r2 G2 H locs hp2 hM => ?_)
  obtain ⟨F2, L2, B2, hG2, e2, hMR2⟩ := hp2
  have hv2 : (op_end σ).2.1.1 = vars := (ov_end σ).trans hv
  obtain ⟨hR2, hLM2⟩ := li_ref hd hv2 hR1 hMR2 hLM1.2.2.2.2.2 hG2
  have hI2 : LI Γ G2 X o lF lL lB lo vars (op_end σ).2 := ⟨aj_end hJ, hv2, hR2, _, _, _, _, _, hLM2⟩
  refine lv_icmp_eq (tgt := 526) hx hb dL_law_283 (by decide) (fun hc283 => ?_) (fun hc283 => ?_)
  · exact W.widen (by omega) (by omega) (k526 G2 _ ls H locs hI2 hl hM)
  · exact absurd (e1.trans e2.symm) hc283

set_option maxRecDepth 100000 in
set_option maxHeartbeats 4000000 in
theorem lw_k8 {p : Program} {l : Launch} {e : Env} {s : State} {m : MethodId} {below : List Frame} {meth : Method} {c : Code} {b L : Nat} {xs : Nat → Int32} {Γ : zT} {X : Nat → Nat} {o lF lL lB lo vars sa sb : Nat} (hl9 : l.stackTraces = false) (hC : LC p s m c b L xs Γ X o lF lL lB lo vars sa sb) (i : Nat) (hi : i + 4 ≤ L) (G : zG) (σ : AS) (hI : LI Γ G X o lF lL lB lo vars σ) (ls : Array Slot) (H : Heap) (locs : List Loc) (hl : lv_has ls 7 [(4, .int (nI i)), (3, .ref lo), (2, .ref o), (1, .ref (X 80)), (0, .ref b)]) (hM : zM Γ (fun q : Nat => s.heap.size ≤ q) s.heap G H locs) (Q : State → Prop) (k526 : ∀ (G2 : zG) (σ2 : AS) (ls : Array Slot) (H : Heap) (locs : List Loc), LI Γ G2 X o lF lL lB lo vars σ2 → lv_has ls 7 [(4, .int (nI i)), (3, .ref lo), (2, .ref o), (1, .ref (X 80)), (0, .ref b)] → zM Γ (fun q : Nat => s.heap.size ≤ q) s.heap G2 H locs → W p l e room_1 s m #[Value.ref b] below meth c H locs (201 + i) (42006 + 6 * i) Q (F0 m 526 ls [])) : W p l e room_1 s m #[Value.ref b] below meth c H locs (200 + i) (42000 + 6 * i) Q (F0 m 288 ls []) := by
  obtain ⟨hx, hb, hml, hown, hts, hXs, hbl, hL, hK, hE, hd⟩ := hC
  have hbA : ¬ (fun q : Nat => s.heap.size ≤ q) b := Nat.not_le.mpr hbl
  obtain ⟨hJ, hv, hR, F9, L9, B9, rf, f, hLM⟩ := hI
  have hXv : XI X σ.1.1 := by rw [hv]; exact hd.1
  obtain ⟨fs, hO⟩ := hR.o
  refine lv_aload_n hx hb dL_law_288 rfl (lv_at hl 3 rfl) ?_
  refine lv_aload_n hx hb dL_law_289 rfl (lv_at hl 4 rfl) ?_
  refine lv_iload hx hb dL_law_290 (lv_at hl 0 rfl) ?_
  refine lv_iconst (v := nI 1) hx hb dL_law_292 rfl ?_
  refine z_iadd hx hb dL_law_293 ?_
  refine va_sld hx hb hXs hbl hbA hM.2.2.1 (vp_in_nI (by omega) (by omega)) dL_law_294 ?_
  refine z_asi (y := xs (i + 1)) (by rw [nI_clamp (by omega)]) ?_
  refine z_calli0 (va_runV (As := [.int (xs (i + 1))]) (rest := []) ⟨hx, hb, hml, hown, hts⟩ (c_divideRound l Γ G _ X σ (xs (i + 1)) hXv hJ.1 hR) (cwV 1 hts gL_law_X4_divideRound rfl rfl rfl (by decide +kernel) ⟨(Nat.le_of_ble_eq_true rfl), (Nat.le_of_ble_eq_true rfl)⟩) (zM.preV hK hM hO rfl rfl) rfl rfl hl.1 rfl (lv_room (Nat.le_of_ble_eq_true rfl)) dL_law_295 ⟨(by show _ ≤ 601024; omega), (by show _ ≤ 7293000; omega)⟩) hM (fun r1 G1 H locs hp1 hM => ?_)
  obtain ⟨e1, hR1, hf1⟩ := hp1
  have hLM1 := li_cls hd hv hf1 hLM
  rw [← hLM1.self] at hM
  refine lv_aload_n hx hb dL_law_298 rfl (lv_at hl 2 rfl) ?_
  refine lv_aload_n hx hb dL_law_299 rfl (lv_at hl 4 rfl) ?_
  refine lv_iload hx hb dL_law_300 (lv_at hl 0 rfl) ?_
  refine lv_iconst (v := nI 1) hx hb dL_law_302 rfl ?_
  refine z_iadd hx hb dL_law_303 ?_
  refine va_sld hx hb hXs hbl hbA hM.2.2.1 (vp_in_nI (by omega) (by omega)) dL_law_304 ?_
  refine z_asi (y := xs (i + 1)) (by rw [nI_clamp (by omega)]) ?_
  refine z_calli0 (va_runV (As := [.int (xs (i + 1))]) (rest := [.int r1]) ⟨hx, hb, hml, hown, hts⟩ (m_divideRound l Γ hd.2.1 G1 F9 L9 B9 _ rf σ (xs (i + 1)) hJ.1 hLM1.1) (cwV 1 hts gL_law_X5_divideRound rfl rfl rfl (by decide +kernel) ⟨(Nat.le_of_ble_eq_true rfl), (Nat.le_of_ble_eq_true rfl)⟩) (zM.preV hK hM (md_o hd.2.1) rfl rfl) rfl rfl hl.1 rfl (lv_room (Nat.le_of_ble_eq_true rfl)) dL_law_305 ⟨(by show _ ≤ 601024; omega), (by show _ ≤ 7293000; omega)⟩) hM (fun r2 G2 H locs hp2 hM => ?_)
  obtain ⟨F2, L2, B2, hG2, e2, hMR2⟩ := hp2
  have hv2 : (op_divide (xs (i + 1)) σ).2.1.1 = vars := (ov_divide σ _).trans hv
  obtain ⟨hR2, hLM2⟩ := li_ref hd hv2 hR1 hMR2 hLM1.2.2.2.2.2 hG2
  have hI2 : LI Γ G2 X o lF lL lB lo vars (op_divide (xs (i + 1)) σ).2 := ⟨aj_divide hJ _, hv2, hR2, _, _, _, _, _, hLM2⟩
  refine lv_icmp_eq (tgt := 526) hx hb dL_law_308 (by decide) (fun hc308 => ?_) (fun hc308 => ?_)
  · exact W.widen (by omega) (by omega) (k526 G2 _ ls H locs hI2 hl hM)
  · exact absurd (e1.trans e2.symm) hc308

set_option maxRecDepth 100000 in
set_option maxHeartbeats 4000000 in
theorem lw_k9 {p : Program} {l : Launch} {e : Env} {s : State} {m : MethodId} {below : List Frame} {meth : Method} {c : Code} {b L : Nat} {xs : Nat → Int32} {Γ : zT} {X : Nat → Nat} {o lF lL lB lo vars sa sb : Nat} (hl9 : l.stackTraces = false) (hC : LC p s m c b L xs Γ X o lF lL lB lo vars sa sb) (i : Nat) (hi : i + 4 ≤ L) (G : zG) (σ : AS) (hI : LI Γ G X o lF lL lB lo vars σ) (ls : Array Slot) (H : Heap) (locs : List Loc) (hl : lv_has ls 7 [(4, .int (nI i)), (3, .ref lo), (2, .ref o), (1, .ref (X 80)), (0, .ref b)]) (hM : zM Γ (fun q : Nat => s.heap.size ≤ q) s.heap G H locs) (Q : State → Prop) (k526 : ∀ (G2 : zG) (σ2 : AS) (ls : Array Slot) (H : Heap) (locs : List Loc), LI Γ G2 X o lF lL lB lo vars σ2 → lv_has ls 7 [(4, .int (nI i)), (3, .ref lo), (2, .ref o), (1, .ref (X 80)), (0, .ref b)] → zM Γ (fun q : Nat => s.heap.size ≤ q) s.heap G2 H locs → W p l e room_1 s m #[Value.ref b] below meth c H locs (201 + i) (42006 + 6 * i) Q (F0 m 526 ls [])) : W p l e room_1 s m #[Value.ref b] below meth c H locs (200 + i) (42000 + 6 * i) Q (F0 m 313 ls []) := by
  obtain ⟨hx, hb, hml, hown, hts, hXs, hbl, hL, hK, hE, hd⟩ := hC
  have hbA : ¬ (fun q : Nat => s.heap.size ≤ q) b := Nat.not_le.mpr hbl
  obtain ⟨hJ, hv, hR, F9, L9, B9, rf, f, hLM⟩ := hI
  have hXv : XI X σ.1.1 := by rw [hv]; exact hd.1
  obtain ⟨fs, hO⟩ := hR.o
  refine lv_aload_n hx hb dL_law_313 rfl (lv_at hl 3 rfl) ?_
  refine z_calli0 (va_runV (As := []) (rest := []) ⟨hx, hb, hml, hown, hts⟩ (c_refuted l Γ G _ X σ hXv hJ.1 hR) (cwV 0 hts gL_law_X4_refuted rfl rfl rfl (by decide +kernel) ⟨(Nat.le_of_ble_eq_true rfl), (Nat.le_of_ble_eq_true rfl)⟩) (zM.preV hK hM hO rfl rfl) rfl rfl hl.1 rfl (lv_room (Nat.le_of_ble_eq_true rfl)) dL_law_314 ⟨(by show _ ≤ 601024; omega), (by show _ ≤ 7293000; omega)⟩) hM (fun r1 G1 H locs hp1 hM => ?_)
  obtain ⟨e1, hG1⟩ := hp1
  have hR1 : CRep Γ G1 X σ := by rw [hG1]; exact hR
  have hLM1 : LM Γ G1 o lF lL lB lo σ F9 L9 B9 rf f := by rw [hG1]; exact hLM
  rw [← hLM1.self] at hM
  refine lv_aload_n hx hb dL_law_317 rfl (lv_at hl 2 rfl) ?_
  refine z_calli0 (va_runV (As := []) (rest := [.int r1]) ⟨hx, hb, hml, hown, hts⟩ (m_refuted l Γ hd.2.1 G1 F9 L9 B9 _ rf σ hJ.1 hLM1.1) (cwV 0 hts gL_law_X5_refuted rfl rfl rfl (by decide +kernel) ⟨(Nat.le_of_ble_eq_true rfl), (Nat.le_of_ble_eq_true rfl)⟩) (zM.preV hK hM (md_o hd.2.1) rfl rfl) rfl rfl hl.1 rfl (lv_room (Nat.le_of_ble_eq_true rfl)) dL_law_318 ⟨(by show _ ≤ 601024; omega), (by show _ ≤ 7293000; omega)⟩) hM (fun r2 G2 H locs hp2 hM => ?_)
  obtain ⟨e2, hG2⟩ := hp2
  obtain ⟨hR2, hLM2⟩ := li_ref hd hv hR1 hLM1.1 hLM1.2.2.2.2.2 hG2
  have hI2 : LI Γ G2 X o lF lL lB lo vars σ := ⟨hJ, hv, hR2, _, _, _, _, _, hLM2⟩
  refine lv_icmp_eq (tgt := 526) hx hb dL_law_321 (by decide) (fun hc321 => ?_) (fun hc321 => ?_)
  · exact W.widen (by omega) (by omega) (k526 G2 _ ls H locs hI2 hl hM)
  · exact absurd (e1.trans e2.symm) hc321

set_option maxRecDepth 100000 in
set_option maxHeartbeats 4000000 in
theorem lw_k10 {p : Program} {l : Launch} {e : Env} {s : State} {m : MethodId} {below : List Frame} {meth : Method} {c : Code} {b L : Nat} {xs : Nat → Int32} {Γ : zT} {X : Nat → Nat} {o lF lL lB lo vars sa sb : Nat} (hl9 : l.stackTraces = false) (hC : LC p s m c b L xs Γ X o lF lL lB lo vars sa sb) (i : Nat) (hi : i + 4 ≤ L) (G : zG) (σ : AS) (hI : LI Γ G X o lF lL lB lo vars σ) (ls : Array Slot) (H : Heap) (locs : List Loc) (hl : lv_has ls 7 [(4, .int (nI i)), (3, .ref lo), (2, .ref o), (1, .ref (X 80)), (0, .ref b)]) (hM : zM Γ (fun q : Nat => s.heap.size ≤ q) s.heap G H locs) (Q : State → Prop) (k526 : ∀ (G2 : zG) (σ2 : AS) (ls : Array Slot) (H : Heap) (locs : List Loc), LI Γ G2 X o lF lL lB lo vars σ2 → lv_has ls 7 [(4, .int (nI i)), (3, .ref lo), (2, .ref o), (1, .ref (X 80)), (0, .ref b)] → zM Γ (fun q : Nat => s.heap.size ≤ q) s.heap G2 H locs → W p l e room_1 s m #[Value.ref b] below meth c H locs (201 + i) (42006 + 6 * i) Q (F0 m 526 ls [])) : W p l e room_1 s m #[Value.ref b] below meth c H locs (200 + i) (42000 + 6 * i) Q (F0 m 326 ls []) := by
  obtain ⟨hx, hb, hml, hown, hts, hXs, hbl, hL, hK, hE, hd⟩ := hC
  have hbA : ¬ (fun q : Nat => s.heap.size ≤ q) b := Nat.not_le.mpr hbl
  obtain ⟨hJ, hv, hR, F9, L9, B9, rf, f, hLM⟩ := hI
  have hXv : XI X σ.1.1 := by rw [hv]; exact hd.1
  obtain ⟨fs, hO⟩ := hR.o
  refine lv_aload_n hx hb dL_law_326 rfl (lv_at hl 3 rfl) ?_
  refine z_calli0 (va_runV (As := []) (rest := []) ⟨hx, hb, hml, hown, hts⟩ (c_rowCount l Γ G _ X σ hXv hJ.1 hR) (cwV 0 hts gL_law_X4_rowCount rfl rfl rfl (by decide +kernel) ⟨(Nat.le_of_ble_eq_true rfl), (Nat.le_of_ble_eq_true rfl)⟩) (zM.preV hK hM hO rfl rfl) rfl rfl hl.1 rfl (lv_room (Nat.le_of_ble_eq_true rfl)) dL_law_327 ⟨(by show _ ≤ 601024; omega), (by show _ ≤ 7293000; omega)⟩) hM (fun r1 G1 H locs hp1 hM => ?_)
  obtain ⟨e1, hG1⟩ := hp1
  have hR1 : CRep Γ G1 X σ := by rw [hG1]; exact hR
  have hLM1 : LM Γ G1 o lF lL lB lo σ F9 L9 B9 rf f := by rw [hG1]; exact hLM
  rw [← hLM1.self] at hM
  refine lv_aload_n hx hb dL_law_330 rfl (lv_at hl 2 rfl) ?_
  refine z_calli0 (va_runV (As := []) (rest := [.int r1]) ⟨hx, hb, hml, hown, hts⟩ (m_rowCount l Γ hd.2.1 G1 F9 L9 B9 _ rf σ hJ.1 hLM1.1) (cwV 0 hts gL_law_X5_rowCount rfl rfl rfl (by decide +kernel) ⟨(Nat.le_of_ble_eq_true rfl), (Nat.le_of_ble_eq_true rfl)⟩) (zM.preV hK hM (md_o hd.2.1) rfl rfl) rfl rfl hl.1 rfl (lv_room (Nat.le_of_ble_eq_true rfl)) dL_law_331 ⟨(by show _ ≤ 601024; omega), (by show _ ≤ 7293000; omega)⟩) hM (fun r2 G2 H locs hp2 hM => ?_)
  obtain ⟨e2, hG2⟩ := hp2
  obtain ⟨hR2, hLM2⟩ := li_ref hd hv hR1 hLM1.1 hLM1.2.2.2.2.2 hG2
  have hI2 : LI Γ G2 X o lF lL lB lo vars σ := ⟨hJ, hv, hR2, _, _, _, _, _, hLM2⟩
  refine lv_icmp_eq (tgt := 526) hx hb dL_law_334 (by decide) (fun hc334 => ?_) (fun hc334 => ?_)
  · exact W.widen (by omega) (by omega) (k526 G2 _ ls H locs hI2 hl hM)
  · exact absurd (e1.trans e2.symm) hc334

set_option maxRecDepth 100000 in
set_option maxHeartbeats 4000000 in
theorem lw_k11 {p : Program} {l : Launch} {e : Env} {s : State} {m : MethodId} {below : List Frame} {meth : Method} {c : Code} {b L : Nat} {xs : Nat → Int32} {Γ : zT} {X : Nat → Nat} {o lF lL lB lo vars sa sb : Nat} (hl9 : l.stackTraces = false) (hC : LC p s m c b L xs Γ X o lF lL lB lo vars sa sb) (i : Nat) (hi : i + 4 ≤ L) (G : zG) (σ : AS) (hI : LI Γ G X o lF lL lB lo vars σ) (ls : Array Slot) (H : Heap) (locs : List Loc) (hl : lv_has ls 7 [(4, .int (nI i)), (3, .ref lo), (2, .ref o), (1, .ref (X 80)), (0, .ref b)]) (hM : zM Γ (fun q : Nat => s.heap.size ≤ q) s.heap G H locs) (Q : State → Prop) (k526 : ∀ (G2 : zG) (σ2 : AS) (ls : Array Slot) (H : Heap) (locs : List Loc), LI Γ G2 X o lF lL lB lo vars σ2 → lv_has ls 7 [(4, .int (nI i)), (3, .ref lo), (2, .ref o), (1, .ref (X 80)), (0, .ref b)] → zM Γ (fun q : Nat => s.heap.size ≤ q) s.heap G2 H locs → W p l e room_1 s m #[Value.ref b] below meth c H locs (201 + i) (42006 + 6 * i) Q (F0 m 526 ls [])) : W p l e room_1 s m #[Value.ref b] below meth c H locs (200 + i) (42000 + 6 * i) Q (F0 m 339 ls []) := by
  obtain ⟨hx, hb, hml, hown, hts, hXs, hbl, hL, hK, hE, hd⟩ := hC
  have hbA : ¬ (fun q : Nat => s.heap.size ≤ q) b := Nat.not_le.mpr hbl
  obtain ⟨hJ, hv, hR, F9, L9, B9, rf, f, hLM⟩ := hI
  have hXv : XI X σ.1.1 := by rw [hv]; exact hd.1
  obtain ⟨fs, hO⟩ := hR.o
  refine lv_aload_n hx hb dL_law_339 rfl (lv_at hl 3 rfl) ?_
  refine z_calli0 (va_runV (As := []) (rest := []) ⟨hx, hb, hml, hown, hts⟩ (c_evalStart l Γ G _ X σ hXv hJ.1 hR) (cwV 0 hts gL_law_X4_evalStart rfl rfl rfl (by decide +kernel) ⟨(Nat.le_of_ble_eq_true rfl), (Nat.le_of_ble_eq_true rfl)⟩) (zM.preV hK hM hO rfl rfl) rfl rfl hl.1 rfl (lv_room (Nat.le_of_ble_eq_true rfl)) dL_law_340 ⟨(by show _ ≤ 601024; omega), (by show _ ≤ 7293000; omega)⟩) hM (fun r1 G1 H locs hp1 hM => ?_)
  obtain ⟨e1, hR1, hf1⟩ := hp1
  have hLM1 := li_cls hd hv hf1 hLM
  rw [← hLM1.self] at hM
  refine lv_aload_n hx hb dL_law_343 rfl (lv_at hl 2 rfl) ?_
  refine z_calli0 (va_runV (As := []) (rest := [.int r1]) ⟨hx, hb, hml, hown, hts⟩ (m_evalStart l Γ hd.2.1 G1 F9 L9 B9 _ rf σ hJ.1 hLM1.1) (cwV 0 hts gL_law_X5_evalStart rfl rfl rfl (by decide +kernel) ⟨(Nat.le_of_ble_eq_true rfl), (Nat.le_of_ble_eq_true rfl)⟩) (zM.preV hK hM (md_o hd.2.1) rfl rfl) rfl rfl hl.1 rfl (lv_room (Nat.le_of_ble_eq_true rfl)) dL_law_344 ⟨(by show _ ≤ 601024; omega), (by show _ ≤ 7293000; omega)⟩) hM (fun r2 G2 H locs hp2 hM => ?_)
  obtain ⟨F2, L2, B2, hG2, e2, hMR2⟩ := hp2
  have hv2 : (op_evalStart σ).2.1.1 = vars := (ov_evalStart σ).trans hv
  obtain ⟨hR2, hLM2⟩ := li_ref hd hv2 hR1 hMR2 hLM1.2.2.2.2.2 hG2
  have hI2 : LI Γ G2 X o lF lL lB lo vars (op_evalStart σ).2 := ⟨aj_evalStart hJ, hv2, hR2, _, _, _, _, _, hLM2⟩
  refine lv_icmp_eq (tgt := 526) hx hb dL_law_347 (by decide) (fun hc347 => ?_) (fun hc347 => ?_)
  · exact W.widen (by omega) (by omega) (k526 G2 _ ls H locs hI2 hl hM)
  · exact absurd (e1.trans e2.symm) hc347

set_option maxRecDepth 100000 in
set_option maxHeartbeats 4000000 in
theorem lw_k12 {p : Program} {l : Launch} {e : Env} {s : State} {m : MethodId} {below : List Frame} {meth : Method} {c : Code} {b L : Nat} {xs : Nat → Int32} {Γ : zT} {X : Nat → Nat} {o lF lL lB lo vars sa sb : Nat} (hl9 : l.stackTraces = false) (hC : LC p s m c b L xs Γ X o lF lL lB lo vars sa sb) (i : Nat) (hi : i + 4 ≤ L) (G : zG) (σ : AS) (hI : LI Γ G X o lF lL lB lo vars σ) (ls : Array Slot) (H : Heap) (locs : List Loc) (hl : lv_has ls 7 [(4, .int (nI i)), (3, .ref lo), (2, .ref o), (1, .ref (X 80)), (0, .ref b)]) (hM : zM Γ (fun q : Nat => s.heap.size ≤ q) s.heap G H locs) (Q : State → Prop) (k526 : ∀ (G2 : zG) (σ2 : AS) (ls : Array Slot) (H : Heap) (locs : List Loc), LI Γ G2 X o lF lL lB lo vars σ2 → lv_has ls 7 [(4, .int (nI i)), (3, .ref lo), (2, .ref o), (1, .ref (X 80)), (0, .ref b)] → zM Γ (fun q : Nat => s.heap.size ≤ q) s.heap G2 H locs → W p l e room_1 s m #[Value.ref b] below meth c H locs (201 + i) (42006 + 6 * i) Q (F0 m 526 ls [])) : W p l e room_1 s m #[Value.ref b] below meth c H locs (200 + i) (42000 + 6 * i) Q (F0 m 352 ls []) := by
  obtain ⟨hx, hb, hml, hown, hts, hXs, hbl, hL, hK, hE, hd⟩ := hC
  have hbA : ¬ (fun q : Nat => s.heap.size ≤ q) b := Nat.not_le.mpr hbl
  obtain ⟨hJ, hv, hR, F9, L9, B9, rf, f, hLM⟩ := hI
  have hXv : XI X σ.1.1 := by rw [hv]; exact hd.1
  obtain ⟨fs, hO⟩ := hR.o
  refine lv_aload_n hx hb dL_law_352 rfl (lv_at hl 3 rfl) ?_
  refine lv_aload_n hx hb dL_law_353 rfl (lv_at hl 4 rfl) ?_
  refine lv_iload hx hb dL_law_354 (lv_at hl 0 rfl) ?_
  refine lv_iconst (v := nI 1) hx hb dL_law_356 rfl ?_
  refine z_iadd hx hb dL_law_357 ?_
  refine va_sld hx hb hXs hbl hbA hM.2.2.1 (vp_in_nI (by omega) (by omega)) dL_law_358 ?_
  refine z_asi (y := xs (i + 1)) (by rw [nI_clamp (by omega)]) ?_
  refine z_calli0 (va_runV (As := [.int (xs (i + 1))]) (rest := []) ⟨hx, hb, hml, hown, hts⟩ (c_evalPoint l Γ G _ X σ (xs (i + 1)) hXv hJ.1 hR) (cwV 1 hts gL_law_X4_evalPoint rfl rfl rfl (by decide +kernel) ⟨(Nat.le_of_ble_eq_true rfl), (Nat.le_of_ble_eq_true rfl)⟩) (zM.preV hK hM hO rfl rfl) rfl rfl hl.1 rfl (lv_room (Nat.le_of_ble_eq_true rfl)) dL_law_359 ⟨(by show _ ≤ 601024; omega), (by show _ ≤ 7293000; omega)⟩) hM (fun r1 G1 H locs hp1 hM => ?_)
  obtain ⟨e1, hR1, hf1⟩ := hp1
  have hLM1 := li_cls hd hv hf1 hLM
  rw [← hLM1.self] at hM
  refine lv_aload_n hx hb dL_law_362 rfl (lv_at hl 2 rfl) ?_
  refine lv_aload_n hx hb dL_law_363 rfl (lv_at hl 4 rfl) ?_
  refine lv_iload hx hb dL_law_364 (lv_at hl 0 rfl) ?_
  refine lv_iconst (v := nI 1) hx hb dL_law_366 rfl ?_
  refine z_iadd hx hb dL_law_367 ?_
  refine va_sld hx hb hXs hbl hbA hM.2.2.1 (vp_in_nI (by omega) (by omega)) dL_law_368 ?_
  refine z_asi (y := xs (i + 1)) (by rw [nI_clamp (by omega)]) ?_
  refine z_calli0 (va_runV (As := [.int (xs (i + 1))]) (rest := [.int r1]) ⟨hx, hb, hml, hown, hts⟩ (m_evalPoint l Γ hd.2.1 G1 F9 L9 B9 _ rf σ (xs (i + 1)) hJ.1 hLM1.1) (cwV 1 hts gL_law_X5_evalPoint rfl rfl rfl (by decide +kernel) ⟨(Nat.le_of_ble_eq_true rfl), (Nat.le_of_ble_eq_true rfl)⟩) (zM.preV hK hM (md_o hd.2.1) rfl rfl) rfl rfl hl.1 rfl (lv_room (Nat.le_of_ble_eq_true rfl)) dL_law_369 ⟨(by show _ ≤ 601024; omega), (by show _ ≤ 7293000; omega)⟩) hM (fun r2 G2 H locs hp2 hM => ?_)
  obtain ⟨F2, L2, B2, hG2, e2, hMR2⟩ := hp2
  have hv2 : (op_evalPoint (xs (i + 1)) σ).2.1.1 = vars := (ov_evalPoint σ _).trans hv
  obtain ⟨hR2, hLM2⟩ := li_ref hd hv2 hR1 hMR2 hLM1.2.2.2.2.2 hG2
  have hI2 : LI Γ G2 X o lF lL lB lo vars (op_evalPoint (xs (i + 1)) σ).2 := ⟨aj_evalPoint hJ _, hv2, hR2, _, _, _, _, _, hLM2⟩
  refine lv_icmp_eq (tgt := 526) hx hb dL_law_372 (by decide) (fun hc372 => ?_) (fun hc372 => ?_)
  · exact W.widen (by omega) (by omega) (k526 G2 _ ls H locs hI2 hl hM)
  · exact absurd (e1.trans e2.symm) hc372

set_option maxRecDepth 100000 in
set_option maxHeartbeats 4000000 in
theorem lw_k13 {p : Program} {l : Launch} {e : Env} {s : State} {m : MethodId} {below : List Frame} {meth : Method} {c : Code} {b L : Nat} {xs : Nat → Int32} {Γ : zT} {X : Nat → Nat} {o lF lL lB lo vars sa sb : Nat} (hl9 : l.stackTraces = false) (hC : LC p s m c b L xs Γ X o lF lL lB lo vars sa sb) (i : Nat) (hi : i + 4 ≤ L) (G : zG) (σ : AS) (hI : LI Γ G X o lF lL lB lo vars σ) (ls : Array Slot) (H : Heap) (locs : List Loc) (hl : lv_has ls 7 [(4, .int (nI i)), (3, .ref lo), (2, .ref o), (1, .ref (X 80)), (0, .ref b)]) (hM : zM Γ (fun q : Nat => s.heap.size ≤ q) s.heap G H locs) (Q : State → Prop) (k526 : ∀ (G2 : zG) (σ2 : AS) (ls : Array Slot) (H : Heap) (locs : List Loc), LI Γ G2 X o lF lL lB lo vars σ2 → lv_has ls 7 [(4, .int (nI i)), (3, .ref lo), (2, .ref o), (1, .ref (X 80)), (0, .ref b)] → zM Γ (fun q : Nat => s.heap.size ≤ q) s.heap G2 H locs → W p l e room_1 s m #[Value.ref b] below meth c H locs (201 + i) (42006 + 6 * i) Q (F0 m 526 ls [])) : W p l e room_1 s m #[Value.ref b] below meth c H locs (200 + i) (42000 + 6 * i) Q (F0 m 377 ls []) := by
  obtain ⟨hx, hb, hml, hown, hts, hXs, hbl, hL, hK, hE, hd⟩ := hC
  have hbA : ¬ (fun q : Nat => s.heap.size ≤ q) b := Nat.not_le.mpr hbl
  obtain ⟨hJ, hv, hR, F9, L9, B9, rf, f, hLM⟩ := hI
  have hXv : XI X σ.1.1 := by rw [hv]; exact hd.1
  obtain ⟨fs, hO⟩ := hR.o
  refine lv_aload_n hx hb dL_law_377 rfl (lv_at hl 3 rfl) ?_
  refine z_calli0 (va_runV (As := []) (rest := []) ⟨hx, hb, hml, hown, hts⟩ (c_evalSatisfied l Γ G _ X σ hXv hJ.1 hR) (cwV 0 hts gL_law_X4_evalSatisfied rfl rfl rfl (by decide +kernel) ⟨(Nat.le_of_ble_eq_true rfl), (Nat.le_of_ble_eq_true rfl)⟩) (zM.preV hK hM hO rfl rfl) rfl rfl hl.1 rfl (lv_room (Nat.le_of_ble_eq_true rfl)) dL_law_378 ⟨(by show _ ≤ 601024; omega), (by show _ ≤ 7293000; omega)⟩) hM (fun r1 G1 H locs hp1 hM => ?_)
  obtain ⟨e1, hR1, hf1⟩ := hp1
  have hLM1 := li_cls hd hv hf1 hLM
  rw [← hLM1.self] at hM
  refine lv_aload_n hx hb dL_law_381 rfl (lv_at hl 2 rfl) ?_
  refine z_calli0 (va_runV (As := []) (rest := [.int r1]) ⟨hx, hb, hml, hown, hts⟩ (m_evalSatisfied l Γ hd.2.1 G1 F9 L9 B9 _ rf σ hJ.1 hLM1.1) (cwV 0 hts gL_law_X5_evalSatisfied rfl rfl rfl (by decide +kernel) ⟨(Nat.le_of_ble_eq_true rfl), (Nat.le_of_ble_eq_true rfl)⟩) (zM.preV hK hM (md_o hd.2.1) rfl rfl) rfl rfl hl.1 rfl (lv_room (Nat.le_of_ble_eq_true rfl)) dL_law_382 ⟨(by show _ ≤ 601024; omega), (by show _ ≤ 7293000; omega)⟩) hM (fun r2 G2 H locs hp2 hM => ?_)
  obtain ⟨F2, L2, B2, hG2, e2, hMR2⟩ := hp2
  obtain ⟨hR2, hLM2⟩ := li_ref hd hv hR1 hMR2 hLM1.2.2.2.2.2 hG2
  have hI2 : LI Γ G2 X o lF lL lB lo vars σ := ⟨hJ, hv, hR2, _, _, _, _, _, hLM2⟩
  refine lv_icmp_eq (tgt := 526) hx hb dL_law_385 (by decide) (fun hc385 => ?_) (fun hc385 => ?_)
  · exact W.widen (by omega) (by omega) (k526 G2 _ ls H locs hI2 hl hM)
  · exact absurd (e1.trans e2.symm) hc385
