set_option maxRecDepth 100000 in
set_option maxHeartbeats 4000000 in
theorem c_nearest (l : Launch) (Γ : zT) (G : zG) (sz : Nat) (v : Int32) (most : Nat) (h1m : 1 ≤ most) (h2m : most < 100000) : zMi l yX4_nearest wsX4_nearest (zR 1) Γ G sz [.int v, .int (nI most)] (fun x G' => x = nI (clampI v most) ∧ G' = G) 0 0 := by
  refine z_start (cc := cX4_nearest) (maxL := 2) (ret := (some .int)) (by decide) rfl (Nat.le_of_ble_eq_true rfl) ?_
  intro p e s m args below meth c ls Q hQ hsz hx hb hr hml hown hts hlocks hnm hK hM hl
  obtain ⟨A, hAe⟩ : ∃ A, A = zA G s.heap.size := ⟨_, rfl⟩
  rw [← hAe] at hM
  have hl : lv_has ls 2 [(0, .int v), (1, .int (nI most))] := hl
  refine lv_iconst (v := nI 1) hx hb dX4_nearest_0 rfl ?_
  refine lv_iload_n hx hb dX4_nearest_1 rfl (lv_at hl 1 rfl) ?_
  refine lv_iload_n hx hb dX4_nearest_2 rfl (lv_at hl 0 rfl) ?_
  refine va_mmin hx hb (by rw [hml]; exact hl.1.symm) hown (hts (.methodLink RX4 181 Lib.Math.min.name) (by decide +kernel)) (hts (.static Lib.Math.min.name) (by decide +kernel)) (hts (.initialized "java/lang/Math") (by decide +kernel)) (hts (.code Lib.Math.min.name Lib.Math.min.code 2 (some .int)) (by decide +kernel)) (Nat.le_of_ble_eq_true rfl) (Nat.le_of_ble_eq_true rfl) (Nat.le_of_ble_eq_true rfl) (Nat.le_of_ble_eq_true rfl) dX4_nearest_3 ?_
  refine va_mmax hx hb (by rw [hml]; exact hl.1.symm) hown (hts (.methodLink RX4 186 Lib.Math.max.name) (by decide +kernel)) (hts (.static Lib.Math.max.name) (by decide +kernel)) (hts (.initialized "java/lang/Math") (by decide +kernel)) (hts (.code Lib.Math.max.name Lib.Math.max.code 2 (some .int)) (by decide +kernel)) (Nat.le_of_ble_eq_true rfl) (Nat.le_of_ble_eq_true rfl) (Nat.le_of_ble_eq_true rfl) (Nat.le_of_ble_eq_true rfl) dX4_nearest_6 ?_
  rw [hQ]
  rw [hAe] at hM
  exact z_iret hsz hx hb hr hlocks hK hM dX4_nearest_9 (⟨clamp_mm h1m h2m, rfl⟩)

set_option maxRecDepth 100000 in
set_option maxHeartbeats 4000000 in
/-- a new object -/
theorem c_init (l : Launch) (Γ : zT) (G : zG) (sz : Nat) (a : Nat) (p1 p2 p3 : Int32) (ha : G a = some (.inr (6, [.int (nI 0), .null, .null, .null, .null, .null, .int (nI 0), .int (nI 0), .int (nI 0), .int (nI 0), .int (nI 0), .null, .null, .null, .null, .null]))) : zMvN l yX4_init wsX4_init ({ frames := 3, cells := 90, slots := 7600, locals := 192 } : Room) Γ G sz [.ref a, .int p1, .int p2, .int p3] (fun G' => ∃ X, X 80 = a ∧ XI X (clampI p1 6) ∧ CRep Γ G' X (as0 (clampI p1 6) (clampI p2 60) (clampI p3 4000)) ∧ ∀ x e, x ≠ a → G x = some e → G' x = some e) 90 7600 := by
  refine z_startN (cc := cX4_init) (maxL := 5) (ret := none) (by decide) rfl (Nat.le_of_ble_eq_true rfl) ?_
  intro p e s m args below meth c ls Q hN hQ hsz hx hb hr hml hown hts hlocks hnm hK hM hl
  obtain ⟨A, hAe⟩ : ∃ A, A = zA G s.heap.size := ⟨_, rfl⟩
  rw [← hAe] at hM
  have hl : lv_has ls 5 [(0, .ref a), (1, .int p1), (2, .int p2), (3, .int p3)] := hl
  have hinX4 : ∀ w ∈ wsX40, w ∈ wsX4_init := by decide +kernel
  have hf_13 := hts (.fieldLink RX4 13 "CutRows" "vars" "I") (by decide +kernel)
  have hf_22 := hts (.fieldLink RX4 22 "CutRows" "arena" "LCutRows$Arena;") (by decide +kernel)
  have hf_29 := hts (.fieldLink RX4 29 "CutRows" "register" "LCutRows$Register;") (by decide +kernel)
  have hf_37 := hts (.fieldLink RX4 37 "CutRows" "vector" "[LCutRows$Whole;") (by decide +kernel)
  have hf_41 := hts (.fieldLink RX4 41 "CutRows" "point" "[LCutRows$Whole;") (by decide +kernel)
  have hf_47 := hts (.fieldLink RX4 47 "CutRows" "divider" "LCutRows$Divider;") (by decide +kernel)
  have hf_51 := hts (.fieldLink RX4 51 "CutRows" "sum" "[LCutRows$Whole;") (by decide +kernel)
  have hf_54 := hts (.fieldLink RX4 54 "CutRows" "draft" "[LCutRows$Whole;") (by decide +kernel)
  have hf_62 := hts (.fieldLink RX4 62 "CutRows" "factor" "LCutRows$Whole;") (by decide +kernel)
  have hf_66 := hts (.fieldLink RX4 66 "CutRows" "product" "LCutRows$Whole;") (by decide +kernel)
  have hf_69 := hts (.fieldLink RX4 69 "CutRows" "total" "LCutRows$Whole;") (by decide +kernel)
  have hinX0 : ∀ w ∈ wsX00, w ∈ wsX4_init := by decide +kernel
  have hinX2 : ∀ w ∈ wsX20, w ∈ wsX4_init := by decide +kernel
  have hinX1 : ∀ w ∈ wsX10, w ∈ wsX4_init := by decide +kernel
  have hinX3 : ∀ w ∈ wsX30, w ∈ wsX4_init := by decide +kernel
  obtain ⟨vars, hvars⟩ : ∃ v, v = clampI p1 6 := ⟨_, rfl⟩
  obtain ⟨maxR, hmaxR⟩ : ∃ v, v = clampI p2 60 := ⟨_, rfl⟩
  obtain ⟨cz, hcz⟩ : ∃ v, v = clampI p3 4000 := ⟨_, rfl⟩
  rw [← hvars, ← hmaxR, ← hcz] at hQ
  have hv6 := clampI_le p1 (most := 6) (by omega) (by omega)
  rw [← hvars] at hv6
  have hm60 := clampI_le p2 (most := 60) (by omega) (by omega)
  rw [← hmaxR] at hm60
  have hz4 := clampI_le p3 (most := 4000) (by omega) (by omega)
  rw [← hcz] at hz4
  have hS : NWa Γ vars maxR cz G G a (fun _ => 0) (fun _ => false) := NWa.nil ha
  obtain ⟨X_0, hX_0⟩ : ∃ X9 : Nat → Nat, X9 = fun _ => 0 := ⟨_, rfl⟩
  rw [← hX_0] at hS
  refine lv_aload_n hx hb dX4_init_0 rfl (lv_at hl 0 rfl) ?_
  refine W.objInit hx hb hown (hts (.methodLink RX4 3 objectInit) (by decide +kernel)) (hts (.instanceMethod objectInit) (by decide +kernel)) (hts (.code objectInit ⟨#[0xb1]⟩ 1 none) (List.mem_of_getElem? (i := 3) rfl)) rfl (by rw [hml]; exact hl.1) rfl dX4_init_1 (Nat.le_of_ble_eq_true rfl) (Nat.le_of_ble_eq_true rfl) ?_
  refine W.eq (g2 := F0 m 4 ls []) rfl ?_
  refine lv_aload_n hx hb dX4_init_4 rfl (lv_at hl 0 rfl) ?_
  refine lv_iload_n hx hb dX4_init_5 rfl (lv_at hl 1 rfl) ?_
  refine lv_bipush (v := nI 6) hx hb dX4_init_6 rfl ?_
  refine z_calli0 (va_runS (As := [.int p1, .int (nI 6)]) (rest := [.ref a]) ⟨hx, hb, hml, hown, hts⟩ (c_nearest l Γ _ _ p1 6 (by omega) (by omega)) (va_cwS 2 hts gX4_init_X4_nearest rfl rfl rfl (by decide +kernel) ⟨Nat.le_of_ble_eq_true rfl, Nat.le_of_ble_eq_true rfl⟩) (zM.pre hK hM) rfl rfl hl.1 rfl (lv_room (Nat.le_of_ble_eq_true rfl)) dX4_init_8 ⟨Nat.le_of_ble_eq_true rfl, Nat.le_of_ble_eq_true rfl⟩) hM (fun r8 G8 H locs hp8 hM => ?_)
  obtain ⟨e8, hGe⟩ := hp8
  rw [hGe] at hM
  refine z_asi (y := nI vars) (by rw [e8, hvars]) ?_
  refine z_putF (C := RX4) (T := TX4) (N := 16) (fs' := [.int (nI vars), .null, .null, .null, .null, .null, .int (nI 0), .int (nI 0), .int (nI 0), .int (nI 0), .int (nI 0), .null, .null, .null, .null, .null]) hx hb hts hinX4 tyX4 tyX4_ok nmX4 hown hK hM ha 0 hf_13 rfl rfl (by decide) rfl hnm rfl rfl rfl (Nat.le_of_ble_eq_true rfl) rfl dX4_init_11 (fun H locs hM => ?_)
  have hS := hS.put (.inr (6, [.int (nI vars), .null, .null, .null, .null, .null, .int (nI 0), .int (nI 0), .int (nI 0), .int (nI 0), .int (nI 0), .null, .null, .null, .null, .null]))
  have hA14 : (zup G a (.inr (6, [.int (nI vars), .null, .null, .null, .null, .null, .int (nI 0), .int (nI 0), .int (nI 0), .int (nI 0), .int (nI 0), .null, .null, .null, .null, .null]))) a = some (.inr (6, [.int (nI vars), .null, .null, .null, .null, .null, .int (nI 0), .int (nI 0), .int (nI 0), .int (nI 0), .int (nI 0), .null, .null, .null, .null, .null])) := (zup_s _ _ _)
  obtain ⟨P14, hP14⟩ : ∃ g, g = zup G a (.inr (6, [.int (nI vars), .null, .null, .null, .null, .null, .int (nI 0), .int (nI 0), .int (nI 0), .int (nI 0), .int (nI 0), .null, .null, .null, .null, .null])) := ⟨_, rfl⟩
  rw [← hP14] at hM hA14
  have hS := hS.map hP14
  refine lv_aload_n hx hb dX4_init_14 rfl (lv_at hl 0 rfl) ?_
  refine z_get (C := RX4) (T := TX4) (N := 16) (v := .int (nI vars)) hx hb hts hinX4 hown hK hM hA14 0 hf_13 rfl rfl (by decide) rfl dX4_init_15 ?_
  refine lv_iconst (v := nI 1) hx hb dX4_init_18 rfl ?_
  refine z_iadd hx hb dX4_init_19 ?_
  refine lv_istore (lv' := [(4, .int (nI (vars + 1))), (0, .ref a), (1, .int p1), (2, .int p2), (3, .int p3)]) hx hb dX4_init_20 hl (by decide) rfl (fun ls hl => ?_)
  refine lv_aload_n hx hb dX4_init_22 rfl (lv_at hl 1 rfl) ?_
  refine z_newO (ci := 2) (fs := [.null, .null, .int (nI 0), .int (nI 0), .int (nI 0), .int (nI 0)]) (C := RX0) (T := TX0) (N := 6) hx hb hts hinX0 tyX0 tyX0_ok hown (hts (.classLink RX4 17 RX0) (by decide +kernel)) (hts (.instantiable RX0 6) (by decide +kernel)) (hts (.initialized RX0) (by decide +kernel)) hK hM rfl (fun j hj => by rcases (show j = 0 ∨ j = 1 ∨ j = 2 ∨ j = 3 ∨ j = 4 ∨ j = 5 by omega) with rfl | rfl | rfl | rfl | rfl | rfl <;> rfl) (by first | exact Nat.le_of_ble_eq_true rfl | (show _ ≤ 90; omega)) (by first | exact Nat.le_of_ble_eq_true rfl | (show _ ≤ 7600; omega)) dX4_init_23 (fun q23 H hq23 hM => ?_)
  refine W.widen (k := 1) (n := 6) (by first | exact Nat.le_of_ble_eq_true rfl | omega) (by first | exact Nat.le_of_ble_eq_true rfl | omega) ?_
  have hn_a_q23 : a ≠ q23 := zfr hq23 hA14
  refine lv_dup hx hb dX4_init_26 rfl ?_
  refine lv_iload hx hb dX4_init_27 (lv_at hl 0 rfl) ?_
  refine lv_iload_n hx hb dX4_init_29 rfl (lv_at hl 3 rfl) ?_
  refine lv_bipush (v := nI 60) hx hb dX4_init_30 rfl ?_
  refine z_calli0 (va_runS (As := [.int p2, .int (nI 60)]) (rest := [.int (nI (vars + 1)), .ref q23, .ref q23, .ref a]) ⟨hx, hb, hml, hown, hts⟩ (c_nearest l Γ _ _ p2 60 (by omega) (by omega)) (va_cwS 2 hts gX4_init_X4_nearest rfl rfl rfl (by decide +kernel) ⟨Nat.le_of_ble_eq_true rfl, Nat.le_of_ble_eq_true rfl⟩) (zM.pre hK hM) rfl rfl hl.1 rfl (lv_room (Nat.le_of_ble_eq_true rfl)) dX4_init_32 ⟨Nat.le_of_ble_eq_true rfl, Nat.le_of_ble_eq_true rfl⟩) hM (fun r32 G32 H locs hp32 hM => ?_)
  obtain ⟨e32, hGe⟩ := hp32
  rw [hGe] at hM
  refine z_asi (y := nI maxR) (by rw [e32, hmaxR]) ?_
  refine lv_iload_n hx hb dX4_init_35 rfl (lv_at hl 4 rfl) ?_
  refine lv_sipush (v := nI 4000) hx hb dX4_init_36 rfl ?_
  refine z_calli0 (va_runS (As := [.int p3, .int (nI 4000)]) (rest := [.int (nI maxR), .int (nI (vars + 1)), .ref q23, .ref q23, .ref a]) ⟨hx, hb, hml, hown, hts⟩ (c_nearest l Γ _ _ p3 4000 (by omega) (by omega)) (va_cwS 2 hts gX4_init_X4_nearest rfl rfl rfl (by decide +kernel) ⟨Nat.le_of_ble_eq_true rfl, Nat.le_of_ble_eq_true rfl⟩) (zM.pre hK hM) rfl rfl hl.1 rfl (lv_room (Nat.le_of_ble_eq_true rfl)) dX4_init_39 ⟨Nat.le_of_ble_eq_true rfl, Nat.le_of_ble_eq_true rfl⟩) hM (fun r39 G39 H locs hp39 hM => ?_)
  obtain ⟨e39, hGe⟩ := hp39
  rw [hGe] at hM
  refine z_asi (y := nI cz) (by rw [e39, hcz]) ?_
  refine z_callv (va_runI (b := q23) (As := [.int (nI (vars + 1)), .int (nI maxR), .int (nI cz)]) (rest := [.ref q23, .ref a]) ⟨hx, hb, hml, hown, hts⟩ (a_init l Γ _ _ vars maxR cz hv6.2 hm60.2 hz4.2 q23 (zup_s _ _ _)) (cwI 3 hts gX4_init_X0_init rfl rfl rfl (hts (.initialized RX0) (by decide +kernel)) (hts (.methodLink RX4 19 yX0_init) (by decide +kernel)) (hts (.instanceMethod yX0_init) (by decide +kernel)) rfl (by decide +kernel) ⟨Nat.le_of_ble_eq_true rfl, Nat.le_of_ble_eq_true rfl⟩) (zM.pre hK hM) rfl rfl hl.1 rfl (lv_room (Nat.le_of_ble_eq_true rfl)) dX4_init_42 ⟨(by first | exact Nat.le_of_ble_eq_true rfl | (show _ ≤ 90; omega)), (by first | exact Nat.le_of_ble_eq_true rfl | (show _ ≤ 7600; omega))⟩) hM (fun G42 H locs hp42 hM => ?_)
  refine W.widen (k := 3) (n := 4426) (by first | exact Nat.le_of_ble_eq_true rfl | omega) (by first | exact Nat.le_of_ble_eq_true rfl | omega) ?_
  obtain ⟨Y42, hn42, hq942⟩ := hp42
  have hnw42 := NWa.own (n := 81) hq23 hn42 rfl rfl (fun X9 h9 => by simp only [KC, h9 75 rfl, h9 76 rfl]; rfl) hq942
  have hA42 := hnw42.2.2.1 a _ hA14
  have hS := hS.join hnw42 (fun i hi => by cases hi)
  obtain ⟨X0, hXX0⟩ : ∃ X9, X9 = mixX (fun i => (decide (i = 75) || decide (i = 76)) || decide (i = 81)) (mixX (fun i => decide (i = 81)) (fun _ => q23) Y42) X_0 := ⟨_, rfl⟩
  have hX81 : X0 81 = q23 := by rw [hXX0]; exact (mixX_t (by simp [tW, tZ])).trans (mixX_t (decide_eq_true rfl))
  rw [← hXX0] at hS
  refine z_putF (C := RX4) (T := TX4) (N := 16) (fs' := [.int (nI vars), .ref q23, .null, .null, .null, .null, .int (nI 0), .int (nI 0), .int (nI 0), .int (nI 0), .int (nI 0), .null, .null, .null, .null, .null]) hx hb hts hinX4 tyX4 tyX4_ok nmX4 hown hK hM hA42 1 hf_22 rfl rfl (by decide) rfl hnm rfl rfl rfl (Nat.le_of_ble_eq_true rfl) rfl dX4_init_45 (fun H locs hM => ?_)
  have hS := hS.put (.inr (6, [.int (nI vars), .ref q23, .null, .null, .null, .null, .int (nI 0), .int (nI 0), .int (nI 0), .int (nI 0), .int (nI 0), .null, .null, .null, .null, .null]))
  have hA48 : (zup G42 a (.inr (6, [.int (nI vars), .ref q23, .null, .null, .null, .null, .int (nI 0), .int (nI 0), .int (nI 0), .int (nI 0), .int (nI 0), .null, .null, .null, .null, .null]))) a = some (.inr (6, [.int (nI vars), .ref q23, .null, .null, .null, .null, .int (nI 0), .int (nI 0), .int (nI 0), .int (nI 0), .int (nI 0), .null, .null, .null, .null, .null])) := (zup_s _ _ _)
  obtain ⟨P48, hP48⟩ : ∃ g, g = zup G42 a (.inr (6, [.int (nI vars), .ref q23, .null, .null, .null, .null, .int (nI 0), .int (nI 0), .int (nI 0), .int (nI 0), .int (nI 0), .null, .null, .null, .null, .null])) := ⟨_, rfl⟩
  rw [← hP48] at hM hA48
  have hS := hS.map hP48
  refine lv_aload_n hx hb dX4_init_48 rfl (lv_at hl 1 rfl) ?_
  refine z_newO (ci := 4) (fs := [.null, .int (nI 0), .int (nI 0), .int (nI 0)]) (C := RX2) (T := TX2) (N := 4) hx hb hts hinX2 tyX2 tyX2_ok hown (hts (.classLink RX4 26 RX2) (by decide +kernel)) (hts (.instantiable RX2 4) (by decide +kernel)) (hts (.initialized RX2) (by decide +kernel)) hK hM rfl (fun j hj => by rcases (show j = 0 ∨ j = 1 ∨ j = 2 ∨ j = 3 by omega) with rfl | rfl | rfl | rfl <;> rfl) (by first | exact Nat.le_of_ble_eq_true rfl | (show _ ≤ 90; omega)) (by first | exact Nat.le_of_ble_eq_true rfl | (show _ ≤ 7600; omega)) dX4_init_49 (fun q49 H hq49 hM => ?_)
  refine W.widen (k := 4) (n := 4430) (by first | exact Nat.le_of_ble_eq_true rfl | omega) (by first | exact Nat.le_of_ble_eq_true rfl | omega) ?_
  have hn_a_q49 : a ≠ q49 := zfr hq49 hA48
  refine lv_dup hx hb dX4_init_52 rfl ?_
  refine z_callv (va_runIN (host := RX4) (b := q49) (As := []) (rest := [.ref q49, .ref a]) ⟨hx, hb, hml, hown, hts⟩ (g_init l Γ _ _ vars maxR cz q49 (zup_s _ _ _)) ⟨va_cnB 0 hts gX4_init_X2_init_n28 rfl rfl rfl hN.2.1 (hts (.initialized RX2) (by decide +kernel)) (by decide +kernel) ⟨Nat.le_of_ble_eq_true rfl, Nat.le_of_ble_eq_true rfl⟩, rfl, hts (.instanceMethod yX2_init) (by decide +kernel)⟩ (zM.pre hK hM) rfl rfl hl.1 rfl (lv_room (Nat.le_of_ble_eq_true rfl)) dX4_init_53 ⟨(by first | exact Nat.le_of_ble_eq_true rfl | (show _ ≤ 90; omega)), (by first | exact Nat.le_of_ble_eq_true rfl | (show _ ≤ 7600; omega))⟩) hM (fun G53 H locs hp53 hM => ?_)
  refine W.widen (k := 6) (n := 4502) (by first | exact Nat.le_of_ble_eq_true rfl | omega) (by first | exact Nat.le_of_ble_eq_true rfl | omega) ?_
  obtain ⟨Y53, hn53, hq953⟩ := hp53
  have hnw53 := NWa.own (n := 82) hq49 hn53 rfl rfl (fun X9 h9 => by simp only [KC, h9 31 rfl]; rfl) hq953
  have hA53 := hnw53.2.2.1 a _ hA48
  have hS := hS.join hnw53 (fun i hi => by simp only [tW, tZ, Bool.or_eq_true, decide_eq_true_eq, Bool.or_eq_false_iff, decide_eq_false_iff_not, Bool.false_or] at hi ⊢; omega)
  obtain ⟨X1, hXX1⟩ : ∃ X9, X9 = mixX (fun i => tW 31 i || decide (i = 82)) (mixX (fun i => decide (i = 82)) (fun _ => q49) Y53) X0 := ⟨_, rfl⟩
  have hX81 : X1 81 = q23 := by rw [hXX1]; exact (mixX_f (by simp only [tW, tZ, Bool.or_eq_true, decide_eq_true_eq, Bool.or_eq_false_iff, decide_eq_false_iff_not, Bool.false_or]; omega)).trans hX81
  have hX82 : X1 82 = q49 := by rw [hXX1]; exact (mixX_t (by simp [tW, tZ])).trans (mixX_t (decide_eq_true rfl))
  rw [← hXX1] at hS
  refine z_putF (C := RX4) (T := TX4) (N := 16) (fs' := [.int (nI vars), .ref q23, .ref q49, .null, .null, .null, .int (nI 0), .int (nI 0), .int (nI 0), .int (nI 0), .int (nI 0), .null, .null, .null, .null, .null]) hx hb hts hinX4 tyX4 tyX4_ok nmX4 hown hK hM hA53 2 hf_29 rfl rfl (by decide) rfl hnm rfl rfl rfl (Nat.le_of_ble_eq_true rfl) rfl dX4_init_56 (fun H locs hM => ?_)
  have hS := hS.put (.inr (6, [.int (nI vars), .ref q23, .ref q49, .null, .null, .null, .int (nI 0), .int (nI 0), .int (nI 0), .int (nI 0), .int (nI 0), .null, .null, .null, .null, .null]))
  have hA59 : (zup G53 a (.inr (6, [.int (nI vars), .ref q23, .ref q49, .null, .null, .null, .int (nI 0), .int (nI 0), .int (nI 0), .int (nI 0), .int (nI 0), .null, .null, .null, .null, .null]))) a = some (.inr (6, [.int (nI vars), .ref q23, .ref q49, .null, .null, .null, .int (nI 0), .int (nI 0), .int (nI 0), .int (nI 0), .int (nI 0), .null, .null, .null, .null, .null])) := (zup_s _ _ _)
  obtain ⟨P59, hP59⟩ : ∃ g, g = zup G53 a (.inr (6, [.int (nI vars), .ref q23, .ref q49, .null, .null, .null, .int (nI 0), .int (nI 0), .int (nI 0), .int (nI 0), .int (nI 0), .null, .null, .null, .null, .null])) := ⟨_, rfl⟩
  rw [← hP59] at hM hA59
  have hS := hS.map hP59
  refine lv_aload_n hx hb dX4_init_59 rfl (lv_at hl 1 rfl) ?_
  refine lv_iload hx hb dX4_init_60 (lv_at hl 0 rfl) ?_
  refine lv_bipush (v := nI 20) hx hb dX4_init_62 rfl ?_
  refine z_callr (va_runS (As := [.int (nI (vars + 1)), .int (nI 20)]) (rest := [.ref a]) ⟨hx, hb, hml, hown, hts⟩ (c_zeros l Γ _ _ (vars + 1) 20 (by omega) (by omega)) (va_cwS 2 hts gX4_init_X4_zeros rfl rfl rfl (by decide +kernel) ⟨Nat.le_of_ble_eq_true rfl, Nat.le_of_ble_eq_true rfl⟩) (zM.preN hN hK hM) rfl rfl hl.1 rfl (lv_room (Nat.le_of_ble_eq_true rfl)) dX4_init_64 ⟨Nat.le_of_ble_eq_true rfl, Nat.le_of_ble_eq_true rfl⟩) hM (fun r64 G64 H locs hp64 hM => ?_)
  refine W.widen (k := 21) (n := 5013) (by first | exact Nat.le_of_ble_eq_true rfl | omega) (by first | exact Nat.le_of_ble_eq_true rfl | omega) ?_
  obtain ⟨Y64, Z64, hz64⟩ := hp64
  have hnw64 : NW Γ vars maxR cz _ _ _ _ := nw_zeros (w := 84) (b := 0) hz64 (by omega) (by omega) (fun k hk => wrm_20 (by omega)) (fun _ => rfl)
  have hA64 := hnw64.2.2.1 a _ hA59
  have hS := hS.join hnw64 (fun i hi => by simp only [tW, tZ, Bool.or_eq_true, decide_eq_true_eq, Bool.or_eq_false_iff, decide_eq_false_iff_not, Bool.false_or] at hi ⊢; omega)
  obtain ⟨X2, hXX2⟩ : ∃ X9, X9 = mixX (tZ 84 0 (vars + 1)) (xZ 84 0 (vars + 1) r64 Y64 Z64) X1 := ⟨_, rfl⟩
  have hX81 : X2 81 = q23 := by rw [hXX2]; exact (mixX_f (by simp only [tW, tZ, Bool.or_eq_true, decide_eq_true_eq, Bool.or_eq_false_iff, decide_eq_false_iff_not, Bool.false_or]; omega)).trans hX81
  have hX82 : X2 82 = q49 := by rw [hXX2]; exact (mixX_f (by simp only [tW, tZ, Bool.or_eq_true, decide_eq_true_eq, Bool.or_eq_false_iff, decide_eq_false_iff_not, Bool.false_or]; omega)).trans hX82
  have hX84 : X2 84 = r64 := by rw [hXX2]; exact (mixX_t (by simp [tW, tZ])).trans (if_pos rfl)
  rw [← hXX2] at hS
  refine z_putF (C := RX4) (T := TX4) (N := 16) (fs' := [.int (nI vars), .ref q23, .ref q49, .ref r64, .null, .null, .int (nI 0), .int (nI 0), .int (nI 0), .int (nI 0), .int (nI 0), .null, .null, .null, .null, .null]) hx hb hts hinX4 tyX4 tyX4_ok nmX4 hown hK hM hA64 3 hf_37 rfl rfl (by decide) rfl hnm rfl rfl rfl (Nat.le_of_ble_eq_true rfl) rfl dX4_init_67 (fun H locs hM => ?_)
  have hS := hS.put (.inr (6, [.int (nI vars), .ref q23, .ref q49, .ref r64, .null, .null, .int (nI 0), .int (nI 0), .int (nI 0), .int (nI 0), .int (nI 0), .null, .null, .null, .null, .null]))
  have hA70 : (zup G64 a (.inr (6, [.int (nI vars), .ref q23, .ref q49, .ref r64, .null, .null, .int (nI 0), .int (nI 0), .int (nI 0), .int (nI 0), .int (nI 0), .null, .null, .null, .null, .null]))) a = some (.inr (6, [.int (nI vars), .ref q23, .ref q49, .ref r64, .null, .null, .int (nI 0), .int (nI 0), .int (nI 0), .int (nI 0), .int (nI 0), .null, .null, .null, .null, .null])) := (zup_s _ _ _)
  obtain ⟨P70, hP70⟩ : ∃ g, g = zup G64 a (.inr (6, [.int (nI vars), .ref q23, .ref q49, .ref r64, .null, .null, .int (nI 0), .int (nI 0), .int (nI 0), .int (nI 0), .int (nI 0), .null, .null, .null, .null, .null])) := ⟨_, rfl⟩
  rw [← hP70] at hM hA70
  have hS := hS.map hP70
  refine lv_aload_n hx hb dX4_init_70 rfl (lv_at hl 1 rfl) ?_
  refine lv_aload_n hx hb dX4_init_71 rfl (lv_at hl 1 rfl) ?_
  refine z_get (C := RX4) (T := TX4) (N := 16) (v := .int (nI vars)) hx hb hts hinX4 hown hK hM hA70 0 hf_13 rfl rfl (by decide) rfl dX4_init_72 ?_
  refine lv_bipush (v := nI 20) hx hb dX4_init_75 rfl ?_
  refine z_callr (va_runS (As := [.int (nI vars), .int (nI 20)]) (rest := [.ref a]) ⟨hx, hb, hml, hown, hts⟩ (c_zeros l Γ _ _ vars 20 (by omega) (by omega)) (va_cwS 2 hts gX4_init_X4_zeros rfl rfl rfl (by decide +kernel) ⟨Nat.le_of_ble_eq_true rfl, Nat.le_of_ble_eq_true rfl⟩) (zM.preN hN hK hM) rfl rfl hl.1 rfl (lv_room (Nat.le_of_ble_eq_true rfl)) dX4_init_77 ⟨Nat.le_of_ble_eq_true rfl, Nat.le_of_ble_eq_true rfl⟩) hM (fun r77 G77 H locs hp77 hM => ?_)
  refine W.widen (k := 36) (n := 5524) (by first | exact Nat.le_of_ble_eq_true rfl | omega) (by first | exact Nat.le_of_ble_eq_true rfl | omega) ?_
  obtain ⟨Y77, Z77, hz77⟩ := hp77
  have hnw77 : NW Γ vars maxR cz _ _ _ _ := nw_zeros (w := 85) (b := 7) hz77 (by omega) (by omega) (fun k hk => wrm_20 (by omega)) (fun _ => rfl)
  have hA77 := hnw77.2.2.1 a _ hA70
  have hS := hS.join hnw77 (fun i hi => by simp only [tW, tZ, Bool.or_eq_true, decide_eq_true_eq, Bool.or_eq_false_iff, decide_eq_false_iff_not, Bool.false_or] at hi ⊢; omega)
  obtain ⟨X3, hXX3⟩ : ∃ X9, X9 = mixX (tZ 85 7 vars) (xZ 85 7 vars r77 Y77 Z77) X2 := ⟨_, rfl⟩
  have hX81 : X3 81 = q23 := by rw [hXX3]; exact (mixX_f (by simp only [tW, tZ, Bool.or_eq_true, decide_eq_true_eq, Bool.or_eq_false_iff, decide_eq_false_iff_not, Bool.false_or]; omega)).trans hX81
  have hX82 : X3 82 = q49 := by rw [hXX3]; exact (mixX_f (by simp only [tW, tZ, Bool.or_eq_true, decide_eq_true_eq, Bool.or_eq_false_iff, decide_eq_false_iff_not, Bool.false_or]; omega)).trans hX82
  have hX84 : X3 84 = r64 := by rw [hXX3]; exact (mixX_f (by simp only [tW, tZ, Bool.or_eq_true, decide_eq_true_eq, Bool.or_eq_false_iff, decide_eq_false_iff_not, Bool.false_or]; omega)).trans hX84
  have hX85 : X3 85 = r77 := by rw [hXX3]; exact (mixX_t (by simp [tW, tZ])).trans (if_pos rfl)
  rw [← hXX3] at hS
  refine z_putF (C := RX4) (T := TX4) (N := 16) (fs' := [.int (nI vars), .ref q23, .ref q49, .ref r64, .ref r77, .null, .int (nI 0), .int (nI 0), .int (nI 0), .int (nI 0), .int (nI 0), .null, .null, .null, .null, .null]) hx hb hts hinX4 tyX4 tyX4_ok nmX4 hown hK hM hA77 4 hf_41 rfl rfl (by decide) rfl hnm rfl rfl rfl (Nat.le_of_ble_eq_true rfl) rfl dX4_init_80 (fun H locs hM => ?_)
  have hS := hS.put (.inr (6, [.int (nI vars), .ref q23, .ref q49, .ref r64, .ref r77, .null, .int (nI 0), .int (nI 0), .int (nI 0), .int (nI 0), .int (nI 0), .null, .null, .null, .null, .null]))
  have hA83 : (zup G77 a (.inr (6, [.int (nI vars), .ref q23, .ref q49, .ref r64, .ref r77, .null, .int (nI 0), .int (nI 0), .int (nI 0), .int (nI 0), .int (nI 0), .null, .null, .null, .null, .null]))) a = some (.inr (6, [.int (nI vars), .ref q23, .ref q49, .ref r64, .ref r77, .null, .int (nI 0), .int (nI 0), .int (nI 0), .int (nI 0), .int (nI 0), .null, .null, .null, .null, .null])) := (zup_s _ _ _)
  obtain ⟨P83, hP83⟩ : ∃ g, g = zup G77 a (.inr (6, [.int (nI vars), .ref q23, .ref q49, .ref r64, .ref r77, .null, .int (nI 0), .int (nI 0), .int (nI 0), .int (nI 0), .int (nI 0), .null, .null, .null, .null, .null])) := ⟨_, rfl⟩
  rw [← hP83] at hM hA83
  have hS := hS.map hP83
  refine lv_aload_n hx hb dX4_init_83 rfl (lv_at hl 1 rfl) ?_
  refine z_newO (ci := 3) (fs := [.null, .null, .null, .null, .null]) (C := RX1) (T := TX1) (N := 5) hx hb hts hinX1 tyX1 tyX1_ok hown (hts (.classLink RX4 44 RX1) (by decide +kernel)) (hts (.instantiable RX1 5) (by decide +kernel)) (hts (.initialized RX1) (by decide +kernel)) hK hM rfl (fun j hj => by rcases (show j = 0 ∨ j = 1 ∨ j = 2 ∨ j = 3 ∨ j = 4 by omega) with rfl | rfl | rfl | rfl | rfl <;> rfl) (by first | exact Nat.le_of_ble_eq_true rfl | (show _ ≤ 90; omega)) (by first | exact Nat.le_of_ble_eq_true rfl | (show _ ≤ 7600; omega)) dX4_init_84 (fun q84 H hq84 hM => ?_)
  refine W.widen (k := 37) (n := 5529) (by first | exact Nat.le_of_ble_eq_true rfl | omega) (by first | exact Nat.le_of_ble_eq_true rfl | omega) ?_
  have hn_a_q84 : a ≠ q84 := zfr hq84 hA83
  refine lv_dup hx hb dX4_init_87 rfl ?_
  refine z_callv (va_runIN (host := RX4) (b := q84) (As := []) (rest := [.ref q84, .ref a]) ⟨hx, hb, hml, hown, hts⟩ (v_init l Γ _ _ vars maxR cz q84 (zup_s _ _ _)) ⟨va_cnB 0 hts gX4_init_X1_init_n46 rfl rfl rfl hN.2.2 (hts (.initialized RX1) (by decide +kernel)) (by decide +kernel) ⟨Nat.le_of_ble_eq_true rfl, Nat.le_of_ble_eq_true rfl⟩, rfl, hts (.instanceMethod yX1_init) (by decide +kernel)⟩ (zM.pre hK hM) rfl rfl hl.1 rfl (lv_room (Nat.le_of_ble_eq_true rfl)) dX4_init_88 ⟨(by first | exact Nat.le_of_ble_eq_true rfl | (show _ ≤ 90; omega)), (by first | exact Nat.le_of_ble_eq_true rfl | (show _ ≤ 7600; omega))⟩) hM (fun G88 H locs hp88 hM => ?_)
  refine W.widen (k := 45) (n := 5842) (by first | exact Nat.le_of_ble_eq_true rfl | omega) (by first | exact Nat.le_of_ble_eq_true rfl | omega) ?_
  obtain ⟨Y88, hn88, hq988⟩ := hp88
  have hnw88 := NWa.own (n := 83) hq84 hn88 rfl rfl (fun X9 h9 => by simp only [KC, h9 32 rfl, h9 33 rfl, h9 34 rfl, h9 77 rfl, h9 78 rfl]; rfl) hq988
  have hA88 := hnw88.2.2.1 a _ hA83
  have hS := hS.join hnw88 (fun i hi => by simp only [tW, tZ, Bool.or_eq_true, decide_eq_true_eq, Bool.or_eq_false_iff, decide_eq_false_iff_not, Bool.false_or] at hi ⊢; omega)
  obtain ⟨X4, hXX4⟩ : ∃ X9, X9 = mixX (fun i => ((((tW 32 i || tW 33 i) || tW 34 i) || decide (i = 77)) || decide (i = 78)) || decide (i = 83)) (mixX (fun i => decide (i = 83)) (fun _ => q84) Y88) X3 := ⟨_, rfl⟩
  have hX81 : X4 81 = q23 := by rw [hXX4]; exact (mixX_f (by simp only [tW, tZ, Bool.or_eq_true, decide_eq_true_eq, Bool.or_eq_false_iff, decide_eq_false_iff_not, Bool.false_or]; omega)).trans hX81
  have hX82 : X4 82 = q49 := by rw [hXX4]; exact (mixX_f (by simp only [tW, tZ, Bool.or_eq_true, decide_eq_true_eq, Bool.or_eq_false_iff, decide_eq_false_iff_not, Bool.false_or]; omega)).trans hX82
  have hX84 : X4 84 = r64 := by rw [hXX4]; exact (mixX_f (by simp only [tW, tZ, Bool.or_eq_true, decide_eq_true_eq, Bool.or_eq_false_iff, decide_eq_false_iff_not, Bool.false_or]; omega)).trans hX84
  have hX85 : X4 85 = r77 := by rw [hXX4]; exact (mixX_f (by simp only [tW, tZ, Bool.or_eq_true, decide_eq_true_eq, Bool.or_eq_false_iff, decide_eq_false_iff_not, Bool.false_or]; omega)).trans hX85
  have hX83 : X4 83 = q84 := by rw [hXX4]; exact (mixX_t (by simp [tW, tZ])).trans (mixX_t (decide_eq_true rfl))
  rw [← hXX4] at hS
  refine z_putF (C := RX4) (T := TX4) (N := 16) (fs' := [.int (nI vars), .ref q23, .ref q49, .ref r64, .ref r77, .ref q84, .int (nI 0), .int (nI 0), .int (nI 0), .int (nI 0), .int (nI 0), .null, .null, .null, .null, .null]) hx hb hts hinX4 tyX4 tyX4_ok nmX4 hown hK hM hA88 5 hf_47 rfl rfl (by decide) rfl hnm rfl rfl rfl (Nat.le_of_ble_eq_true rfl) rfl dX4_init_91 (fun H locs hM => ?_)
  have hS := hS.put (.inr (6, [.int (nI vars), .ref q23, .ref q49, .ref r64, .ref r77, .ref q84, .int (nI 0), .int (nI 0), .int (nI 0), .int (nI 0), .int (nI 0), .null, .null, .null, .null, .null]))
  have hA94 : (zup G88 a (.inr (6, [.int (nI vars), .ref q23, .ref q49, .ref r64, .ref r77, .ref q84, .int (nI 0), .int (nI 0), .int (nI 0), .int (nI 0), .int (nI 0), .null, .null, .null, .null, .null]))) a = some (.inr (6, [.int (nI vars), .ref q23, .ref q49, .ref r64, .ref r77, .ref q84, .int (nI 0), .int (nI 0), .int (nI 0), .int (nI 0), .int (nI 0), .null, .null, .null, .null, .null])) := (zup_s _ _ _)
  obtain ⟨P94, hP94⟩ : ∃ g, g = zup G88 a (.inr (6, [.int (nI vars), .ref q23, .ref q49, .ref r64, .ref r77, .ref q84, .int (nI 0), .int (nI 0), .int (nI 0), .int (nI 0), .int (nI 0), .null, .null, .null, .null, .null])) := ⟨_, rfl⟩
  rw [← hP94] at hM hA94
  have hS := hS.map hP94
  refine lv_aload_n hx hb dX4_init_94 rfl (lv_at hl 1 rfl) ?_
  refine lv_iload hx hb dX4_init_95 (lv_at hl 0 rfl) ?_
  refine lv_bipush (v := nI 69) hx hb dX4_init_97 rfl ?_
  refine z_callr (va_runS (As := [.int (nI (vars + 1)), .int (nI 69)]) (rest := [.ref a]) ⟨hx, hb, hml, hown, hts⟩ (c_zeros l Γ _ _ (vars + 1) 69 (by omega) (by omega)) (va_cwS 2 hts gX4_init_X4_zeros rfl rfl rfl (by decide +kernel) ⟨Nat.le_of_ble_eq_true rfl, Nat.le_of_ble_eq_true rfl⟩) (zM.preN hN hK hM) rfl rfl hl.1 rfl (lv_room (Nat.le_of_ble_eq_true rfl)) dX4_init_99 ⟨Nat.le_of_ble_eq_true rfl, Nat.le_of_ble_eq_true rfl⟩) hM (fun r99 G99 H locs hp99 hM => ?_)
  refine W.widen (k := 60) (n := 6353) (by first | exact Nat.le_of_ble_eq_true rfl | omega) (by first | exact Nat.le_of_ble_eq_true rfl | omega) ?_
  obtain ⟨Y99, Z99, hz99⟩ := hp99
  have hnw99 : NW Γ vars maxR cz _ _ _ _ := nw_zeros (w := 86) (b := 14) hz99 (by omega) (by omega) (fun k hk => wrm_69 (by omega) (by omega)) (fun _ => rfl)
  have hA99 := hnw99.2.2.1 a _ hA94
  have hS := hS.join hnw99 (fun i hi => by simp only [tW, tZ, Bool.or_eq_true, decide_eq_true_eq, Bool.or_eq_false_iff, decide_eq_false_iff_not, Bool.false_or] at hi ⊢; omega)
  obtain ⟨X5, hXX5⟩ : ∃ X9, X9 = mixX (tZ 86 14 (vars + 1)) (xZ 86 14 (vars + 1) r99 Y99 Z99) X4 := ⟨_, rfl⟩
  have hX81 : X5 81 = q23 := by rw [hXX5]; exact (mixX_f (by simp only [tW, tZ, Bool.or_eq_true, decide_eq_true_eq, Bool.or_eq_false_iff, decide_eq_false_iff_not, Bool.false_or]; omega)).trans hX81
  have hX82 : X5 82 = q49 := by rw [hXX5]; exact (mixX_f (by simp only [tW, tZ, Bool.or_eq_true, decide_eq_true_eq, Bool.or_eq_false_iff, decide_eq_false_iff_not, Bool.false_or]; omega)).trans hX82
  have hX84 : X5 84 = r64 := by rw [hXX5]; exact (mixX_f (by simp only [tW, tZ, Bool.or_eq_true, decide_eq_true_eq, Bool.or_eq_false_iff, decide_eq_false_iff_not, Bool.false_or]; omega)).trans hX84
  have hX85 : X5 85 = r77 := by rw [hXX5]; exact (mixX_f (by simp only [tW, tZ, Bool.or_eq_true, decide_eq_true_eq, Bool.or_eq_false_iff, decide_eq_false_iff_not, Bool.false_or]; omega)).trans hX85
  have hX83 : X5 83 = q84 := by rw [hXX5]; exact (mixX_f (by simp only [tW, tZ, Bool.or_eq_true, decide_eq_true_eq, Bool.or_eq_false_iff, decide_eq_false_iff_not, Bool.false_or]; omega)).trans hX83
  have hX86 : X5 86 = r99 := by rw [hXX5]; exact (mixX_t (by simp [tW, tZ])).trans (if_pos rfl)
  rw [← hXX5] at hS
  refine z_put (C := RX4) (T := TX4) (N := 16) (fs' := [.int (nI vars), .ref q23, .ref q49, .ref r64, .ref r77, .ref q84, .int (nI 0), .int (nI 0), .int (nI 0), .int (nI 0), .int (nI 0), .ref r99, .null, .null, .null, .null]) hx hb hts hinX4 tyX4 tyX4_ok nmX4 hown hK hM hA99 11 hf_51 rfl rfl (by decide) rfl rfl rfl (Nat.le_of_ble_eq_true rfl) rfl dX4_init_102 (fun H locs hM => ?_)
  have hS := hS.put (.inr (6, [.int (nI vars), .ref q23, .ref q49, .ref r64, .ref r77, .ref q84, .int (nI 0), .int (nI 0), .int (nI 0), .int (nI 0), .int (nI 0), .ref r99, .null, .null, .null, .null]))
  have hA105 : (zup G99 a (.inr (6, [.int (nI vars), .ref q23, .ref q49, .ref r64, .ref r77, .ref q84, .int (nI 0), .int (nI 0), .int (nI 0), .int (nI 0), .int (nI 0), .ref r99, .null, .null, .null, .null]))) a = some (.inr (6, [.int (nI vars), .ref q23, .ref q49, .ref r64, .ref r77, .ref q84, .int (nI 0), .int (nI 0), .int (nI 0), .int (nI 0), .int (nI 0), .ref r99, .null, .null, .null, .null])) := (zup_s _ _ _)
  obtain ⟨P105, hP105⟩ : ∃ g, g = zup G99 a (.inr (6, [.int (nI vars), .ref q23, .ref q49, .ref r64, .ref r77, .ref q84, .int (nI 0), .int (nI 0), .int (nI 0), .int (nI 0), .int (nI 0), .ref r99, .null, .null, .null, .null])) := ⟨_, rfl⟩
  rw [← hP105] at hM hA105
  have hS := hS.map hP105
  refine lv_aload_n hx hb dX4_init_105 rfl (lv_at hl 1 rfl) ?_
  refine lv_iload hx hb dX4_init_106 (lv_at hl 0 rfl) ?_
  refine lv_bipush (v := nI 69) hx hb dX4_init_108 rfl ?_
  refine z_callr (va_runS (As := [.int (nI (vars + 1)), .int (nI 69)]) (rest := [.ref a]) ⟨hx, hb, hml, hown, hts⟩ (c_zeros l Γ _ _ (vars + 1) 69 (by omega) (by omega)) (va_cwS 2 hts gX4_init_X4_zeros rfl rfl rfl (by decide +kernel) ⟨Nat.le_of_ble_eq_true rfl, Nat.le_of_ble_eq_true rfl⟩) (zM.preN hN hK hM) rfl rfl hl.1 rfl (lv_room (Nat.le_of_ble_eq_true rfl)) dX4_init_110 ⟨Nat.le_of_ble_eq_true rfl, Nat.le_of_ble_eq_true rfl⟩) hM (fun r110 G110 H locs hp110 hM => ?_)
  refine W.widen (k := 75) (n := 6864) (by first | exact Nat.le_of_ble_eq_true rfl | omega) (by first | exact Nat.le_of_ble_eq_true rfl | omega) ?_
  obtain ⟨Y110, Z110, hz110⟩ := hp110
  have hnw110 : NW Γ vars maxR cz _ _ _ _ := nw_zeros (w := 87) (b := 21) hz110 (by omega) (by omega) (fun k hk => wrm_69 (by omega) (by omega)) (fun _ => rfl)
  have hA110 := hnw110.2.2.1 a _ hA105
  have hS := hS.join hnw110 (fun i hi => by simp only [tW, tZ, Bool.or_eq_true, decide_eq_true_eq, Bool.or_eq_false_iff, decide_eq_false_iff_not, Bool.false_or] at hi ⊢; omega)
  obtain ⟨X6, hXX6⟩ : ∃ X9, X9 = mixX (tZ 87 21 (vars + 1)) (xZ 87 21 (vars + 1) r110 Y110 Z110) X5 := ⟨_, rfl⟩
  have hX81 : X6 81 = q23 := by rw [hXX6]; exact (mixX_f (by simp only [tW, tZ, Bool.or_eq_true, decide_eq_true_eq, Bool.or_eq_false_iff, decide_eq_false_iff_not, Bool.false_or]; omega)).trans hX81
  have hX82 : X6 82 = q49 := by rw [hXX6]; exact (mixX_f (by simp only [tW, tZ, Bool.or_eq_true, decide_eq_true_eq, Bool.or_eq_false_iff, decide_eq_false_iff_not, Bool.false_or]; omega)).trans hX82
  have hX84 : X6 84 = r64 := by rw [hXX6]; exact (mixX_f (by simp only [tW, tZ, Bool.or_eq_true, decide_eq_true_eq, Bool.or_eq_false_iff, decide_eq_false_iff_not, Bool.false_or]; omega)).trans hX84
  have hX85 : X6 85 = r77 := by rw [hXX6]; exact (mixX_f (by simp only [tW, tZ, Bool.or_eq_true, decide_eq_true_eq, Bool.or_eq_false_iff, decide_eq_false_iff_not, Bool.false_or]; omega)).trans hX85
  have hX83 : X6 83 = q84 := by rw [hXX6]; exact (mixX_f (by simp only [tW, tZ, Bool.or_eq_true, decide_eq_true_eq, Bool.or_eq_false_iff, decide_eq_false_iff_not, Bool.false_or]; omega)).trans hX83
  have hX86 : X6 86 = r99 := by rw [hXX6]; exact (mixX_f (by simp only [tW, tZ, Bool.or_eq_true, decide_eq_true_eq, Bool.or_eq_false_iff, decide_eq_false_iff_not, Bool.false_or]; omega)).trans hX86
  have hX87 : X6 87 = r110 := by rw [hXX6]; exact (mixX_t (by simp [tW, tZ])).trans (if_pos rfl)
  rw [← hXX6] at hS
  refine z_put (C := RX4) (T := TX4) (N := 16) (fs' := [.int (nI vars), .ref q23, .ref q49, .ref r64, .ref r77, .ref q84, .int (nI 0), .int (nI 0), .int (nI 0), .int (nI 0), .int (nI 0), .ref r99, .ref r110, .null, .null, .null]) hx hb hts hinX4 tyX4 tyX4_ok nmX4 hown hK hM hA110 12 hf_54 rfl rfl (by decide) rfl rfl rfl (Nat.le_of_ble_eq_true rfl) rfl dX4_init_113 (fun H locs hM => ?_)
  have hS := hS.put (.inr (6, [.int (nI vars), .ref q23, .ref q49, .ref r64, .ref r77, .ref q84, .int (nI 0), .int (nI 0), .int (nI 0), .int (nI 0), .int (nI 0), .ref r99, .ref r110, .null, .null, .null]))
  have hA116 : (zup G110 a (.inr (6, [.int (nI vars), .ref q23, .ref q49, .ref r64, .ref r77, .ref q84, .int (nI 0), .int (nI 0), .int (nI 0), .int (nI 0), .int (nI 0), .ref r99, .ref r110, .null, .null, .null]))) a = some (.inr (6, [.int (nI vars), .ref q23, .ref q49, .ref r64, .ref r77, .ref q84, .int (nI 0), .int (nI 0), .int (nI 0), .int (nI 0), .int (nI 0), .ref r99, .ref r110, .null, .null, .null])) := (zup_s _ _ _)
  obtain ⟨P116, hP116⟩ : ∃ g, g = zup G110 a (.inr (6, [.int (nI vars), .ref q23, .ref q49, .ref r64, .ref r77, .ref q84, .int (nI 0), .int (nI 0), .int (nI 0), .int (nI 0), .int (nI 0), .ref r99, .ref r110, .null, .null, .null])) := ⟨_, rfl⟩
  rw [← hP116] at hM hA116
  have hS := hS.map hP116
  refine lv_aload_n hx hb dX4_init_116 rfl (lv_at hl 1 rfl) ?_
  refine z_newO (ci := 5) (fs := [.null, .int (nI 0), .int (nI 0)]) (C := RX3) (T := TX3) (N := 3) hx hb hts hinX3 tyX3 tyX3_ok hown (hts (.classLink RX4 57 RX3) (by decide +kernel)) (hts (.instantiable RX3 3) (by decide +kernel)) (hts (.initialized RX3) (by decide +kernel)) hK hM rfl (fun j hj => by rcases (show j = 0 ∨ j = 1 ∨ j = 2 by omega) with rfl | rfl | rfl <;> rfl) (by first | exact Nat.le_of_ble_eq_true rfl | (show _ ≤ 90; omega)) (by first | exact Nat.le_of_ble_eq_true rfl | (show _ ≤ 7600; omega)) dX4_init_117 (fun q117 H hq117 hM => ?_)
  refine W.widen (k := 76) (n := 6867) (by first | exact Nat.le_of_ble_eq_true rfl | omega) (by first | exact Nat.le_of_ble_eq_true rfl | omega) ?_
  have hn_a_q117 : a ≠ q117 := zfr hq117 hA116
  refine lv_dup hx hb dX4_init_120 rfl ?_
  refine lv_bipush (v := nI 48) hx hb dX4_init_121 rfl ?_
  refine z_callv (va_runI (b := q117) (As := [.int (nI 48)]) (rest := [.ref q117, .ref a]) ⟨hx, hb, hml, hown, hts⟩ (w_init l Γ _ _ q117 48 (by omega) (zup_s _ _ _)) (cwI 1 hts gX4_init_X3_init rfl rfl rfl (hts (.initialized RX3) (by decide +kernel)) (hts (.methodLink RX4 59 yX3_init) (by decide +kernel)) (hts (.instanceMethod yX3_init) (by decide +kernel)) rfl (by decide +kernel) ⟨Nat.le_of_ble_eq_true rfl, Nat.le_of_ble_eq_true rfl⟩) (zM.pre hK hM) rfl rfl hl.1 rfl (lv_room (Nat.le_of_ble_eq_true rfl)) dX4_init_123 ⟨(by first | exact Nat.le_of_ble_eq_true rfl | (show _ ≤ 90; omega)), (by first | exact Nat.le_of_ble_eq_true rfl | (show _ ≤ 7600; omega))⟩) hM (fun G123 H locs hp123 hM => ?_)
  refine W.widen (k := 77) (n := 6936) (by first | exact Nat.le_of_ble_eq_true rfl | omega) (by first | exact Nat.le_of_ble_eq_true rfl | omega) ?_
  obtain ⟨l123, hl123, rfl⟩ := hp123
  have hn_a_l123 : a ≠ l123 := zfr hl123 ((zup_n _ _ hn_a_q117).trans hA116)
  have hn_q117_l123 : q117 ≠ l123 := zfr hl123 (zup_s _ _ _)
  have hM : zM Γ A s.heap (zup (zup P116 q117 (.inr (5, [.ref l123, .int (nI 0), .int (nI 0)]))) l123 (zI Γ 48 (fun _ => 0))) H locs := by
    rw [zup_comm _ _ _ (Ne.symm hn_q117_l123), zup_zup] at hM; exact hM
  have hnw123 : NW Γ vars maxR cz _ _ _ _ := nw_whole (i := 28) (by omega) hq117 (zfn hl123).2 (zfn hl123).1 rfl
  have hS := hS.join hnw123 (fun i hi => by simp only [tW, tZ, Bool.or_eq_true, decide_eq_true_eq, Bool.or_eq_false_iff, decide_eq_false_iff_not, Bool.false_or] at hi ⊢; omega)
  obtain ⟨X7, hXX7⟩ : ∃ X9, X9 = mixX (tW 28) (xW 28 q117 l123) X6 := ⟨_, rfl⟩
  have hX81 : X7 81 = q23 := by rw [hXX7]; exact (mixX_f (by simp only [tW, tZ, Bool.or_eq_true, decide_eq_true_eq, Bool.or_eq_false_iff, decide_eq_false_iff_not, Bool.false_or]; omega)).trans hX81
  have hX82 : X7 82 = q49 := by rw [hXX7]; exact (mixX_f (by simp only [tW, tZ, Bool.or_eq_true, decide_eq_true_eq, Bool.or_eq_false_iff, decide_eq_false_iff_not, Bool.false_or]; omega)).trans hX82
  have hX84 : X7 84 = r64 := by rw [hXX7]; exact (mixX_f (by simp only [tW, tZ, Bool.or_eq_true, decide_eq_true_eq, Bool.or_eq_false_iff, decide_eq_false_iff_not, Bool.false_or]; omega)).trans hX84
  have hX85 : X7 85 = r77 := by rw [hXX7]; exact (mixX_f (by simp only [tW, tZ, Bool.or_eq_true, decide_eq_true_eq, Bool.or_eq_false_iff, decide_eq_false_iff_not, Bool.false_or]; omega)).trans hX85
  have hX83 : X7 83 = q84 := by rw [hXX7]; exact (mixX_f (by simp only [tW, tZ, Bool.or_eq_true, decide_eq_true_eq, Bool.or_eq_false_iff, decide_eq_false_iff_not, Bool.false_or]; omega)).trans hX83
  have hX86 : X7 86 = r99 := by rw [hXX7]; exact (mixX_f (by simp only [tW, tZ, Bool.or_eq_true, decide_eq_true_eq, Bool.or_eq_false_iff, decide_eq_false_iff_not, Bool.false_or]; omega)).trans hX86
  have hX87 : X7 87 = r110 := by rw [hXX7]; exact (mixX_f (by simp only [tW, tZ, Bool.or_eq_true, decide_eq_true_eq, Bool.or_eq_false_iff, decide_eq_false_iff_not, Bool.false_or]; omega)).trans hX87
  have hX28 : X7 28 = q117 := by rw [hXX7]; exact (mixX_t (by simp [tW, tZ])).trans (xW_i _ _ _)
  rw [← hXX7] at hS
  refine z_putF (C := RX4) (T := TX4) (N := 16) (fs' := [.int (nI vars), .ref q23, .ref q49, .ref r64, .ref r77, .ref q84, .int (nI 0), .int (nI 0), .int (nI 0), .int (nI 0), .int (nI 0), .ref r99, .ref r110, .ref q117, .null, .null]) hx hb hts hinX4 tyX4 tyX4_ok nmX4 hown hK hM ((zup_n _ _ hn_a_l123).trans ((zup_n _ _ hn_a_q117).trans hA116)) 13 hf_62 rfl rfl (by decide) rfl hnm rfl rfl rfl (Nat.le_of_ble_eq_true rfl) rfl dX4_init_126 (fun H locs hM => ?_)
  have hS := hS.put (.inr (6, [.int (nI vars), .ref q23, .ref q49, .ref r64, .ref r77, .ref q84, .int (nI 0), .int (nI 0), .int (nI 0), .int (nI 0), .int (nI 0), .ref r99, .ref r110, .ref q117, .null, .null]))
  have hA129 : (zup (zup (zup P116 q117 (.inr (5, [.ref l123, .int (nI 0), .int (nI 0)]))) l123 (zI Γ 48 (fun _ => 0))) a (.inr (6, [.int (nI vars), .ref q23, .ref q49, .ref r64, .ref r77, .ref q84, .int (nI 0), .int (nI 0), .int (nI 0), .int (nI 0), .int (nI 0), .ref r99, .ref r110, .ref q117, .null, .null]))) a = some (.inr (6, [.int (nI vars), .ref q23, .ref q49, .ref r64, .ref r77, .ref q84, .int (nI 0), .int (nI 0), .int (nI 0), .int (nI 0), .int (nI 0), .ref r99, .ref r110, .ref q117, .null, .null])) := (zup_s _ _ _)
  obtain ⟨P129, hP129⟩ : ∃ g, g = zup (zup (zup P116 q117 (.inr (5, [.ref l123, .int (nI 0), .int (nI 0)]))) l123 (zI Γ 48 (fun _ => 0))) a (.inr (6, [.int (nI vars), .ref q23, .ref q49, .ref r64, .ref r77, .ref q84, .int (nI 0), .int (nI 0), .int (nI 0), .int (nI 0), .int (nI 0), .ref r99, .ref r110, .ref q117, .null, .null])) := ⟨_, rfl⟩
  rw [← hP129] at hM hA129
  have hS := hS.map hP129
  refine lv_aload_n hx hb dX4_init_129 rfl (lv_at hl 1 rfl) ?_
  refine z_newO (ci := 5) (fs := [.null, .int (nI 0), .int (nI 0)]) (C := RX3) (T := TX3) (N := 3) hx hb hts hinX3 tyX3 tyX3_ok hown (hts (.classLink RX4 57 RX3) (by decide +kernel)) (hts (.instantiable RX3 3) (by decide +kernel)) (hts (.initialized RX3) (by decide +kernel)) hK hM rfl (fun j hj => by rcases (show j = 0 ∨ j = 1 ∨ j = 2 by omega) with rfl | rfl | rfl <;> rfl) (by first | exact Nat.le_of_ble_eq_true rfl | (show _ ≤ 90; omega)) (by first | exact Nat.le_of_ble_eq_true rfl | (show _ ≤ 7600; omega)) dX4_init_130 (fun q130 H hq130 hM => ?_)
  refine W.widen (k := 78) (n := 6939) (by first | exact Nat.le_of_ble_eq_true rfl | omega) (by first | exact Nat.le_of_ble_eq_true rfl | omega) ?_
  have hn_a_q130 : a ≠ q130 := zfr hq130 hA129
  refine lv_dup hx hb dX4_init_133 rfl ?_
  refine lv_bipush (v := nI 69) hx hb dX4_init_134 rfl ?_
  refine z_callv (va_runI (b := q130) (As := [.int (nI 69)]) (rest := [.ref q130, .ref a]) ⟨hx, hb, hml, hown, hts⟩ (w_init l Γ _ _ q130 69 (by omega) (zup_s _ _ _)) (cwI 1 hts gX4_init_X3_init rfl rfl rfl (hts (.initialized RX3) (by decide +kernel)) (hts (.methodLink RX4 59 yX3_init) (by decide +kernel)) (hts (.instanceMethod yX3_init) (by decide +kernel)) rfl (by decide +kernel) ⟨Nat.le_of_ble_eq_true rfl, Nat.le_of_ble_eq_true rfl⟩) (zM.pre hK hM) rfl rfl hl.1 rfl (lv_room (Nat.le_of_ble_eq_true rfl)) dX4_init_136 ⟨(by first | exact Nat.le_of_ble_eq_true rfl | (show _ ≤ 90; omega)), (by first | exact Nat.le_of_ble_eq_true rfl | (show _ ≤ 7600; omega))⟩) hM (fun G136 H locs hp136 hM => ?_)
  refine W.widen (k := 79) (n := 7008) (by first | exact Nat.le_of_ble_eq_true rfl | omega) (by first | exact Nat.le_of_ble_eq_true rfl | omega) ?_
  obtain ⟨l136, hl136, rfl⟩ := hp136
  have hn_a_l136 : a ≠ l136 := zfr hl136 ((zup_n _ _ hn_a_q130).trans hA129)
  have hn_q130_l136 : q130 ≠ l136 := zfr hl136 (zup_s _ _ _)
  have hM : zM Γ A s.heap (zup (zup P129 q130 (.inr (5, [.ref l136, .int (nI 0), .int (nI 0)]))) l136 (zI Γ 69 (fun _ => 0))) H locs := by
    rw [zup_comm _ _ _ (Ne.symm hn_q130_l136), zup_zup] at hM; exact hM
  have hnw136 : NW Γ vars maxR cz _ _ _ _ := nw_whole (i := 29) (by omega) hq130 (zfn hl136).2 (zfn hl136).1 rfl
  have hS := hS.join hnw136 (fun i hi => by simp only [tW, tZ, Bool.or_eq_true, decide_eq_true_eq, Bool.or_eq_false_iff, decide_eq_false_iff_not, Bool.false_or] at hi ⊢; omega)
  obtain ⟨X8, hXX8⟩ : ∃ X9, X9 = mixX (tW 29) (xW 29 q130 l136) X7 := ⟨_, rfl⟩
  have hX81 : X8 81 = q23 := by rw [hXX8]; exact (mixX_f (by simp only [tW, tZ, Bool.or_eq_true, decide_eq_true_eq, Bool.or_eq_false_iff, decide_eq_false_iff_not, Bool.false_or]; omega)).trans hX81
  have hX82 : X8 82 = q49 := by rw [hXX8]; exact (mixX_f (by simp only [tW, tZ, Bool.or_eq_true, decide_eq_true_eq, Bool.or_eq_false_iff, decide_eq_false_iff_not, Bool.false_or]; omega)).trans hX82
  have hX84 : X8 84 = r64 := by rw [hXX8]; exact (mixX_f (by simp only [tW, tZ, Bool.or_eq_true, decide_eq_true_eq, Bool.or_eq_false_iff, decide_eq_false_iff_not, Bool.false_or]; omega)).trans hX84
  have hX85 : X8 85 = r77 := by rw [hXX8]; exact (mixX_f (by simp only [tW, tZ, Bool.or_eq_true, decide_eq_true_eq, Bool.or_eq_false_iff, decide_eq_false_iff_not, Bool.false_or]; omega)).trans hX85
  have hX83 : X8 83 = q84 := by rw [hXX8]; exact (mixX_f (by simp only [tW, tZ, Bool.or_eq_true, decide_eq_true_eq, Bool.or_eq_false_iff, decide_eq_false_iff_not, Bool.false_or]; omega)).trans hX83
  have hX86 : X8 86 = r99 := by rw [hXX8]; exact (mixX_f (by simp only [tW, tZ, Bool.or_eq_true, decide_eq_true_eq, Bool.or_eq_false_iff, decide_eq_false_iff_not, Bool.false_or]; omega)).trans hX86
  have hX87 : X8 87 = r110 := by rw [hXX8]; exact (mixX_f (by simp only [tW, tZ, Bool.or_eq_true, decide_eq_true_eq, Bool.or_eq_false_iff, decide_eq_false_iff_not, Bool.false_or]; omega)).trans hX87
  have hX28 : X8 28 = q117 := by rw [hXX8]; exact (mixX_f (by simp only [tW, tZ, Bool.or_eq_true, decide_eq_true_eq, Bool.or_eq_false_iff, decide_eq_false_iff_not, Bool.false_or]; omega)).trans hX28
  have hX29 : X8 29 = q130 := by rw [hXX8]; exact (mixX_t (by simp [tW, tZ])).trans (xW_i _ _ _)
  rw [← hXX8] at hS
  refine z_putF (C := RX4) (T := TX4) (N := 16) (fs' := [.int (nI vars), .ref q23, .ref q49, .ref r64, .ref r77, .ref q84, .int (nI 0), .int (nI 0), .int (nI 0), .int (nI 0), .int (nI 0), .ref r99, .ref r110, .ref q117, .ref q130, .null]) hx hb hts hinX4 tyX4 tyX4_ok nmX4 hown hK hM ((zup_n _ _ hn_a_l136).trans ((zup_n _ _ hn_a_q130).trans hA129)) 14 hf_66 rfl rfl (by decide) rfl hnm rfl rfl rfl (Nat.le_of_ble_eq_true rfl) rfl dX4_init_139 (fun H locs hM => ?_)
  have hS := hS.put (.inr (6, [.int (nI vars), .ref q23, .ref q49, .ref r64, .ref r77, .ref q84, .int (nI 0), .int (nI 0), .int (nI 0), .int (nI 0), .int (nI 0), .ref r99, .ref r110, .ref q117, .ref q130, .null]))
  have hA142 : (zup (zup (zup P129 q130 (.inr (5, [.ref l136, .int (nI 0), .int (nI 0)]))) l136 (zI Γ 69 (fun _ => 0))) a (.inr (6, [.int (nI vars), .ref q23, .ref q49, .ref r64, .ref r77, .ref q84, .int (nI 0), .int (nI 0), .int (nI 0), .int (nI 0), .int (nI 0), .ref r99, .ref r110, .ref q117, .ref q130, .null]))) a = some (.inr (6, [.int (nI vars), .ref q23, .ref q49, .ref r64, .ref r77, .ref q84, .int (nI 0), .int (nI 0), .int (nI 0), .int (nI 0), .int (nI 0), .ref r99, .ref r110, .ref q117, .ref q130, .null])) := (zup_s _ _ _)
  obtain ⟨P142, hP142⟩ : ∃ g, g = zup (zup (zup P129 q130 (.inr (5, [.ref l136, .int (nI 0), .int (nI 0)]))) l136 (zI Γ 69 (fun _ => 0))) a (.inr (6, [.int (nI vars), .ref q23, .ref q49, .ref r64, .ref r77, .ref q84, .int (nI 0), .int (nI 0), .int (nI 0), .int (nI 0), .int (nI 0), .ref r99, .ref r110, .ref q117, .ref q130, .null])) := ⟨_, rfl⟩
  rw [← hP142] at hM hA142
  have hS := hS.map hP142
  refine lv_aload_n hx hb dX4_init_142 rfl (lv_at hl 1 rfl) ?_
  refine z_newO (ci := 5) (fs := [.null, .int (nI 0), .int (nI 0)]) (C := RX3) (T := TX3) (N := 3) hx hb hts hinX3 tyX3 tyX3_ok hown (hts (.classLink RX4 57 RX3) (by decide +kernel)) (hts (.instantiable RX3 3) (by decide +kernel)) (hts (.initialized RX3) (by decide +kernel)) hK hM rfl (fun j hj => by rcases (show j = 0 ∨ j = 1 ∨ j = 2 by omega) with rfl | rfl | rfl <;> rfl) (by first | exact Nat.le_of_ble_eq_true rfl | (show _ ≤ 90; omega)) (by first | exact Nat.le_of_ble_eq_true rfl | (show _ ≤ 7600; omega)) dX4_init_143 (fun q143 H hq143 hM => ?_)
  refine W.widen (k := 80) (n := 7011) (by first | exact Nat.le_of_ble_eq_true rfl | omega) (by first | exact Nat.le_of_ble_eq_true rfl | omega) ?_
  have hn_a_q143 : a ≠ q143 := zfr hq143 hA142
  refine lv_dup hx hb dX4_init_146 rfl ?_
  refine lv_bipush (v := nI 69) hx hb dX4_init_147 rfl ?_
  refine z_callv (va_runI (b := q143) (As := [.int (nI 69)]) (rest := [.ref q143, .ref a]) ⟨hx, hb, hml, hown, hts⟩ (w_init l Γ _ _ q143 69 (by omega) (zup_s _ _ _)) (cwI 1 hts gX4_init_X3_init rfl rfl rfl (hts (.initialized RX3) (by decide +kernel)) (hts (.methodLink RX4 59 yX3_init) (by decide +kernel)) (hts (.instanceMethod yX3_init) (by decide +kernel)) rfl (by decide +kernel) ⟨Nat.le_of_ble_eq_true rfl, Nat.le_of_ble_eq_true rfl⟩) (zM.pre hK hM) rfl rfl hl.1 rfl (lv_room (Nat.le_of_ble_eq_true rfl)) dX4_init_149 ⟨(by first | exact Nat.le_of_ble_eq_true rfl | (show _ ≤ 90; omega)), (by first | exact Nat.le_of_ble_eq_true rfl | (show _ ≤ 7600; omega))⟩) hM (fun G149 H locs hp149 hM => ?_)
  refine W.widen (k := 81) (n := 7080) (by first | exact Nat.le_of_ble_eq_true rfl | omega) (by first | exact Nat.le_of_ble_eq_true rfl | omega) ?_
  obtain ⟨l149, hl149, rfl⟩ := hp149
  have hn_a_l149 : a ≠ l149 := zfr hl149 ((zup_n _ _ hn_a_q143).trans hA142)
  have hn_q143_l149 : q143 ≠ l149 := zfr hl149 (zup_s _ _ _)
  have hM : zM Γ A s.heap (zup (zup P142 q143 (.inr (5, [.ref l149, .int (nI 0), .int (nI 0)]))) l149 (zI Γ 69 (fun _ => 0))) H locs := by
    rw [zup_comm _ _ _ (Ne.symm hn_q143_l149), zup_zup] at hM; exact hM
  have hnw149 : NW Γ vars maxR cz _ _ _ _ := nw_whole (i := 30) (by omega) hq143 (zfn hl149).2 (zfn hl149).1 rfl
  have hS := hS.join hnw149 (fun i hi => by simp only [tW, tZ, Bool.or_eq_true, decide_eq_true_eq, Bool.or_eq_false_iff, decide_eq_false_iff_not, Bool.false_or] at hi ⊢; omega)
  obtain ⟨X9, hXX9⟩ : ∃ X9, X9 = mixX (tW 30) (xW 30 q143 l149) X8 := ⟨_, rfl⟩
  have hX81 : X9 81 = q23 := by rw [hXX9]; exact (mixX_f (by simp only [tW, tZ, Bool.or_eq_true, decide_eq_true_eq, Bool.or_eq_false_iff, decide_eq_false_iff_not, Bool.false_or]; omega)).trans hX81
  have hX82 : X9 82 = q49 := by rw [hXX9]; exact (mixX_f (by simp only [tW, tZ, Bool.or_eq_true, decide_eq_true_eq, Bool.or_eq_false_iff, decide_eq_false_iff_not, Bool.false_or]; omega)).trans hX82
  have hX84 : X9 84 = r64 := by rw [hXX9]; exact (mixX_f (by simp only [tW, tZ, Bool.or_eq_true, decide_eq_true_eq, Bool.or_eq_false_iff, decide_eq_false_iff_not, Bool.false_or]; omega)).trans hX84
  have hX85 : X9 85 = r77 := by rw [hXX9]; exact (mixX_f (by simp only [tW, tZ, Bool.or_eq_true, decide_eq_true_eq, Bool.or_eq_false_iff, decide_eq_false_iff_not, Bool.false_or]; omega)).trans hX85
  have hX83 : X9 83 = q84 := by rw [hXX9]; exact (mixX_f (by simp only [tW, tZ, Bool.or_eq_true, decide_eq_true_eq, Bool.or_eq_false_iff, decide_eq_false_iff_not, Bool.false_or]; omega)).trans hX83
  have hX86 : X9 86 = r99 := by rw [hXX9]; exact (mixX_f (by simp only [tW, tZ, Bool.or_eq_true, decide_eq_true_eq, Bool.or_eq_false_iff, decide_eq_false_iff_not, Bool.false_or]; omega)).trans hX86
  have hX87 : X9 87 = r110 := by rw [hXX9]; exact (mixX_f (by simp only [tW, tZ, Bool.or_eq_true, decide_eq_true_eq, Bool.or_eq_false_iff, decide_eq_false_iff_not, Bool.false_or]; omega)).trans hX87
  have hX28 : X9 28 = q117 := by rw [hXX9]; exact (mixX_f (by simp only [tW, tZ, Bool.or_eq_true, decide_eq_true_eq, Bool.or_eq_false_iff, decide_eq_false_iff_not, Bool.false_or]; omega)).trans hX28
  have hX29 : X9 29 = q130 := by rw [hXX9]; exact (mixX_f (by simp only [tW, tZ, Bool.or_eq_true, decide_eq_true_eq, Bool.or_eq_false_iff, decide_eq_false_iff_not, Bool.false_or]; omega)).trans hX29
  have hX30 : X9 30 = q143 := by rw [hXX9]; exact (mixX_t (by simp [tW, tZ])).trans (xW_i _ _ _)
  rw [← hXX9] at hS
  refine z_putF (C := RX4) (T := TX4) (N := 16) (fs' := [.int (nI vars), .ref q23, .ref q49, .ref r64, .ref r77, .ref q84, .int (nI 0), .int (nI 0), .int (nI 0), .int (nI 0), .int (nI 0), .ref r99, .ref r110, .ref q117, .ref q130, .ref q143]) hx hb hts hinX4 tyX4 tyX4_ok nmX4 hown hK hM ((zup_n _ _ hn_a_l149).trans ((zup_n _ _ hn_a_q143).trans hA142)) 15 hf_69 rfl rfl (by decide) rfl hnm rfl rfl rfl (Nat.le_of_ble_eq_true rfl) rfl dX4_init_152 (fun H locs hM => ?_)
  have hS := hS.put (.inr (6, [.int (nI vars), .ref q23, .ref q49, .ref r64, .ref r77, .ref q84, .int (nI 0), .int (nI 0), .int (nI 0), .int (nI 0), .int (nI 0), .ref r99, .ref r110, .ref q117, .ref q130, .ref q143]))
  have hA155 : (zup (zup (zup P142 q143 (.inr (5, [.ref l149, .int (nI 0), .int (nI 0)]))) l149 (zI Γ 69 (fun _ => 0))) a (.inr (6, [.int (nI vars), .ref q23, .ref q49, .ref r64, .ref r77, .ref q84, .int (nI 0), .int (nI 0), .int (nI 0), .int (nI 0), .int (nI 0), .ref r99, .ref r110, .ref q117, .ref q130, .ref q143]))) a = some (.inr (6, [.int (nI vars), .ref q23, .ref q49, .ref r64, .ref r77, .ref q84, .int (nI 0), .int (nI 0), .int (nI 0), .int (nI 0), .int (nI 0), .ref r99, .ref r110, .ref q117, .ref q130, .ref q143])) := (zup_s _ _ _)
  obtain ⟨P155, hP155⟩ : ∃ g, g = zup (zup (zup P142 q143 (.inr (5, [.ref l149, .int (nI 0), .int (nI 0)]))) l149 (zI Γ 69 (fun _ => 0))) a (.inr (6, [.int (nI vars), .ref q23, .ref q49, .ref r64, .ref r77, .ref q84, .int (nI 0), .int (nI 0), .int (nI 0), .int (nI 0), .int (nI 0), .ref r99, .ref r110, .ref q117, .ref q130, .ref q143])) := ⟨_, rfl⟩
  rw [← hP155] at hM hA155
  have hS := hS.map hP155
  rw [hQ]
  rw [hAe] at hM
  exact z_vretW (Nat.le_of_ble_eq_true rfl) (Nat.le_of_ble_eq_true rfl) hsz hx hb hr hlocks hK hM dX4_init_155 (crep_new hv6 hm60 hz4.2 hS (fun i hi h80 => by unfold vd vw at hi; simp only [tW, tZ, Bool.or_eq_true, decide_eq_true_eq, Bool.false_or]; omega) (by rw [hA155, hX81, hX82, hX84, hX85, hX83, hX86, hX87, hX28, hX29, hX30]))
