/-! the law's helpers -/
def zPreP (Γ : zT) (G : zG) (sz : Nat) (Ex : State → Prop) : State → Prop := fun U => zPre Γ G sz U ∧ Ex U
theorem z_startP {l : Launch} {y : MethodName} {ws ws' : List Cond} {rm : Room} {Γ : zT} {G : zG} {sz : Nat} {Ex : State → Prop} {av : List Value} {Qc : Array Value → State → Outcome → State → Prop} {mc ms : Nat} {cc : ByteArray} {maxL : Nat} {ret : Option FieldType}
    (hy : plainName y.cls = true) (hw : ws = Cond.code y cc maxL ret :: ws') (hlen : (lg_sl av).length ≤ maxL)
    (body : ∀ (p : Program) (e : Env) (s : State) (m : MethodId) (args : Array Value) (below : List Frame) (meth : Method) (c : Code) (ls : Array Slot) (Q : State → Prop), Ex s → Q = MQ below Qc args s mc ms (zA G sz) → s.heap.size = sz → p.tables.exec = Jvm.exec → c.code = cc → meth.sig.returnType = ret → c.maxLocals = maxL → s.vm.findClass y.cls = some m.cls → (∀ w ∈ ws, w.before args s = true) → meth.locks = false → meth.name = y.name → zK Γ s → zM Γ (zA G s.heap.size) s.heap G s.heap [] → lv_has ls maxL (lv_args 0 av) →
      W p l e rm s m args below meth c s.heap [] 0 0 Q (F0 m 0 ls [])) : Met l y ws rm (va_Pc av (zPreP Γ G sz Ex)) Qc mc ms (zA G sz) := by
  refine Met.ofW (cc := cc) (maxL := maxL) (ret := ret) hy hw ?_
  intro p e s m args below meth c s₁ B hml hv
  obtain ⟨rfl, ⟨hsz, hP, hK⟩, hN⟩ := hv
  have hl := lv_entry av (n := maxL) hlen
  rw [lg_entry_eq]
  exact body p e s m _ below meth c _ _ hN rfl hsz B.exec B.bytes B.returns hml (findClass_of_methodNamed B.named) (atoms_spec (ws := ws) B.pre) B.notSynchronized (name_of_methodNamed B.named B.method).1 hK (zM.self hP) hl
def sxE (G : zG) (sz b L : Nat) (xs : Nat → Int32) : State → Prop := fun U => va_X b L xs U U.heap ∧ b < sz ∧ ¬ zA G sz b
theorem zM.preX {Γ : zT} {A : Nat → Prop} {H0 H : Heap} {G : zG} {locs : List Loc} {s : State} {As : List Value} {b L : Nat} {xs : Nat → Int32} (hX : va_X b L xs s H0) (hbl : b < H0.size) (hbA : ¬ A b) (hK : zK Γ s) (hM : zM Γ A H0 G H locs) : PreS s H (va_Pc As (zPreP Γ G H.size (sxE G H.size b L xs))) As :=
  ⟨fun a U g mk q => by
    obtain ⟨q0, ⟨q1, qP, qK⟩, qX, q2⟩ := q
    exact ⟨q0, ⟨q1, qP, va_K.moved (u := U) (U := U.calling g mk a) (Vm.Alike.refl U.vm) qK⟩, va_X.moved (u := U) (U := U.calling g mk a) (Vm.Alike.refl U.vm) qX, q2⟩,
   fun U hU hW => ⟨rfl, ⟨by rw [hU], by rw [hU]; exact hM.1, va_K.moved hW.alike hK⟩, by rw [hU]; exact va_X.moved hW.alike (hX.kept (hM.2.2.1.2.1 b hbl hbA)), Nat.lt_of_lt_of_le hbl hM.2.2.1.1, fun h => hbA (hM.free b h)⟩⟩
set_option maxRecDepth 100000 in
set_option maxHeartbeats 4000000 in
/-- the script's cell, or 0 -/
theorem l_cell (l : Launch) (Γ : zT) (G : zG) (sz b L : Nat) (xs : Nat → Int32) (i : Nat) (hi : i < 2 ^ 31) (hL31 : L < 2 ^ 31) : Met l yL_cell wsL_cell (zR 1) (va_Pc [.ref b, .int (nI i)] (zPreP Γ G sz (sxE G sz b L xs))) (va_Qi (fun r G' => r = (if i < L then xs i else nI 0) ∧ G' = G) (zPost Γ G sz) (zA G sz)) 0 0 (zA G sz) := by
  refine z_startP (cc := cL_cell) (maxL := 2) (ret := (some .int)) (by decide) rfl (Nat.le_of_ble_eq_true rfl) ?_
  intro p e s m args below meth c ls Q hEx hQ hsz hx hb hr hml hown hts hlocks hnm hK hM hl
  obtain ⟨hXs, hbs, hbA⟩ := hEx
  have hl : lv_has ls 2 [(0, .ref b), (1, .int (nI i))] := hl
  refine lv_iload_n hx hb dL_cell_0 rfl (lv_at hl 1 rfl) ?_
  refine lv_aload_n hx hb dL_cell_1 rfl (lv_at hl 0 rfl) ?_
  refine va_slen hx hb hXs (by rw [hsz]; exact hbs) (by rw [hsz]; exact hbA) hM.2.2.1 dL_cell_2 ?_
  refine z_asi (y := nI L) rfl ?_
  refine z_icmp_ge (tgt := 12) hx hb (by omega) (by omega) dL_cell_3 (by decide) (fun hc => ?_) (fun hc => ?_)
  · refine lv_iconst (v := nI 0) hx hb dL_cell_12 rfl ?_
    rw [hQ]
    exact z_iret hsz hx hb hr hlocks hK hM dL_cell_13 ⟨by rw [if_neg (by omega)], rfl⟩
  · refine lv_aload_n hx hb dL_cell_6 rfl (lv_at hl 0 rfl) ?_
    refine lv_iload_n hx hb dL_cell_7 rfl (lv_at hl 1 rfl) ?_
    refine va_sld hx hb hXs (by rw [hsz]; exact hbs) (by rw [hsz]; exact hbA) hM.2.2.1 (vp_in_nI (by omega) hL31) dL_cell_8 ?_
    refine z_asi (y := xs i) (by rw [nI_clamp hi]) ?_
    refine lv_goto (tgt := 13) hx hb dL_cell_9 (by decide) ?_
    rw [hQ]
    exact z_iret hsz hx hb hr hlocks hK hM dL_cell_13 ⟨by rw [if_pos (by omega)], rfl⟩
theorem CRep.o {Γ : zT} {G : zG} {X : Nat → Nat} {σ : AS} (h : CRep Γ G X σ) : ∃ fs, G (X 80) = some (.inr (6, fs)) := by
  obtain ⟨⟨vars, maxR, cells⟩, ⟨nr, inp, R⟩, ⟨fil, V⟩, ⟨se, be, S⟩, P, ⟨st, sg, gv, g, z⟩⟩ := σ
  obtain ⟨Z, used, cz, sw, C, St, hB, _⟩ := h
  exact ⟨_, hB.1⟩
set_option maxRecDepth 100000 in
set_option maxHeartbeats 4000000 in
/-- cell, by the law: 1 where it throws -/
theorem l_cell_ (l : Launch) (hl9 : l.stackTraces = false) (Γ : zT) (G : zG) (sz sa sb : Nat) (X : Nat → Nat) (σ : AS) (row entry what : Int32) (lo : Nat) (f : Nat → Int64) (hX : XI X σ.1.1) (hI : AI σ) (hR : CRep Γ G X σ) (hlo : G lo = some (zL Γ 1 f)) :
    zMe l yL_cell_ wsL_cell_ ({ frames := 9, cells := 1, slots := 6, locals := 576 } : Room) Γ G sz sa sb [.ref (X 80), .int row, .int entry, .int what, .ref lo] (fun r G' => (∃ v, op_cell row entry what σ = some v ∧ r = nI 0 ∧ G' = zup G lo (zL Γ 1 (vp_updL f 0 v.toInt64))) ∨ (op_cell row entry what σ = none ∧ r = nI 1 ∧ G' = G)) 1 6 := by
  refine z_startH (cc := cL_cell_) (maxL := 6) (ret := (some .int)) (hh := [(0, 12, 15, 13)]) (by decide) rfl (Nat.le_of_ble_eq_true rfl) ?_
  intro p e s m args below meth c ls Q hE hht hQ hsz hx hb hr hml hown hts hlocks hnm hK hM hl
  rw [← hsz] at hE
  have hl : lv_has ls 6 [(0, .ref (X 80)), (1, .int row), (2, .int entry), (3, .int what), (4, .ref lo)] := hl
  obtain ⟨fs, hfs⟩ := hR.o
  refine lv_aload hx hb dL_cell__0 (lv_at hl 4 rfl) ?_
  refine lv_iconst (v := nI 0) hx hb dL_cell__2 rfl ?_
  refine lv_aload_n hx hb dL_cell__3 rfl (lv_at hl 0 rfl) ?_
  refine lv_iload_n hx hb dL_cell__4 rfl (lv_at hl 1 rfl) ?_
  refine lv_iload_n hx hb dL_cell__5 rfl (lv_at hl 2 rfl) ?_
  refine lv_iload_n hx hb dL_cell__6 rfl (lv_at hl 3 rfl) ?_
  refine z_callx (vx_runV (As := [.int row, .int entry, .int what]) (rest := [.int (nI 0), .ref lo]) ⟨hx, hb, hml, hown, hts⟩ (x_cell l hl9 Γ G _ sa sb X σ row entry what hX hI hR) (cwV 3 hts gL_cell__X4_cell rfl rfl rfl (by decide +kernel) ⟨Nat.le_of_ble_eq_true rfl, Nat.le_of_ble_eq_true rfl⟩) (zM.preVE hE hK hM hfs rfl rfl) rfl rfl hl.1 rfl (lv_room (Nat.le_of_ble_eq_true rfl)) dL_cell__7 ⟨Nat.le_of_ble_eq_true rfl, Nat.le_of_ble_eq_true rfl⟩) hM (fun ce q G1 H locs hp hM h1 h2 h3 => ?_) (fun r G1 H locs hp hM => ?_)
  · obtain ⟨hno, hGe⟩ := hp
    refine vx_catch (own := RL) (name := nIA) (E := nIA) hown [] ⟨0, 12, 15, 13⟩ [] hht (fun z hz => nomatch hz) rfl (by decide) (hts (.classLink RL 13 nIA) (by decide +kernel)) (va_Nw.use rfl hE.2.2.1) h1 h2 h3 ?_
    refine W.eq (g2 := F0 m 15 ls [.ref q]) rfl ?_
    refine lv_astore (lv' := [(5, .ref q), (0, .ref (X 80)), (1, .int row), (2, .int entry), (3, .int what), (4, .ref lo)]) hx hb dL_cell__15 hl (by decide) rfl (fun ls hl => ?_)
    refine lv_iconst (v := nI 1) hx hb dL_cell__17 rfl ?_
    rw [hQ]
    exact z_iretW (Nat.le_of_ble_eq_true rfl) (Nat.le_of_ble_eq_true rfl) hsz hx hb hr hlocks hK hM dL_cell__18 (Or.inr ⟨hno, rfl, hGe⟩)
  · obtain ⟨hyes, hGe⟩ := hp
    rw [hGe] at hM
    refine lv_i2l hx hb dL_cell__10 rfl ?_
    refine z_lst hx hb hK hM hlo (by omega) (by omega) dL_cell__11 (fun H locs hM => ?_)
    refine lv_goto (tgt := 19) hx hb dL_cell__12 (by decide) ?_
    refine lv_iconst (v := nI 0) hx hb dL_cell__19 rfl ?_
    rw [hQ]
    exact z_iretW (Nat.le_of_ble_eq_true rfl) (Nat.le_of_ble_eq_true rfl) hsz hx hb hr hlocks hK hM dL_cell__20 (Or.inl ⟨r, hyes, rfl, rfl⟩)
set_option maxRecDepth 100000 in
set_option maxHeartbeats 4000000 in
/-- count, by the law: 1 where it throws -/
theorem l_count (l : Launch) (hl9 : l.stackTraces = false) (Γ : zT) (G : zG) (sz sa sb : Nat) (X : Nat → Nat) (σ : AS) (what : Int32) (lo : Nat) (f : Nat → Int64) (hX : XI X σ.1.1) (hI : AI σ) (hR : CRep Γ G X σ) (hlo : G lo = some (zL Γ 1 f)) :
    zMe l yL_count wsL_count ({ frames := 9, cells := 1, slots := 6, locals := 576 } : Room) Γ G sz sa sb [.ref (X 80), .int what, .ref lo] (fun r G' => (∃ v, op_count what σ = some v ∧ r = nI 0 ∧ G' = zup G lo (zL Γ 1 (vp_updL f 0 v.toInt64))) ∨ (op_count what σ = none ∧ r = nI 1 ∧ G' = G)) 1 6 := by
  refine z_startH (cc := cL_count) (maxL := 4) (ret := (some .int)) (hh := [(0, 9, 12, 13)]) (by decide) rfl (Nat.le_of_ble_eq_true rfl) ?_
  intro p e s m args below meth c ls Q hE hht hQ hsz hx hb hr hml hown hts hlocks hnm hK hM hl
  rw [← hsz] at hE
  have hl : lv_has ls 4 [(0, .ref (X 80)), (1, .int what), (2, .ref lo)] := hl
  obtain ⟨fs, hfs⟩ := hR.o
  refine lv_aload_n hx hb dL_count_0 rfl (lv_at hl 2 rfl) ?_
  refine lv_iconst (v := nI 0) hx hb dL_count_1 rfl ?_
  refine lv_aload_n hx hb dL_count_2 rfl (lv_at hl 0 rfl) ?_
  refine lv_iload_n hx hb dL_count_3 rfl (lv_at hl 1 rfl) ?_
  refine z_callx (vx_runV (As := [.int what]) (rest := [.int (nI 0), .ref lo]) ⟨hx, hb, hml, hown, hts⟩ (x_count l hl9 Γ G _ sa sb X σ what hX hI hR) (cwV 1 hts gL_count_X4_count rfl rfl rfl (by decide +kernel) ⟨Nat.le_of_ble_eq_true rfl, Nat.le_of_ble_eq_true rfl⟩) (zM.preVE hE hK hM hfs rfl rfl) rfl rfl hl.1 rfl (lv_room (Nat.le_of_ble_eq_true rfl)) dL_count_4 ⟨Nat.le_of_ble_eq_true rfl, Nat.le_of_ble_eq_true rfl⟩) hM (fun ce q G1 H locs hp hM h1 h2 h3 => ?_) (fun r G1 H locs hp hM => ?_)
  · obtain ⟨hno, hGe⟩ := hp
    refine vx_catch (own := RL) (name := nIA) (E := nIA) hown [] ⟨0, 9, 12, 13⟩ [] hht (fun z hz => nomatch hz) rfl (by decide) (hts (.classLink RL 13 nIA) (by decide +kernel)) (va_Nw.use rfl hE.2.2.1) h1 h2 h3 ?_
    refine W.eq (g2 := F0 m 12 ls [.ref q]) rfl ?_
    refine lv_astore_n (lv' := [(3, .ref q), (0, .ref (X 80)), (1, .int what), (2, .ref lo)]) hx hb dL_count_12 rfl hl (by decide) rfl (fun ls hl => ?_)
    refine lv_iconst (v := nI 1) hx hb dL_count_13 rfl ?_
    rw [hQ]
    exact z_iretW (Nat.le_of_ble_eq_true rfl) (Nat.le_of_ble_eq_true rfl) hsz hx hb hr hlocks hK hM dL_count_14 (Or.inr ⟨hno, rfl, hGe⟩)
  · obtain ⟨hyes, hGe⟩ := hp
    rw [hGe] at hM
    refine lv_i2l hx hb dL_count_7 rfl ?_
    refine z_lst hx hb hK hM hlo (by omega) (by omega) dL_count_8 (fun H locs hM => ?_)
    refine lv_goto (tgt := 15) hx hb dL_count_9 (by decide) ?_
    refine lv_iconst (v := nI 0) hx hb dL_count_15 rfl ?_
    rw [hQ]
    exact z_iretW (Nat.le_of_ble_eq_true rfl) (Nat.le_of_ble_eq_true rfl) hsz hx hb hr hlocks hK hM dL_count_16 (Or.inl ⟨r, hyes, rfl, rfl⟩)
