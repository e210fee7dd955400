/-! making cells, over maps -/
theorem nI_nn {N : Nat} (h : N < 2147483647) : ¬ nI N < 0 := fun hc => (vp_in_nI (n := N) (N := N + 1) (by omega) (by omega)) (Or.inl hc)
section ZN
variable {p : Program} {l : Launch} {e : Env} {R : Room} {s : State} {m : MethodId} {args : Array Value} {below : List Frame} {meth : Method} {c : Code} {H : Heap} {locs : List Loc} {cells slots : Nat} {Q : State → Prop}
variable {cc : ByteArray} {pc : Nat} {ls : Array Slot} {rest : List Value} {Γ : zT} {A : Nat → Prop} {a : Nat} {H0 : Heap} {G G' : zG} {sz : Nat}
theorem z_newI (hexec : p.tables.exec = Jvm.exec) (hb : c.code = cc) (harr : (Cond.arrayClass .int).before args s = true) (hK : zK Γ s) (hM : zM Γ A H0 G H locs) {N : Nat} (hN : N < 1000000) (hcells : cells + 1 ≤ R.cells) (hslots : slots + N ≤ R.slots) (hdg : decode cc pc = .ok (.newarray .int, 2))
    (kk : ∀ (q : Nat) (H1 : Heap), G q = none → zM Γ A H0 (zup G q (zI Γ N (fun _ => 0))) H1 locs → W p l e R s m args below meth c H1 locs (cells + 1) (slots + N) Q (F0 m (pc + 2) ls (.ref q :: rest))) : W p l e R s m args below meth c H locs cells slots Q (F0 m pc ls (.int (nI N) :: rest)) := by
  refine va_newa (atype := .int) (ty := .int) (D := Γ.1) (a0 := (N, .inl (fun _ => nI 0))) hexec hb harr rfl hK (zls_P hM.1) (zls_D hM.2.1) hM.2.2.1 hM.2.2.2 (fun cA => rfl) (nI_nn (by omega)) (nI_clamp (by omega)) (by show N * 4 ≤ _; omega) hcells hslots hdg (fun q cA H1 hK1 hP1 hD1 hS1 => ?_)
  have h1 := (hK1.2 4 (cA, .int) rfl).2
  have h2 := (hK.2 0 (Γ.2.1, .int) rfl).2
  have hc : Γ.2.1 = cA := Option.some.inj (h2.symm.trans h1)
  subst hc
  obtain ⟨hn, hM1⟩ := hM.push hP1 hD1 hS1
  exact kk q H1 hn hM1
theorem z_newB (hexec : p.tables.exec = Jvm.exec) (hb : c.code = cc) (harr : (Cond.arrayClass .boolean).before args s = true) (hK : zK Γ s) (hM : zM Γ A H0 G H locs) {N : Nat} (hN : N < 1000000) (hcells : cells + 1 ≤ R.cells) (hslots : slots + N ≤ R.slots) (hdg : decode cc pc = .ok (.newarray .boolean, 2))
    (kk : ∀ (q : Nat) (H1 : Heap), G q = none → zM Γ A H0 (zup G q (zB Γ N (fun _ => 0))) H1 locs → W p l e R s m args below meth c H1 locs (cells + 1) (slots + N) Q (F0 m (pc + 2) ls (.ref q :: rest))) : W p l e R s m args below meth c H locs cells slots Q (F0 m pc ls (.int (nI N) :: rest)) := by
  refine va_newa (atype := .boolean) (ty := .boolean) (D := Γ.1) (a0 := (N, .inl (fun _ => nI 0))) hexec hb harr rfl hK (zls_P hM.1) (zls_D hM.2.1) hM.2.2.1 hM.2.2.2 (fun cA => rfl) (nI_nn (by omega)) (nI_clamp (by omega)) (by show N * 1 ≤ _; omega) hcells hslots hdg (fun q cA H1 hK1 hP1 hD1 hS1 => ?_)
  have h1 := (hK1.2 4 (cA, .boolean) rfl).2
  have h2 := (hK.2 1 (Γ.2.2.1, .boolean) rfl).2
  have hc : Γ.2.2.1 = cA := Option.some.inj (h2.symm.trans h1)
  subst hc
  obtain ⟨hn, hM1⟩ := hM.push hP1 hD1 hS1
  exact kk q H1 hn hM1
theorem z_newW (hexec : p.tables.exec = Jvm.exec) (hb : c.code = cc) {own : String} {index : Nat} (hown : s.vm.findClass own = some m.cls) (hclink : (Cond.classLink own index RX3).before args s = true) (hover : va_AO RX3 s) (hK : zK Γ s) (hM : zM Γ A H0 G H locs) {N : Nat} (hN : N < 1000000) (hcells : cells + 1 ≤ R.cells) (hslots : slots + N ≤ R.slots) (hdg : decode cc pc = .ok (.anewarray index, 3))
    (kk : ∀ (q : Nat) (H1 : Heap), G q = none → zM Γ A H0 (zup G q (zW Γ N (fun _ => none))) H1 locs → W p l e R s m args below meth c H1 locs (cells + 1) (slots + N) Q (F0 m (pc + 3) ls (.ref q :: rest))) : W p l e R s m args below meth c H locs cells slots Q (F0 m pc ls (.int (nI N) :: rest)) := by
  refine va_newq (D := Γ.1) hexec hb hown hclink hover hK (zls_P hM.1) (zls_D hM.2.1) hM.2.2.1 hM.2.2.2 (nI_nn (by omega)) (nI_clamp (by omega)) (by omega) hcells hslots hdg (fun q cA H1 hK1 hP1 hD1 hS1 => ?_)
  obtain ⟨-, -, -, -, -, h1⟩ := (hK1.2 4 (cA, .object RX3) rfl).2
  obtain ⟨-, -, -, -, -, h2⟩ := (hK.2 2 (Γ.2.2.2.1, .object RX3) rfl).2
  have hc : Γ.2.2.2.1 = cA := Option.some.inj (h2.symm.trans h1)
  subst hc
  obtain ⟨hn, hM1⟩ := hM.push hP1 hD1 hS1
  exact kk q H1 hn hM1
theorem z_newO (hexec : p.tables.exec = Jvm.exec) (hb : c.code = cc) {own C : String} {T : u_T} {N ci index : Nat} {Ts : List Cond} (hts : ∀ w ∈ Ts, w.before args s = true) (hin : ∀ w ∈ u_ws C T N, w ∈ Ts) (ty0 : Nat → FieldType) (hty : ∀ k, k < N → parseFieldDescriptor (T k).2.2.1 = some (ty0 k)) (hown : s.vm.findClass own = some m.cls) (hcl : (Cond.classLink own index C).before args s = true) (hinst : (Cond.instantiable C N).before args s = true) (hini : (Cond.initialized C).before args s = true) (hK : zK Γ s) (hM : zM Γ A H0 G H locs) (hc : vwCl[ci]? = some (C, T, N)) {fs : List Value} (hfs : ∀ j, j < N → defaultValue (ty0 j) = vp_V fs j) (hcells : cells + 1 ≤ R.cells) (hslots : slots + N ≤ R.slots) (hdg : decode cc pc = .ok (.new index, 3))
    (kk : ∀ (q : Nat) (H1 : Heap), G q = none → zM Γ A H0 (zup G q (.inr (ci, fs))) H1 locs → W p l e R s m args below meth c H1 locs (cells + 1) (slots + N) Q (F0 m (pc + 3) ls (.ref q :: rest))) : W p l e R s m args below meth c H locs cells slots Q (F0 m pc ls rest) := by
  refine va_new (D := Γ.1) (ci := ci) (fs := fs) hexec hb hts hin ty0 hty hown hcl hinst hini hK (zls_P hM.1) (zls_D hM.2.1) hM.2.2.1 hM.2.2.2 hc hfs hcells hslots hdg (fun q H1 hP1 hD1 hS1 => ?_)
  obtain ⟨hn, hM1⟩ := hM.push hP1 hD1 hS1
  exact kk q H1 hn hM1
/-- ends with room left over -/
theorem z_vretW {post : zG → Prop} {mc ms : Nat} (hc : cells ≤ mc) (hs : slots ≤ ms) (hsz : s.heap.size = sz) (hexec : p.tables.exec = Jvm.exec) (hb : c.code = cc) (hr : meth.sig.returnType = none) (hlocks : meth.locks = false) (hK : zK Γ s) (hM : zM Γ (zA G s.heap.size) s.heap G' H locs) (hdg : decode cc pc = .ok (.return_, 1)) (hp : post G') :
    W p l e R s m args below meth c H locs cells slots (MQ below (va_Qv post (zPost Γ G sz) (zA G sz)) args s mc ms (zA G sz)) (F0 m pc ls []) :=
  W.widen hc hs (z_vret hsz hexec hb hr hlocks hK hM hdg hp)
theorem z_aretW {post : Nat → zG → Prop} {v mc ms : Nat} {ft : FieldType} (hc : cells ≤ mc) (hs : slots ≤ ms) (hsz : s.heap.size = sz) (hexec : p.tables.exec = Jvm.exec) (hb : c.code = cc) (hr : meth.sig.returnType = some (.array ft)) (hlocks : meth.locks = false) (hK : zK Γ s) (hM : zM Γ (zA G s.heap.size) s.heap G' H locs) (hdg : decode cc pc = .ok (.areturn, 1)) (hp : post v G') :
    W p l e R s m args below meth c H locs cells slots (MQ below (va_Qr (fun _ : zG => True) (fun G' a t => post a G' ∧ zPost Γ G sz G' t) (zA G sz)) args s mc ms (zA G sz)) (F0 m pc ls [.ref v]) :=
  W.widen hc hs (z_aret hsz hexec hb hr hlocks hK hM hdg hp)
end ZN
/-- what the tables say beside the words: the array class of numbers, two nest mates' constructors -/
def zN (U : State) : Prop := va_AO RX3 U ∧ va_Nw (.methodLinkNest RX4 28 yX2_init RX4) U ∧ va_Nw (.methodLinkNest RX4 46 yX1_init RX4) U
theorem zN.warm {s U : State} (hW : s.WarmedH U.vm) (h : zN s) : zN U := ⟨va_AO.moved hW.alike h.1, va_Nw.warmM hW h.2.1, va_Nw.warmM hW h.2.2⟩
theorem zN.same {s U : State} (hv : s.vm = U.vm) (h : zN s) : zN U := ⟨va_AO.moved (by rw [hv]; exact Vm.Alike.refl _) h.1, va_Nw.same rfl hv h.2.1, va_Nw.same rfl hv h.2.2⟩
def zPreN (Γ : zT) (G : zG) (sz : Nat) : State → Prop := fun U => zPre Γ G sz U ∧ zN U
abbrev zMvN (l : Launch) (y : MethodName) (ws : List Cond) (rm : Room) (Γ : zT) (G : zG) (sz : Nat) (av : List Value) (post : zG → Prop) (mc ms : Nat) : Prop :=
  Met l y ws rm (va_Pc av (zPreN Γ G sz)) (va_Qv post (zPost Γ G sz) (zA G sz)) mc ms (zA G sz)
abbrev zMrN (l : Launch) (y : MethodName) (ws : List Cond) (rm : Room) (Γ : zT) (G : zG) (sz : Nat) (av : List Value) (post : Nat → zG → Prop) (mc ms : Nat) : Prop :=
  Met l y ws rm (va_Pc av (zPreN Γ G sz)) (va_Qr (fun _ : zG => True) (fun G' a t => post a G' ∧ zPost Γ G sz G' t) (zA G sz)) mc ms (zA G sz)
theorem zPreN.blind (Γ : zT) (G : zG) (sz : Nat) (av : List Value) : FrameBlind (va_Pc av (zPreN Γ G sz)) := fun a U g mk q => by
  obtain ⟨q0, ⟨q1, qP, qK⟩, qN⟩ := q
  exact ⟨q0, ⟨q1, qP, va_K.moved (u := U) (U := U.calling g mk a) (Vm.Alike.refl U.vm) qK⟩, qN.same rfl⟩
theorem z_startN {l : Launch} {y : MethodName} {ws ws' : List Cond} {rm : Room} {Γ : zT} {G : zG} {sz : Nat} {av : List Value} {Qc : Array Value → State → Outcome → State → Prop} {mc ms : Nat} {cc : ByteArray} {maxL : Nat} {ret : Option FieldType}
    (hy : plainName y.cls = true) (hw : ws = Cond.code y cc maxL ret :: ws') (hlen : (lg_sl av).length ≤ maxL)
    (body : ∀ (p : Program) (e : Env) (s : State) (m : MethodId) (args : Array Value) (below : List Frame) (meth : Method) (c : Code) (ls : Array Slot) (Q : State → Prop), zN s → Q = MQ below Qc args s mc ms (zA G sz) → s.heap.size = sz → p.tables.exec = Jvm.exec → c.code = cc → meth.sig.returnType = ret → c.maxLocals = maxL → s.vm.findClass y.cls = some m.cls → (∀ w ∈ ws, w.before args s = true) → meth.locks = false → meth.name = y.name → zK Γ s → zM Γ (zA G s.heap.size) s.heap G s.heap [] → lv_has ls maxL (lv_args 0 av) →
      W p l e rm s m args below meth c s.heap [] 0 0 Q (F0 m 0 ls [])) : Met l y ws rm (va_Pc av (zPreN Γ G sz)) Qc mc ms (zA G sz) := by
  refine Met.ofW (cc := cc) (maxL := maxL) (ret := ret) hy hw ?_
  intro p e s m args below meth c s₁ B hml hv
  obtain ⟨rfl, ⟨hsz, hP, hK⟩, hN⟩ := hv
  have hl := lv_entry av (n := maxL) hlen
  rw [lg_entry_eq]
  exact body p e s m _ below meth c _ _ hN rfl hsz B.exec B.bytes B.returns hml (findClass_of_methodNamed B.named) (atoms_spec (ws := ws) B.pre) B.notSynchronized (name_of_methodNamed B.named B.method).1 hK (zM.self hP) hl
theorem zM.preN {Γ : zT} {A : Nat → Prop} {H0 H : Heap} {G : zG} {locs : List Loc} {s : State} {As : List Value} (hN : zN s) (hK : zK Γ s) (hM : zM Γ A H0 G H locs) : PreS s H (va_Pc As (zPreN Γ G H.size)) As :=
  ⟨zPreN.blind Γ G H.size As, fun U hU hW => ⟨rfl, ⟨by rw [hU], by rw [hU]; exact hM.1, va_K.moved hW.alike hK⟩, hN.warm hW⟩⟩
