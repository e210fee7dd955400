/-! exceptions over maps: 'throw new IllegalArgumentException(text)', a call that may throw -/
abbrev nIA : String := "java/lang/IllegalArgumentException"
abbrev exN : List String := ["java/lang/RuntimeException", "java/lang/Exception"]
abbrev exB : List Cond := [.castable nIA nIA, .declares ⟨"java/lang/RuntimeException", "<init>", "(Ljava/lang/String;)V"⟩, .declares ⟨"java/lang/Exception", "<init>", "(Ljava/lang/String;)V"⟩, .declares ⟨"java/lang/Throwable", "<init>", "(Ljava/lang/String;)V"⟩]
def zE (A : Nat → Prop) (sa sb : Nat) (U : State) (H : Heap) : Prop :=
  (vk_R RX4 160 "no such row, entry or part of a number" sa U ∧ vk_R RX4 179 "nothing of this number is counted" sb U) ∧ (vx_Zq Bundle.tN "UNASSIGNED_STACK" Bundle.steD A U H ∧ vx_Zq Bundle.tN "SUPPRESSED_SENTINEL" Bundle.listD A U H) ∧ va_Nw (.castable nIA nIA) U ∧ va_Nw (.declares ⟨"java/lang/RuntimeException", "<init>", "(Ljava/lang/String;)V"⟩) U ∧ va_Nw (.declares ⟨"java/lang/Exception", "<init>", "(Ljava/lang/String;)V"⟩) U ∧ va_Nw (.declares ⟨"java/lang/Throwable", "<init>", "(Ljava/lang/String;)V"⟩) U
theorem zE.warm {A : Nat → Prop} {sa sb : Nat} {s U : State} {H : Heap} (hW : s.WarmedH U.vm) (h : zE A sa sb s H) : zE A sa sb U H := by
  obtain ⟨⟨h1, h2⟩, ⟨h3, h4⟩, h5, h6, h7, h8⟩ := h
  exact ⟨⟨vk_R.warm hW h1, vk_R.warm hW h2⟩, ⟨vx_Zq.moved hW.alike h3, vx_Zq.moved hW.alike h4⟩, va_Nw.warmC hW h5, va_Nw.warmD hW h6, va_Nw.warmD hW h7, va_Nw.warmD hW h8⟩
theorem zE.same {A : Nat → Prop} {sa sb : Nat} {s U : State} {H : Heap} (hv : s.vm = U.vm) (h : zE A sa sb s H) : zE A sa sb U H := by
  obtain ⟨⟨h1, h2⟩, ⟨h3, h4⟩, h5, h6, h7, h8⟩ := h
  have ha : s.vm.Alike U.vm := by rw [hv]; exact Vm.Alike.refl _
  exact ⟨⟨vk_R.same hv.symm h1, vk_R.same hv.symm h2⟩, ⟨vx_Zq.moved ha h3, vx_Zq.moved ha h4⟩, va_Nw.same rfl hv h5, va_Nw.same rfl hv h6, va_Nw.same rfl hv h7, va_Nw.same rfl hv h8⟩
theorem zE.kept {A : Nat → Prop} {sa sb : Nat} {s : State} {H H1 : Heap} (h : zE A sa sb s H) (hq : ∀ a : Nat, a < H.size → ¬ A a → H1[a]? = H[a]?) : zE A sa sb s H1 := by
  obtain ⟨⟨h1, h2⟩, ⟨h3, h4⟩, h5⟩ := h
  exact ⟨⟨h1, h2⟩, ⟨h3.kept hq, h4.kept hq⟩, h5⟩
theorem zE.narrow {A B : Nat → Prop} {sa sb : Nat} {s : State} {H : Heap} (h : zE A sa sb s H) (hAB : ∀ q, B q → A q) : zE B sa sb s H := by
  obtain ⟨⟨h1, h2⟩, ⟨h3, h4⟩, h5⟩ := h
  exact ⟨⟨h1, h2⟩, ⟨h3.narrow hAB, h4.narrow hAB⟩, h5⟩
def zPreE (Γ : zT) (G : zG) (sz sa sb : Nat) : State → Prop := fun U => zPre Γ G sz U ∧ zE (zA G sz) sa sb U U.heap
theorem zPreE.blind (Γ : zT) (G : zG) (sz sa sb : Nat) (av : List Value) : FrameBlind (va_Pc av (zPreE Γ G sz sa sb)) := fun a U g mk q => by
  obtain ⟨q0, ⟨q1, qP, qK⟩, qE⟩ := q
  exact ⟨q0, ⟨q1, qP, va_K.moved (u := U) (U := U.calling g mk a) (Vm.Alike.refl U.vm) qK⟩, qE.same rfl⟩
/-- what a thrown one leaves behind -/
abbrev zXC (Γ : zT) (G : zG) (sz : Nat) (px : zG → Prop) : String → State → State → Prop := vx_X px (fun E G' t => E = nIA ∧ zPost Γ G sz G' t) (zA G sz)
abbrev zMx (l : Launch) (y : MethodName) (ws : List Cond) (rm : Room) (Γ : zT) (G : zG) (sz sa sb : Nat) (av : List Value) (post : Int32 → zG → Prop) (px : zG → Prop) (mc ms : Nat) : Prop :=
  vx_Met l y ws rm (va_Pc av (zPreE Γ G sz sa sb)) (va_Qi post (zPost Γ G sz) (zA G sz)) (zXC Γ G sz px) mc ms (zA G sz)
abbrev zMe (l : Launch) (y : MethodName) (ws : List Cond) (rm : Room) (Γ : zT) (G : zG) (sz sa sb : Nat) (av : List Value) (post : Int32 → zG → Prop) (mc ms : Nat) : Prop :=
  Met l y ws rm (va_Pc av (zPreE Γ G sz sa sb)) (va_Qi post (zPost Γ G sz) (zA G sz)) mc ms (zA G sz)
/-- a body that may throw, without handlers -/
theorem z_startX {l : Launch} {y : MethodName} {ws ws' : List Cond} {rm : Room} {Γ : zT} {G : zG} {sz sa sb : Nat} {av : List Value} {Qc : Array Value → State → Outcome → State → Prop} {XC : String → State → State → Prop} {mc ms : Nat} {cc : ByteArray} {maxL : Nat} {ret : Option FieldType}
    (hy : plainName y.cls = true) (hw : ws = Cond.code y cc maxL ret :: ws') (hlen : (lg_sl av).length ≤ maxL)
    (body : ∀ (p : Program) (e : Env) (s : State) (m : MethodId) (args : Array Value) (below : List Frame) (meth : Method) (c : Code) (ls : Array Slot) (Q : State → Prop), zE (zA G sz) sa sb s s.heap → (∀ x ∈ c.exceptionTable.toList, False) → Q = vx_MQ below Qc XC args s mc ms (zA G sz) → s.heap.size = sz → p.tables.exec = Jvm.exec → c.code = cc → meth.sig.returnType = ret → c.maxLocals = maxL → s.vm.findClass y.cls = some m.cls → (∀ w ∈ ws, w.before args s = true) → meth.locks = false → meth.name = y.name → zK Γ s → zM Γ (zA G s.heap.size) s.heap G s.heap [] → lv_has ls maxL (lv_args 0 av) →
      W p l e rm s m args below meth c s.heap [] 0 0 Q (F0 m 0 ls [])) : vx_Met l y ws rm (va_Pc av (zPreE Γ G sz sa sb)) Qc XC mc ms (zA G sz) := by
  refine vx_ofW (cc := cc) (maxL := maxL) (ret := ret) hy hw ?_
  intro p e s m args below meth c s₁ B hml hnt hv
  obtain ⟨rfl, ⟨hsz, hP, hK⟩, hE⟩ := hv
  have hl := lv_entry av (n := maxL) hlen
  rw [lg_entry_eq]
  exact body p e s m _ below meth c _ _ hE hnt rfl hsz B.exec B.bytes B.returns hml (findClass_of_methodNamed B.named) (atoms_spec (ws := ws) B.pre) B.notSynchronized (name_of_methodNamed B.named B.method).1 hK (zM.self hP) hl
/-- a body with handlers, that returns -/
theorem z_startH {l : Launch} {y : MethodName} {ws ws' : List Cond} {rm : Room} {Γ : zT} {G : zG} {sz sa sb : Nat} {av : List Value} {Qc : Array Value → State → Outcome → State → Prop} {mc ms : Nat} {cc : ByteArray} {maxL : Nat} {ret : Option FieldType} {hh : List (Nat × Nat × Nat × Nat)}
    (hy : plainName y.cls = true) (hw : ws = Cond.codeWith y cc maxL ret hh :: ws') (hlen : (lg_sl av).length ≤ maxL)
    (body : ∀ (p : Program) (e : Env) (s : State) (m : MethodId) (args : Array Value) (below : List Frame) (meth : Method) (c : Code) (ls : Array Slot) (Q : State → Prop), zE (zA G sz) sa sb s s.heap → c.exceptionTable.toList = tableOf hh → Q = MQ below Qc args s mc ms (zA G sz) → s.heap.size = sz → p.tables.exec = Jvm.exec → c.code = cc → meth.sig.returnType = ret → c.maxLocals = maxL → s.vm.findClass y.cls = some m.cls → (∀ w ∈ ws, w.before args s = true) → meth.locks = false → meth.name = y.name → zK Γ s → zM Γ (zA G s.heap.size) s.heap G s.heap [] → lv_has ls maxL (lv_args 0 av) →
      W p l e rm s m args below meth c s.heap [] 0 0 Q (F0 m 0 ls [])) : Met l y ws rm (va_Pc av (zPreE Γ G sz sa sb)) Qc mc ms (zA G sz) := by
  refine va_MetW (cc := cc) (maxL := maxL) (ret := ret) (hh := hh) hy hw ?_
  intro p e s m args below meth c s₁ B hml hv
  obtain ⟨rfl, ⟨hsz, hP, hK⟩, hE⟩ := hv
  have hl := lv_entry av (n := maxL) hlen
  rw [lg_entry_eq]
  have hts : ∀ w ∈ ws, w.before (av.toArray) s = true := atoms_spec (ws := ws) B.pre
  exact body p e s m _ below meth c _ _ hE (vx_table (x := y) B (hts _ (by rw [hw]; exact List.mem_cons_self))) rfl hsz B.exec B.bytes B.returns hml (findClass_of_methodNamed B.named) hts B.notSynchronized (name_of_methodNamed B.named B.method).1 hK (zM.self hP) hl
section ZX
variable {p : Program} {l : Launch} {e : Env} {R : Room} {s : State} {m : MethodId} {args : Array Value} {below : List Frame} {meth : Method} {c : Code} {H : Heap} {locs : List Loc} {cells slots : Nat} {Q : State → Prop}
variable {cc : ByteArray} {pc : Nat} {ls : Array Slot} {rest : List Value} {Γ : zT} {A : Nat → Prop} {a : Nat} {H0 : Heap} {G G' : zG} {sz sa sb : Nat}
theorem z_iretX {post : Int32 → zG → Prop} {XC : String → State → State → Prop} {v : Int32} {mc ms : Nat} (hc : cells ≤ mc) (hs : slots ≤ ms) (hsz : s.heap.size = sz) (hexec : p.tables.exec = Jvm.exec) (hb : c.code = cc) (hr : meth.sig.returnType = some .int) (hlocks : meth.locks = false) (hK : zK Γ s) (hM : zM Γ (zA G s.heap.size) s.heap G' H locs) (hdg : decode cc pc = .ok (.ireturn, 1)) (hp : post v G') :
    W p l e R s m args below meth c H locs cells slots (vx_MQ below (va_Qi post (zPost Γ G sz) (zA G sz)) XC args s mc ms (zA G sz)) (F0 m pc ls [.int v]) :=
  W.widen hc hs (vx_ret (z_iret hsz hexec hb hr hlocks hK hM hdg hp))
theorem z_iretW {post : Int32 → zG → Prop} {v : Int32} {mc ms : Nat} (hc : cells ≤ mc) (hs : slots ≤ ms) (hsz : s.heap.size = sz) (hexec : p.tables.exec = Jvm.exec) (hb : c.code = cc) (hr : meth.sig.returnType = some .int) (hlocks : meth.locks = false) (hK : zK Γ s) (hM : zM Γ (zA G s.heap.size) s.heap G' H locs) (hdg : decode cc pc = .ok (.ireturn, 1)) (hp : post v G') :
    W p l e R s m args below meth c H locs cells slots (MQ below (va_Qi post (zPost Γ G sz) (zA G sz)) args s mc ms (zA G sz)) (F0 m pc ls [.int v]) :=
  W.widen hc hs (z_iret hsz hexec hb hr hlocks hK hM hdg hp)
theorem z_throw {Qc : Array Value → State → Outcome → State → Prop} {px : zG → Prop} {is st9 : Nat} {text : String} (hexec : p.tables.exec = Jvm.exec) (hb : c.code = cc) (hl : l.stackTraces = false) (hown : s.vm.findClass RX4 = some m.cls) (hnt : ∀ x ∈ c.exceptionTable.toList, False)
    (hk : (Cond.classLink RX4 158 nIA).before args s = true) (hini : (Cond.initialized nIA).before args s = true) (hstr : vk_R RX4 is text st9 s) (hgw : ∀ w ∈ (vx_atS RX4 162 nIA exN).filter goodWord, w.before args s = true) (hE : zE (zA G sz) sa sb s s.heap) (hsz : s.heap.size = sz) (hK : zK Γ s) (hM : zM Γ (zA G s.heap.size) s.heap G' H locs) (hsize : ls.size = c.maxLocals)
    (d0 : decode cc pc = .ok (.new 158, 3)) (d3 : decode cc (pc + 3) = .ok (.dup, 1)) (d4 : decode cc (pc + 4) = .ok (.ldc is, 2)) (d6 : decode cc (pc + 6) = .ok (.invokespecial 162, 3)) (d9 : decode cc (pc + 9) = .ok (.athrow, 1))
    (hRf : 5 < R.frames) (hRl : (rest.map fun v => v.category).sum + 82 ≤ R.locals) (hRc : cells + 1 ≤ R.cells) (hRs : slots + 6 ≤ R.slots) (hlocks : meth.locks = false) (hp : px G') {mc ms : Nat} (hc : cells + 1 ≤ mc) (hs : slots + 6 ≤ ms) :
    W p l e R s m args below meth c H locs cells slots (vx_MQ below Qc (zXC Γ G sz px) args s mc ms (zA G sz)) (F0 m pc ls rest) := by
  subst hsz
  obtain ⟨-, ⟨hU, hN⟩, h5, h6, h7, h8⟩ := hE
  refine vx_throwS hexec hb hl (own := RX4) (cls := nIA) (text := text) (names := exN) (ik := 158) (is := is) (ic := 162) (sa := st9) (A := zA G s.heap.size) hown (by decide +kernel) (by decide +kernel) hk hini hstr
    (vx_hat (L := vx_atS RX4 162 nIA exN) (B := exB) hgw (by decide +kernel) (vx_c (va_Nw.use rfl h5) (vx_c (va_Nw.use rfl h6) (vx_c (va_Nw.use rfl h7) (vx_c (va_Nw.use rfl h8) vx_n))))) (by decide +kernel) hU hN hM.2.2.1 hsize d0 d3 d4 d6 d9 (fun x h => absurd h (fun h => hnt x h)) hRf hRl hRc hRs hlocks (fun t ha hsz2 hq => ?_) hM.2.2.1.2.2 hc hs
  refine ⟨G', hp, ⟨rfl, fun a e hae => (hM.1 a e hae).kept (hq a (hM.1 a e hae).lt), va_K.moved ha hK, hM.2.1⟩, Nat.le_trans hM.2.2.1.1 hsz2, fun q h1 h2 => ?_⟩
  exact (hq q (Nat.lt_of_lt_of_le h1 hM.2.2.1.1)).trans (hM.2.2.1.2.1 q h1 h2)
theorem z_callx {ar : Array Value} {st0 : List Value} {mc ms : Nat} {post : Int32 → zG → Prop} {px : zG → Prop} (hr : vx_Run p l e R s m args below meth c H locs cells slots mc ms (F0 m pc ls st0) rest (va_Qi post (zPost Γ G H.size) (zA G H.size) ar) (zXC Γ G H.size px) (zA G H.size)) (hM : zM Γ A H0 G H locs)
    (kx : ∀ (ce : Cell) (q : Addr) (G' : zG) (H1 : Heap) (locs1 : List Loc), px G' → zM Γ A H0 G' H1 locs1 → H1[q]? = some ce → ce.vm = .none → s.vm.findClass nIA = some ce.cls → vx_W p l e R s m args below meth c H1 locs1 (cells + mc) (slots + ms) Q (F0 m pc ls rest) q)
    (kk : ∀ (r : Int32) (G' : zG) (H1 : Heap) (locs1 : List Loc), post r G' → zM Γ A H0 G' H1 locs1 → W p l e R s m args below meth c H1 locs1 (cells + mc) (slots + ms) Q (F0 m (pc + 3) ls (.int r :: rest))) : W p l e R s m args below meth c H locs cells slots Q (F0 m pc ls st0) :=
  vx_calli hr hM.2.2.1 (fun q _ h => hM.free q h) hM.free (fun q _ h => hM.free q h)
    (fun E ce q9 u t H1 locs1 ht _ hp hB _ _ hS h1 h2 h3 => by
      obtain ⟨rfl, hB⟩ := hB
      exact kx ce q9 u H1 locs1 hp (hM.call ht hB hS) h1 h2 h3)
    (fun r u t H1 locs1 ht _ hp hB _ _ hS => kk r u H1 locs1 hp (hM.call ht hB hS))
theorem zM.preE {As : List Value} (hE : zE A sa sb s H0) (hK : zK Γ s) (hM : zM Γ A H0 G H locs) : PreS s H (va_Pc As (zPreE Γ G H.size sa sb)) As :=
  ⟨zPreE.blind Γ G H.size sa sb As, fun U hU hW => ⟨rfl, ⟨by rw [hU], by rw [hU]; exact hM.1, va_K.moved hW.alike hK⟩, by rw [hU]; exact ((hE.kept hM.2.2.1.2.1).narrow hM.free).warm hW⟩⟩
theorem zM.preVE {As : List Value} {b ci : Nat} {fs : List Value} {q : vw_C} {C : String} (hE : zE A sa sb s H0) (hK : zK Γ s) (hM : zM Γ A H0 G H locs) (hb : G b = some (.inr (ci, fs))) (hc : vwCl[ci]? = some q) (hC : q.1 = C) : PreV s H C b (va_Pc (.ref b :: As) (zPreE Γ G H.size sa sb)) As :=
  ⟨zPreE.blind Γ G H.size sa sb _, by subst hC; exact va_recv hK (z_one hM.1 hb) (q0 := 0) hc rfl, fun U hU hW => ⟨rfl, ⟨by rw [hU], by rw [hU]; exact hM.1, va_K.moved hW.alike hK⟩, by rw [hU]; exact ((hE.kept hM.2.2.1.2.1).narrow hM.free).warm hW⟩⟩
end ZX
