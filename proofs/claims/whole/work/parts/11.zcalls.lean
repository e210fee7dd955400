/-! contracts over maps: a method's start, its end, calls -/
def zPre (Γ : zT) (G : zG) (sz : Nat) : State → Prop := fun U => U.heap.size = sz ∧ zP Γ G U.heap ∧ zK Γ U
def zPost (Γ : zT) (G : zG) (sz : Nat) : zG → State → Prop := fun G' t => zP Γ G' t.heap ∧ zK Γ t ∧ ∀ a e, G' a = some e → zA G sz a
abbrev zR (d : Nat) : Room := { frames := d, cells := 0, slots := 0, locals := 64 * d }
abbrev zMi (l : Launch) (y : MethodName) (ws : List Cond) (rm : Room) (Γ : zT) (G : zG) (sz : Nat) (av : List Value) (post : Int32 → zG → Prop) (mc ms : Nat) : Prop :=
  Met l y ws rm (va_Pc av (zPre Γ G sz)) (va_Qi post (zPost Γ G sz) (zA G sz)) mc ms (zA G sz)
abbrev zMl (l : Launch) (y : MethodName) (ws : List Cond) (rm : Room) (Γ : zT) (G : zG) (sz : Nat) (av : List Value) (post : Int64 → zG → Prop) (mc ms : Nat) : Prop :=
  Met l y ws rm (va_Pc av (zPre Γ G sz)) (va_Ql post (zPost Γ G sz) (zA G sz)) mc ms (zA G sz)
abbrev zMv (l : Launch) (y : MethodName) (ws : List Cond) (rm : Room) (Γ : zT) (G : zG) (sz : Nat) (av : List Value) (post : zG → Prop) (mc ms : Nat) : Prop :=
  Met l y ws rm (va_Pc av (zPre Γ G sz)) (va_Qv post (zPost Γ G sz) (zA G sz)) mc ms (zA G sz)
abbrev zMr (l : Launch) (y : MethodName) (ws : List Cond) (rm : Room) (Γ : zT) (G : zG) (sz : Nat) (av : List Value) (post : Nat → zG → Prop) (mc ms : Nat) : Prop :=
  Met l y ws rm (va_Pc av (zPre Γ G sz)) (va_Qr (fun _ : zG => True) (fun G' a t => post a G' ∧ zPost Γ G sz G' t) (zA G sz)) mc ms (zA G sz)
theorem zPre.blind (Γ : zT) (G : zG) (sz : Nat) (av : List Value) : FrameBlind (va_Pc av (zPre Γ G sz)) := fun a U g mk q => by
  obtain ⟨q0, q1, qP, qK⟩ := q
  exact ⟨q0, q1, qP, va_K.moved (u := U) (U := U.calling g mk a) (Vm.Alike.refl U.vm) qK⟩
theorem zM.self {Γ : zT} {G : zG} {H : Heap} (h : zP Γ G H) : zM Γ (zA G H.size) H G H [] := ⟨h, fun a e ha => Or.inl ⟨e, ha⟩, va_S.rf, fun q hq => Or.inr hq⟩
/-- a method's body, from its first instruction -/
theorem z_start {l : Launch} {y : MethodName} {ws ws' : List Cond} {rm : Room} {Γ : zT} {G : zG} {sz : Nat} {av : List Value} {Qc : Array Value → State → Outcome → State → Prop} {mc ms : Nat} {cc : ByteArray} {maxL : Nat} {ret : Option FieldType}
    (hy : plainName y.cls = true) (hw : ws = Cond.code y cc maxL ret :: ws') (hlen : (lg_sl av).length ≤ maxL)
    (body : ∀ (p : Program) (e : Env) (s : State) (m : MethodId) (args : Array Value) (below : List Frame) (meth : Method) (c : Code) (ls : Array Slot) (Q : State → Prop), Q = MQ below Qc args s mc ms (zA G sz) → s.heap.size = sz → p.tables.exec = Jvm.exec → c.code = cc → meth.sig.returnType = ret → c.maxLocals = maxL → s.vm.findClass y.cls = some m.cls → (∀ w ∈ ws, w.before args s = true) → meth.locks = false → meth.name = y.name → zK Γ s → zM Γ (zA G s.heap.size) s.heap G s.heap [] → lv_has ls maxL (lv_args 0 av) →
      W p l e rm s m args below meth c s.heap [] 0 0 Q (F0 m 0 ls [])) : Met l y ws rm (va_Pc av (zPre Γ G sz)) Qc mc ms (zA G sz) := by
  refine Met.ofW (cc := cc) (maxL := maxL) (ret := ret) hy hw ?_
  intro p e s m args below meth c s₁ B hml hv
  obtain ⟨rfl, hsz, hP, hK⟩ := hv
  have hl := lv_entry av (n := maxL) hlen
  rw [lg_entry_eq]
  exact body p e s m _ below meth c _ _ rfl hsz B.exec B.bytes B.returns hml (findClass_of_methodNamed B.named) (atoms_spec (ws := ws) B.pre) B.notSynchronized (name_of_methodNamed B.named B.method).1 hK (zM.self hP) hl
section ZE
variable {p : Program} {l : Launch} {e : Env} {R : Room} {s : State} {m : MethodId} {args : Array Value} {below : List Frame} {meth : Method} {c : Code} {H : Heap} {locs : List Loc} {cells slots : Nat} {Q : State → Prop}
variable {cc : ByteArray} {pc : Nat} {ls : Array Slot} {rest : List Value} {Γ : zT} {A : Nat → Prop} {a : Nat} {H0 : Heap} {G G' : zG} {sz : Nat}
theorem z_end (hsz : s.heap.size = sz) (hK : zK Γ s) (hM : zM Γ (zA G s.heap.size) s.heap G' H locs) : ∀ t : State, t.heap = H → s.WarmedH t.vm → zPost Γ G sz G' t ∧ va_F (zA G sz) s t := by
  subst hsz
  intro t ht hW
  exact ⟨⟨by rw [ht]; exact hM.1, va_K.moved hW.alike hK, hM.2.1⟩, hM.2.2.1.F ht⟩
theorem z_iret {post : Int32 → zG → Prop} {v : Int32} (hsz : s.heap.size = sz) (hexec : p.tables.exec = Jvm.exec) (hb : c.code = cc) (hr : meth.sig.returnType = some .int) (hlocks : meth.locks = false) (hK : zK Γ s) (hM : zM Γ (zA G s.heap.size) s.heap G' H locs) (hdg : decode cc pc = .ok (.ireturn, 1)) (hp : post v G') :
    W p l e R s m args below meth c H locs cells slots (MQ below (va_Qi post (zPost Γ G sz) (zA G sz)) args s cells slots (zA G sz)) (F0 m pc ls [.int v]) :=
  W.iret hexec hb hr (fun t ht hW => ⟨⟨v, G', rfl, hp, (z_end hsz hK hM t ht hW).1⟩, (z_end hsz hK hM t ht hW).2⟩) (by subst hsz; exact hM.2.2.1.2.2) hdg hlocks
theorem z_zret {post : Int32 → zG → Prop} {v : Nat} (hv : v < 2) (hsz : s.heap.size = sz) (hexec : p.tables.exec = Jvm.exec) (hb : c.code = cc) (hr : meth.sig.returnType = some .boolean) (hlocks : meth.locks = false) (hK : zK Γ s) (hM : zM Γ (zA G s.heap.size) s.heap G' H locs) (hdg : decode cc pc = .ok (.ireturn, 1)) (hp : post (nI v) G') :
    W p l e R s m args below meth c H locs cells slots (MQ below (va_Qi post (zPost Γ G sz) (zA G sz)) args s cells slots (zA G sz)) (F0 m pc ls [.int (nI v)]) :=
  W.zret (ty := .boolean) hexec hb hr (by rcases (show v = 0 ∨ v = 1 by omega) with rfl | rfl <;> rfl) (fun t ht hW => ⟨⟨nI v, G', rfl, hp, (z_end hsz hK hM t ht hW).1⟩, (z_end hsz hK hM t ht hW).2⟩) (by subst hsz; exact hM.2.2.1.2.2) hdg hlocks
theorem z_lret {post : Int64 → zG → Prop} {v : Int64} (hsz : s.heap.size = sz) (hexec : p.tables.exec = Jvm.exec) (hb : c.code = cc) (hr : meth.sig.returnType = some .long) (hlocks : meth.locks = false) (hK : zK Γ s) (hM : zM Γ (zA G s.heap.size) s.heap G' H locs) (hdg : decode cc pc = .ok (.lreturn, 1)) (hp : post v G') :
    W p l e R s m args below meth c H locs cells slots (MQ below (va_Ql post (zPost Γ G sz) (zA G sz)) args s cells slots (zA G sz)) (F0 m pc ls [.long v]) :=
  W.lret hexec hb hr (fun t ht hW => ⟨⟨v, G', rfl, hp, (z_end hsz hK hM t ht hW).1⟩, (z_end hsz hK hM t ht hW).2⟩) (by subst hsz; exact hM.2.2.1.2.2) hdg hlocks
theorem z_vret {post : zG → Prop} (hsz : s.heap.size = sz) (hexec : p.tables.exec = Jvm.exec) (hb : c.code = cc) (hr : meth.sig.returnType = none) (hlocks : meth.locks = false) (hK : zK Γ s) (hM : zM Γ (zA G s.heap.size) s.heap G' H locs) (hdg : decode cc pc = .ok (.return_, 1)) (hp : post G') :
    W p l e R s m args below meth c H locs cells slots (MQ below (va_Qv post (zPost Γ G sz) (zA G sz)) args s cells slots (zA G sz)) (F0 m pc ls []) :=
  W.vret hexec hb hr (fun t ht hW => ⟨⟨G', rfl, hp, (z_end hsz hK hM t ht hW).1⟩, (z_end hsz hK hM t ht hW).2⟩) (by subst hsz; exact hM.2.2.1.2.2) hdg hlocks
theorem z_aret {post : Nat → zG → Prop} {v : Nat} {ft : FieldType} (hsz : s.heap.size = sz) (hexec : p.tables.exec = Jvm.exec) (hb : c.code = cc) (hr : meth.sig.returnType = some (.array ft)) (hlocks : meth.locks = false) (hK : zK Γ s) (hM : zM Γ (zA G s.heap.size) s.heap G' H locs) (hdg : decode cc pc = .ok (.areturn, 1)) (hp : post v G') :
    W p l e R s m args below meth c H locs cells slots (MQ below (va_Qr (fun _ : zG => True) (fun G' a t => post a G' ∧ zPost Γ G sz G' t) (zA G sz)) args s cells slots (zA G sz)) (F0 m pc ls [.ref v]) :=
  W.aret hexec hb hr (Or.inr ⟨ft, rfl⟩) (Or.inr ⟨v, rfl⟩) (fun t ht hW => ⟨⟨G', v, rfl, trivial, hp, (z_end hsz hK hM t ht hW).1⟩, (z_end hsz hK hM t ht hW).2⟩) (by subst hsz; exact hM.2.2.1.2.2) hdg hlocks
/-- what a call's end gives the caller -/
theorem zM.call {G' : zG} {H1 : Heap} {locs1 : List Loc} {t : State} (hM : zM Γ A H0 G H locs) (ht : t.heap = H1) (hp : zPost Γ G H.size G' t) (hS : va_S A H0 H1 locs1) : zM Γ A H0 G' H1 locs1 := by
  refine ⟨by rw [← ht]; exact hp.1, fun a e ha => ?_, hS, hM.2.2.2⟩
  rcases hp.2.2 a e ha with ⟨e', h⟩ | h
  · exact hM.2.1 a e' h
  · exact hM.2.2.2 a (Nat.le_trans hM.2.2.1.1 h)
theorem zM.free (hM : zM Γ A H0 G H locs) : ∀ q, zA G H.size q → A q := by
  intro q h
  rcases h with ⟨e', h⟩ | h
  · exact hM.2.1 q e' h
  · exact hM.2.2.2 q (Nat.le_trans hM.2.2.1.1 h)
theorem zM.pre {As : List Value} (hK : zK Γ s) (hM : zM Γ A H0 G H locs) : PreS s H (va_Pc As (zPre Γ G H.size)) As :=
  ⟨zPre.blind Γ G H.size As, fun U hU hW => ⟨rfl, by rw [hU], by rw [hU]; exact hM.1, va_K.moved hW.alike hK⟩⟩
theorem zM.preV {As : List Value} {b ci : Nat} {fs : List Value} {q : vw_C} {C : String} (hK : zK Γ s) (hM : zM Γ A H0 G H locs) (hb : G b = some (.inr (ci, fs))) (hc : vwCl[ci]? = some q) (hC : q.1 = C) : PreV s H C b (va_Pc (.ref b :: As) (zPre Γ G H.size)) As :=
  ⟨zPre.blind Γ G H.size _, by subst hC; exact va_recv hK (z_one hM.1 hb) (q0 := 0) hc rfl, fun U hU hW => ⟨rfl, by rw [hU], by rw [hU]; exact hM.1, va_K.moved hW.alike hK⟩⟩
theorem z_calli {a : Array Value} {st0 : List Value} {mc ms : Nat} {post : Int32 → zG → Prop} (hr : va_Run p l e R s m args below meth c H locs cells slots mc ms (F0 m pc ls st0) rest (va_Qi post (zPost Γ G H.size) (zA G H.size) a) (zA G H.size)) (hM : zM Γ A H0 G H locs)
    (kk : ∀ (r : Int32) (G' : zG) (H1 : Heap) (locs1 : List Loc), post r G' → zM Γ A H0 G' H1 locs1 → W p l e R s m args below meth c H1 locs1 (cells + mc) (slots + ms) Q (F0 m (pc + 3) ls (.int r :: rest))) : W p l e R s m args below meth c H locs cells slots Q (F0 m pc ls st0) :=
  va_calli hr hM.2.2.1 (fun q _ h => hM.free q h) hM.free (fun r u t H1 locs1 ht _ hp hB _ _ hS => kk r u H1 locs1 hp (hM.call ht hB hS))
theorem z_calll {a : Array Value} {st0 : List Value} {mc ms : Nat} {post : Int64 → zG → Prop} (hr : va_Run p l e R s m args below meth c H locs cells slots mc ms (F0 m pc ls st0) rest (va_Ql post (zPost Γ G H.size) (zA G H.size) a) (zA G H.size)) (hM : zM Γ A H0 G H locs)
    (kk : ∀ (r : Int64) (G' : zG) (H1 : Heap) (locs1 : List Loc), post r G' → zM Γ A H0 G' H1 locs1 → W p l e R s m args below meth c H1 locs1 (cells + mc) (slots + ms) Q (F0 m (pc + 3) ls (.long r :: rest))) : W p l e R s m args below meth c H locs cells slots Q (F0 m pc ls st0) :=
  va_calll hr hM.2.2.1 (fun q _ h => hM.free q h) hM.free (fun r u t H1 locs1 ht _ hp hB _ _ hS => kk r u H1 locs1 hp (hM.call ht hB hS))
theorem z_callv {a : Array Value} {st0 : List Value} {mc ms : Nat} {post : zG → Prop} (hr : va_Run p l e R s m args below meth c H locs cells slots mc ms (F0 m pc ls st0) rest (va_Qv post (zPost Γ G H.size) (zA G H.size) a) (zA G H.size)) (hM : zM Γ A H0 G H locs)
    (kk : ∀ (G' : zG) (H1 : Heap) (locs1 : List Loc), post G' → zM Γ A H0 G' H1 locs1 → W p l e R s m args below meth c H1 locs1 (cells + mc) (slots + ms) Q (F0 m (pc + 3) ls rest)) : W p l e R s m args below meth c H locs cells slots Q (F0 m pc ls st0) :=
  va_callv hr hM.2.2.1 (fun q _ h => hM.free q h) hM.free (fun u t H1 locs1 ht _ hp hB _ _ hS => kk u H1 locs1 hp (hM.call ht hB hS))
theorem z_callr {a : Array Value} {st0 : List Value} {mc ms : Nat} {post : Nat → zG → Prop} (hr : va_Run p l e R s m args below meth c H locs cells slots mc ms (F0 m pc ls st0) rest (va_Qr (fun _ : zG => True) (fun G' a t => post a G' ∧ zPost Γ G H.size G' t) (zA G H.size) a) (zA G H.size)) (hM : zM Γ A H0 G H locs)
    (kk : ∀ (r : Nat) (G' : zG) (H1 : Heap) (locs1 : List Loc), post r G' → zM Γ A H0 G' H1 locs1 → W p l e R s m args below meth c H1 locs1 (cells + mc) (slots + ms) Q (F0 m (pc + 3) ls (.ref r :: rest))) : W p l e R s m args below meth c H locs cells slots Q (F0 m pc ls st0) :=
  va_callr hr hM.2.2.1 (fun q _ h => hM.free q h) hM.free (fun u ra t H1 locs1 ht _ _ hB _ _ hS => kk ra u H1 locs1 hB.1 (hM.call ht hB.2 hS))
theorem z_calli0 {a : Array Value} {st0 : List Value} {post : Int32 → zG → Prop} (hr : va_Run p l e R s m args below meth c H locs cells slots 0 0 (F0 m pc ls st0) rest (va_Qi post (zPost Γ G H.size) (zA G H.size) a) (zA G H.size)) (hM : zM Γ A H0 G H locs)
    (kk : ∀ (r : Int32) (G' : zG) (H1 : Heap) (locs1 : List Loc), post r G' → zM Γ A H0 G' H1 locs1 → W p l e R s m args below meth c H1 locs1 cells slots Q (F0 m (pc + 3) ls (.int r :: rest))) : W p l e R s m args below meth c H locs cells slots Q (F0 m pc ls st0) := z_calli hr hM kk
theorem z_calll0 {a : Array Value} {st0 : List Value} {post : Int64 → zG → Prop} (hr : va_Run p l e R s m args below meth c H locs cells slots 0 0 (F0 m pc ls st0) rest (va_Ql post (zPost Γ G H.size) (zA G H.size) a) (zA G H.size)) (hM : zM Γ A H0 G H locs)
    (kk : ∀ (r : Int64) (G' : zG) (H1 : Heap) (locs1 : List Loc), post r G' → zM Γ A H0 G' H1 locs1 → W p l e R s m args below meth c H1 locs1 cells slots Q (F0 m (pc + 3) ls (.long r :: rest))) : W p l e R s m args below meth c H locs cells slots Q (F0 m pc ls st0) := z_calll hr hM kk
theorem z_callv0 {a : Array Value} {st0 : List Value} {post : zG → Prop} (hr : va_Run p l e R s m args below meth c H locs cells slots 0 0 (F0 m pc ls st0) rest (va_Qv post (zPost Γ G H.size) (zA G H.size) a) (zA G H.size)) (hM : zM Γ A H0 G H locs)
    (kk : ∀ (G' : zG) (H1 : Heap) (locs1 : List Loc), post G' → zM Γ A H0 G' H1 locs1 → W p l e R s m args below meth c H1 locs1 cells slots Q (F0 m (pc + 3) ls rest)) : W p l e R s m args below meth c H locs cells slots Q (F0 m pc ls st0) := z_callv hr hM kk
end ZE
