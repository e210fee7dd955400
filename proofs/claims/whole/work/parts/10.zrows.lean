/-! The world as a map: what each address holds. Rows of the kit over lists of cells, turned to maps. -/
abbrev zT : Type := va_G × ClassId × ClassId × ClassId × ClassId
abbrev zG : Type := Nat → Option va_E
def zP (Γ : zT) (G : zG) (H : Heap) : Prop := ∀ (a : Nat) (e : va_E), G a = some e → va_at Γ.1 vwCl (a, e) H
abbrev zTys (Γ : zT) : List (ClassId × FieldType) := [(Γ.2.1, .int), (Γ.2.2.1, .boolean), (Γ.2.2.2.1, .object RX3), (Γ.2.2.2.2, .long)]
def zK (Γ : zT) (U : State) : Prop := va_K Γ.1 vwCl (zTys Γ) U
def zA (G : zG) (sz : Nat) : Nat → Prop := fun q => (∃ e, G q = some e) ∨ sz ≤ q
def zM (Γ : zT) (A : Nat → Prop) (H0 : Heap) (G : zG) (H : Heap) (locs : List Loc) : Prop := zP Γ G H ∧ (∀ a e, G a = some e → A a) ∧ va_S A H0 H locs ∧ ∀ q, H0.size ≤ q → A q
abbrev zI (Γ : zT) (n : Nat) (d : Nat → Nat) : va_E := .inl (Γ.2.1, n, .inl (fun j => nI (d j)))
abbrev zB (Γ : zT) (n : Nat) (d : Nat → Nat) : va_E := .inl (Γ.2.2.1, n, .inl (fun j => nI (d j)))
abbrev zW (Γ : zT) (n : Nat) (f : Nat → Option Nat) : va_E := .inl (Γ.2.2.2.1, n, .inr (.inr (.inr (.inr f))))
abbrev zL (Γ : zT) (n : Nat) (f : Nat → Int64) : va_E := .inl (Γ.2.2.2.2, n, .inr (.inl f))
def zup (G : zG) (a : Nat) (e : va_E) : zG := fun x => if x = a then some e else G x
theorem zup_s (G : zG) (a : Nat) (e : va_E) : zup G a e a = some e := by simp [zup]
theorem zup_n (G : zG) {a x : Nat} (e : va_E) (h : x ≠ a) : zup G a e x = G x := by simp [zup, h]
theorem zup_zup (G : zG) (a : Nat) (e e2 : va_E) : zup (zup G a e) a e2 = zup G a e2 := by funext x; by_cases h : x = a <;> simp [zup, h]
theorem zup_comm (G : zG) {a b : Nat} (e e2 : va_E) (h : a ≠ b) : zup (zup G a e) b e2 = zup (zup G b e2) a e := by funext x; by_cases h1 : x = a <;> by_cases h2 : x = b <;> simp [zup, h1, h2] <;> omega
theorem zup_self (G : zG) {a : Nat} {e : va_E} (h : G a = some e) : zup G a e = G := by funext x; by_cases h1 : x = a <;> simp [zup, h1, h]
def zls (G : zG) (n : Nat) : va_W := (List.range n).filterMap (fun q => (G q).map (fun e => (q, e)))
theorem zls_mem {G : zG} {n : Nat} {q : Nat × va_E} : q ∈ zls G n ↔ q.1 < n ∧ G q.1 = some q.2 := by
  simp only [zls, List.mem_filterMap, List.mem_range, Option.map_eq_some_iff]
  constructor
  · rintro ⟨a, h1, e, h2, rfl⟩; exact ⟨h1, h2⟩
  · rintro ⟨h1, h2⟩; exact ⟨q.1, h1, q.2, h2, rfl⟩
theorem zls_pw (G : zG) (n : Nat) : (zls G n).Pairwise (fun a b => a.1 < b.1) := by
  refine List.Pairwise.filterMap (R := (· < ·)) _ ?_ List.pairwise_lt_range
  intro a a' h b hb b' hb'
  simp only [Option.map_eq_some_iff] at hb hb'
  obtain ⟨e, -, rfl⟩ := hb
  obtain ⟨e', -, rfl⟩ := hb'
  exact h
theorem zls_D {A : Nat → Prop} {G : zG} {n : Nat} (h : ∀ a e, G a = some e → A a) : va_D A (zls G n) := by
  refine ⟨fun i j p q hi hj e => ?_, fun k q hk => h q.1 q.2 (zls_mem.mp (List.mem_of_getElem? hk)).2⟩
  have hp := List.pairwise_iff_getElem.mp (zls_pw G n)
  obtain ⟨li, ei⟩ := List.getElem?_eq_some_iff.mp hi
  obtain ⟨lj, ej⟩ := List.getElem?_eq_some_iff.mp hj
  rcases Nat.lt_trichotomy i j with c | c | c
  · have := hp i j li lj c; rw [ei, ej] at this; omega
  · exact c
  · have := hp j i lj li c; rw [ei, ej] at this; omega
theorem zls_P {Γ : zT} {G : zG} {H : Heap} (h : zP Γ G H) : va_P Γ.1 vwCl (zls G H.size) H := fun k q hk => h q.1 q.2 (zls_mem.mp (List.mem_of_getElem? hk)).2
theorem zP.lt {Γ : zT} {G : zG} {H : Heap} (h : zP Γ G H) {a : Nat} {e : va_E} (ha : G a = some e) : a < H.size := (h a e ha).lt
theorem zls_get {Γ : zT} {G : zG} {H : Heap} (h : zP Γ G H) {a : Nat} {e : va_E} (ha : G a = some e) : ∃ k : Nat, (zls G H.size)[k]? = some (a, e) := List.getElem?_of_mem (zls_mem.mpr ⟨h.lt ha, ha⟩)
theorem zls_back {Γ : zT} {G : zG} {H H1 : Heap} (h : zP Γ G H) {a k : Nat} {e e' : va_E} (hk : (zls G H.size)[k]? = some (a, e)) (h1 : va_P Γ.1 vwCl ((zls G H.size).set k (a, e')) H1) : zP Γ (zup G a e') H1 := by
  intro x ex hx
  have hlk := (List.getElem?_eq_some_iff.mp hk).1
  by_cases hxa : x = a
  · subst hxa
    rw [zup_s] at hx
    cases hx
    exact h1 k _ (List.getElem?_set_self hlk)
  · rw [zup_n _ _ hxa] at hx
    obtain ⟨j, hj⟩ := zls_get h hx
    have hjk : k ≠ j := fun e => by subst e; rw [hk] at hj; cases hj; exact hxa rfl
    exact h1 j _ (by rw [List.getElem?_set_ne hjk]; exact hj)
theorem zM.upd {Γ : zT} {A : Nat → Prop} {H0 : Heap} {G : zG} {H H1 : Heap} {locs locs1 : List Loc} (h : zM Γ A H0 G H locs) {a k : Nat} {e e' : va_E} (hk : (zls G H.size)[k]? = some (a, e)) (h1 : va_P Γ.1 vwCl ((zls G H.size).set k (a, e')) H1) (hS : va_S A H0 H1 locs1) : zM Γ A H0 (zup G a e') H1 locs1 := by
  refine ⟨zls_back h.1 hk h1, fun x ex hx => ?_, hS, h.2.2.2⟩
  by_cases hxa : x = a
  · subst hxa
    exact h.2.1 x e (zls_mem.mp (List.mem_of_getElem? hk)).2
  · rw [zup_n _ _ hxa] at hx
    exact h.2.1 x ex hx
theorem zM.push {Γ : zT} {A : Nat → Prop} {H0 : Heap} {G : zG} {H H1 : Heap} {locs locs1 : List Loc} (h : zM Γ A H0 G H locs) {a : Nat} {e' : va_E} (h1 : va_P Γ.1 vwCl ((zls G H.size) ++ [(a, e')]) H1) (hD : va_D A ((zls G H.size) ++ [(a, e')])) (hS : va_S A H0 H1 locs1) : G a = none ∧ zM Γ A H0 (zup G a e') H1 locs1 := by
  have hlast : ((zls G H.size) ++ [(a, e')])[(zls G H.size).length]? = some (a, e') := by simp
  have hn : G a = none := by
    cases hG : G a with
    | none => rfl
    | some e =>
      obtain ⟨k, hk⟩ := zls_get h.1 hG
      have hl := (List.getElem?_eq_some_iff.mp hk).1
      have := hD.1 k _ (a, e) (a, e') (by rw [List.getElem?_append_left hl]; exact hk) hlast rfl
      omega
  refine ⟨hn, fun x ex hx => ?_, fun x ex hx => ?_, hS, h.2.2.2⟩
  · by_cases hxa : x = a
    · subst hxa
      rw [zup_s] at hx
      cases hx
      exact h1 _ _ hlast
    · rw [zup_n _ _ hxa] at hx
      obtain ⟨j, hj⟩ := zls_get h.1 hx
      exact h1 j _ (by rw [List.getElem?_append_left (List.getElem?_eq_some_iff.mp hj).1]; exact hj)
  · by_cases hxa : x = a
    · subst hxa
      exact hD.2 _ _ hlast
    · rw [zup_n _ _ hxa] at hx
      exact h.2.1 x ex hx
theorem z_one {Γ : zT} {G : zG} {H : Heap} (h : zP Γ G H) {a : Nat} {e : va_E} (ha : G a = some e) : va_P Γ.1 vwCl [(a, e)] H := by
  intro k q hk
  have : k < 1 := (List.getElem?_eq_some_iff.mp hk).1
  rw [show k = 0 by omega] at hk
  cases hk
  exact h a e ha
theorem z_updn (d : Nat → Nat) (i x : Nat) : upd (fun j => nI (d j)) i (nI x) = fun j => nI (va_up d i x j) := by
  funext j
  by_cases h : j = i <;> simp [upd, va_up, h]
section ZR
variable {p : Program} {l : Launch} {e : Env} {R : Room} {s : State} {m : MethodId} {args : Array Value} {below : List Frame} {meth : Method} {c : Code} {H : Heap} {locs : List Loc} {cells slots : Nat} {Q : State → Prop}
variable {cc : ByteArray} {pc : Nat} {ls : Array Slot} {rest : List Value} {Γ : zT} {A : Nat → Prop} {a : Nat} {H0 : Heap} {G : zG}
theorem z_asi {x y : Int32} (h : x = y) (k : W p l e R s m args below meth c H locs cells slots Q (F0 m pc ls (.int y :: rest))) : W p l e R s m args below meth c H locs cells slots Q (F0 m pc ls (.int x :: rest)) := h ▸ k
theorem z_asl {x y : Int64} (h : x = y) (k : W p l e R s m args below meth c H locs cells slots Q (F0 m pc ls (.long y :: rest))) : W p l e R s m args below meth c H locs cells slots Q (F0 m pc ls (.long x :: rest)) := h ▸ k
theorem z_asr {x y : Value} (h : x = y) (k : W p l e R s m args below meth c H locs cells slots Q (F0 m pc ls (y :: rest))) : W p l e R s m args below meth c H locs cells slots Q (F0 m pc ls (x :: rest)) := h ▸ k
theorem z_get {own ref C : String} {T : u_T} {N ci index : Nat} {Ts : List Cond} (hexec : p.tables.exec = Jvm.exec) (hb : c.code = cc) (hts : ∀ w ∈ Ts, w.before args s = true) (hin : ∀ w ∈ u_ws C T N, w ∈ Ts) (hown : s.vm.findClass own = some m.cls) (hK : zK Γ s) (hM : zM Γ A H0 G H locs) {fs : List Value} (he : G a = some (.inr (ci, fs))) (k : Nat) (hlink : (Cond.fieldLink own index ref (T k).2.1 (T k).2.2.1).before args s = true) (hsame : ref = (T k).1) (hc : vwCl[ci]? = some (C, T, N)) (hk : k < N) {v : Value} (hv : fs[k]? = some v) (hdg : decode cc pc = .ok (.getfield index, 3))
    (kk : W p l e R s m args below meth c H locs cells slots Q (F0 m (pc + 3) ls (v :: rest))) : W p l e R s m args below meth c H locs cells slots Q (F0 m pc ls (.ref a :: rest)) :=
  va_get (D := Γ.1) (ci := ci) (v := v) hexec hb hts hin hown hK (z_one hM.1 he) 0 rfl hc k hk hlink (fun x h => by subst hsame; exact h) hv hdg kk
theorem z_put {own ref C : String} {T : u_T} {N ci index : Nat} {Ts : List Cond} (hexec : p.tables.exec = Jvm.exec) (hb : c.code = cc) (hts : ∀ w ∈ Ts, w.before args s = true) (hin : ∀ w ∈ u_ws C T N, w ∈ Ts) (ty0 : Nat → FieldType) (hty : ∀ k, k < N → parseFieldDescriptor (T k).2.2.1 = some (ty0 k)) (hnm : ∀ a, a < N → ∀ b, b < N → a ≠ b → (T a).2.1 ≠ (T b).2.1) (hown : s.vm.findClass own = some m.cls) (hK : zK Γ s) (hM : zM Γ A H0 G H locs) {fs fs' : List Value} (he : G a = some (.inr (ci, fs))) (k : Nat) (hlink : (Cond.fieldLink own index ref (T k).2.1 (T k).2.2.1).before args s = true) (hsame : ref = (T k).1) (hc : vwCl[ci]? = some (C, T, N)) (hk : k < N) (hfin : (T k).2.2.2 = false) {v : Value} (hn : narrow (ty0 k) v = v) (hfit : fits (ty0 k) v = true) (hl : k < fs.length) (hfs : fs.set k v = fs')
    (hdg : decode cc pc = .ok (.putfield index, 3)) (kk : ∀ (H1 : Heap) (locs1 : List Loc), zM Γ A H0 (zup G a (.inr (ci, fs'))) H1 locs1 → W p l e R s m args below meth c H1 locs1 cells slots Q (F0 m (pc + 3) ls rest)) : W p l e R s m args below meth c H locs cells slots Q (F0 m pc ls (v :: .ref a :: rest)) := by
  obtain ⟨q0, hq0⟩ := zls_get hM.1 he
  subst hfs
  exact va_put (D := Γ.1) (ci := ci) (v := v) (ty := ty0 k) hexec hb hts hin ty0 hty hnm hown hK (zls_P hM.1) (zls_D hM.2.1) hM.2.2.1 q0 hq0 hc k hk hlink (fun x h => by subst hsame; exact h) hfin (hty k hk) hn hfit hl hdg (fun H1 locs1 hP _ hS => kk H1 locs1 (hM.upd hq0 hP hS))
theorem z_putF {own ref C : String} {T : u_T} {N ci index : Nat} {Ts : List Cond} (hexec : p.tables.exec = Jvm.exec) (hb : c.code = cc) (hts : ∀ w ∈ Ts, w.before args s = true) (hin : ∀ w ∈ u_ws C T N, w ∈ Ts) (ty0 : Nat → FieldType) (hty : ∀ k, k < N → parseFieldDescriptor (T k).2.2.1 = some (ty0 k)) (hnm : ∀ a, a < N → ∀ b, b < N → a ≠ b → (T a).2.1 ≠ (T b).2.1) (hown : s.vm.findClass own = some m.cls) (hK : zK Γ s) (hM : zM Γ A H0 G H locs) {fs fs' : List Value} (he : G a = some (.inr (ci, fs))) (k : Nat) (hlink : (Cond.fieldLink own index ref (T k).2.1 (T k).2.2.1).before args s = true) (hsame : ref = (T k).1) (hc : vwCl[ci]? = some (C, T, N)) (hk : k < N) (hfin : (T k).2.2.2 = true) (hin2 : meth.name = "<init>") (hdecl : (T k).1 = own) {v : Value} (hn : narrow (ty0 k) v = v) (hfit : fits (ty0 k) v = true) (hl : k < fs.length) (hfs : fs.set k v = fs')
    (hdg : decode cc pc = .ok (.putfield index, 3)) (kk : ∀ (H1 : Heap) (locs1 : List Loc), zM Γ A H0 (zup G a (.inr (ci, fs'))) H1 locs1 → W p l e R s m args below meth c H1 locs1 cells slots Q (F0 m (pc + 3) ls rest)) : W p l e R s m args below meth c H locs cells slots Q (F0 m pc ls (v :: .ref a :: rest)) := by
  obtain ⟨q0, hq0⟩ := zls_get hM.1 he
  subst hfs
  exact va_putF (D := Γ.1) (ci := ci) (v := v) (ty := ty0 k) hexec hb hts hin ty0 hty hnm hown hK (zls_P hM.1) (zls_D hM.2.1) hM.2.2.1 q0 hq0 hc k hk hlink (fun x h => by subst hsame; exact h) hfin hin2 hdecl (hty k hk) hn hfit hl hdg (fun H1 locs1 hP _ hS => kk H1 locs1 (hM.upd hq0 hP hS))
theorem z_ild (hexec : p.tables.exec = Jvm.exec) (hb : c.code = cc) (hK : zK Γ s) (hM : zM Γ A H0 G H locs) {n i : Nat} {d : Nat → Nat} (ha : G a = some (zI Γ n d)) (hi : i < n) (hn : n < 2 ^ 31) (hdg : decode cc pc = .ok (.iaload, 1))
    (kk : W p l e R s m args below meth c H locs cells slots Q (F0 m (pc + 1) ls (.int (nI (d i)) :: rest))) : W p l e R s m args below meth c H locs cells slots Q (F0 m pc ls (.int (nI i) :: .ref a :: rest)) :=
  va_iald (D := Γ.1) hexec hb hK (z_one hM.1 ha) 0 0 rfl rfl (vp_in_nI hi hn) hdg (by rw [nI_clamp (by omega)]; exact kk)
theorem z_ist (hexec : p.tables.exec = Jvm.exec) (hb : c.code = cc) (hK : zK Γ s) (hM : zM Γ A H0 G H locs) {n i x : Nat} {d : Nat → Nat} (ha : G a = some (zI Γ n d)) (hi : i < n) (hn : n < 2 ^ 31) (hdg : decode cc pc = .ok (.iastore, 1))
    (kk : ∀ (H1 : Heap) (locs1 : List Loc), zM Γ A H0 (zup G a (zI Γ n (va_up d i x))) H1 locs1 → W p l e R s m args below meth c H1 locs1 cells slots Q (F0 m (pc + 1) ls rest)) : W p l e R s m args below meth c H locs cells slots Q (F0 m pc ls (.int (nI x) :: .int (nI i) :: .ref a :: rest)) := by
  obtain ⟨q0, hq0⟩ := zls_get hM.1 ha
  refine va_iast (D := Γ.1) hexec hb hK (zls_P hM.1) (zls_D hM.2.1) hM.2.2.1 q0 0 hq0 rfl (vp_in_nI hi hn) hdg (fun H1 locs1 hP _ hS => ?_)
  rw [nI_clamp (by omega), z_updn] at hP
  exact kk H1 locs1 (hM.upd hq0 hP hS)
theorem z_zld (hexec : p.tables.exec = Jvm.exec) (hb : c.code = cc) (hK : zK Γ s) (hM : zM Γ A H0 G H locs) {n i : Nat} {d : Nat → Nat} (ha : G a = some (zB Γ n d)) (hi : i < n) (hn : n < 2 ^ 31) (hdg : decode cc pc = .ok (.baload, 1))
    (kk : W p l e R s m args below meth c H locs cells slots Q (F0 m (pc + 1) ls (.int (nI (d i)) :: rest))) : W p l e R s m args below meth c H locs cells slots Q (F0 m pc ls (.int (nI i) :: .ref a :: rest)) :=
  va_zald (D := Γ.1) hexec hb hK (z_one hM.1 ha) 0 1 rfl rfl (vp_in_nI hi hn) hdg (by rw [nI_clamp (by omega)]; exact kk)
theorem z_nar0 : vp_nar .boolean (nI 0) = nI 0 := rfl
theorem z_nar1 : vp_nar .boolean (nI 1) = nI 1 := rfl
theorem z_zst (hexec : p.tables.exec = Jvm.exec) (hb : c.code = cc) (hK : zK Γ s) (hM : zM Γ A H0 G H locs) {n i x : Nat} {d : Nat → Nat} (ha : G a = some (zB Γ n d)) (hi : i < n) (hn : n < 2 ^ 31) (hx2 : x < 2) (hdg : decode cc pc = .ok (.bastore, 1))
    (kk : ∀ (H1 : Heap) (locs1 : List Loc), zM Γ A H0 (zup G a (zB Γ n (va_up d i x))) H1 locs1 → W p l e R s m args below meth c H1 locs1 cells slots Q (F0 m (pc + 1) ls rest)) : W p l e R s m args below meth c H locs cells slots Q (F0 m pc ls (.int (nI x) :: .int (nI i) :: .ref a :: rest)) := by
  obtain ⟨q0, hq0⟩ := zls_get hM.1 ha
  refine va_zast (D := Γ.1) hexec hb hK (zls_P hM.1) (zls_D hM.2.1) hM.2.2.1 q0 1 hq0 rfl (vp_in_nI hi hn) hdg (fun H1 locs1 hP _ hS => ?_)
  rw [nI_clamp (by omega), show vp_nar .boolean (nI x) = nI x by rcases (show x = 0 ∨ x = 1 by omega) with rfl | rfl <;> rfl, z_updn] at hP
  exact kk H1 locs1 (hM.upd hq0 hP hS)
theorem z_ald (hexec : p.tables.exec = Jvm.exec) (hb : c.code = cc) (hK : zK Γ s) (hM : zM Γ A H0 G H locs) {n i q : Nat} {f : Nat → Option Nat} (ha : G a = some (zW Γ n f)) (hi : i < n) (hn : n < 2 ^ 31) (hq : f i = some q) (hdg : decode cc pc = .ok (.aaload, 1))
    (kk : W p l e R s m args below meth c H locs cells slots Q (F0 m (pc + 1) ls (.ref q :: rest))) : W p l e R s m args below meth c H locs cells slots Q (F0 m pc ls (.int (nI i) :: .ref a :: rest)) :=
  va_aldq (D := Γ.1) hexec hb hK (z_one hM.1 ha) 0 2 rfl rfl (vp_in_nI hi hn) hdg (by rw [nI_clamp (by omega), hq]; exact kk)
theorem z_ast (hexec : p.tables.exec = Jvm.exec) (hb : c.code = cc) (hK : zK Γ s) (hM : zM Γ A H0 G H locs) {n i v : Nat} {vs : List Value} {f : Nat → Option Nat} (ha : G a = some (zW Γ n f)) (hv : G v = some (.inr (5, vs))) (hi : i < n) (hn : n < 2 ^ 31) (hdg : decode cc pc = .ok (.aastore, 1))
    (kk : ∀ (H1 : Heap) (locs1 : List Loc), zM Γ A H0 (zup G a (zW Γ n (va_up f i (some v)))) H1 locs1 → W p l e R s m args below meth c H1 locs1 cells slots Q (F0 m (pc + 1) ls rest)) : W p l e R s m args below meth c H locs cells slots Q (F0 m pc ls (.ref v :: .int (nI i) :: .ref a :: rest)) := by
  obtain ⟨q0, hq0⟩ := zls_get hM.1 ha
  obtain ⟨q1, hq1⟩ := zls_get hM.1 hv
  refine va_astq (D := Γ.1) (r := (RX3, TX3, 3)) hexec hb hK (zls_P hM.1) (zls_D hM.2.1) hM.2.2.1 q0 2 q1 5 hq0 rfl hq1 rfl (vp_in_nI hi hn) hdg (fun H1 locs1 hP _ hS => ?_)
  rw [nI_clamp (by omega)] at hP
  exact kk H1 locs1 (hM.upd hq0 hP hS)
theorem z_lld (hexec : p.tables.exec = Jvm.exec) (hb : c.code = cc) (hK : zK Γ s) (hM : zM Γ A H0 G H locs) {n i : Nat} {f : Nat → Int64} (ha : G a = some (zL Γ n f)) (hi : i < n) (hn : n < 2 ^ 31) (hdg : decode cc pc = .ok (.laload, 1))
    (kk : W p l e R s m args below meth c H locs cells slots Q (F0 m (pc + 1) ls (.long (f i) :: rest))) : W p l e R s m args below meth c H locs cells slots Q (F0 m pc ls (.int (nI i) :: .ref a :: rest)) :=
  va_lald (D := Γ.1) hexec hb hK (z_one hM.1 ha) 0 3 rfl rfl (vp_in_nI hi hn) hdg (by rw [nI_clamp (by omega)]; exact kk)
theorem z_lst (hexec : p.tables.exec = Jvm.exec) (hb : c.code = cc) (hK : zK Γ s) (hM : zM Γ A H0 G H locs) {n i : Nat} {x : Int64} {f : Nat → Int64} (ha : G a = some (zL Γ n f)) (hi : i < n) (hn : n < 2 ^ 31) (hdg : decode cc pc = .ok (.lastore, 1))
    (kk : ∀ (H1 : Heap) (locs1 : List Loc), zM Γ A H0 (zup G a (zL Γ n (vp_updL f i x))) H1 locs1 → W p l e R s m args below meth c H1 locs1 cells slots Q (F0 m (pc + 1) ls rest)) : W p l e R s m args below meth c H locs cells slots Q (F0 m pc ls (.long x :: .int (nI i) :: .ref a :: rest)) := by
  obtain ⟨q0, hq0⟩ := zls_get hM.1 ha
  refine va_last (D := Γ.1) hexec hb hK (zls_P hM.1) (zls_D hM.2.1) hM.2.2.1 q0 3 hq0 rfl (vp_in_nI hi hn) hdg (fun H1 locs1 hP _ hS => ?_)
  rw [nI_clamp (by omega)] at hP
  exact kk H1 locs1 (hM.upd hq0 hP hS)
theorem z_alenI (hexec : p.tables.exec = Jvm.exec) (hb : c.code = cc) (hK : zK Γ s) (hM : zM Γ A H0 G H locs) {n : Nat} {d : Nat → Nat} (ha : G a = some (zI Γ n d)) (hdg : decode cc pc = .ok (.arraylength, 1))
    (kk : W p l e R s m args below meth c H locs cells slots Q (F0 m (pc + 1) ls (.int (nI n) :: rest))) : W p l e R s m args below meth c H locs cells slots Q (F0 m pc ls (.ref a :: rest)) :=
  va_alen (D := Γ.1) hexec hb hK (z_one hM.1 ha) 0 0 rfl rfl rfl hdg kk
theorem z_alenW (hexec : p.tables.exec = Jvm.exec) (hb : c.code = cc) (hK : zK Γ s) (hM : zM Γ A H0 G H locs) {n : Nat} {f : Nat → Option Nat} (ha : G a = some (zW Γ n f)) (hdg : decode cc pc = .ok (.arraylength, 1))
    (kk : W p l e R s m args below meth c H locs cells slots Q (F0 m (pc + 1) ls (.int (nI n) :: rest))) : W p l e R s m args below meth c H locs cells slots Q (F0 m pc ls (.ref a :: rest)) :=
  va_alen (D := Γ.1) hexec hb hK (z_one hM.1 ha) 0 2 rfl rfl rfl hdg kk
end ZR
