/-! the class: numbers in objects of their own -/
theorem zne {G : zG} {a b : Nat} {e e' : va_E} (ha : G a = some e) (hb : G b = some e') (h : e ≠ e') : a ≠ b := fun q => by subst q; exact h (Option.some.inj (ha.symm.trans hb))
abbrev wh (la n : Nat) (sg : Int32) : va_E := .inr (5, [.ref la, .int (nI n), .int sg])
/-- the sign of a number, as an int -/
def sgI (z : Int) : Int32 := if z < 0 then -1 else if z = 0 then nI 0 else nI 1
theorem nI_sub3 {x y c : Nat} (hx : x < 2147483648) (hy : y < 2147483648) (hc : c ≤ 1) : nI x - nI y - nI c = nI ((x + 4294967296 - y - c) % 4294967296) := by
  apply Int32.toBitVec_inj.mp
  apply BitVec.eq_of_toNat_eq
  rw [Int32.toBitVec_sub, Int32.toBitVec_sub, ni_bv, ni_bv, ni_bv, ni_bv]
  simp only [BitVec.toNat_sub, BitVec.toNat_ofNat]
  omega
theorem cpy_nI (f g : Nat → Nat) (a b n : Nat) : va_cpy (fun j => nI (f j)) (fun j => nI (g j)) a b n = fun j => nI (va_cpy f g a b n j) := by
  funext j; unfold va_cpy; split <;> rfl
section ZC
variable {p : Program} {l : Launch} {e : Env} {R : Room} {s : State} {m : MethodId} {args : Array Value} {below : List Frame} {meth : Method} {c : Code} {H : Heap} {locs : List Loc} {cells slots : Nat} {Q : State → Prop}
variable {cc : ByteArray} {pc : Nat} {ls : Array Slot} {rest : List Value} {Γ : zT} {A : Nat → Prop} {a : Nat} {H0 : Heap} {G : zG}
/-- System.arraycopy between two arrays of ints -/
theorem z_copy (hexec : p.tables.exec = Jvm.exec) (hb : c.code = cc) (hml : c.maxLocals = ls.size) {own : String} {index : Nat} (hown : s.vm.findClass own = some m.cls) (hlink : (Cond.methodLink own index arraycopyName).before args s = true) (hnat : (Cond.native arraycopyName).before args s = true) (hstat : (Cond.static arraycopyName).before args s = true) (hini : (Cond.initialized "java/lang/System").before args s = true)
    (hK : zK Γ s) (hM : zM Γ A H0 G H locs) {a0 n0 n1 : Nat} {f g : Nat → Nat} (h0 : G a0 = some (zI Γ n0 f)) (h1 : G a = some (zI Γ n1 g)) {sp dp n : Nat} (hs : sp + n ≤ n0) (hd : dp + n ≤ n1) (hn0 : n0 < 2 ^ 31) (hn1 : n1 < 2 ^ 31)
    (hframes : 1 ≤ R.frames) (hlocals : (rest.map fun v => v.category).sum + (nativeFrameWords "java/lang/System" "arraycopy" 5 + 11) ≤ R.locals) (hdg : decode cc pc = .ok (.invokestatic index, 3))
    (kk : ∀ (H1 : Heap) (locs1 : List Loc), zM Γ A H0 (zup G a (zI Γ n1 (va_cpy f g sp dp n))) H1 locs1 → W p l e R s m args below meth c H1 locs1 cells slots Q (F0 m (pc + 3) ls rest)) : W p l e R s m args below meth c H locs cells slots Q (F0 m pc ls (.int (nI n) :: .int (nI dp) :: .ref a :: .int (nI sp) :: .ref a0 :: rest)) := by
  obtain ⟨q0, hq0⟩ := zls_get hM.1 h0
  obtain ⟨q1, hq1⟩ := zls_get hM.1 h1
  refine va_copyi (D := Γ.1) (ty := .int) hexec hb hml hown hlink hnat hstat hini hK (zls_P hM.1) (zls_D hM.2.1) hM.2.2.1 q0 q1 0 0 hq0 hq1 rfl rfl rfl (nI_pos (by omega)) (nI_pos (by omega)) (nI_pos (by omega)) (by rw [nI_clamp (by omega), nI_clamp (by omega)]; exact hs) (by rw [nI_clamp (by omega), nI_clamp (by omega)]; exact hd) (fun i _ => rfl) hframes hlocals hdg (fun H1 locs1 hP _ hS => ?_)
  rw [nI_clamp (by omega), nI_clamp (by omega), nI_clamp (by omega), cpy_nI] at hP
  exact kk H1 locs1 (hM.upd hq1 hP hS)
end ZC
theorem zi_and' (n : Nat) : nI n &&& 2147483647 = nI (n % 2147483648) := by
  have := @zl_i31 n
  rw [zl_i] at this
  exact this
section ZD
variable {p : Program} {l : Launch} {e : Env} {R : Room} {s : State} {m : MethodId} {args : Array Value} {below : List Frame} {meth : Method} {c : Code} {H : Heap} {locs : List Loc} {cells slots : Nat} {Q : State → Prop}
variable {cc : ByteArray} {pc : Nat} {ls : Array Slot} {rest : List Value}
theorem z_iandU (hexec : p.tables.exec = Jvm.exec) (hb : c.code = cc) {x : Nat} (hdg : decode cc pc = .ok (.iand, 1))
    (k : W p l e R s m args below meth c H locs cells slots Q (F0 m (pc + 1) ls (.int (nI (x % 2147483648)) :: rest))) : W p l e R s m args below meth c H locs cells slots Q (F0 m pc ls (.int (nI 2147483647) :: .int (nI x) :: rest)) :=
  lv_iand hexec hb hdg (by rw [show nI 2147483647 = (2147483647 : Int32) from rfl, zi_and']; exact k)
theorem z_iushr31 (hexec : p.tables.exec = Jvm.exec) (hb : c.code = cc) {x : Nat} (h : x < 2 ^ 32) (hdg : decode cc pc = .ok (.iushr, 1))
    (k : W p l e R s m args below meth c H locs cells slots Q (F0 m (pc + 1) ls (.int (nI (x / 2147483648)) :: rest))) : W p l e R s m args below meth c H locs cells slots Q (F0 m pc ls (.int (nI 31) :: .int (nI x) :: rest)) :=
  lv_iushr hexec hb hdg (pk_ushrN h (nI 31) 31 (by decide)) k
theorem z_max (hexec : p.tables.exec = Jvm.exec) (hb : c.code = cc) (hml : c.maxLocals = ls.size) {own : String} {index : Nat} (hown : s.vm.findClass own = some m.cls) (hlink : (Cond.methodLink own index Lib.Math.max.name).before args s = true) (hstat : (Cond.static Lib.Math.max.name).before args s = true) (hini : (Cond.initialized "java/lang/Math").before args s = true) (hcode : (Cond.code Lib.Math.max.name Lib.Math.max.code 2 (some .int)).before args s = true)
    (hframes : 1 ≤ R.frames) (hlocals : (rest.map fun v => v.category).sum + 13 ≤ R.locals) (hc : cells ≤ R.cells) (hs : slots ≤ R.slots) {x y : Nat} (h1 : x < 2 ^ 31) (h2 : y < 2 ^ 31) (hdg : decode cc pc = .ok (.invokestatic index, 3))
    (kk : W p l e R s m args below meth c H locs cells slots Q (F0 m (pc + 3) ls (.int (nI (max x y)) :: rest))) : W p l e R s m args below meth c H locs cells slots Q (F0 m pc ls (.int (nI y) :: .int (nI x) :: rest)) :=
  va_mmax hexec hb hml hown hlink hstat hini hcode hframes hlocals hc hs hdg (by
    have e : (if nI x < nI y then nI y else nI x) = nI (max x y) := by
      by_cases h : x < y
      · rw [if_pos ((nI_ltI h1 h2).mpr h), Nat.max_eq_right (by omega)]
      · rw [if_neg (mt (nI_ltI h1 h2).mp h), Nat.max_eq_left (by omega)]
    rw [e]; exact kk)
end ZD
theorem mixd_dg {d d1 : Nat → Nat} {n k : Nat} (h : dg d n) (h1 : ∀ j, k ≤ j → d1 j = d j) (h2 : dg d1 k) : dg d1 n := fun j hj => by
  rcases Nat.lt_or_ge j k with c | c
  · exact h2 j c
  · rw [h1 j c]; exact h j hj
theorem up_dg0 {d1 : Nat → Nat} {k x : Nat} (h2 : dg d1 k) (hx : x < 2147483648) : dg (va_up d1 k x) (k + 1) := fun j hj => by
  by_cases c : j = k
  · subst c; rw [va_up_self]; exact hx
  · rw [va_up_ne _ _ c]; exact h2 j (by omega)
theorem up_vl0 {d1 : Nat → Nat} {k x : Nat} : vl (va_up d1 k x) (k + 1) = vl d1 k + x * bp k := by rw [vl_s, va_up_self, vl_up (Nat.le_refl _)]
/-- a digit, 0 above the length -/
def dgt (d : Nat → Nat) (n k : Nat) : Nat := if k < n then d k else 0
theorem dgt_lt {d : Nat → Nat} {n : Nat} (h : dg d n) (k : Nat) : dgt d n k < 2147483648 := by unfold dgt; split; exact h k (by assumption); decide
theorem dgt_vl {d : Nat → Nat} {n m : Nat} (hm : n ≤ m) : vl (dgt d n) m = vl d n := by
  rw [vl_pad hm (fun k h1 _ => by unfold dgt; rw [if_neg (by omega)])]
  exact vl_congr (fun k hk => by unfold dgt; rw [if_pos hk])
theorem dgt_mix {d d1 : Nat → Nat} {n k : Nat} (h1 : ∀ j, k ≤ j → d1 j = d j) : dgt d1 n k = dgt d n k := by unfold dgt; rw [h1 k (Nat.le_refl _)]
/-- a number in its shortest form -/
def sf (d : Nat → Nat) (n : Nat) : Prop := dg d n ∧ (0 < n → d (n - 1) ≠ 0)
theorem sf.nl {d : Nat → Nat} {n : Nat} (h : sf d n) : nl (vl d n) = n := nl_vl h.1 h.2
