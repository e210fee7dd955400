/-! the reference's world: one object, three arrays -/
def mdO (lF lL lB : Nat) (fl : Nat → Int32) : List Value := [.int (fl 0), .int (fl 1), .int (fl 2), .int (fl 3), .ref lF, .ref lL, .ref lB, .int (fl 7), .int (fl 8), .int (fl 9), .int (fl 10), .int (fl 11), .int (fl 12), .int (fl 13), .int (fl 14)]
def md (Γ : zT) (o lF lL lB : Nat) (G0 : zG) (fl : Nat → Int32) (F L B : Nat → Nat) : zG := zup (zup (zup (zup G0 o (.inr (7, mdO lF lL lB fl))) lF (zI Γ 32760 F)) lL (zI Γ 455 L)) lB (zB Γ 455 B)
def mdk (o lF lL lB : Nat) : Prop := o ≠ lF ∧ o ≠ lL ∧ o ≠ lB ∧ lF ≠ lL ∧ lF ≠ lB ∧ lL ≠ lB
section MD
variable {Γ : zT} {o lF lL lB : Nat} {G0 : zG} {fl : Nat → Int32} {F L B : Nat → Nat}
theorem md_o (h : mdk o lF lL lB) : md Γ o lF lL lB G0 fl F L B o = some (.inr (7, mdO lF lL lB fl)) := by
  obtain ⟨h1, h2, h3, h4, h5, h6⟩ := h
  unfold md; rw [zup_n _ _ h3, zup_n _ _ h2, zup_n _ _ h1, zup_s]
theorem md_F (h : mdk o lF lL lB) : md Γ o lF lL lB G0 fl F L B lF = some (zI Γ 32760 F) := by
  obtain ⟨h1, h2, h3, h4, h5, h6⟩ := h
  unfold md; rw [zup_n _ _ h5, zup_n _ _ h4, zup_s]
theorem md_L (h : mdk o lF lL lB) : md Γ o lF lL lB G0 fl F L B lL = some (zI Γ 455 L) := by
  obtain ⟨h1, h2, h3, h4, h5, h6⟩ := h
  unfold md; rw [zup_n _ _ h6, zup_s]
theorem md_B (_ : mdk o lF lL lB) : md Γ o lF lL lB G0 fl F L B lB = some (zB Γ 455 B) := by
  unfold md; rw [zup_s]
theorem md_uB (_ : mdk o lF lL lB) (B' : Nat → Nat) : zup (md Γ o lF lL lB G0 fl F L B) lB (zB Γ 455 B') = md Γ o lF lL lB G0 fl F L B' := by
  unfold md; rw [zup_zup]
theorem md_uL (h : mdk o lF lL lB) (L' : Nat → Nat) : zup (md Γ o lF lL lB G0 fl F L B) lL (zI Γ 455 L') = md Γ o lF lL lB G0 fl F L' B := by
  obtain ⟨h1, h2, h3, h4, h5, h6⟩ := h
  unfold md; rw [zup_comm _ _ _ (Ne.symm h6), zup_zup]
theorem md_uF (h : mdk o lF lL lB) (F' : Nat → Nat) : zup (md Γ o lF lL lB G0 fl F L B) lF (zI Γ 32760 F') = md Γ o lF lL lB G0 fl F' L B := by
  obtain ⟨h1, h2, h3, h4, h5, h6⟩ := h
  unfold md; rw [zup_comm _ _ _ (Ne.symm h5), zup_comm _ _ _ (Ne.symm h4), zup_zup]
theorem md_uo (h : mdk o lF lL lB) (fl' : Nat → Int32) : zup (md Γ o lF lL lB G0 fl F L B) o (.inr (7, mdO lF lL lB fl')) = md Γ o lF lL lB G0 fl' F L B := by
  obtain ⟨h1, h2, h3, h4, h5, h6⟩ := h
  unfold md; rw [zup_comm _ _ _ (Ne.symm h3), zup_comm _ _ _ (Ne.symm h2), zup_comm _ _ _ (Ne.symm h1), zup_zup]
end MD
section MR
variable {p : Program} {l : Launch} {e : Env} {R : Room} {s : State} {m : MethodId} {args : Array Value} {below : List Frame} {meth : Method} {c : Code} {H : Heap} {locs : List Loc} {cells slots : Nat} {Q : State → Prop}
variable {cc : ByteArray} {pc : Nat} {ls : Array Slot} {rest : List Value} {Γ : zT} {A : Nat → Prop} {H0 : Heap} {o lF lL lB : Nat} {G0 : zG} {fl : Nat → Int32} {F L B : Nat → Nat}
theorem m_get {own ref : String} {index : Nat} {Ts : List Cond} (hok : mdk o lF lL lB) (hexec : p.tables.exec = Jvm.exec) (hb : c.code = cc) (hts : ∀ w ∈ Ts, w.before args s = true) (hin : ∀ w ∈ wsX50, w ∈ Ts) (hown : s.vm.findClass own = some m.cls) (hK : zK Γ s) (hM : zM Γ A H0 (md Γ o lF lL lB G0 fl F L B) H locs) (k : Nat) (hlink : (Cond.fieldLink own index ref (TX5 k).2.1 (TX5 k).2.2.1).before args s = true) (hsame : ref = (TX5 k).1) (hk : k < 15) {v : Value} (hv : (mdO lF lL lB fl)[k]? = some v) (hdg : decode cc pc = .ok (.getfield index, 3))
    (kk : W p l e R s m args below meth c H locs cells slots Q (F0 m (pc + 3) ls (v :: rest))) : W p l e R s m args below meth c H locs cells slots Q (F0 m pc ls (.ref o :: rest)) :=
  z_get (C := RX5) (T := TX5) (N := 15) hexec hb hts hin hown hK hM (md_o hok) k hlink hsame rfl hk hv hdg kk
theorem m_put {own ref : String} {index : Nat} {Ts : List Cond} (hok : mdk o lF lL lB) (hexec : p.tables.exec = Jvm.exec) (hb : c.code = cc) (hts : ∀ w ∈ Ts, w.before args s = true) (hin : ∀ w ∈ wsX50, w ∈ Ts) (hown : s.vm.findClass own = some m.cls) (hK : zK Γ s) (hM : zM Γ A H0 (md Γ o lF lL lB G0 fl F L B) H locs) (k : Nat) {v : Int32} (hlink : (Cond.fieldLink own index ref (TX5 k).2.1 (TX5 k).2.2.1).before args s = true) (hsame : ref = (TX5 k).1) (hk : k < 15) (hfin : (TX5 k).2.2.2 = false) (hn : narrow (tyX5 k) (.int v) = .int v) (hfit : fits (tyX5 k) (.int v) = true) {fl' : Nat → Int32} (hfs : (mdO lF lL lB fl).set k (.int v) = mdO lF lL lB fl') (hdg : decode cc pc = .ok (.putfield index, 3))
    (kk : ∀ (H1 : Heap) (locs1 : List Loc), zM Γ A H0 (md Γ o lF lL lB G0 fl' F L B) H1 locs1 → W p l e R s m args below meth c H1 locs1 cells slots Q (F0 m (pc + 3) ls rest)) : W p l e R s m args below meth c H locs cells slots Q (F0 m pc ls (.int v :: .ref o :: rest)) := by
  refine z_put (C := RX5) (T := TX5) (N := 15) hexec hb hts hin tyX5 tyX5_ok nmX5 hown hK hM (md_o hok) k hlink hsame rfl hk hfin hn hfit (by simpa [mdO] using hk) hfs hdg (fun H1 locs1 hM1 => ?_)
  rw [md_uo hok] at hM1
  exact kk H1 locs1 hM1
theorem m_ldF (hok : mdk o lF lL lB) (hexec : p.tables.exec = Jvm.exec) (hb : c.code = cc) (hK : zK Γ s) (hM : zM Γ A H0 (md Γ o lF lL lB G0 fl F L B) H locs) {i : Nat} (hi : i < 32760) (hdg : decode cc pc = .ok (.iaload, 1))
    (kk : W p l e R s m args below meth c H locs cells slots Q (F0 m (pc + 1) ls (.int (nI (F i)) :: rest))) : W p l e R s m args below meth c H locs cells slots Q (F0 m pc ls (.int (nI i) :: .ref lF :: rest)) := z_ild hexec hb hK hM (md_F hok) hi (by decide) hdg kk
theorem m_ldL (hok : mdk o lF lL lB) (hexec : p.tables.exec = Jvm.exec) (hb : c.code = cc) (hK : zK Γ s) (hM : zM Γ A H0 (md Γ o lF lL lB G0 fl F L B) H locs) {i : Nat} (hi : i < 455) (hdg : decode cc pc = .ok (.iaload, 1))
    (kk : W p l e R s m args below meth c H locs cells slots Q (F0 m (pc + 1) ls (.int (nI (L i)) :: rest))) : W p l e R s m args below meth c H locs cells slots Q (F0 m pc ls (.int (nI i) :: .ref lL :: rest)) := z_ild hexec hb hK hM (md_L hok) hi (by decide) hdg kk
theorem m_ldB (hok : mdk o lF lL lB) (hexec : p.tables.exec = Jvm.exec) (hb : c.code = cc) (hK : zK Γ s) (hM : zM Γ A H0 (md Γ o lF lL lB G0 fl F L B) H locs) {i : Nat} (hi : i < 455) (hdg : decode cc pc = .ok (.baload, 1))
    (kk : W p l e R s m args below meth c H locs cells slots Q (F0 m (pc + 1) ls (.int (nI (B i)) :: rest))) : W p l e R s m args below meth c H locs cells slots Q (F0 m pc ls (.int (nI i) :: .ref lB :: rest)) := z_zld hexec hb hK hM (md_B hok) hi (by decide) hdg kk
theorem m_stF (hok : mdk o lF lL lB) (hexec : p.tables.exec = Jvm.exec) (hb : c.code = cc) (hK : zK Γ s) (hM : zM Γ A H0 (md Γ o lF lL lB G0 fl F L B) H locs) {i x : Nat} (hi : i < 32760) (hdg : decode cc pc = .ok (.iastore, 1))
    (kk : ∀ (H1 : Heap) (locs1 : List Loc), zM Γ A H0 (md Γ o lF lL lB G0 fl (va_up F i x) L B) H1 locs1 → W p l e R s m args below meth c H1 locs1 cells slots Q (F0 m (pc + 1) ls rest)) : W p l e R s m args below meth c H locs cells slots Q (F0 m pc ls (.int (nI x) :: .int (nI i) :: .ref lF :: rest)) :=
  z_ist hexec hb hK hM (md_F hok) hi (by decide) hdg (fun H1 locs1 hM1 => kk H1 locs1 (by rw [md_uF hok] at hM1; exact hM1))
theorem m_stL (hok : mdk o lF lL lB) (hexec : p.tables.exec = Jvm.exec) (hb : c.code = cc) (hK : zK Γ s) (hM : zM Γ A H0 (md Γ o lF lL lB G0 fl F L B) H locs) {i x : Nat} (hi : i < 455) (hdg : decode cc pc = .ok (.iastore, 1))
    (kk : ∀ (H1 : Heap) (locs1 : List Loc), zM Γ A H0 (md Γ o lF lL lB G0 fl F (va_up L i x) B) H1 locs1 → W p l e R s m args below meth c H1 locs1 cells slots Q (F0 m (pc + 1) ls rest)) : W p l e R s m args below meth c H locs cells slots Q (F0 m pc ls (.int (nI x) :: .int (nI i) :: .ref lL :: rest)) :=
  z_ist hexec hb hK hM (md_L hok) hi (by decide) hdg (fun H1 locs1 hM1 => kk H1 locs1 (by rw [md_uL hok] at hM1; exact hM1))
theorem m_stB (hok : mdk o lF lL lB) (hexec : p.tables.exec = Jvm.exec) (hb : c.code = cc) (hK : zK Γ s) (hM : zM Γ A H0 (md Γ o lF lL lB G0 fl F L B) H locs) {i x : Nat} (hi : i < 455) (hx2 : x < 2) (hdg : decode cc pc = .ok (.bastore, 1))
    (kk : ∀ (H1 : Heap) (locs1 : List Loc), zM Γ A H0 (md Γ o lF lL lB G0 fl F L (va_up B i x)) H1 locs1 → W p l e R s m args below meth c H1 locs1 cells slots Q (F0 m (pc + 1) ls rest)) : W p l e R s m args below meth c H locs cells slots Q (F0 m pc ls (.int (nI x) :: .int (nI i) :: .ref lB :: rest)) :=
  z_zst hexec hb hK hM (md_B hok) hi (by decide) hx2 hdg (fun H1 locs1 hM1 => kk H1 locs1 (by rw [md_uB hok] at hM1; exact hM1))
end MR
theorem va_up_eq {α : Type} (f : Nat → α) (k : Nat) : va_up f k (f k) = f := by funext j; by_cases h : j = k <;> simp [va_up, h]
theorem va_up_up {α : Type} (f : Nat → α) (k : Nat) (x y : α) : va_up (va_up f k x) k y = va_up f k y := by funext j; by_cases h : j = k <;> simp [va_up, h]
/-- the scalar fields of the reference's object -/
def mfl (refusal vars maxRows cells rows input filled sealed begun state sign given : Int32) : Nat → Int32 := fun k => match k with
  | 0 => refusal
  | 1 => vars
  | 2 => maxRows
  | 3 => cells
  | 7 => rows
  | 8 => input
  | 9 => filled
  | 10 => sealed
  | 11 => begun
  | 12 => state
  | 13 => sign
  | 14 => given
  | _ => 0
def cpF (F : Nat → Nat) (t f n : Nat) : Nat → Nat := fun j => if 72 * t ≤ j ∧ j < 72 * t + n then F (72 * f + (j - 72 * t)) else F j
theorem cpF_0 (F : Nat → Nat) (t f : Nat) : cpF F t f 0 = F := by funext j; unfold cpF; rw [if_neg (by omega)]
theorem cpF_s (F : Nat → Nat) {t f k : Nat} (h : t ≠ f) (hk : k < 72) : va_up (cpF F t f k) (72 * t + k) (cpF F t f k (72 * f + k)) = cpF F t f (k + 1) := by
  funext j
  have e : cpF F t f k (72 * f + k) = F (72 * f + k) := by unfold cpF; rw [if_neg (by omega)]
  rw [e]
  by_cases hj : j = 72 * t + k
  · subst hj; rw [va_up_self]; unfold cpF; rw [if_pos (by omega)]; congr 1; omega
  · rw [va_up_ne _ _ hj]; unfold cpF
    by_cases h2 : 72 * t ≤ j ∧ j < 72 * t + k
    · rw [if_pos h2, if_pos (by omega)]
    · rw [if_neg h2, if_neg (by omega)]
/-- a digit of number a, 0 above its length -/
def lmb (F L : Nat → Nat) (a k : Nat) : Nat := if k < L a then F (72 * a + k) else 0
/-- number a holds v -/
def nv (F L : Nat → Nat) (a v : Nat) : Prop := L a = nl v ∧ nl v ≤ 72 ∧ dg (fun k => F (72 * a + k)) (nl v) ∧ vl (fun k => F (72 * a + k)) (nl v) = v
/-- outside number t nothing differs -/
def fr72 (F F' : Nat → Nat) (t : Nat) : Prop := ∀ j, (j < 72 * t ∨ 72 * t + 72 ≤ j) → F' j = F j
theorem vl_nl_top {d : Nat → Nat} {v : Nat} (hd : dg d (nl v)) (hv : vl d (nl v) = v) (h0 : 0 < nl v) : d (nl v - 1) ≠ 0 := by
  intro h
  obtain ⟨k, hk⟩ : ∃ k, nl v = k + 1 := ⟨nl v - 1, by omega⟩
  rw [hk] at hd hv h
  rw [vl_s, show d k = 0 from h] at hv
  have h1 := vl_lt (hd.le (Nat.le_succ k))
  have h2 := nl_ge (nl_pos.mp h0)
  rw [hk] at h2
  simp at h2
  omega
theorem nv.top {F L : Nat → Nat} {a v : Nat} (h : nv F L a v) (h0 : 0 < L a) : F (72 * a + (L a - 1)) ≠ 0 := by
  have := vl_nl_top h.2.2.1 h.2.2.2 (by rw [← h.1]; exact h0)
  rw [h.1]; exact this
theorem nv.digs {F L : Nat → Nat} {a v : Nat} (h : nv F L a v) : ∀ k, k < L a → F (72 * a + k) < 2147483648 := fun k hk => h.2.2.1 k (by rw [← h.1]; exact hk)
theorem nv.le {F L : Nat → Nat} {a v : Nat} (h : nv F L a v) : L a ≤ 72 := by rw [h.1]; exact h.2.1
theorem nv.val {F L : Nat → Nat} {a v : Nat} (h : nv F L a v) : vl (fun k => F (72 * a + k)) (L a) = v := by rw [h.1]; exact h.2.2.2
theorem nv.fr {F L F' L' : Nat → Nat} {a t v : Nat} (h : nv F L a v) (hf : fr72 F F' t) (hat : a ≠ t) (hL : L' a = L a) : nv F' L' a v := by
  have e : ∀ k, k < nl v → F' (72 * a + k) = F (72 * a + k) := fun k hk => hf _ (by have := h.2.1; omega)
  exact ⟨by rw [hL]; exact h.1, h.2.1, fun k hk => by show F' _ < _; rw [e k hk]; exact h.2.2.1 k hk, by rw [vl_congr e]; exact h.2.2.2⟩
theorem nv_mk {F L : Nat → Nat} {a n : Nat} (hd : dg (fun k => F (72 * a + k)) n) (ht : 0 < n → F (72 * a + (n - 1)) ≠ 0) (hn : n ≤ 72) (hL : L a = n) : nv F L a (vl (fun k => F (72 * a + k)) n) := by
  have e := nl_vl hd ht
  refine ⟨by rw [e, hL], by rw [e]; exact hn, by rw [e]; exact hd, by rw [e]⟩
theorem lmb_lt {F L : Nat → Nat} {a v : Nat} (h : nv F L a v) (k : Nat) : lmb F L a k < 2147483648 := by
  unfold lmb; split
  · rename_i c; exact h.digs k c
  · decide
theorem lmb_vl {F L : Nat → Nat} {a v n : Nat} (h : nv F L a v) (hn : L a ≤ n) : vl (lmb F L a) n = v := by
  rw [vl_pad hn (fun k h1 _ => by unfold lmb; rw [if_neg (by omega)]), ← h.val]
  exact vl_congr (fun k hk => by unfold lmb; rw [if_pos hk])
/-- a digit and its carry -/
theorem carry_s (v P : Nat) : v % 2147483648 * P + v / 2147483648 * (2147483648 * P) = v * P := by
  rw [← Nat.mul_assoc, ← Nat.add_mul]; congr 1; omega
