/-! the arena -/
/-- the sign times the size, as it lies in a cell -/
def sc (z : Int) : Nat := if z < 0 then 4294967296 - nl z.natAbs else nl z.natAbs
theorem sc_dec : ∀ n, n < 49 → (if 0 ≤ nI (4294967296 - n) then nI (4294967296 - n) else 0 - nI (4294967296 - n)) = nI n ∧ (-1 : Int32) * nI n = nI (4294967296 - n) ∧ (if 0 ≤ nI n then nI n else 0 - nI n) = nI n ∧ nI 1 * nI n = nI n ∧ nI 0 * nI n = nI 0 := by decide +kernel
def sgf (x : Int32) : Int32 := (x >>> (31 &&& 31)) ||| ((-x).toUInt32 >>> ((31 : Int32).toUInt32 &&& Int32.toUInt32 31)).toInt32
theorem sgf_dec : ∀ n, n < 49 → (0 < n → sgf (nI (4294967296 - n)) = -1 ∧ sgf (nI n) = nI 1) := by decide +kernel
theorem sc_abs {z : Int} (h : nl z.natAbs ≤ 48) : (if 0 ≤ nI (sc z) then nI (sc z) else 0 - nI (sc z)) = nI (nl z.natAbs) := by
  have := sc_dec (nl z.natAbs) (by omega)
  unfold sc
  split
  · exact this.1
  · exact this.2.2.1
theorem sc_mul {z : Int} (h : nl z.natAbs ≤ 48) : sgI z * nI (nl z.natAbs) = nI (sc z) := by
  have hp := @nl_pos z.natAbs
  have g := sc_dec (nl z.natAbs) (by omega)
  unfold sc
  rcases sgI_or z with ⟨h1, e⟩ | ⟨h1, e⟩ | ⟨h1, e⟩
  · rw [e, if_pos h1]; exact g.2.1
  · rw [e, if_neg (by omega), g.2.2.2.2, show nl z.natAbs = 0 by omega]
  · rw [e, if_neg (by omega)]; exact g.2.2.2.1
theorem sc_sgn {z : Int} (h : nl z.natAbs ≤ 48) : sgf (nI (sc z)) = sgI z := by
  have hp := @nl_pos z.natAbs
  have g := sgf_dec (nl z.natAbs) (by omega)
  unfold sc
  rcases sgI_or z with ⟨h1, e⟩ | ⟨h1, e⟩ | ⟨h1, e⟩
  · rw [e, if_pos h1]; exact (g (by omega)).1
  · rw [e, if_neg (by omega), show nl z.natAbs = 0 by omega]; decide +kernel
  · rw [e, if_neg (by omega)]; exact (g (by omega)).2
/-- a number in the arena, from cell p on -/
def cnm (C : Nat → Nat) (p used : Nat) (z : Int) : Prop := p + 1 + nl z.natAbs ≤ used ∧ C p = sc z ∧ hd (fun j => C (p + 1 + j)) z ∧ nl z.natAbs ≤ 48
def AO (Γ : zT) (G : zG) (X : Nat → Nat) (vars maxR nr used cz : Nat) (C St : Nat → Nat) : Prop :=
  G (X 81) = some (.inr (2, [.ref (X 75), .ref (X 76), .int (nI (vars + 1)), .int (nI maxR), .int (nI used), .int (nI nr)])) ∧ G (X 75) = some (zI Γ cz C) ∧ G (X 76) = some (zI Γ ((vars + 1) * maxR) St) ∧ used ≤ cz ∧ cz ≤ 4000 ∧ nr ≤ maxR ∧ maxR ≤ 60 ∧ vars ≤ 6
def AR (Γ : zT) (G : zG) (X : Nat → Nat) (vars maxR nr used cz : Nat) (R : Nat → Nat → Int) (C St : Nat → Nat) : Prop :=
  AO Γ G X vars maxR nr used cz C St ∧ ∀ r k, r < nr → k ≤ vars → cnm C (St (r * (vars + 1) + k)) used (R r k)
theorem ar_ix {r k vars maxR : Nat} (hr : r < maxR) (hk : k ≤ vars) : r * (vars + 1) + k < (vars + 1) * maxR := by
  have := mul_le_r (vars + 1) (show r + 1 ≤ maxR by omega)
  rw [Nat.add_mul, Nat.mul_comm maxR] at this
  omega
theorem ar_31 {vars maxR : Nat} (h1 : vars ≤ 6) (h2 : maxR ≤ 60) : (vars + 1) * maxR < 2 ^ 31 := by
  have := Nat.mul_le_mul (show vars + 1 ≤ 7 by omega) h2
  omega
theorem hd_dig {d : Nat → Nat} {z : Int} (h : hd d z) {i : Nat} (hi : i < nl z.natAbs) : d i = z.natAbs / bp i % 2147483648 := by
  rw [← h.2]; exact (vl_digit h.1 hi).symm
theorem hd_out {z : Int} {i : Nat} (hi : nl z.natAbs ≤ i) : z.natAbs / bp i % 2147483648 = 0 := by
  rw [Nat.div_eq_of_lt (nl_le_iff.mp hi)]
theorem CW.same {Γ : zT} {G G' : zG} {X : Nat → Nat} {vars : Nat} {Z : Nat → Int} {S : List Nat} (hX : XI X vars) (h : CW Γ G X vars Z) (hf : fr X S G G') (hS : ∀ i, i ∈ S → i = 75 ∨ i = 76 ∨ i = 80 ∨ i = 81 ∨ i = 82) : CW Γ G' X vars Z :=
  h.of hX hf (fun i hi => by have := hS i hi; exact ⟨by unfold vd vw; omega, by omega⟩) (fun k hk hm => by have := hk.lt; rcases hm with hm | hm <;> have := hS _ hm <;> omega) (fun _ _ _ => rfl) (fun h7 => by have := hS _ h7; omega) (fun h7 => by have := hS _ h7; omega)
theorem AO.fr {Γ : zT} {G G' : zG} {X : Nat → Nat} {vars maxR nr used cz : Nat} {C St : Nat → Nat} {S : List Nat} (hX : XI X vars) (h : AO Γ G X vars maxR nr used cz C St) (hf : fr X S G G') (hS : ∀ i, i ∈ S → vd vars i ∧ i ≠ 75 ∧ i ≠ 76 ∧ i ≠ 81) : AO Γ G' X vars maxR nr used cz C St := by
  obtain ⟨h1, h2, h3, h4⟩ := h
  exact ⟨(hf.get hX (by unfold vd; omega) (fun i hi => ⟨(hS i hi).1, (hS i hi).2.2.2⟩)).trans h1, (hf.get hX (by unfold vd; omega) (fun i hi => ⟨(hS i hi).1, (hS i hi).2.1⟩)).trans h2, (hf.get hX (by unfold vd; omega) (fun i hi => ⟨(hS i hi).1, (hS i hi).2.2.1⟩)).trans h3, h4⟩
theorem AR.fr {Γ : zT} {G G' : zG} {X : Nat → Nat} {vars maxR nr used cz : Nat} {R : Nat → Nat → Int} {C St : Nat → Nat} {S : List Nat} (hX : XI X vars) (h : AR Γ G X vars maxR nr used cz R C St) (hf : fr X S G G') (hS : ∀ i, i ∈ S → vd vars i ∧ i ≠ 75 ∧ i ≠ 76 ∧ i ≠ 81) : AR Γ G' X vars maxR nr used cz R C St := ⟨h.1.fr hX hf hS, h.2⟩
section ZMA
variable {p : Program} {l : Launch} {e : Env} {R : Room} {s : State} {m : MethodId} {args : Array Value} {below : List Frame} {meth : Method} {c : Code} {H : Heap} {locs : List Loc} {cells slots : Nat} {Q : State → Prop}
variable {cc : ByteArray} {pc : Nat} {ls : Array Slot} {rest : List Value}
theorem z_abs (hexec : p.tables.exec = Jvm.exec) (hb : c.code = cc) (hml : c.maxLocals = ls.size) {own : String} {index : Nat} (hown : s.vm.findClass own = some m.cls) (hlink : (Cond.methodLink own index Lib.Math.abs.name).before args s = true) (hstat : (Cond.static Lib.Math.abs.name).before args s = true) (hini : (Cond.initialized "java/lang/Math").before args s = true) (hcode : (Cond.code Lib.Math.abs.name Lib.Math.abs.code 1 (some .int)).before args s = true)
    (hframes : 1 ≤ R.frames) (hlocals : (rest.map fun v => v.category).sum + 13 ≤ R.locals) (hc : cells ≤ R.cells) (hs : slots ≤ R.slots) {z : Int} (hz : nl z.natAbs ≤ 48) (hdg : decode cc pc = .ok (.invokestatic index, 3))
    (kk : W p l e R s m args below meth c H locs cells slots Q (F0 m (pc + 3) ls (.int (nI (nl z.natAbs)) :: rest))) : W p l e R s m args below meth c H locs cells slots Q (F0 m pc ls (.int (nI (sc z)) :: rest)) :=
  va_mabs hexec hb hml hown hlink hstat hini hcode hframes hlocals hc hs hdg (by rw [sc_abs hz]; exact kk)
end ZMA
theorem need_mono {F : Nat → Int} {a b : Nat} (h : a ≤ b) : need F a ≤ need F b := by
  induction b with
  | zero => rw [show a = 0 by omega]; exact Nat.le_refl _
  | succ b ih =>
    rcases Nat.lt_or_ge a (b + 1) with g | g
    · have := ih (by omega)
      have e : need F (b + 1) = need F b + 1 + nl (F b).natAbs := rfl
      omega
    · rw [show a = b + 1 by omega]; exact Nat.le_refl _
theorem need_le {Z : Nat → Int} {wb vars : Nat} (h : ∀ k, k ≤ vars → nl (Z (wb + k)).natAbs ≤ 48) (hv : vars ≤ 6) : need (fun k => Z (wb + k)) (vars + 1) ≤ 343 := by
  have g : ∀ n, n ≤ vars + 1 → need (fun k => Z (wb + k)) n ≤ 49 * n := by
    intro n
    induction n with
    | zero => intro _; exact Nat.le_refl _
    | succ n ih =>
      intro hn
      have h1 := ih (by omega)
      have h2 := h n (by omega)
      unfold need; omega
  have := g (vars + 1) (Nat.le_refl _)
  omega
theorem keep_cn {C1 C3 S1 : Nat → Nat} {R : Nat → Nat → Int} {nr vars u i wb : Nat} {Z : Nat → Int} {u2 : Nat} (hcn : ∀ r k, (r < nr ∧ k ≤ vars) ∨ (r = nr ∧ k < i) → cnm C1 (S1 (r * (vars + 1) + k)) u (va_up R nr (fun k => Z (wb + k)) r k)) (e3 : ∀ j, j < u → C3 j = C1 j) (n3 : cnm C3 u u2 (Z (wb + i))) (hi : i ≤ vars) : ∀ r k, (r < nr ∧ k ≤ vars) ∨ (r = nr ∧ k < i + 1) → cnm C3 (va_up S1 (nr * (vars + 1) + i) u (r * (vars + 1) + k)) u2 (va_up R nr (fun k => Z (wb + k)) r k) := by
  intro r k h
  by_cases hc : r = nr ∧ k = i
  · obtain ⟨rfl, rfl⟩ := hc
    rw [va_up_self, va_up_self]; exact n3
  · have h2 : (r < nr ∧ k ≤ vars) ∨ (r = nr ∧ k < i) := by omega
    have hne : r * (vars + 1) + k ≠ nr * (vars + 1) + i := by
      rcases h2 with ⟨g1, g2⟩ | ⟨g1, g2⟩
      · have := mul_le_r (vars + 1) (show r + 1 ≤ nr by omega)
        rw [Nat.add_mul] at this
        omega
      · rw [g1]; omega
    rw [va_up_ne _ _ hne]
    obtain ⟨c1, c2, c3, c4⟩ := hcn r k h2
    obtain ⟨d1, _⟩ := n3
    exact ⟨by omega, by rw [e3 _ (by omega)]; exact c2, c3.up (fun j hj => e3 _ (by omega)), c4⟩
