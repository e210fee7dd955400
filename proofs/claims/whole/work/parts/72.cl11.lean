/-! the object: all its cells -/
section ZW9
variable {p : Program} {l : Launch} {e : Env} {R : Room} {s : State} {m : MethodId} {args : Array Value} {below : List Frame} {meth : Method} {c : Code} {H : Heap} {locs : List Loc} {cells slots : Nat} {Q : State → Prop}
variable {cc : ByteArray} {pc : Nat} {ls : Array Slot} {rest : List Value} {Γ : zT} {A : Nat → Prop} {a : Nat} {H0 : Heap} {G : zG}
theorem z_aldW (hexec : p.tables.exec = Jvm.exec) (hb : c.code = cc) (hK : zK Γ s) (hM : zM Γ A H0 G H locs) {n i b : Nat} {X : Nat → Nat} (hW : WA Γ G X a n b) (hi : i < n) (hn : n < 2 ^ 31) (hdg : decode cc pc = .ok (.aaload, 1))
    (kk : W p l e R s m args below meth c H locs cells slots Q (F0 m (pc + 1) ls (.ref (X (b + i)) :: rest))) : W p l e R s m args below meth c H locs cells slots Q (F0 m pc ls (.int (nI i) :: .ref a :: rest)) := by
  obtain ⟨f, h1, h2⟩ := hW
  exact z_ald hexec hb hK hM h1 hi hn (h2 i hi) hdg kk
theorem z_alenV (hexec : p.tables.exec = Jvm.exec) (hb : c.code = cc) (hK : zK Γ s) (hM : zM Γ A H0 G H locs) {n b : Nat} {X : Nat → Nat} (hW : WA Γ G X a n b) (hdg : decode cc pc = .ok (.arraylength, 1))
    (kk : W p l e R s m args below meth c H locs cells slots Q (F0 m (pc + 1) ls (.int (nI n) :: rest))) : W p l e R s m args below meth c H locs cells slots Q (F0 m pc ls (.ref a :: rest)) := by
  obtain ⟨f, h1, h2⟩ := hW
  exact z_alenW hexec hb hK hM h1 hdg kk
end ZW9
/-- only numbers other than the register's may differ, and the divider's cells -/
def frN (X : Nat → Nat) (vars : Nat) (G G' : zG) : Prop := ∀ x, (∀ i, vd vars i → (i < 75 ∨ i = 77 ∨ i = 78) → i ≠ 31 → i ≠ 71 → x ≠ X i) → G' x = G x
/-- only the object's own cells may differ -/
def frA (X : Nat → Nat) (vars : Nat) (G G' : zG) : Prop := ∀ x, (∀ i, vd vars i → x ≠ X i) → G' x = G x
section CBS
variable {Γ : zT} {G G' G2 : zG} {X : Nat → Nat} {vars maxR nr used cz : Nat} {R : Nat → Nat → Int} {C St : Nat → Nat} {Z Z' : Nat → Int} {fil inp se be ct sw st : Nat} {sg : Int32} {gv : Nat} {S : List Nat}
theorem frN.rf : frN X vars G G := fun _ _ => rfl
theorem frN.tr (h : frN X vars G G') (h2 : frN X vars G' G2) : frN X vars G G2 := fun x hx => (h2 x hx).trans (h x hx)
theorem fr.n (h : fr X S G G') (hS : ∀ i, i ∈ S → vd vars i ∧ (i < 75 ∨ i = 77 ∨ i = 78) ∧ i ≠ 31 ∧ i ≠ 71) : frN X vars G G' := fun x hx => h x (fun i hi => hx i (hS i hi).1 (hS i hi).2.1 (hS i hi).2.2.1 (hS i hi).2.2.2)
theorem frN.get (hX : XI X vars) (h : frN X vars G G') {j : Nat} (hj : vd vars j) (hn : j = 31 ∨ j = 71 ∨ j = 75 ∨ j = 76 ∨ 79 < j) : G' (X j) = G (X j) := h _ (fun i hi h2 h3 h4 => hX.ne hj hi (by omega))
theorem frA.rf : frA X vars G G := fun _ _ => rfl
theorem frA.tr (h : frA X vars G G') (h2 : frA X vars G' G2) : frA X vars G G2 := fun x hx => (h2 x hx).trans (h x hx)
theorem fr.a (h : fr X S G G') (hS : ∀ i, i ∈ S → vd vars i) : frA X vars G G' := fun x hx => h x (fun i hi => hx i (hS i hi))
theorem frN.a (h : frN X vars G G') : frA X vars G G' := fun x hx => h x (fun i hi _ _ _ => hx i hi)
/-- the object's cells -/
def CB (Γ : zT) (G : zG) (X : Nat → Nat) (vars maxR nr used cz : Nat) (R : Nat → Nat → Int) (C St : Nat → Nat) (Z : Nat → Int) (fil inp se be ct sw st : Nat) (sg : Int32) (gv : Nat) : Prop :=
  CO G X vars fil inp se be ct sw ∧ CW Γ G X vars Z ∧ AR Γ G X vars maxR nr used cz R C St ∧ RG Γ G X st sg gv
theorem CB.num (hX : XI X vars) (h : CB Γ G X vars maxR nr used cz R C St Z fil inp se be ct sw st sg gv) (hC : CW Γ G' X vars Z') (hf : frN X vars G G') : CB Γ G' X vars maxR nr used cz R C St Z' fil inp se be ct sw st sg gv := by
  obtain ⟨h1, h2, ⟨⟨a1, a2, a3, a4⟩, a5⟩, h4⟩ := h
  exact ⟨(hf.get hX (by unfold vd; omega) (by omega)).trans h1, hC, ⟨⟨(hf.get hX (by unfold vd; omega) (by omega)).trans a1, (hf.get hX (by unfold vd; omega) (by omega)).trans a2, (hf.get hX (by unfold vd; omega) (by omega)).trans a3, a4⟩, a5⟩, (hf.get hX (by unfold vd; omega) (by omega)).trans h4⟩
abbrev coE (X : Nat → Nat) (vars fil inp se be ct sw : Nat) : va_E := .inr (6, [.int (nI vars), .ref (X 81), .ref (X 82), .ref (X 84), .ref (X 85), .ref (X 83), .int (nI fil), .int (nI inp), .int (nI se), .int (nI be), .int (nI ct), .ref (X (86 + sw)), .ref (X (87 - sw)), .ref (X 28), .ref (X 29), .ref (X 30)])
theorem CB.put (hX : XI X vars) (h : CB Γ G X vars maxR nr used cz R C St Z fil inp se be ct sw st sg gv) (fil' inp' se' be' ct' sw' : Nat) : CB Γ (zup G (X 80) (coE X vars fil' inp' se' be' ct' sw')) X vars maxR nr used cz R C St Z fil' inp' se' be' ct' sw' st sg gv := by
  obtain ⟨h1, h2, h3, h4⟩ := h
  have hf : fr X [80] G (zup G (X 80) (coE X vars fil' inp' se' be' ct' sw')) := fr.up (by simp)
  exact ⟨zup_s _ _ _, h2.same hX hf (fun i hi => by simp only [List.mem_cons, List.not_mem_nil, or_false] at hi; omega), h3.fr hX hf (fun i hi => by simp only [List.mem_cons, List.not_mem_nil, or_false] at hi; exact ⟨by unfold vd; omega, by omega⟩), h4.fr hX hf (fun i hi => by simp only [List.mem_cons, List.not_mem_nil, or_false] at hi; exact ⟨by unfold vd; omega, by omega⟩)⟩
theorem CW.sm (h : CW Γ G X vars Z) (hs : sw ≤ 1) : WA Γ G X (X (86 + sw)) (vars + 1) (14 + 7 * sw) := by
  rcases (show sw = 0 ∨ sw = 1 by omega) with rfl | rfl
  · exact h.2.2.2.2.2.2.1
  · exact h.2.2.2.2.2.2.2
theorem CW.df (h : CW Γ G X vars Z) (hs : sw ≤ 1) : WA Γ G X (X (87 - sw)) (vars + 1) (21 - 7 * sw) := by
  rcases (show sw = 0 ∨ sw = 1 by omega) with rfl | rfl
  · exact h.2.2.2.2.2.2.2
  · exact h.2.2.2.2.2.2.1
theorem was.n {i : Nat} {z : Int} (h : was Γ G X vars Z i z G') (hi : vw vars i) (h31 : i ≠ 31) : frN X vars G G' := h.2.n (fun k hk => by
  simp only [List.mem_cons, List.not_mem_nil, or_false] at hk
  have := hi.lt
  rcases hk with rfl | rfl
  · exact ⟨hi.d, by omega, by omega, by omega⟩
  · exact ⟨hi.e, by omega, by omega, by omega⟩)
end CBS
theorem zeroN_ne {F : Nat → Int} {k n : Nat} (hk : k < n) (h : F k ≠ 0) : zeroN F n = false := by
  induction n with
  | zero => omega
  | succ n ih =>
    unfold zeroN
    by_cases hc : k = n
    · rw [← hc, decide_eq_false h, Bool.and_false]
    · rw [ih (by omega), Bool.false_and]
theorem fit48_ne {F : Nat → Int} {k n : Nat} (hk : k < n) (h : ¬ nl (F k).natAbs ≤ 48) : fit48 F n = false := by
  induction n with
  | zero => omega
  | succ n ih =>
    unfold fit48
    by_cases hc : k = n
    · rw [← hc, decide_eq_false h, Bool.and_false]
    · rw [ih (by omega), Bool.false_and]
theorem sgI_lt {z : Int} : sgI z < 0 ↔ z < 0 := by
  rcases sgI_or z with ⟨g, e⟩ | ⟨g, e⟩ | ⟨g, e⟩
  · rw [e]; exact ⟨fun _ => g, fun _ => by decide⟩
  · rw [e]; exact ⟨fun h => absurd h (by decide), fun h => by omega⟩
  · rw [e]; exact ⟨fun h => absurd h (by decide), fun h => by omega⟩
theorem sgI_gt {z : Int} : 0 < sgI z ↔ 0 < z := by
  rcases sgI_or z with ⟨g, e⟩ | ⟨g, e⟩ | ⟨g, e⟩
  · rw [e]; exact ⟨fun h => absurd h (by decide), fun h => by omega⟩
  · rw [e]; exact ⟨fun h => absurd h (by decide), fun h => by omega⟩
  · rw [e]; exact ⟨fun _ => g, fun _ => by decide⟩
theorem sgI_ng (z : Int) : -sgI z = sgI (-z) := by
  rcases sgI_or z with ⟨g, e⟩ | ⟨g, e⟩ | ⟨g, e⟩
  · rw [e, sgI_pos (by omega)]; rfl
  · rw [e, g]; rfl
  · rw [e, sgI_neg (by omega)]; rfl
theorem nl_iadd' {a b : Int} {x : Nat} (ha : nl a.natAbs ≤ x) (hb : nl b.natAbs ≤ x) : nl (a + b).natAbs ≤ x + 1 := by
  have h1 := nl_le_iff.mp ha
  have h2 := nl_le_iff.mp hb
  refine nl_le ?_
  have h3 : bp (x + 1) = 2147483648 * bp x := bp_s x
  have h4 : (a + b).natAbs ≤ a.natAbs + b.natAbs := Int.natAbs_add_le a b
  omega
