theorem crep_some {Γ : zT} {G : zG} {X : Nat → Nat} {σ : AS} (h : CRep Γ G X σ) (i : Nat) (hi : vd σ.1.1 i) : ∃ e, G (X i) = some e := by
  obtain ⟨⟨vars, maxR, cells⟩, ⟨nr, inp, R⟩, ⟨fil, V⟩, ⟨se, be, S⟩, P, ⟨st, sg, gv, g, z⟩⟩ := σ
  have hi : vd vars i := hi
  obtain ⟨Z, used, cz, sw, C, St, ⟨h1, ⟨c1, c2, ⟨T, c3⟩, ⟨U, c4⟩, ⟨f5, c5, -⟩, ⟨f6, c6, -⟩, ⟨f7, c7, -⟩, ⟨f8, c8, -⟩⟩, ⟨⟨a1, a2, a3, a4⟩, a5⟩, h4⟩, hs, hrd, hrest⟩ := h
  rcases hi with hi | ⟨h40, hi⟩ | hi | hi
  · obtain ⟨d, q1, -⟩ := c1 i hi; exact ⟨_, q1⟩
  · obtain ⟨d, -, q1, -⟩ := c1 (i - 40) hi
    rw [show 40 + (i - 40) = i by omega] at q1
    exact ⟨_, q1⟩
  · rcases (show i = 75 ∨ i = 76 ∨ i = 77 ∨ i = 78 by omega) with rfl | rfl | rfl | rfl
    · exact ⟨_, a2⟩
    · exact ⟨_, a3⟩
    · exact ⟨_, c3⟩
    · exact ⟨_, c4⟩
  · rcases (show i = 80 ∨ i = 81 ∨ i = 82 ∨ i = 83 ∨ i = 84 ∨ i = 85 ∨ i = 86 ∨ i = 87 by omega) with rfl | rfl | rfl | rfl | rfl | rfl | rfl | rfl
    · exact ⟨_, h1⟩
    · exact ⟨_, a1⟩
    · exact ⟨_, h4⟩
    · exact ⟨_, c2⟩
    · exact ⟨_, c5⟩
    · exact ⟨_, c6⟩
    · exact ⟨_, c7⟩
    · exact ⟨_, c8⟩
theorem lw_K {s : State} {args : Array Value} (hts : ∀ w ∈ lw_tbl, w.before args s = true) : ∃ Γ : zT, zK Γ s := by
  obtain ⟨c0, i0, hk0⟩ := u_known (C := RJ0) (T := TJ0) (N := 4) (n := 4) hts inJ0 (hts (.instantiable RJ0 4) (by decide +kernel))
  obtain ⟨c1, i1, hk1⟩ := u_known (C := RJ4) (T := TJ4) (N := 4) (n := 4) hts inJ4 (hts (.instantiable RJ4 4) (by decide +kernel))
  obtain ⟨c2, i2, hk2⟩ := u_known (C := RX0) (T := TX0) (N := 6) (n := 6) hts inX0 (hts (.instantiable RX0 6) (by decide +kernel))
  obtain ⟨c3, i3, hk3⟩ := u_known (C := RX1) (T := TX1) (N := 5) (n := 5) hts inX1 (hts (.instantiable RX1 5) (by decide +kernel))
  obtain ⟨c4, i4, hk4⟩ := u_known (C := RX2) (T := TX2) (N := 4) (n := 4) hts inX2 (hts (.instantiable RX2 4) (by decide +kernel))
  obtain ⟨c5, i5, hk5⟩ := u_known (C := RX3) (T := TX3) (N := 3) (n := 3) hts inX3 (hts (.instantiable RX3 3) (by decide +kernel))
  obtain ⟨c6, i6, hk6⟩ := u_known (C := RX4) (T := TX4) (N := 16) (n := 16) hts inX4 (hts (.instantiable RX4 16) (by decide +kernel))
  obtain ⟨c7, i7, hk7⟩ := u_known (C := RX5) (T := TX5) (N := 15) (n := 15) hts inX5 (hts (.instantiable RX5 15) (by decide +kernel))
  obtain ⟨cI, kI, mI, a1, a2, a3⟩ := Cond.arrayClass_spec (hts (.arrayClass .int) (by decide +kernel))
  obtain ⟨cB, kB, mB, b1, b2, b3⟩ := Cond.arrayClass_spec (hts (.arrayClass .boolean) (by decide +kernel))
  obtain ⟨cL, kL, mL, d1, d2, d3⟩ := Cond.arrayClass_spec (hts (.arrayClass .long) (by decide +kernel))
  obtain ⟨mW, cW, kW, e1, e2, e3, e4, e5⟩ := Cond.arrayOver_spec (hts (.arrayOver (.object RX3)) (by decide +kernel))
  refine ⟨((fun k => if k = 0 then c0 else if k = 1 then c1 else if k = 2 then c2 else if k = 3 then c3 else if k = 4 then c4 else if k = 5 then c5 else if k = 6 then c6 else c7, fun k => if k = 0 then i0 else if k = 1 then i1 else if k = 2 then i2 else if k = 3 then i3 else if k = 4 then i4 else if k = 5 then i5 else if k = 6 then i6 else i7), cI, cB, cW, cL), fun k q hq => ?_, fun k q hq => ?_⟩
  · match k, hq with
    | 0, hq => cases hq; exact hk0
    | 1, hq => cases hq; exact hk1
    | 2, hq => cases hq; exact hk2
    | 3, hq => cases hq; exact hk3
    | 4, hq => cases hq; exact hk4
    | 5, hq => cases hq; exact hk5
    | 6, hq => cases hq; exact hk6
    | 7, hq => cases hq; exact hk7
    | k + 8, hq => simp [vwCl] at hq
  · match k, hq with
    | 0, hq => cases hq; exact ⟨fun n z => ⟨fun k h => (by cases h), kI, a2, mI, a3⟩, a1⟩
    | 1, hq => cases hq; exact ⟨fun n z => ⟨fun k h => (by cases h), kB, b2, mB, b3⟩, b1⟩
    | 2, hq => cases hq; exact ⟨fun n z => ⟨fun k h => (by cases h), kW, e3, mW, e4⟩, kW, mW, e3, e4, e1, e5⟩
    | 3, hq => cases hq; exact ⟨fun n z => ⟨fun k h => (by cases h), kL, d2, mL, d3⟩, d1⟩
    | k + 4, hq => simp [zTys] at hq
section ZNL
variable {p : Program} {l : Launch} {e : Env} {R : Room} {s : State} {m : MethodId} {args : Array Value} {below : List Frame} {meth : Method} {c : Code} {H : Heap} {locs : List Loc} {cells slots : Nat} {Q : State → Prop}
variable {cc : ByteArray} {pc : Nat} {ls : Array Slot} {rest : List Value} {Γ : zT} {A : Nat → Prop} {a : Nat} {H0 : Heap} {G G' : zG} {sz : Nat}
theorem z_newL (hexec : p.tables.exec = Jvm.exec) (hb : c.code = cc) (harr : (Cond.arrayClass .long).before args s = true) (hK : zK Γ s) (hM : zM Γ A H0 G H locs) {N : Nat} (hN : N < 1000000) (hcells : cells + 1 ≤ R.cells) (hslots : slots + N ≤ R.slots) (hdg : decode cc pc = .ok (.newarray .long, 2))
    (kk : ∀ (q : Nat) (H1 : Heap), G q = none → zM Γ A H0 (zup G q (zL Γ N (fun _ => 0))) H1 locs → W p l e R s m args below meth c H1 locs (cells + 1) (slots + N) Q (F0 m (pc + 2) ls (.ref q :: rest))) : W p l e R s m args below meth c H locs cells slots Q (F0 m pc ls (.int (nI N) :: rest)) := by
  refine va_newa (atype := .long) (ty := .long) (D := Γ.1) (a0 := (N, .inr (.inl (fun _ => 0)))) hexec hb harr rfl hK (zls_P hM.1) (zls_D hM.2.1) hM.2.2.1 hM.2.2.2 (fun cA => rfl) (nI_nn (by omega)) (nI_clamp (by omega)) (by show N * 8 ≤ _; omega) hcells hslots hdg (fun q cA H1 hK1 hP1 hD1 hS1 => ?_)
  have h1 := (hK1.2 4 (cA, .long) rfl).2
  have h2 := (hK.2 3 (Γ.2.2.2.2, .long) rfl).2
  have hc : Γ.2.2.2.2 = cA := Option.some.inj (h2.symm.trans h1)
  subst hc
  obtain ⟨hn, hM1⟩ := hM.push hP1 hD1 hS1
  exact kk q H1 hn hM1
end ZNL
/-- both are new: what holds at the loop's first head -/
theorem lw_begin {Γ : zT} {G1 G2 : zG} {X : Nat → Nat} {o lF lL lB lo vars maxR cz : Nat} {F L B : Nat → Nat} {d : va_E} (hb : 1 ≤ vars ∧ vars ≤ 6 ∧ 1 ≤ maxR ∧ maxR ≤ 60 ∧ cz ≤ 4000) (hX : XI X vars) (hR : CRep Γ G1 X (as0 vars maxR cz)) (ho : G1 o = none) (hok : mdk o lF lL lB) (hn : zup G1 o d lF = none ∧ zup G1 o d lL = none ∧ zup G1 o d lB = none) (hG2 : G2 = md Γ o lF lL lB (zup G1 o d) (mfs (nI 0) (as0 vars maxR cz)) F L B) (hMR : MRep F L B (as0 vars maxR cz)) (hlo : G2 lo = none) : LF X o lF lL lB lo vars ∧ LI Γ (zup G2 lo (zL Γ 1 (fun _ => 0))) X o lF lL lB lo vars (as0 vars maxR cz) := by
  have hex : ∀ i, vd vars i → ∃ e, G1 (X i) = some e := fun i hi => crep_some hR i hi
  obtain ⟨n1, n2, n3⟩ := hn
  have m1 := zfn n1
  have m2 := zfn n2
  have m3 := zfn n3
  have a1 : ∀ i, vd vars i → X i ≠ o ∧ X i ≠ lF ∧ X i ≠ lL ∧ X i ≠ lB := fun i hi => by
    obtain ⟨e, he⟩ := hex i hi
    exact ⟨zfr ho he, zfr m1.2 he, zfr m2.2 he, zfr m3.2 he⟩
  have g : ∀ i, vd vars i → G2 (X i) = G1 (X i) := fun i hi => by
    obtain ⟨q1, q2, q3, q4⟩ := a1 i hi
    rw [hG2, md_n q1 q2 q3 q4, zup_n _ _ q1]
  have go : G2 o = some (.inr (7, mdO lF lL lB (mfs (nI 0) (as0 vars maxR cz)))) := by rw [hG2]; exact md_o hok
  have gF : G2 lF = some (zI Γ 32760 F) := by rw [hG2]; exact md_F hok
  have gL : G2 lL = some (zI Γ 455 L) := by rw [hG2]; exact md_L hok
  have gB : G2 lB = some (zB Γ 455 B) := by rw [hG2]; exact md_B hok
  have x1 := Ne.symm (zfr hlo go)
  have x2 := Ne.symm (zfr hlo gF)
  have x3 := Ne.symm (zfr hlo gL)
  have x4 := Ne.symm (zfr hlo gB)
  have a2 : ∀ i, vd vars i → X i ≠ lo := fun i hi => by
    obtain ⟨e, he⟩ := hex i hi
    exact zfr hlo ((g i hi).trans he)
  refine ⟨⟨hX, hok, fun i hi => ⟨(a1 i hi).1, (a1 i hi).2.1, (a1 i hi).2.2.1, (a1 i hi).2.2.2, a2 i hi⟩, x1, x2, x3, x4⟩, aj_0 hb, rfl, hR.keep (fun i hi => ?_), F, L, B, nI 0, fun _ => 0, hMR, (zup_n _ _ (Ne.symm x1)).trans go, (zup_n _ _ (Ne.symm x2)).trans gF, (zup_n _ _ (Ne.symm x3)).trans gL, (zup_n _ _ (Ne.symm x4)).trans gB, zup_s _ _ _⟩
  have hi : vd vars i := hi
  rw [zup_n _ _ (a2 i hi), g i hi]
