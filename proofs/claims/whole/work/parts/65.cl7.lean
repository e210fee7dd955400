/-! the class's cells: one function for all addresses; what is in them, by ids -/
theorem zMv.imp {l : Launch} {y : MethodName} {ws : List Cond} {rm : Room} {Γ : zT} {G : zG} {sz : Nat} {av : List Value} {post post' : zG → Prop} {mc ms : Nat} (h : zMv l y ws rm Γ G sz av post mc ms) (hi : ∀ G', post G' → post' G') : zMv l y ws rm Γ G sz av post' mc ms := by
  intro p e h1 h2 h3 s m args below h4 h5 h6 h7
  obtain ⟨n, o, a1, a2, a3, ⟨⟨u, b1, b2, b3⟩, b4⟩, b5⟩ := h p e h1 h2 h3 s m args below h4 h5 h6 h7
  exact ⟨n, o, a1, a2, a3, ⟨⟨u, b1, hi _ b2, b3⟩, b4⟩, b5⟩
theorem zMi.imp {l : Launch} {y : MethodName} {ws : List Cond} {rm : Room} {Γ : zT} {G : zG} {sz : Nat} {av : List Value} {post post' : Int32 → zG → Prop} {mc ms : Nat} (h : zMi l y ws rm Γ G sz av post mc ms) (hi : ∀ r G', post r G' → post' r G') : zMi l y ws rm Γ G sz av post' mc ms := by
  intro p e h1 h2 h3 s m args below h4 h5 h6 h7
  obtain ⟨n, o, a1, a2, a3, ⟨⟨r, u, b1, b2, b3⟩, b4⟩, b5⟩ := h p e h1 h2 h3 s m args below h4 h5 h6 h7
  exact ⟨n, o, a1, a2, a3, ⟨⟨r, u, b1, hi _ _ b2, b3⟩, b4⟩, b5⟩
def vw (vars i : Nat) : Prop := (i < 7 ∧ i ≤ vars) ∨ (7 ≤ i ∧ i < 7 + vars ∧ i < 14) ∨ (14 ≤ i ∧ i ≤ 14 + vars ∧ i < 21) ∨ (21 ≤ i ∧ i ≤ 21 + vars ∧ i < 28) ∨ (28 ≤ i ∧ i < 35)
def vd (vars i : Nat) : Prop := vw vars i ∨ (40 ≤ i ∧ vw vars (i - 40)) ∨ (75 ≤ i ∧ i < 79) ∨ (80 ≤ i ∧ i < 88)
theorem vw.lt {vars i : Nat} (h : vw vars i) : i < 35 := by unfold vw at h; omega
theorem vw.d {vars i : Nat} (h : vw vars i) : vd vars i := Or.inl h
theorem vw.e {vars i : Nat} (h : vw vars i) : vd vars (40 + i) := Or.inr (Or.inl ⟨by omega, by rw [Nat.add_sub_cancel_left]; exact h⟩)
def XI (X : Nat → Nat) (vars : Nat) : Prop := ∀ i j, vd vars i → vd vars j → X i = X j → i = j
theorem XI.ne {X : Nat → Nat} {vars i j : Nat} (h : XI X vars) (hi : vd vars i) (hj : vd vars j) (hn : i ≠ j) : X i ≠ X j := fun e => hn (h i j hi hj e)
/-- the room of a number's digits -/
def wrm (i : Nat) : Nat := if i < 14 then 20 else if i < 28 then 69 else if i = 28 then 48 else if i < 31 then 69 else if i = 31 then 20 else 48
theorem wrm_lt (i : Nat) : wrm i < 2 ^ 31 := by unfold wrm; split; decide; split; decide; split; decide; split; decide; split <;> decide
/-- only these cells may differ -/
def fr (X : Nat → Nat) (S : List Nat) (G G' : zG) : Prop := ∀ x, (∀ i, i ∈ S → x ≠ X i) → G' x = G x
theorem fr.rf {X : Nat → Nat} {S : List Nat} {G : zG} : fr X S G G := fun _ _ => rfl
theorem fr.mono {X : Nat → Nat} {S S' : List Nat} {G G' : zG} (h : fr X S G G') (hs : ∀ i, i ∈ S → i ∈ S') : fr X S' G G' := fun x hx => h x (fun i hi => hx i (hs i hi))
theorem fr.tr {X : Nat → Nat} {S : List Nat} {G G1 G2 : zG} (h : fr X S G G1) (h2 : fr X S G1 G2) : fr X S G G2 := fun x hx => (h2 x hx).trans (h x hx)
theorem fr.up {X : Nat → Nat} {S : List Nat} {G : zG} {i : Nat} {e : va_E} (hi : i ∈ S) : fr X S G (zup G (X i) e) := fun x hx => zup_n _ _ (hx i hi)
theorem fr.get {X : Nat → Nat} {vars : Nat} {S : List Nat} {G G' : zG} (hX : XI X vars) (h : fr X S G G') {j : Nat} (hj : vd vars j) (hS : ∀ i, i ∈ S → vd vars i ∧ i ≠ j) : G' (X j) = G (X j) := h _ (fun i hi => hX.ne hj (hS i hi).1 (Ne.symm (hS i hi).2))
theorem NUM.fr {Γ : zT} {G G' : zG} {a la r : Nat} {z : Int} (h : NUM Γ G a la r z) (h1 : G' a = G a) (h2 : G' la = G la) : NUM Γ G' a la r z := by
  obtain ⟨d, e1, e2, e3, e4⟩ := h
  exact ⟨d, h1.trans e1, h2.trans e2, e3, e4⟩
theorem NUM.mk {Γ : zT} {G : zG} {a la r : Nat} {z : Int} {d : Nat → Nat} (hne : la ≠ a) (hr : nl z.natAbs ≤ r) (hd : hd d z) : NUM Γ (zup (zup G la (zI Γ r d)) a (wh la (nl z.natAbs) (sgI z))) a la r z := ⟨d, zup_s _ _ _, (zup_n _ _ hne).trans (zup_s _ _ _), hr, hd⟩
/-- an array of numbers -/
def WA (Γ : zT) (G : zG) (X : Nat → Nat) (a n b : Nat) : Prop := ∃ f, G a = some (zW Γ n f) ∧ ∀ k, k < n → f k = some (X (b + k))
/-- the numbers of the class's object -/
def CW (Γ : zT) (G : zG) (X : Nat → Nat) (vars : Nat) (Z : Nat → Int) : Prop :=
  (∀ i, vw vars i → NUM Γ G (X i) (X (40 + i)) (wrm i) (Z i)) ∧ G (X 83) = some (.inr (3, [.ref (X 32), .ref (X 33), .ref (X 34), .ref (X 77), .ref (X 78)])) ∧ (∃ T, G (X 77) = some (zI Γ 49 T)) ∧ (∃ U, G (X 78) = some (zI Γ 48 U)) ∧ WA Γ G X (X 84) (vars + 1) 0 ∧ WA Γ G X (X 85) vars 7 ∧ WA Γ G X (X 86) (vars + 1) 14 ∧ WA Γ G X (X 87) (vars + 1) 21
theorem CW.o {Γ : zT} {G : zG} {X : Nat → Nat} {vars : Nat} {Z : Nat → Int} (h : CW Γ G X vars Z) (i : Nat) (hi : vw vars i) : G (X i) = some (wh (X (40 + i)) (nl (Z i).natAbs) (sgI (Z i))) := by
  obtain ⟨d, e1, _⟩ := h.1 i hi
  exact e1
theorem CW.le {Γ : zT} {G : zG} {X : Nat → Nat} {vars : Nat} {Z : Nat → Int} (h : CW Γ G X vars Z) (i : Nat) (hi : vw vars i) : nl (Z i).natAbs ≤ wrm i := by
  obtain ⟨d, _, _, e1, _⟩ := h.1 i hi
  exact e1
theorem WA.fr {Γ : zT} {G G' : zG} {X : Nat → Nat} {a n b : Nat} (h : WA Γ G X a n b) (h1 : G' a = G a) : WA Γ G' X a n b := by
  obtain ⟨f, e1, e2⟩ := h
  exact ⟨f, h1.trans e1, e2⟩
theorem CW.of {Γ : zT} {G G' : zG} {X : Nat → Nat} {vars : Nat} {Z Z' : Nat → Int} {S : List Nat} (hX : XI X vars) (h : CW Γ G X vars Z) (hf : fr X S G G') (hS : ∀ i, i ∈ S → vd vars i ∧ (i < 77 ∨ i = 77 ∨ i = 78 ∨ (80 ≤ i ∧ i < 83))) (hn : ∀ k, vw vars k → (k ∈ S ∨ 40 + k ∈ S) → NUM Γ G' (X k) (X (40 + k)) (wrm k) (Z' k)) (hz : ∀ k, k ∉ S → 40 + k ∉ S → Z' k = Z k) (hT : 77 ∈ S → ∃ T, G' (X 77) = some (zI Γ 49 T)) (hU : 78 ∈ S → ∃ U, G' (X 78) = some (zI Γ 48 U)) : CW Γ G' X vars Z' := by
  obtain ⟨c1, c2, c3, c4, c5, c6, c7, c8⟩ := h
  have g : ∀ j, 83 ≤ j → j < 88 → G' (X j) = G (X j) := fun j h1 h2 => hf.get hX (by unfold vd; omega) (fun i hi => ⟨(hS i hi).1, by have := (hS i hi).2; omega⟩)
  refine ⟨fun i hi => ?_, (g 83 (by omega) (by omega)).trans c2, ?_, ?_, c5.fr (g 84 (by omega) (by omega)), c6.fr (g 85 (by omega) (by omega)), c7.fr (g 86 (by omega) (by omega)), c8.fr (g 87 (by omega) (by omega))⟩
  · by_cases hm : i ∈ S ∨ 40 + i ∈ S
    · exact hn i hi hm
    · have h1 : i ∉ S := fun q => hm (Or.inl q)
      have h2 : 40 + i ∉ S := fun q => hm (Or.inr q)
      rw [hz i h1 h2]
      exact (c1 i hi).fr (hf.get hX hi.d (fun k hk => ⟨(hS k hk).1, fun q => h1 (q ▸ hk)⟩)) (hf.get hX hi.e (fun k hk => ⟨(hS k hk).1, fun q => h2 (q ▸ hk)⟩))
  · by_cases hm : 77 ∈ S
    · exact hT hm
    · obtain ⟨T, e⟩ := c3
      exact ⟨T, (hf.get hX (by unfold vd; omega) (fun i hi => ⟨(hS i hi).1, fun q => hm (by rw [← q]; exact hi)⟩)).trans e⟩
  · by_cases hm : 78 ∈ S
    · exact hU hm
    · obtain ⟨U, e⟩ := c4
      exact ⟨U, (hf.get hX (by unfold vd; omega) (fun i hi => ⟨(hS i hi).1, fun q => hm (by rw [← q]; exact hi)⟩)).trans e⟩
/-- one number is set -/
theorem CW.set {Γ : zT} {G : zG} {X : Nat → Nat} {vars : Nat} {Z : Nat → Int} (hX : XI X vars) (h : CW Γ G X vars Z) {i : Nat} (hi : vw vars i) {z : Int} {d : Nat → Nat} (hr : nl z.natAbs ≤ wrm i) (hd : hd d z) : CW Γ (zup (zup G (X (40 + i)) (zI Γ (wrm i) d)) (X i) (wh (X (40 + i)) (nl z.natAbs) (sgI z))) X vars (va_up Z i z) := by
  have hl := hi.lt
  have hne : X (40 + i) ≠ X i := hX.ne hi.e hi.d (by omega)
  refine h.of hX (S := [i, 40 + i]) (fun x hx => by rw [zup_n _ _ (hx i (by simp)), zup_n _ _ (hx (40 + i) (by simp))]) (fun k hk => ?_) (fun k hk hm => ?_) (fun k h1 h2 => ?_) (fun h7 => ?_) (fun h7 => ?_)
  · simp only [List.mem_cons, List.not_mem_nil, or_false] at hk
    rcases hk with rfl | rfl
    · exact ⟨hi.d, by omega⟩
    · exact ⟨hi.e, by omega⟩
  · simp only [List.mem_cons, List.not_mem_nil, or_false] at hm
    have := hk.lt
    have hki : k = i := by omega
    subst hki
    rw [va_up_self]
    exact NUM.mk hne hr hd
  · simp only [List.mem_cons, List.not_mem_nil, or_false, not_or] at h1
    exact va_up_ne _ _ h1.1
  · simp only [List.mem_cons, List.not_mem_nil, or_false] at h7
    omega
  · simp only [List.mem_cons, List.not_mem_nil, or_false] at h7
    omega
theorem fr_set {X : Nat → Nat} {G : zG} {i : Nat} {e e' : va_E} : fr X [i, 40 + i] G (zup (zup G (X (40 + i)) e) (X i) e') := fun x hx => by rw [zup_n _ _ (hx i (by simp)), zup_n _ _ (hx (40 + i) (by simp))]
/-! the numbers' methods, by ids -/
section CWM
variable {Γ : zT} {G : zG} {X : Nat → Nat} {vars : Nat} {Z : Nat → Int} {i j k : Nat}
/-- number i became z, and nothing else changed -/
def was (Γ : zT) (G : zG) (X : Nat → Nat) (vars : Nat) (Z : Nat → Int) (i : Nat) (z : Int) (G' : zG) : Prop := CW Γ G' X vars (va_up Z i z) ∧ fr X [i, 40 + i] G G'
theorem was.mk (hX : XI X vars) (h : CW Γ G X vars Z) (hi : vw vars i) {z : Int} {d : Nat → Nat} (hr : nl z.natAbs ≤ wrm i) (hd : hd d z) : was Γ G X vars Z i z (zup (zup G (X (40 + i)) (zI Γ (wrm i) d)) (X i) (wh (X (40 + i)) (nl z.natAbs) (sgI z))) := ⟨h.set hX hi hr hd, fr_set⟩
theorem nl_0' : nl (0 : Int).natAbs = 0 := by
  have := @nl_pos 0
  show nl 0 = 0
  omega
theorem cw_setZero (l : Launch) (sz : Nat) (hX : XI X vars) (h : CW Γ G X vars Z) (hi : vw vars i) : zMv l yX3_setZero wsX3_setZero (zR 1) Γ G sz [.ref (X i)] (was Γ G X vars Z i 0) 0 0 := by
  obtain ⟨d, e1, e2, e3, e4⟩ := h.1 i hi
  refine zMv.imp (w_setZero l Γ G sz _ _ _ _ _ _ e1 e2) (fun G' hG => ?_)
  have := was.mk hX h hi (z := 0) (d := d) (by rw [nl_0']; omega) (hd_of (n := 0) (fun j hj => by omega) (by rw [vl_0]; rfl))
  rw [zup_self _ e2, nl_0'] at this
  rw [hG]; exact this
theorem cw_copy (l : Launch) (sz : Nat) (hX : XI X vars) (h : CW Γ G X vars Z) (hi : vw vars i) (hj : vw vars j) (hij : i ≠ j) (hr : nl (Z j).natAbs ≤ wrm i) : zMv l yX3_copyFrom wsX3_copyFrom (zR 1) Γ G sz [.ref (X i), .ref (X j)] (was Γ G X vars Z i (Z j)) 0 0 := by
  obtain ⟨d, e1, e2, e3, e4⟩ := h.1 i hi
  obtain ⟨d2, f1, f2, f3, f4⟩ := h.1 j hj
  refine zMv.imp (w_copyFrom l Γ G sz _ _ _ _ _ _ e1 e2 _ _ _ _ _ _ f1 f2 (hX.ne hi.e hj.e (by omega)) (hX.ne hi.d hj.d hij) hr f3 (wrm_lt _) (wrm_lt _)) (fun G' hG => ?_)
  rw [hG]
  exact was.mk hX h hi hr (f4.up (fun t ht => by unfold va_cpy; rw [if_pos ⟨Nat.zero_le _, by omega⟩]; congr 1; omega))
theorem cw_prod (l : Launch) (sz : Nat) (hX : XI X vars) (h : CW Γ G X vars Z) (hi : vw vars i) (hj : vw vars j) (hk : vw vars k) (hij : i ≠ j) (hik : i ≠ k) (hr : nl (Z j).natAbs + nl (Z k).natAbs ≤ wrm i) : zMv l yX3_setProduct wsX3_setProduct (zR 3) Γ G sz [.ref (X i), .ref (X j), .ref (X k)] (was Γ G X vars Z i (Z j * Z k)) 0 0 := by
  obtain ⟨d, e1, e2, e3, e4⟩ := h.1 i hi
  obtain ⟨d2, f1, f2, f3, f4⟩ := h.1 j hj
  obtain ⟨d3, g1, g2, g3, g4⟩ := h.1 k hk
  refine zMv.imp (w_setProduct l Γ G sz _ _ _ _ _ _ e1 e2 _ _ _ _ _ _ f1 f2 _ _ _ _ _ _ g1 g2 (hX.ne hi.e hj.e (by omega)) (hX.ne hi.d hj.d hij) (hX.ne hi.e hk.e (by omega)) (hX.ne hi.d hk.d hik) (wrm_lt _) f3 (wrm_lt _) g3 (wrm_lt _) hr f4.1 g4.1) (fun G' hG => ?_)
  obtain ⟨d', hG, q1, q2⟩ := hG
  rw [f4.2, g4.2] at hG q2
  have e : (Z j).natAbs * (Z k).natAbs = (Z j * Z k).natAbs := (Int.natAbs_mul _ _).symm
  rw [e] at hG q2
  have hn : nl (Z j * Z k).natAbs ≤ wrm i := by
    rw [← tr_of q1 q2]; exact Nat.le_trans (tr_le _ _) hr
  have hs : (if nl (Z j * Z k).natAbs = 0 then nI 0 else sgI (Z j) * sgI (Z k)) = sgI (Z j * Z k) := by
    rw [sgI_mul]
    split
    · rename_i h0
      have hp := @nl_pos (Z j * Z k).natAbs
      have h1 : Z j * Z k = 0 := by omega
      rw [h1]; rfl
    · rfl
  rw [hs] at hG
  rw [hG]
  exact was.mk hX h hi hn (hd_of q1 q2)
theorem cw_add (l : Launch) (sz : Nat) (hX : XI X vars) (h : CW Γ G X vars Z) (hi : vw vars i) (hj : vw vars j) (hij : i ≠ j) (hr : nl (Z j).natAbs ≤ wrm i) (hr2 : nl (Z i + Z j).natAbs ≤ wrm i) : zMv l yX3_add wsX3_add (zR 3) Γ G sz [.ref (X i), .ref (X j)] (was Γ G X vars Z i (Z i + Z j)) 0 0 := by
  obtain ⟨d, e1, e2, e3, e4⟩ := h.1 i hi
  obtain ⟨d2, f1, f2, f3, f4⟩ := h.1 j hj
  refine zMv.imp (w_add l Γ G sz _ _ _ _ _ e1 e2 e4 _ _ _ _ _ f1 f2 f4 (hX.ne hi.e hj.e (by omega)) (hX.ne hi.d hj.d hij) e3 (wrm_lt _) f3 (wrm_lt _) hr hr2) (fun G' hG => ?_)
  obtain ⟨d', hG, q1⟩ := hG
  rw [hG]
  exact was.mk hX h hi hr2 q1
theorem cw_cmp (l : Launch) (sz : Nat) (h : CW Γ G X vars Z) (hi : vw vars i) (hj : vw vars j) : zMi l yX3_compareSize wsX3_compareSize (zR 2) Γ G sz [.ref (X i), .ref (X j)] (fun x G' => x = cmp3 (Z i).natAbs (Z j).natAbs ∧ G' = G) 0 0 := by
  obtain ⟨d, e1, e2, e3, e4⟩ := h.1 i hi
  obtain ⟨d2, f1, f2, f3, f4⟩ := h.1 j hj
  have := w_compareSize l Γ G sz _ _ _ _ _ _ e1 e2 _ _ _ _ _ _ f1 f2 e3 f3 (wrm_lt _) (wrm_lt _) e4.sf f4.sf
  rw [e4.2, f4.2] at this
  exact this
theorem cw_grow (l : Launch) (sz : Nat) (hX : XI X vars) (h : CW Γ G X vars Z) (hi : vw vars i) {z : Int} (hz : z.natAbs = (Z i).natAbs + 1) (hr : nl z.natAbs ≤ wrm i) : zMv l yX3_growByOne wsX3_growByOne (zR 2) Γ G sz [.ref (X i), .int (sgI z)] (was Γ G X vars Z i z) 0 0 := by
  obtain ⟨d, e1, e2, e3, e4⟩ := h.1 i hi
  refine zMv.imp (w_growByOne l Γ G sz _ _ _ _ _ _ e1 e2 (sgI z) e3 (wrm_lt _) e4.1 (by rw [e4.2, ← hz]; exact hr)) (fun G' hG => ?_)
  obtain ⟨d', hG, q1, q2⟩ := hG
  rw [e4.2, ← hz] at hG q1 q2
  rw [hG]
  exact was.mk hX h hi hr (hd_of q1 q2)
end CWM
