/-! the object stands for a state -/
def CRep (Γ : zT) (G : zG) (X : Nat → Nat) : AS → Prop
  | ((vars, maxR, cells), (nr, inp, R), (fil, V), (se, be, S), P, (st, sg, gv, g, z)) =>
    ∃ (Z : Nat → Int) (used cz sw : Nat) (C St : Nat → Nat), CB Γ G X vars maxR nr used cz R C St Z fil inp se be (if anyBot R vars inp nr then 1 else 0) sw st sg gv ∧ (sw ≤ 1 ∧ cz = used + cells) ∧ (st = 1 → RD Γ G X gv g) ∧ (∀ k, k < fil → Z k = V k) ∧ (be = 1 → ∀ k, k ≤ vars → Z (14 + 7 * sw + k) = S k) ∧ (∀ k, k < vars → Z (7 + k) = P k) ∧ (st ≠ 0 → Z 31 = z)
section CRS
variable {Γ : zT} {G G' G2 : zG} {X : Nat → Nat} {vars maxR nr used cz : Nat} {R R' : Nat → Nat → Int} {C St : Nat → Nat} {Z Z' : Nat → Int} {fil inp se be ct sw st : Nat} {sg : Int32} {gv : Nat} {S : List Nat}
theorem CB.reg (hX : XI X vars) (h : CB Γ G X vars maxR nr used cz R C St Z fil inp se be ct sw st sg gv) (hf : fr X [31, 71, 82] G G') (hC : CW Γ G' X vars Z') {st' gv' : Nat} {sg' : Int32} (hG : RG Γ G' X st' sg' gv') : CB Γ G' X vars maxR nr used cz R C St Z' fil inp se be ct sw st' sg' gv' :=
  ⟨h.1.fr hX hf (fun i hi => by simp only [List.mem_cons, List.not_mem_nil, or_false] at hi; exact ⟨by unfold vd vw; omega, by omega⟩), hC, h.2.2.1.fr hX hf (fun i hi => by simp only [List.mem_cons, List.not_mem_nil, or_false] at hi; exact ⟨by unfold vd vw; omega, by omega⟩), hG⟩
theorem CB.fin (hX : XI X vars) (h : CB Γ G X vars maxR nr used cz R C St Z fil inp se be ct sw st sg gv) (hf : fr X [82] G G') (hG : RG Γ G' X 2 sg gv) : CB Γ G' X vars maxR nr used cz R C St Z fil inp se be ct sw 2 sg gv :=
  h.reg hX (hf.mono (fun i hi => by simp only [List.mem_cons, List.not_mem_nil, or_false] at hi ⊢; omega)) (h.2.1.same hX hf (fun i hi => by simp only [List.mem_cons, List.not_mem_nil, or_false] at hi; omega)) hG
theorem CW.rd0 (h : CW Γ G X vars Z) (g : Nat → Nat) : RD Γ G X 0 g := by
  obtain ⟨d, _, e, _⟩ := h.1 31 (by unfold vw; omega)
  exact ⟨d, e, fun j hj => by omega⟩
theorem AR.congr (h : AR Γ G X vars maxR nr used cz R C St) (he : ∀ r k, r < nr → k ≤ vars → R r k = R' r k) : AR Γ G X vars maxR nr used cz R' C St := ⟨h.1, fun r k h1 h2 => by rw [← he r k h1 h2]; exact h.2 r k h1 h2⟩
theorem CB.congr (h : CB Γ G X vars maxR nr used cz R C St Z fil inp se be ct sw st sg gv) (he : ∀ r k, r < nr → k ≤ vars → R r k = R' r k) {ct' : Nat} (hc : ct = ct') : CB Γ G X vars maxR nr used cz R' C St Z fil inp se be ct' sw st sg gv := by
  subst hc; exact ⟨h.1, h.2.1, h.2.2.1.congr he, h.2.2.2⟩
theorem frN.rd {g : Nat → Nat} (hX : XI X vars) (h : frN X vars G G') (hr : RD Γ G X gv g) : RD Γ G' X gv g := by
  obtain ⟨d, e, q⟩ := hr
  exact ⟨d, (h.get hX (by unfold vd vw; omega) (by omega)).trans e, q⟩
theorem up_rd {g : Nat → Nat} {e : va_E} (hX : XI X vars) (hr : RD Γ G X gv g) : RD Γ (zup G (X 80) e) X gv g := hr.fr hX (S := [80]) (fr.up (by simp)) (fun i hi => by simp only [List.mem_cons, List.not_mem_nil, or_false] at hi; exact ⟨by unfold vd; omega, by omega⟩)
theorem up_a {e : va_E} : frA X vars G (zup G (X 80) e) := fr.a (S := [80]) (fr.up (by simp)) (fun i hi => by simp only [List.mem_cons, List.not_mem_nil, or_false] at hi; unfold vd; omega)
theorem coE_swap (hs : sw ≤ 1) : (Sum.inr (6, [.int (nI vars), .ref (X 81), .ref (X 82), .ref (X 84), .ref (X 85), .ref (X 83), .int (nI fil), .int (nI inp), .int (nI se), .int (nI be), .int (nI ct), .ref (X (87 - sw)), .ref (X (86 + sw)), .ref (X 28), .ref (X 29), .ref (X 30)]) : va_E) = coE X vars fil inp se be ct (1 - sw) := by
  rcases (show sw = 0 ∨ sw = 1 by omega) with rfl | rfl <;> rfl
end CRS
theorem need_congr {F F' : Nat → Int} {n : Nat} (h : ∀ k, k < n → F k = F' k) : need F n = need F' n := by
  induction n with
  | zero => rfl
  | succ n ih => unfold need; rw [ih (fun k hk => h k (by omega)), h n (by omega)]
theorem zeroN_congr {F F' : Nat → Int} {n : Nat} (h : ∀ k, k < n → F k = F' k) : zeroN F n = zeroN F' n := by
  induction n with
  | zero => rfl
  | succ n ih => unfold zeroN; rw [ih (fun k hk => h k (by omega)), h n (by omega)]
theorem fit48_congr {F F' : Nat → Int} {n : Nat} (h : ∀ k, k < n → F k = F' k) : fit48 F n = fit48 F' n := by
  induction n with
  | zero => rfl
  | succ n ih => unfold fit48; rw [ih (fun k hk => h k (by omega)), h n (by omega)]
theorem bot_congr {F F' : Nat → Int} {n : Nat} (h : ∀ k, k ≤ n → F k = F' k) : bot F n = bot F' n := by
  unfold bot; rw [zeroN_congr (fun k hk => h k (by omega)), h n (Nat.le_refl _)]
theorem dotN_congr {F F' Y : Nat → Int} {n : Nat} (h : ∀ k, k < n → F k = F' k) : dotN F Y n = dotN F' Y n := by
  induction n with
  | zero => rfl
  | succ n ih => unfold dotN; rw [ih (fun k hk => h k (by omega)), h n (by omega)]
theorem gcdN_zero {F : Nat → Int} {n : Nat} : gcdN F n = 0 ↔ zeroN F n = true := by
  induction n with
  | zero => exact ⟨fun _ => rfl, fun _ => rfl⟩
  | succ n ih =>
    unfold gcdN zeroN
    rw [Nat.gcd_eq_zero_iff, ih, Bool.and_eq_true, decide_eq_true_eq, Int.natAbs_eq_zero]
theorem anyBot_inp {R : Nat → Nat → Int} {vars inp nr : Nat} (h : nr ≤ inp) : anyBot R vars inp nr = false := by
  induction nr with
  | zero => rfl
  | succ n ih => unfold anyBot; rw [ih (by omega), decide_eq_false (by omega)]; rfl
theorem anyBot_up {R : Nat → Nat → Int} {F : Nat → Int} {vars inp nr : Nat} : ∀ n, n ≤ nr → anyBot (va_up R nr F) vars inp n = anyBot R vars inp n := by
  intro n
  induction n with
  | zero => intro _; rfl
  | succ n ih => intro h; unfold anyBot; rw [ih (by omega), va_up_ne _ _ (by omega)]
theorem anyBot_c {R : Nat → Nat → Int} {F : Nat → Int} {vars inp nr : Nat} (h : inp ≤ nr) : (if anyBot (va_up R nr F) vars inp (nr + 1) then 1 else 0) = (if bot F vars then 1 else (if anyBot R vars inp nr then 1 else 0)) := by
  have e : anyBot (va_up R nr F) vars inp (nr + 1) = (anyBot (va_up R nr F) vars inp nr || (decide (inp ≤ nr) && bot (va_up R nr F nr) vars)) := rfl
  rw [e, anyBot_up nr (Nat.le_refl _), va_up_self, decide_eq_true h, Bool.true_and]
  cases anyBot R vars inp nr <;> cases bot F vars <;> rfl
theorem allHold_ne {R : Nat → Nat → Int} {P : Nat → Int} {vars k n : Nat} (hk : k < n) (h : ¬ dotN P (R k) vars ≤ R k vars) : allHold R P vars n = false := by
  induction n with
  | zero => omega
  | succ n ih =>
    unfold allHold
    by_cases hc : k = n
    · rw [← hc, decide_eq_false h, Bool.and_false]
    · rw [ih (by omega), Bool.false_and]
