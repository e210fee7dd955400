/-! the cells of a new object, id by id -/
def KC (Γ : zT) (vars maxR cz : Nat) (X : Nat → Nat) (i : Nat) : va_E :=
  if i < 35 then wh (X (40 + i)) 0 (nI 0)
  else if i < 75 then zI Γ (wrm (i - 40)) (fun _ => 0)
  else if i = 75 then zI Γ cz (fun _ => 0)
  else if i = 76 then zI Γ ((vars + 1) * maxR) (fun _ => 0)
  else if i = 77 then zI Γ 49 (fun _ => 0)
  else if i = 78 then zI Γ 48 (fun _ => 0)
  else if i = 81 then .inr (2, [.ref (X 75), .ref (X 76), .int (nI (vars + 1)), .int (nI maxR), .int (nI 0), .int (nI 0)])
  else if i = 82 then .inr (4, [.ref (X 31), .int (nI 0), .int (nI 0), .int (nI 0)])
  else if i = 83 then .inr (3, [.ref (X 32), .ref (X 33), .ref (X 34), .ref (X 77), .ref (X 78)])
  else if i = 84 then zW Γ (vars + 1) (fun k => if k < vars + 1 then some (X (0 + k)) else none)
  else if i = 85 then zW Γ vars (fun k => if k < vars then some (X (7 + k)) else none)
  else if i = 86 then zW Γ (vars + 1) (fun k => if k < vars + 1 then some (X (14 + k)) else none)
  else zW Γ (vars + 1) (fun k => if k < vars + 1 then some (X (21 + k)) else none)
theorem zfr {G : zG} {q x : Nat} {e : va_E} (h : G q = none) (h2 : G x = some e) : x ≠ q := fun e' => by rw [e', h] at h2; cases h2
theorem zfn {G : zG} {a x : Nat} {e : va_E} (h : zup G a e x = none) : x ≠ a ∧ G x = none := by
  by_cases hx : x = a
  · rw [hx, zup_s] at h; cases h
  · rw [zup_n _ _ hx] at h; exact ⟨hx, h⟩
def mixX (T : Nat → Bool) (Y X : Nat → Nat) : Nat → Nat := fun i => if T i then Y i else X i
theorem mixX_t {T : Nat → Bool} {Y X : Nat → Nat} {i : Nat} (h : T i = true) : mixX T Y X i = Y i := if_pos h
theorem mixX_f {T : Nat → Bool} {Y X : Nat → Nat} {i : Nat} (h : T i = false) : mixX T Y X i = X i := if_neg (by rw [h]; decide)
section NWS
variable {Γ : zT} {vars maxR cz a : Nat} {G G' G1 G2 : zG} {X Y : Nat → Nat} {S T : Nat → Bool}
/-- what a set of ids says of itself holds whatever the other ids are -/
def KCl (Γ : zT) (vars maxR cz : Nat) (X : Nat → Nat) (S : Nat → Bool) : Prop := ∀ X' : Nat → Nat, (∀ i, S i = true → X' i = X i) → ∀ i, S i = true → KC Γ vars maxR cz X' i = KC Γ vars maxR cz X i
/-- new cells -/
def NW (Γ : zT) (vars maxR cz : Nat) (G G' : zG) (X : Nat → Nat) (S : Nat → Bool) : Prop :=
  (∀ i, S i = true → G (X i) = none ∧ G' (X i) = some (KC Γ vars maxR cz X i)) ∧ (∀ i j, S i = true → S j = true → X i = X j → i = j) ∧ (∀ x e, G x = some e → G' x = some e) ∧ KCl Γ vars maxR cz X S
/-- new cells, and the object a changes -/
def NWa (Γ : zT) (vars maxR cz : Nat) (G G' : zG) (a : Nat) (X : Nat → Nat) (S : Nat → Bool) : Prop :=
  (∀ i, S i = true → G (X i) = none ∧ G' (X i) = some (KC Γ vars maxR cz X i)) ∧ (∀ i j, S i = true → S j = true → X i = X j → i = j) ∧ (∀ x e, x ≠ a → G x = some e → G' x = some e) ∧ KCl Γ vars maxR cz X S ∧ (∃ e, G a = some e) ∧ ∃ e, G' a = some e
theorem NWa.nil {e : va_E} (h : G a = some e) : NWa Γ vars maxR cz G G a X (fun _ => false) := ⟨fun i hi => (by cases hi), fun i j hi => (by cases hi), fun _ _ _ h => h, fun _ _ i hi => (by cases hi), ⟨e, h⟩, e, h⟩
theorem NWa.set {S' : Nat → Bool} (h : NWa Γ vars maxR cz G G' a X S) (he : ∀ i, S i = S' i) : NWa Γ vars maxR cz G G' a X S' := by
  have : S = S' := funext he
  subst this
  exact h
theorem NWa.map {G1 : zG} (h : NWa Γ vars maxR cz G G' a X S) (he : G1 = G') : NWa Γ vars maxR cz G G1 a X S := he ▸ h
theorem NWa.ne (h : NWa Γ vars maxR cz G G' a X S) {i : Nat} (hi : S i = true) : X i ≠ a := fun e => by
  obtain ⟨e', he⟩ := h.2.2.2.2.1
  rw [← e, (h.1 i hi).1] at he
  cases he
theorem NWa.put (h : NWa Γ vars maxR cz G G' a X S) (e : va_E) : NWa Γ vars maxR cz G (zup G' a e) a X S :=
  ⟨fun i hi => ⟨(h.1 i hi).1, (zup_n _ _ (h.ne hi)).trans (h.1 i hi).2⟩, h.2.1, fun x ex hx hG => (zup_n _ _ hx).trans (h.2.2.1 x ex hx hG), h.2.2.2.1, h.2.2.2.2.1, e, zup_s _ _ _⟩
theorem KCl.mix (hS : KCl Γ vars maxR cz X S) (hT : KCl Γ vars maxR cz Y T) (hd : ∀ i, S i = true → T i = false) : (∀ i, S i = true → KC Γ vars maxR cz (mixX T Y X) i = KC Γ vars maxR cz X i) ∧ (∀ i, T i = true → KC Γ vars maxR cz (mixX T Y X) i = KC Γ vars maxR cz Y i) ∧ KCl Γ vars maxR cz (mixX T Y X) (fun i => S i || T i) := by
  have e1 : ∀ i, S i = true → KC Γ vars maxR cz (mixX T Y X) i = KC Γ vars maxR cz X i := hS _ (fun i hi => mixX_f (hd i hi))
  have e2 : ∀ i, T i = true → KC Γ vars maxR cz (mixX T Y X) i = KC Γ vars maxR cz Y i := hT _ (fun i hi => mixX_t hi)
  refine ⟨e1, e2, fun X' hX' i hi => ?_⟩
  rcases (Bool.or_eq_true _ _).mp hi with h | h
  · rw [e1 i h]; exact hS X' (fun j hj => (hX' j ((Bool.or_eq_true _ _).mpr (Or.inl hj))).trans (mixX_f (hd j hj))) i h
  · rw [e2 i h]; exact hT X' (fun j hj => (hX' j ((Bool.or_eq_true _ _).mpr (Or.inr hj))).trans (mixX_t hj)) i h
theorem NWa.join (h : NWa Γ vars maxR cz G G1 a X S) (h2 : NW Γ vars maxR cz G1 G2 Y T) (hd : ∀ i, S i = true → T i = false) : NWa Γ vars maxR cz G G2 a (mixX T Y X) (fun i => S i || T i) := by
  obtain ⟨c1, c2, c3, c4, ⟨e0, c5⟩, e1, c6⟩ := h
  obtain ⟨d1, d2, d3, d4⟩ := h2
  obtain ⟨k1, k2, k3⟩ := c4.mix d4 hd
  have hn : ∀ i, T i = true → G (Y i) = none := fun i hi => by
    cases hG : G (Y i) with
    | none => rfl
    | some e =>
      have h1 := (d1 i hi).1
      by_cases hya : Y i = a
      · rw [hya, c6] at h1; cases h1
      · rw [c3 _ e hya hG] at h1; cases h1
  have hne : ∀ i j, S i = true → T j = true → X i ≠ Y j := fun i j hi hj q => by
    have h1 := (d1 j hj).1
    rw [← q, (c1 i hi).2] at h1
    cases h1
  refine ⟨fun i hi => ?_, fun i j hi hj => ?_, fun x e hx hG => d3 _ _ (c3 x e hx hG), k3, ⟨e0, c5⟩, e1, d3 _ _ c6⟩
  · rcases (Bool.or_eq_true _ _).mp hi with h | h
    · rw [mixX_f (hd i h), k1 i h]; exact ⟨(c1 i h).1, d3 _ _ (c1 i h).2⟩
    · rw [mixX_t h, k2 i h]; exact ⟨hn i h, (d1 i h).2⟩
  · rcases (Bool.or_eq_true _ _).mp hi with h | h <;> rcases (Bool.or_eq_true _ _).mp hj with h' | h'
    · rw [mixX_f (hd i h), mixX_f (hd j h')]; exact c2 i j h h'
    · rw [mixX_f (hd i h), mixX_t h']; exact fun q => absurd q (hne i j h h')
    · rw [mixX_t h, mixX_f (hd j h')]; exact fun q => absurd q.symm (hne j i h' h)
    · rw [mixX_t h, mixX_t h']; exact d2 i j h h'
/-- the object itself is new too -/
theorem NWa.own {q n : Nat} {d : va_E} (hq : G q = none) (h : NWa Γ vars maxR cz (zup G q d) G2 q Y T) (hn : T n = false) (hk : KC Γ vars maxR cz (mixX (fun i => decide (i = n)) (fun _ => q) Y) n = KC Γ vars maxR cz Y n) (hkk : ∀ X' : Nat → Nat, (∀ i, T i = true → X' i = Y i) → KC Γ vars maxR cz X' n = KC Γ vars maxR cz Y n) (hc : G2 q = some (KC Γ vars maxR cz Y n)) : NW Γ vars maxR cz G G2 (mixX (fun i => decide (i = n)) (fun _ => q) Y) (fun i => T i || decide (i = n)) := by
  have hm : ∀ i, T i = true → mixX (fun i => decide (i = n)) (fun _ => q) Y i = Y i := fun i hi => mixX_f (decide_eq_false (fun e => by rw [e, hn] at hi; cases hi))
  have hme : mixX (fun i => decide (i = n)) (fun _ => q) Y n = q := mixX_t (decide_eq_true rfl)
  obtain ⟨c1, c2, c3, c4, c5, c6⟩ := h
  have hyq : ∀ i, T i = true → Y i ≠ q := fun i hi e => by have := (c1 i hi).1; rw [e, zup_s] at this; cases this
  refine ⟨fun i hi => ?_, fun i j hi hj => ?_, fun x e hx => ?_, fun X' hX' i hi => ?_⟩
  · rcases (Bool.or_eq_true _ _).mp hi with h | h
    · rw [hm i h, c4 _ hm i h]
      exact ⟨by have := (c1 i h).1; rwa [zup_n _ _ (hyq i h)] at this, (c1 i h).2⟩
    · have := of_decide_eq_true h; subst this
      rw [hme, hk]; exact ⟨hq, hc⟩
  · rcases (Bool.or_eq_true _ _).mp hi with h | h <;> rcases (Bool.or_eq_true _ _).mp hj with h' | h'
    · rw [hm i h, hm j h']; exact c2 i j h h'
    · have := of_decide_eq_true h'; subst this
      rw [hm i h, hme]; exact fun q' => absurd q' (hyq i h)
    · have := of_decide_eq_true h; subst this
      rw [hm j h', hme]; exact fun q' => absurd q'.symm (hyq j h')
    · exact fun _ => (of_decide_eq_true h).trans (of_decide_eq_true h').symm
  · have hxq : x ≠ q := fun e' => by rw [e', hq] at hx; cases hx
    exact c3 x e hxq ((zup_n _ _ hxq).trans hx)
  · rcases (Bool.or_eq_true _ _).mp hi with h | h
    · rw [c4 _ hm i h]
      exact c4 X' (fun j hj => (hX' j ((Bool.or_eq_true _ _).mpr (Or.inl hj))).trans (hm j hj)) i h
    · have := of_decide_eq_true h; subst this
      rw [hk]
      exact hkk X' (fun j hj => (hX' j ((Bool.or_eq_true _ _).mpr (Or.inl hj))).trans (hm j hj))
/-- one number -/
def tW (i : Nat) : Nat → Bool := fun j => decide (j = i) || decide (j = 40 + i)
def xW (i q la : Nat) : Nat → Nat := fun j => if j = i then q else la
theorem xW_i (i q la : Nat) : xW i q la i = q := if_pos rfl
theorem xW_l (i q la : Nat) : xW i q la (40 + i) = la := if_neg (by omega)
theorem KC_w {i : Nat} (h : i < 35) (X : Nat → Nat) : KC Γ vars maxR cz X i = wh (X (40 + i)) 0 (nI 0) := if_pos h
theorem KC_l {i : Nat} (h : i < 35) (X : Nat → Nat) : KC Γ vars maxR cz X (40 + i) = zI Γ (wrm i) (fun _ => 0) := by
  unfold KC; rw [if_neg (by omega), if_pos (by omega), Nat.add_sub_cancel_left]
theorem nw_whole {i q la : Nat} (hi : i < 35) (hq : G q = none) (hl : G la = none) (hne : la ≠ q) (hG : G2 = zup (zup G q (wh la 0 (nI 0))) la (zI Γ (wrm i) (fun _ => 0))) : NW Γ vars maxR cz G G2 (xW i q la) (tW i) := by
  subst hG
  have hc : ∀ j, tW i j = true → j = i ∨ j = 40 + i := fun j hj => by
    rcases (Bool.or_eq_true _ _).mp hj with h | h
    · exact Or.inl (of_decide_eq_true h)
    · exact Or.inr (of_decide_eq_true h)
  refine ⟨fun j hj => ?_, fun j k hj hk => ?_, fun x e hx => ?_, fun X' hX' j hj => ?_⟩
  · rcases hc j hj with rfl | rfl
    · rw [xW_i, KC_w hi, xW_l]; exact ⟨hq, (zup_n _ _ (Ne.symm hne)).trans (zup_s _ _ _)⟩
    · rw [xW_l, KC_l hi]; exact ⟨hl, zup_s _ _ _⟩
  · rcases hc j hj with rfl | rfl <;> rcases hc k hk with rfl | rfl
    · exact fun _ => rfl
    · rw [xW_i, xW_l]; exact fun e => absurd e.symm hne
    · rw [xW_i, xW_l]; exact fun e => absurd e hne
    · exact fun _ => rfl
  · have h1 : x ≠ q := fun e' => by rw [e', hq] at hx; cases hx
    have h2 : x ≠ la := fun e' => by rw [e', hl] at hx; cases hx
    exact (zup_n _ _ h2).trans ((zup_n _ _ h1).trans hx)
  · rcases hc j hj with rfl | rfl
    · rw [KC_w hi, KC_w hi, hX' _ (by simp [tW])]
    · rw [KC_l hi, KC_l hi]
/-- one array of digits or cells -/
theorem nw_one {i q : Nat} {e : va_E} (hk : ∀ X : Nat → Nat, KC Γ vars maxR cz X i = e) (hq : G q = none) : NW Γ vars maxR cz G (zup G q e) (fun _ => q) (fun j => decide (j = i)) := by
  refine ⟨fun j hj => ?_, fun j k hj hk => ?_, fun x e' hx => ?_, fun X' hX' j hj => ?_⟩
  · have := of_decide_eq_true hj; subst this; rw [hk]; exact ⟨hq, zup_s _ _ _⟩
  · exact fun _ => (of_decide_eq_true hj).trans (of_decide_eq_true hk).symm
  · exact (zup_n _ _ (fun e' => by rw [e', hq] at hx; cases hx)).trans hx
  · have := of_decide_eq_true hj; subst this; rw [hk, hk]
/-- an array of new numbers, i of them there -/
def ZR (Γ : zT) (G G' : zG) (r len room i : Nat) (Y Z : Nat → Nat) : Prop :=
  (G r = none ∧ G' r = some (zW Γ len (fun k => if k < i then some (Y k) else none))) ∧ (∀ k, k < i → (G (Y k) = none ∧ G' (Y k) = some (wh (Z k) 0 (nI 0))) ∧ G (Z k) = none ∧ G' (Z k) = some (zI Γ room (fun _ => 0))) ∧ (∀ j k, j < i → k < i → Y j = Y k → j = k) ∧ (∀ j k, j < i → k < i → Z j = Z k → j = k) ∧ ∀ x e, G x = some e → G' x = some e
theorem ZR.nil {r len room : Nat} {Y Z : Nat → Nat} (h : G r = none) : ZR Γ G (zup G r (zW Γ len (fun _ => none))) r len room 0 Y Z :=
  ⟨⟨h, by rw [zup_s]; congr 4⟩, fun k hk => absurd hk (by omega), fun j k hj => absurd hj (by omega), fun j k hj => absurd hj (by omega), fun x e hx => (zup_n _ _ (fun e' => by rw [e', h] at hx; cases hx)).trans hx⟩
theorem ZR.f {i : Nat} {Y : Nat → Nat} {q : Nat} : va_up (fun k => if k < i then some (Y k) else none) i (some q) = fun k => if k < i + 1 then some (va_up Y i q k) else none := by
  funext k
  by_cases h : k = i
  · subst h; rw [va_up_self, va_up_self, if_pos (by omega)]
  · rw [va_up_ne _ _ h, va_up_ne _ _ h]
    by_cases h2 : k < i
    · rw [if_pos h2, if_pos (by omega)]
    · rw [if_neg h2, if_neg (by omega)]
theorem ZR.step {r len room i q la : Nat} {Y Z : Nat → Nat} (h : ZR Γ G G1 r len room i Y Z) (hq : G1 q = none) (hl : G1 la = none) (hne : la ≠ q) (hG : G2 = zup (zup (zup G1 q (wh la 0 (nI 0))) la (zI Γ room (fun _ => 0))) r (zW Γ len (va_up (fun k => if k < i then some (Y k) else none) i (some q)))) : ZR Γ G G2 r len room (i + 1) (va_up Y i q) (va_up Z i la) := by
  subst hG
  obtain ⟨⟨c0, c1⟩, c2, c3, c4, c5⟩ := h
  have old : ∀ x e, G1 x = some e → x ≠ q ∧ x ≠ la := fun x e hx => ⟨zfr hq hx, zfr hl hx⟩
  have hnew : ∀ x, G1 x = none → G x = none := fun x hx => by
    cases hG : G x with
    | none => rfl
    | some e => rw [c5 x e hG] at hx; cases hx
  have hqr : q ≠ r := fun e => by rw [e, c1] at hq; cases hq
  have hlr : la ≠ r := fun e => by rw [e, c1] at hl; cases hl
  have hget : ∀ x e, G1 x = some e → x ≠ r → zup (zup (zup G1 q (wh la 0 (nI 0))) la (zI Γ room (fun _ => 0))) r (zW Γ len (va_up (fun k => if k < i then some (Y k) else none) i (some q))) x = some e := fun x e hx hr => (zup_n _ _ hr).trans ((zup_n _ _ (old x e hx).2).trans ((zup_n _ _ (old x e hx).1).trans hx))
  have yr : ∀ k, k < i → Y k ≠ r := fun k hk e => by have := (c2 k hk).1.1; rw [e] at this; have h3 := (c2 k hk).1.2; rw [e, c1] at h3; cases h3
  have zr : ∀ k, k < i → Z k ≠ r := fun k hk e => by have h3 := (c2 k hk).2.2; rw [e, c1] at h3; simp only [zW, zI, Option.some.injEq, Sum.inl.injEq, Prod.mk.injEq, reduceCtorEq, and_false] at h3
  refine ⟨⟨c0, by rw [zup_s, ZR.f]⟩, fun k hk => ?_, fun j k hj hk => ?_, fun j k hj hk => ?_, fun x e hx => ?_⟩
  · by_cases h : k = i
    · subst h
      rw [va_up_self, va_up_self]
      exact ⟨⟨hnew _ hq, (zup_n _ _ hqr).trans ((zup_n _ _ (Ne.symm hne)).trans (zup_s _ _ _))⟩, hnew _ hl, (zup_n _ _ hlr).trans (zup_s _ _ _)⟩
    · rw [va_up_ne _ _ h, va_up_ne _ _ h]
      have := c2 k (by omega)
      exact ⟨⟨this.1.1, hget _ _ this.1.2 (yr k (by omega))⟩, this.2.1, hget _ _ this.2.2 (zr k (by omega))⟩
  · by_cases h : j = i <;> by_cases h' : k = i
    · exact fun _ => h.trans h'.symm
    · subst h; rw [va_up_self, va_up_ne _ _ h']; intro e; exact absurd e.symm (old _ _ (c2 k (by omega)).1.2).1
    · subst h'; rw [va_up_self, va_up_ne _ _ h]; intro e; exact absurd e (old _ _ (c2 j (by omega)).1.2).1
    · rw [va_up_ne _ _ h, va_up_ne _ _ h']; exact c3 j k (by omega) (by omega)
  · by_cases h : j = i <;> by_cases h' : k = i
    · exact fun _ => h.trans h'.symm
    · subst h; rw [va_up_self, va_up_ne _ _ h']; intro e; exact absurd e.symm (old _ _ (c2 k (by omega)).2.2).2
    · subst h'; rw [va_up_self, va_up_ne _ _ h]; intro e; exact absurd e (old _ _ (c2 j (by omega)).2.2).2
    · rw [va_up_ne _ _ h, va_up_ne _ _ h']; exact c4 j k (by omega) (by omega)
  · have hr : x ≠ r := fun e' => by rw [e', c0] at hx; cases hx
    exact hget x e (c5 x e hx) hr
/-- ids of an array of numbers -/
def tZ (w b len : Nat) : Nat → Bool := fun j => decide (j = w) || (decide (b ≤ j ∧ j < b + len) || decide (40 + b ≤ j ∧ j < 40 + b + len))
def xZ (w b len r : Nat) (Y Z : Nat → Nat) : Nat → Nat := fun j => if j = w then r else if j < b + len then Y (j - b) else Z (j - (40 + b))
theorem nw_zeros {w b len room r : Nat} {Y Z : Nat → Nat} (h : ZR Γ G G2 r len room len Y Z) (hw : 80 ≤ w) (hb : b + len ≤ 35) (hroom : ∀ k, k < len → wrm (b + k) = room) (hk : ∀ X : Nat → Nat, KC Γ vars maxR cz X w = zW Γ len (fun k => if k < len then some (X (b + k)) else none)) : NW Γ vars maxR cz G G2 (xZ w b len r Y Z) (tZ w b len) := by
  obtain ⟨⟨c0, c1⟩, c2, c3, c4, c5⟩ := h
  have hc : ∀ j, tZ w b len j = true → j = w ∨ (∃ k, k < len ∧ j = b + k) ∨ ∃ k, k < len ∧ j = 40 + (b + k) := fun j hj => by
    rcases (Bool.or_eq_true _ _).mp hj with h | h
    · exact Or.inl (of_decide_eq_true h)
    · rcases (Bool.or_eq_true _ _).mp h with h | h
      · have := of_decide_eq_true h; exact Or.inr (Or.inl ⟨j - b, by omega, by omega⟩)
      · have := of_decide_eq_true h; exact Or.inr (Or.inr ⟨j - (40 + b), by omega, by omega⟩)
  have x1 : xZ w b len r Y Z w = r := if_pos rfl
  have x2 : ∀ k, k < len → xZ w b len r Y Z (b + k) = Y k := fun k hk => by unfold xZ; rw [if_neg (by omega), if_pos (by omega), Nat.add_sub_cancel_left]
  have x3 : ∀ k, k < len → xZ w b len r Y Z (40 + (b + k)) = Z k := fun k hk => by unfold xZ; rw [if_neg (by omega), if_neg (by omega), show 40 + (b + k) - (40 + b) = k by omega]
  have e1 : KC Γ vars maxR cz (xZ w b len r Y Z) w = zW Γ len (fun k => if k < len then some (Y k) else none) := by
    rw [hk]; congr 1; funext k
    by_cases h : k < len
    · rw [if_pos h, if_pos h, x2 k h]
    · rw [if_neg h, if_neg h]
  have yr : ∀ k, k < len → Y k ≠ r := fun k hk e => by have h3 := (c2 k hk).1.2; rw [e, c1] at h3; cases h3
  have zr : ∀ k, k < len → Z k ≠ r := fun k hk e => by have h3 := (c2 k hk).2.2; rw [e, c1] at h3; simp only [zW, zI, Option.some.injEq, Sum.inl.injEq, Prod.mk.injEq, reduceCtorEq, and_false] at h3
  have yz : ∀ j k, j < len → k < len → Y j ≠ Z k := fun j k hj hk e => by have h3 := (c2 j hj).1.2; rw [e, (c2 k hk).2.2] at h3; cases h3
  refine ⟨fun j hj => ?_, fun i j hi hj => ?_, c5, fun X' hX' j hj => ?_⟩
  · rcases hc j hj with rfl | ⟨k, hk1, rfl⟩ | ⟨k, hk1, rfl⟩
    · rw [x1, e1]; exact ⟨c0, c1⟩
    · rw [x2 k hk1, KC_w (by omega), x3 k hk1]; exact (c2 k hk1).1
    · rw [x3 k hk1, KC_l (by omega), hroom k hk1]; exact (c2 k hk1).2
  · rcases hc i hi with rfl | ⟨k, hk1, rfl⟩ | ⟨k, hk1, rfl⟩ <;> rcases hc j hj with h | ⟨k', hk2, rfl⟩ | ⟨k', hk2, rfl⟩
    · exact fun _ => h.symm
    · rw [x1, x2 k' hk2]; exact fun e => absurd e.symm (yr k' hk2)
    · rw [x1, x3 k' hk2]; exact fun e => absurd e.symm (zr k' hk2)
    · subst h; rw [x1, x2 k hk1]; exact fun e => absurd e (yr k hk1)
    · rw [x2 k hk1, x2 k' hk2]; exact fun e => by rw [c3 k k' hk1 hk2 e]
    · rw [x2 k hk1, x3 k' hk2]; exact fun e => absurd e (yz k k' hk1 hk2)
    · subst h; rw [x1, x3 k hk1]; exact fun e => absurd e (zr k hk1)
    · rw [x3 k hk1, x2 k' hk2]; exact fun e => absurd e.symm (yz k' k hk2 hk1)
    · rw [x3 k hk1, x3 k' hk2]; exact fun e => by rw [c4 k k' hk1 hk2 e]
  · rcases hc j hj with rfl | ⟨k, hk1, rfl⟩ | ⟨k, hk1, rfl⟩
    · rw [hk, hk]; congr 1; funext k
      by_cases h : k < len
      · rw [if_pos h, if_pos h, hX' (b + k) (by simp only [tZ, Bool.or_eq_true, decide_eq_true_eq]; omega)]
      · rw [if_neg h, if_neg h]
    · rw [KC_w (by omega), KC_w (by omega), hX' (40 + (b + k)) (by simp only [tZ, Bool.or_eq_true, decide_eq_true_eq]; omega)]
    · rw [KC_l (by omega), KC_l (by omega)]
end NWS
