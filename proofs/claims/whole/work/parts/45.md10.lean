def pSum (a : Nat) : Prop := a < 427 ∨ (434 ≤ a ∧ a < 441) ∨ 443 ≤ a
theorem MRep.keep {F L B F1 L1 B1 : Nat → Nat} {σ : AS} (h : MRep F L B σ) (hA : AI σ) {lo hi : Nat} (s : sm lo hi F L B F1 L1 B1) (h1 : 441 ≤ lo) (h2 : hi ≤ 447 ∨ 448 ≤ lo) : MRep F1 L1 B1 σ := by
  obtain ⟨⟨vars, maxR, cells⟩, ⟨nr, inp, R⟩, ⟨fil, V⟩, ⟨se, be, S⟩, P, ⟨st, sg, gv, g, z⟩⟩ := σ
  obtain ⟨⟨hv1, hv6, hm1, hm60, hc4⟩, ⟨hnr, hinp, hsei, hRs⟩, ⟨hfil, hVs⟩, ⟨hse, hbe, hSs⟩, hPs, hst, hgv, hsg, hz1, hgd, hz20⟩ := hA
  obtain ⟨mR, mV, mS, mP, mg, mz, m1⟩ := h
  exact ⟨fun r k a b => (mR r k a b).sm s (by omega), fun k a => (mV k a).sm s (by omega), fun a k b => (mS a k b).sm s (by omega), fun k a => (mP k a).sm s (by omega), fun a j hj => ((s 440 (by omega)).2.2 j (by omega)).trans (mg a j hj), fun a => (mz a).sm s (by omega), s.nv (by omega) m1⟩
theorem nl_mul {a b : Nat} {x y : Nat} (ha : nl a ≤ x) (hb : nl b ≤ y) : nl (a * b) ≤ x + y := nl_le (mul_lt_bp (nl_le_iff.mp ha) (nl_le_iff.mp hb))
theorem nl_imul {a b : Int} {x y : Nat} (ha : nl a.natAbs ≤ x) (hb : nl b.natAbs ≤ y) : nl (a * b).natAbs ≤ x + y := by rw [Int.natAbs_mul]; exact nl_mul ha hb
/-- division of an integer, cut downwards -/
theorem fl_pos {x : Int} {g : Nat} (hx : ¬ x < 0) : (x / (g : Int)) = ((x.natAbs / g : Nat) : Int) := by
  obtain ⟨n, rfl⟩ := Int.eq_ofNat_of_zero_le (Int.not_lt.mp hx)
  simp
theorem fl_neg {x : Int} {g : Nat} (hg : 0 < g) (hx : x < 0) : (x / (g : Int)) = -((if 0 < x.natAbs % g then x.natAbs / g + 1 else x.natAbs / g : Nat) : Int) := by
  have e := Nat.div_add_mod x.natAbs g
  have hm := Nat.mod_lt x.natAbs hg
  have hq : ((g * (x.natAbs / g) : Nat) : Int) = (g : Int) * ((x.natAbs / g : Nat) : Int) := by rw [Int.natCast_mul]
  split
  · rename_i h
    have h1 : x = -((x.natAbs / g + 1 : Nat) : Int) * (g : Int) + ((g - x.natAbs % g : Nat) : Int) := by
      rw [Int.neg_mul, Int.natCast_add, Int.add_mul, Int.mul_comm _ (g : Int)]
      omega
    rw [Int.ediv_eq_iff_of_pos (by omega)] <;> omega
  · rename_i h
    have h1 : x = -((x.natAbs / g : Nat) : Int) * (g : Int) := by
      rw [Int.neg_mul, Int.mul_comm _ (g : Int)]
      omega
    conv => lhs; rw [h1]
    rw [Int.mul_ediv_cancel _ (by omega)]
def pDiv (a : Nat) : Prop := a < 443 ∨ a = 447
theorem MRep.keepQ {F L B F1 L1 B1 : Nat → Nat} {σ : AS} (h : MRep F L B σ) (hA : AI σ) {p : Nat → Prop} (s : smQ p F L B F1 L1 B1) (hp : ∀ a, a < 441 ∨ a = 447 → p a) : MRep F1 L1 B1 σ := by
  obtain ⟨⟨vars, maxR, cells⟩, ⟨nr, inp, R⟩, ⟨fil, V⟩, ⟨se, be, S⟩, P, ⟨st, sg, gv, g, z⟩⟩ := σ
  obtain ⟨⟨hv1, hv6, hm1, hm60, hc4⟩, ⟨hnr, hinp, hsei, hRs⟩, ⟨hfil, hVs⟩, ⟨hse, hbe, hSs⟩, hPs, hst, hgv, hsg, hz1, hgd, hz20⟩ := hA
  obtain ⟨mR, mV, mS, mP, mg, mz, m1⟩ := h
  exact ⟨fun r k a b => (mR r k a b).Q s (hp _ (by omega)), fun k a => (mV k a).Q s (hp _ (by omega)), fun a k b => (mS a k b).Q s (hp _ (by omega)), fun k a => (mP k a).Q s (hp _ (by omega)), fun a j hj => ((s 440 (hp _ (by omega))).2.2 j (by omega)).trans (mg a j hj), fun a => (mz a).Q s (hp _ (by omega)), s.nv (hp _ (by omega)) m1⟩
theorem fl_abs {x : Int} {g : Nat} (hg : 0 < g) : (x / (g : Int)).natAbs = (if x < 0 ∧ 0 < x.natAbs % g then x.natAbs / g + 1 else x.natAbs / g) := by
  by_cases h : x < 0
  · rw [fl_neg hg h, Int.natAbs_neg]
    by_cases h2 : 0 < x.natAbs % g
    · rw [if_pos h2, if_pos ⟨h, h2⟩]; exact Int.natAbs_natCast _
    · rw [if_neg h2, if_neg (fun q => h2 q.2)]; exact Int.natAbs_natCast _
  · rw [fl_pos h, if_neg (fun q => h q.1)]; exact Int.natAbs_natCast _
theorem fl_sb {x : Int} {g : Nat} (hg : 0 < g) : sb (x / (g : Int)) = if x < 0 ∧ (x / (g : Int)).natAbs ≠ 0 then 1 else 0 := by
  have e := sb_or (x / (g : Int))
  by_cases h : x < 0
  · have := fl_neg hg h
    by_cases h2 : (x / (g : Int)).natAbs ≠ 0
    · rw [if_pos ⟨h, h2⟩]; omega
    · rw [if_neg (fun q => h2 q.2)]; omega
  · rw [if_neg (fun q => h q.1)]
    have := Int.ediv_nonneg (Int.not_lt.mp h) (Int.natCast_nonneg g)
    omega
theorem fl_nl {x : Int} {g : Nat} (hg : 0 < g) : nl (x / (g : Int)).natAbs ≤ nl x.natAbs := by
  apply nl_mono
  rw [fl_abs hg]
  have h1 := Nat.div_le_self x.natAbs g
  split
  · rename_i h
    have e := Nat.div_add_mod x.natAbs g
    have := mul_le_r (x.natAbs / g) (show 1 ≤ g by omega)
    omega
  · exact h1
theorem anyBot_s {R : Nat → Nat → Int} {vars inp r : Nat} (h : anyBot R vars inp r = false) (hb : bot (R r) vars = false) : anyBot R vars inp (r + 1) = false := by simp [anyBot, h, hb]
theorem anyBot_0 {R : Nat → Nat → Int} {vars inp : Nat} : ∀ {n : Nat}, n ≤ inp → anyBot R vars inp n = false
  | 0, _ => rfl
  | n + 1, h => by simp [anyBot, anyBot_0 (n := n) (show n ≤ inp by omega)]; omega
theorem anyBot_t {R : Nat → Nat → Int} {vars inp r : Nat} (hr : inp ≤ r) (hb : bot (R r) vars = true) : ∀ {n : Nat}, r < n → anyBot R vars inp n = true
  | 0, h => absurd h (Nat.not_lt_zero r)
  | n + 1, h => by
    by_cases c : r = n
    · subst c; simp [anyBot, hb, hr]
    · simp [anyBot, anyBot_t hr hb (n := n) (by omega)]
theorem bot_iff {X : Nat → Int} {vars : Nat} : bot X vars = true ↔ X vars < 0 ∧ ∀ k, k < vars → X k = 0 := by simp [bot, zeroN_iff]
theorem bot_niff {X : Nat → Int} {vars : Nat} : bot X vars = false ↔ ¬ (X vars < 0 ∧ ∀ k, k < vars → X k = 0) := by rw [← bot_iff]; simp
theorem dotN_le {X Y : Nat → Int} : ∀ {n : Nat}, (∀ k, k < n → nl (X k).natAbs ≤ 20 ∧ nl (Y k).natAbs ≤ 48) → (dotN X Y n).natAbs ≤ n * bp 68
  | 0, _ => by simp [dotN]
  | n + 1, h => by
    have h1 := dotN_le (n := n) (fun k hk => h k (by omega))
    have h2 : (X n * Y n).natAbs < bp 68 := by
      rw [Int.natAbs_mul]
      exact mul_lt_bp (n := 20) (k := 48) (nl_le_iff.mp (h n (by omega)).1) (nl_le_iff.mp (h n (by omega)).2)
    simp only [dotN]
    rw [Nat.add_mul]
    omega
theorem dotN_nl {X Y : Nat → Int} {n : Nat} (hn : n ≤ 6) (h : ∀ k, k < n → nl (X k).natAbs ≤ 20 ∧ nl (Y k).natAbs ≤ 48) : nl (dotN X Y n).natAbs ≤ 69 := by
  apply nl_le
  have h1 := dotN_le h
  have h2 := mul_le_r (bp 68) hn
  have h3 : bp 69 = 2147483648 * bp 68 := bp_s 68
  have h4 := bp_pos 68
  omega
theorem allHold_iff {R : Nat → Nat → Int} {P : Nat → Int} {vars : Nat} : ∀ {n : Nat}, allHold R P vars n = true ↔ ∀ r, r < n → dotN P (R r) vars ≤ R r vars
  | 0 => by simp [allHold]
  | n + 1 => by
    simp only [allHold, Bool.and_eq_true, decide_eq_true_eq, allHold_iff (n := n)]
    constructor
    · rintro ⟨h1, h2⟩ k hk
      by_cases c : k = n
      · subst c; exact h2
      · exact h1 k (by omega)
    · intro h; exact ⟨fun k hk => h k (by omega), h n (by omega)⟩
def op_hold (rn : Nat) : AS → Int32
  | ((vars, _, _), (_, _, R), _, _, P, _) => nI (if dotN P (R rn) vars ≤ R rn vars then 1 else 0)
theorem ge0_of {x : Int32} (h : ¬ x < -2) (h1 : x ≠ -1) (h2 : x ≠ -2) : ¬ x < 0 := by
  have e1 : x.toInt ≠ -1 := fun e => h1 (Int32.toInt_inj.mp (by rw [e]; rfl))
  have e2 : x.toInt ≠ -2 := fun e => h2 (Int32.toInt_inj.mp (by rw [e]; rfl))
  rw [Int32.lt_iff_toInt_lt] at h ⊢
  rw [show (-2 : Int32).toInt = -2 from rfl] at h
  rw [show (0 : Int32).toInt = 0 from rfl]
  omega
/-- the nearest of 1 .. most -/
def clampI (v : Int32) (most : Nat) : Nat := if v < 1 then 1 else if nI most < v then most else v.toNatClampNeg
/-- what 'refusal' is behind cell and count -/
def refOf : Option Int32 → Int32
  | none => nI 1
  | some _ => nI 0
