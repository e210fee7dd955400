/-! the register, and the object itself -/
def RG (Γ : zT) (G : zG) (X : Nat → Nat) (st : Nat) (sg : Int32) (gv : Nat) : Prop := G (X 82) = some (.inr (4, [.ref (X 31), .int (nI st), .int sg, .int (nI gv)]))
/-- the digits that were fed -/
def RD (Γ : zT) (G : zG) (X : Nat → Nat) (gv : Nat) (g : Nat → Nat) : Prop := ∃ d, G (X 71) = some (zI Γ 20 d) ∧ ∀ j, j < gv → d j = g j
theorem RG.fr {Γ : zT} {G G' : zG} {X : Nat → Nat} {vars st gv : Nat} {sg : Int32} {S : List Nat} (hX : XI X vars) (h : RG Γ G X st sg gv) (hf : fr X S G G') (hS : ∀ i, i ∈ S → vd vars i ∧ i ≠ 82) : RG Γ G' X st sg gv := (hf.get hX (by unfold vd; omega) hS).trans h
theorem RD.fr {Γ : zT} {G G' : zG} {X : Nat → Nat} {vars gv : Nat} {g : Nat → Nat} {S : List Nat} (hX : XI X vars) (h : RD Γ G X gv g) (hf : fr X S G G') (hS : ∀ i, i ∈ S → vd vars i ∧ i ≠ 71) : RD Γ G' X gv g := by
  obtain ⟨d, e, q⟩ := h
  exact ⟨d, (hf.get hX (by unfold vd vw; omega) hS).trans e, q⟩
/-- the object -/
def CO (G : zG) (X : Nat → Nat) (vars fil inp se be ct sw : Nat) : Prop := G (X 80) = some (.inr (6, [.int (nI vars), .ref (X 81), .ref (X 82), .ref (X 84), .ref (X 85), .ref (X 83), .int (nI fil), .int (nI inp), .int (nI se), .int (nI be), .int (nI ct), .ref (X (86 + sw)), .ref (X (87 - sw)), .ref (X 28), .ref (X 29), .ref (X 30)]))
theorem CO.fr {G G' : zG} {X : Nat → Nat} {vars fil inp se be ct sw : Nat} {S : List Nat} (hX : XI X vars) (h : CO G X vars fil inp se be ct sw) (hf : fr X S G G') (hS : ∀ i, i ∈ S → vd vars i ∧ i ≠ 80) : CO G' X vars fil inp se be ct sw := (hf.get hX (by unfold vd; omega) hS).trans h
/-! one more digit -/
theorem sgI_unit {sg : Int32} (h : sg = -1 ∨ sg = 0 ∨ sg = 1) {v : Nat} (hv : 0 < v) : sgI (sg.toInt * (v : Nat)) = sg := by
  rcases h with rfl | rfl | rfl
  · rw [show (-1 : Int32).toInt = -1 from rfl, sgI_neg (by omega)]
  · rw [show (0 : Int32).toInt = 0 from rfl, Int.zero_mul]; rfl
  · rw [show (1 : Int32).toInt = 1 from rfl, sgI_pos (by omega)]; rfl
theorem unit_abs {sg : Int32} (h : sg = -1 ∨ sg = 1) (v : Nat) : (sg.toInt * (v : Nat)).natAbs = v := by
  rcases h with rfl | rfl
  · rw [show (-1 : Int32).toInt = -1 from rfl]; omega
  · rw [show (1 : Int32).toInt = 1 from rfl]; omega
theorem unit_le {sg : Int32} (h : sg = -1 ∨ sg = 0 ∨ sg = 1) (v : Nat) : (sg.toInt * (v : Nat)).natAbs ≤ v := by
  rcases h with rfl | rfl | rfl
  · rw [unit_abs (Or.inl rfl)]; exact Nat.le_refl _
  · rw [show (0 : Int32).toInt = 0 from rfl, Int.zero_mul]; exact Nat.zero_le _
  · rw [unit_abs (Or.inr rfl)]; exact Nat.le_refl _
/-- the register took one digit more -/
def took (Γ : zT) (G : zG) (X : Nat → Nat) (vars : Nat) (Z : Nat → Int) (sg : Int32) (gv : Nat) (g : Nat → Nat) (w : Nat) (G' : zG) : Prop :=
  fr X [31, 71, 82] G G' ∧ CW Γ G' X vars (va_up Z 31 (sg.toInt * (vl (va_up g gv w) (gv + 1) : Nat))) ∧ RG Γ G' X 1 sg (gv + 1) ∧ RD Γ G' X (gv + 1) (va_up g gv w)
theorem took_fin {Γ : zT} {G G' : zG} {X : Nat → Nat} {vars : Nat} {Z : Nat → Int} {sg : Int32} {gv : Nat} {g d : Nat → Nat} {w n : Nat} {s9 : Int32} (hX : XI X vars) (hC : CW Γ G X vars Z) (hf : fr X [31, 71, 82] G G') (h31 : G' (X 31) = some (wh (X 71) n s9)) (h71 : G' (X 71) = some (zI Γ 20 (va_up d gv w))) (h82 : RG Γ G' X 1 sg (gv + 1)) (hd : ∀ j, j < gv → d j = g j) (hgv : gv < 20) (hw : w < 2147483648) (hgd : ∀ j, j < gv → g j < 2147483648) (hn : n = nl (sg.toInt * (vl (va_up g gv w) (gv + 1) : Nat)).natAbs) (hs : s9 = sgI (sg.toInt * (vl (va_up g gv w) (gv + 1) : Nat))) (hsg : sg = -1 ∨ sg = 0 ∨ sg = 1) : took Γ G X vars Z sg gv g w G' := by
  have hdg : dg (va_up g gv w) (gv + 1) := up_dg0 hgd hw
  have hde : ∀ j, j < gv + 1 → va_up d gv w j = va_up g gv w j := fun j hj => by
    by_cases hc : j = gv
    · rw [hc, va_up_self, va_up_self]
    · rw [va_up_ne _ _ hc, va_up_ne _ _ hc]; exact hd j (by omega)
  have hle : nl (sg.toInt * (vl (va_up g gv w) (gv + 1) : Nat)).natAbs ≤ gv + 1 := nl_le (Nat.lt_of_le_of_lt (unit_le hsg _) (vl_lt hdg))
  refine ⟨hf, hC.of hX hf (fun i hi => ?_) (fun k hk hm => ?_) (fun k k1 k2 => ?_) (fun h7 => ?_) (fun h7 => ?_), h82, _, h71, hde⟩
  · simp only [List.mem_cons, List.not_mem_nil, or_false] at hi
    exact ⟨by unfold vd vw; omega, by omega⟩
  · simp only [List.mem_cons, List.not_mem_nil, or_false] at hm
    have := hk.lt
    have hk31 : k = 31 := by omega
    subst hk31
    rw [va_up_self]
    subst hn; subst hs
    refine ⟨_, h31, h71, Nat.le_trans hle (by show gv + 1 ≤ 20; omega), ?_⟩
    rcases hsg with rfl | rfl | rfl
    · exact hd_of (n := gv + 1) (fun j hj => by rw [hde j hj]; exact hdg j hj) (by rw [unit_abs (Or.inl rfl)]; exact vl_congr hde)
    · exact hd_of (n := 0) (fun j hj => by omega) (by rw [show (0 : Int32).toInt = 0 from rfl, Int.zero_mul, vl_0]; rfl)
    · exact hd_of (n := gv + 1) (fun j hj => by rw [hde j hj]; exact hdg j hj) (by rw [unit_abs (Or.inr rfl)]; exact vl_congr hde)
  · simp only [List.mem_cons, List.not_mem_nil, or_false, not_or] at k1
    exact va_up_ne _ _ k1.1
  · simp only [List.mem_cons, List.not_mem_nil, or_false] at h7; omega
  · simp only [List.mem_cons, List.not_mem_nil, or_false] at h7; omega
