/-! both objects at one state -/
theorem CRep.keep {Γ : zT} {G G' : zG} {X : Nat → Nat} {σ : AS} (hq : ∀ i, vd σ.1.1 i → G' (X i) = G (X i)) (h : CRep Γ G X σ) : CRep Γ G' X σ := by
  obtain ⟨⟨vars, maxR, cells⟩, ⟨nr, inp, R⟩, ⟨fil, V⟩, ⟨se, be, S⟩, P, ⟨st, sg, gv, g, z⟩⟩ := σ
  have hq : ∀ i, vd vars i → G' (X i) = G (X i) := hq
  have v1 : ∀ i, 75 ≤ i → i < 79 → G' (X i) = G (X i) := fun i h1 h2 => hq i (by unfold vd; omega)
  have v2 : ∀ i, 80 ≤ i → i < 88 → G' (X i) = G (X i) := fun i h1 h2 => hq i (by unfold vd; omega)
  obtain ⟨Z, used, cz, sw, C, St, ⟨h1, ⟨c1, c2, ⟨T, c3⟩, ⟨U, c4⟩, c5, c6, c7, c8⟩, ⟨⟨a1, a2, a3, a4⟩, a5⟩, h4⟩, hs, hrd, hrest⟩ := h
  refine ⟨Z, used, cz, sw, C, St, ⟨(v2 80 (by omega) (by omega)).trans h1, ⟨fun i hi => (c1 i hi).fr (hq i hi.d) (hq (40 + i) hi.e), (v2 83 (by omega) (by omega)).trans c2, ⟨T, (v1 77 (by omega) (by omega)).trans c3⟩, ⟨U, (v1 78 (by omega) (by omega)).trans c4⟩, c5.fr (v2 84 (by omega) (by omega)), c6.fr (v2 85 (by omega) (by omega)), c7.fr (v2 86 (by omega) (by omega)), c8.fr (v2 87 (by omega) (by omega))⟩, ⟨⟨(v2 81 (by omega) (by omega)).trans a1, (v1 75 (by omega) (by omega)).trans a2, (v1 76 (by omega) (by omega)).trans a3, a4⟩, a5⟩, (v2 82 (by omega) (by omega)).trans h4⟩, hs, fun e => ?_, hrest⟩
  obtain ⟨d, e1, e2⟩ := hrd e
  exact ⟨d, (hq 71 (by unfold vd vw; omega)).trans e1, e2⟩
theorem md_self {Γ : zT} {G : zG} {o lF lL lB : Nat} {fl : Nat → Int32} {F L B : Nat → Nat} (h1 : G o = some (.inr (7, mdO lF lL lB fl))) (h2 : G lF = some (zI Γ 32760 F)) (h3 : G lL = some (zI Γ 455 L)) (h4 : G lB = some (zB Γ 455 B)) : md Γ o lF lL lB G fl F L B = G := by
  unfold md; rw [zup_self G h1, zup_self G h2, zup_self G h3, zup_self G h4]
theorem md_n {Γ : zT} {G : zG} {o lF lL lB x : Nat} {fl : Nat → Int32} {F L B : Nat → Nat} (h1 : x ≠ o) (h2 : x ≠ lF) (h3 : x ≠ lL) (h4 : x ≠ lB) : md Γ o lF lL lB G fl F L B x = G x := by
  unfold md; rw [zup_n _ _ h4, zup_n _ _ h3, zup_n _ _ h2, zup_n _ _ h1]
theorem mfs_0 (rf : Int32) (σ : AS) : mfs rf σ 0 = rf := by
  obtain ⟨⟨vars, maxR, cells⟩, ⟨nr, inp, R⟩, ⟨fil, V⟩, ⟨se, be, S⟩, P, ⟨st, sg, gv, g, z⟩⟩ := σ
  rfl
/-- the cells of the two are apart -/
def LF (X : Nat → Nat) (o lF lL lB lo vars : Nat) : Prop := XI X vars ∧ mdk o lF lL lB ∧ (∀ i, vd vars i → X i ≠ o ∧ X i ≠ lF ∧ X i ≠ lL ∧ X i ≠ lB ∧ X i ≠ lo) ∧ lo ≠ o ∧ lo ≠ lF ∧ lo ≠ lL ∧ lo ≠ lB
/-- the reference's cells, and the long one -/
def LM (Γ : zT) (G : zG) (o lF lL lB lo : Nat) (σ : AS) (F L B : Nat → Nat) (rf : Int32) (f : Nat → Int64) : Prop :=
  MRep F L B σ ∧ G o = some (.inr (7, mdO lF lL lB (mfs rf σ))) ∧ G lF = some (zI Γ 32760 F) ∧ G lL = some (zI Γ 455 L) ∧ G lB = some (zB Γ 455 B) ∧ G lo = some (zL Γ 1 f)
def LI (Γ : zT) (G : zG) (X : Nat → Nat) (o lF lL lB lo vars : Nat) (σ : AS) : Prop :=
  AJ σ ∧ σ.1.1 = vars ∧ CRep Γ G X σ ∧ ∃ F L B rf f, LM Γ G o lF lL lB lo σ F L B rf f
section LIS
variable {Γ : zT} {G G1 G2 : zG} {X : Nat → Nat} {o lF lL lB lo vars : Nat} {σ σ' : AS} {F L B F' L' B' : Nat → Nat} {rf rf' : Int32} {f f' : Nat → Int64}
/-- a call of the class leaves the reference alone -/
theorem li_cls (hd : LF X o lF lL lB lo vars) (hv : σ.1.1 = vars) (hf : frA X σ.1.1 G G1) (h : LM Γ G o lF lL lB lo σ F L B rf f) : LM Γ G1 o lF lL lB lo σ F L B rf f := by
  rw [hv] at hf
  obtain ⟨h0, h1, h2, h3, h4, h5⟩ := h
  exact ⟨h0, (hf o (fun i hi => Ne.symm (hd.2.2.1 i hi).1)).trans h1, (hf lF (fun i hi => Ne.symm (hd.2.2.1 i hi).2.1)).trans h2, (hf lL (fun i hi => Ne.symm (hd.2.2.1 i hi).2.2.1)).trans h3, (hf lB (fun i hi => Ne.symm (hd.2.2.1 i hi).2.2.2.1)).trans h4, (hf lo (fun i hi => Ne.symm (hd.2.2.1 i hi).2.2.2.2)).trans h5⟩
theorem LM.self (h : LM Γ G o lF lL lB lo σ F L B rf f) : md Γ o lF lL lB G (mfs rf σ) F L B = G := md_self h.2.1 h.2.2.1 h.2.2.2.1 h.2.2.2.2.1
/-- a call of the reference leaves the class alone -/
theorem li_ref (hd : LF X o lF lL lB lo vars) (hv : σ'.1.1 = vars) (hR : CRep Γ G1 X σ') (hM : MRep F' L' B' σ') (hlo : G1 lo = some (zL Γ 1 f)) (hG : G2 = md Γ o lF lL lB G1 (mfs rf' σ') F' L' B') : CRep Γ G2 X σ' ∧ LM Γ G2 o lF lL lB lo σ' F' L' B' rf' f := by
  obtain ⟨hX, hok, hx, o1, o2, o3, o4⟩ := hd
  subst hG
  refine ⟨hR.keep (fun i hi => ?_), hM, md_o hok, md_F hok, md_L hok, md_B hok, (md_n o1 o2 o3 o4).trans hlo⟩
  rw [hv] at hi
  exact md_n (hx i hi).1 (hx i hi).2.1 (hx i hi).2.2.1 (hx i hi).2.2.2.1
/-- the long one is written -/
theorem li_lo (hd : LF X o lF lL lB lo vars) (hv : σ.1.1 = vars) (hR : CRep Γ G X σ) (h : LM Γ G o lF lL lB lo σ F L B rf f) (hG : G1 = zup G lo (zL Γ 1 f')) : CRep Γ G1 X σ ∧ LM Γ G1 o lF lL lB lo σ F L B rf f' := by
  obtain ⟨hX, hok, hx, o1, o2, o3, o4⟩ := hd
  obtain ⟨h0, h1, h2, h3, h4, h5⟩ := h
  subst hG
  refine ⟨hR.keep (fun i hi => ?_), h0, (zup_n _ _ (Ne.symm o1)).trans h1, (zup_n _ _ (Ne.symm o2)).trans h2, (zup_n _ _ (Ne.symm o3)).trans h3, (zup_n _ _ (Ne.symm o4)).trans h4, zup_s _ _ _⟩
  rw [hv] at hi
  exact zup_n _ _ (hx i hi).2.2.2.2
end LIS
section OPV
variable (σ : AS)
theorem ov_begin (sign : Int32) : (op_begin sign σ).2.1.1 = σ.1.1 := by
  obtain ⟨⟨vars, maxR, cells⟩, ⟨nr, inp, R⟩, ⟨fil, V⟩, ⟨se, be, S⟩, P, ⟨st, sg, gv, g, z⟩⟩ := σ
  simp only [op_begin]; split <;> rfl
theorem ov_limb (w : Int32) : (op_limb w σ).2.1.1 = σ.1.1 := by
  obtain ⟨⟨vars, maxR, cells⟩, ⟨nr, inp, R⟩, ⟨fil, V⟩, ⟨se, be, S⟩, P, ⟨st, sg, gv, g, z⟩⟩ := σ
  simp only [op_limb]; split <;> rfl
theorem ov_endCoef : (op_endCoef σ).2.1.1 = σ.1.1 := by
  obtain ⟨⟨vars, maxR, cells⟩, ⟨nr, inp, R⟩, ⟨fil, V⟩, ⟨se, be, S⟩, P, ⟨st, sg, gv, g, z⟩⟩ := σ
  simp only [op_endCoef]; split <;> rfl
theorem ov_endCons : (op_endCons σ).2.1.1 = σ.1.1 := by
  obtain ⟨⟨vars, maxR, cells⟩, ⟨nr, inp, R⟩, ⟨fil, V⟩, ⟨se, be, S⟩, P, ⟨st, sg, gv, g, z⟩⟩ := σ
  simp only [op_endCons]
  split
  · rfl
  · split
    · rfl
    · simp only [op_store]
      by_cases hc : nr = maxR ∨ cells < need V (vars + 1)
      · rw [if_pos hc]
      · rw [if_neg hc]
theorem ov_seal : (op_seal σ).2.1.1 = σ.1.1 := rfl
theorem ov_start : (op_start σ).2.1.1 = σ.1.1 := by
  obtain ⟨⟨vars, maxR, cells⟩, ⟨nr, inp, R⟩, ⟨fil, V⟩, ⟨se, be, S⟩, P, ⟨st, sg, gv, g, z⟩⟩ := σ
  simp only [op_start]; split <;> rfl
theorem ov_add (row : Int32) : (op_add row σ).2.1.1 = σ.1.1 := by
  obtain ⟨⟨vars, maxR, cells⟩, ⟨nr, inp, R⟩, ⟨fil, V⟩, ⟨se, be, S⟩, P, ⟨st, sg, gv, g, z⟩⟩ := σ
  simp only [op_add]
  split
  · rfl
  · split
    · rfl
    · split
      · rfl
      · split <;> rfl
theorem ov_end : (op_end σ).2.1.1 = σ.1.1 := by
  obtain ⟨⟨vars, maxR, cells⟩, ⟨nr, inp, R⟩, ⟨fil, V⟩, ⟨se, be, S⟩, P, ⟨st, sg, gv, g, z⟩⟩ := σ
  simp only [op_end]
  split
  · rfl
  · simp only [op_store]
    by_cases hc : nr = maxR ∨ cells < need S (vars + 1)
    · rw [if_pos hc]
    · rw [if_neg hc]
theorem ov_divide (row : Int32) : (op_divide row σ).2.1.1 = σ.1.1 := by
  obtain ⟨⟨vars, maxR, cells⟩, ⟨nr, inp, R⟩, ⟨fil, V⟩, ⟨se, be, S⟩, P, ⟨st, sg, gv, g, z⟩⟩ := σ
  simp only [op_divide]
  split
  · rfl
  · split
    · rfl
    · simp only [op_store]
      split
      · rename_i heq
        split at heq
        · cases heq; rfl
        · cases heq
      · rename_i heq
        split at heq
        · cases heq
        · cases heq; rfl
theorem ov_evalStart : (op_evalStart σ).2.1.1 = σ.1.1 := rfl
theorem ov_evalPoint (var : Int32) : (op_evalPoint var σ).2.1.1 = σ.1.1 := by
  obtain ⟨⟨vars, maxR, cells⟩, ⟨nr, inp, R⟩, ⟨fil, V⟩, ⟨se, be, S⟩, P, ⟨st, sg, gv, g, z⟩⟩ := σ
  simp only [op_evalPoint]; split <;> rfl
end OPV
theorem and15 (x : Int32) : ∃ k, k < 16 ∧ x &&& nI 15 = nI k := by
  refine ⟨x.toBitVec.toNat &&& 15, Nat.lt_of_le_of_lt Nat.and_le_right (by decide), ?_⟩
  apply Int32.toBitVec_inj.mp
  apply BitVec.eq_of_toNat_eq
  have h : x.toBitVec.toNat &&& 15 < 2 ^ 32 := Nat.lt_of_le_of_lt Nat.and_le_right (by decide)
  show ((x &&& nI 15).toBitVec).toNat = (BitVec.ofNat 32 (x.toBitVec.toNat &&& 15)).toNat
  rw [BitVec.toNat_ofNat, Nat.mod_eq_of_lt h, Int32.toBitVec_and, BitVec.toNat_and]
  rfl
theorem sub4 {L i : Nat} (hL : L ≤ 2051) (hi : i ≤ 3000) (h : ¬ nI L - nI 4 < nI i) : i + 4 ≤ L := by
  have e1 : (nI i).toInt = i := by
    have e4 := nI_clamp (n := i) (by omega)
    have e5 : (nI i).toNatClampNeg = (nI i).toInt.toNat := rfl
    have e6 := nI_nn (N := i) (by omega)
    have e7 : ¬ (nI i).toInt < 0 := fun q => e6 (Int32.lt_iff_toInt_lt.mpr q)
    omega
  rcases Nat.lt_or_ge L 4 with h4 | h4
  · exfalso
    apply h
    apply Int32.lt_iff_toInt_lt.mpr
    rw [e1]
    rcases (show L = 0 ∨ L = 1 ∨ L = 2 ∨ L = 3 by omega) with rfl | rfl | rfl | rfl
    · have : (nI 0 - nI 4).toInt = -4 := by decide
      omega
    · have : (nI 1 - nI 4).toInt = -3 := by decide
      omega
    · have : (nI 2 - nI 4).toInt = -2 := by decide
      omega
    · have : (nI 3 - nI 4).toInt = -1 := by decide
      omega
  · have e2 : nI L - nI 4 = nI (L - 4) := by
      rw [nI_sub2 (by omega) (by omega)]
      exact congrArg nI (show (L + 4294967296 - 4) % 4294967296 = L - 4 by omega)
    rw [e2] at h
    have := mt (nI_ltI (show L - 4 < 2 ^ 31 by omega) (show i < 2 ^ 31 by omega)).mpr h
    omega
theorem lcmp_self (x : Int64) : lg_cmp x x = 0 := by
  unfold lg_cmp
  rw [if_neg (by simp), if_pos rfl]
