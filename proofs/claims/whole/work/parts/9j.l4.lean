/-! THE CLAIM OUT OF ONE WALK OF THE LAW'S BODY. Your part is whole_start (and what it stands on); all else here is the same for every law, but numbers. -/
def R_law : String := "CutRowsLaw"
def lw_P (b : Addr) (xs : List Int32) (args : Array Value) (s : State) : Prop := args = #[.ref b] ∧ s.IntsAt b xs ∧ xs.length ≤ 2051 ∧ (Jvm.Cond.and given_1 narrow_1).before args s = true
def lw_Q (_ : Array Value) (s : State) (o : Outcome) (t : State) : Prop := o = .returned (some (.int 1)) ∧ Framed s o t [] 601024 7293000
def lw_Z (below : List Frame) (a : Array Value) (s : State) : State → Prop := fun t => ∃ o, t.status = .running ∧ Ended t below o ∧ lw_Q a s o t
/-- the law's own end, with 1 on the stack, nothing written that was there before, its room as the claim has it -/
theorem lw_ret {p : Program} {l : Launch} {e : Env} {s : State} {m : MethodId} {below : List Frame} {meth : Method} {c : Code} {b : Nat} (hx : p.tables.exec = Jvm.exec) (hb : c.code = code) (hr : meth.sig.returnType = ret) (hlocks : meth.locks = false) {pc : Nat} {H : Heap} {ls : Array Slot} (hdg : decode code pc = .ok (.ireturn, 1)) : W p l e room_1 s m #[Value.ref b] below meth c H [] 601024 7293000 (lw_Z below #[Value.ref b] s) (F0 m pc ls [.int 1]) := by
  intro T hT X
  obtain ⟨fs, hret, hrun, hended, hW, hframe⟩ := X.leave (v := some (.int 1)) (hlocks := hlocks) (fun h => by rw [hr] at h; cases h)
  have hmeth' : T.vm.method? m = some meth := X.method'
  refine ⟨T.setFrames fs, ?_, .returned (some (.int 1)), hrun, hended, rfl, ⟨_, rfl⟩, hW, hframe⟩
  jvm_step X.here [X.here.top, hx, hb, hdg, hmeth', hr, ret, narrow_b1]
  (try refine ⟨rfl, ?_⟩); (try refine ⟨rfl, ?_⟩)
  first | (intro acts; rw [hret _ acts rfl rfl rfl]) | rw [hret _ _ rfl rfl rfl]
  exact Steps.refl _
/-- what holds at the law's entry: the machine, the code, the tables' words (any of lw_tbl by 'hts w (by decide +kernel)'), the script of L ints xs at the cell b, what the Statement gives of the start (any of its parts by flat_of_before) -/
def lw_At (p : Program) (s : State) (m : MethodId) (meth : Method) (c : Code) (b L : Nat) (xs : Nat → Int32) : Prop :=
  p.tables.exec = Jvm.exec ∧ c.code = code ∧ meth.sig.returnType = ret ∧ c.maxLocals = 7 ∧ s.vm.findClass R_law = some m.cls ∧ (∀ w ∈ lw_tbl, w.before #[Value.ref b] s = true) ∧ va_X b L xs s s.heap ∧ b < s.heap.size ∧ meth.locks = false ∧ (Jvm.Cond.and given_1 narrow_1).before #[Value.ref b] s = true
/-! the law's loop, and its entry -/
set_option maxRecDepth 100000 in
set_option maxHeartbeats 4000000 in
theorem lw_loop {p : Program} {l : Launch} {e : Env} {s : State} {m : MethodId} {below : List Frame} {meth : Method} {c : Code} {b L : Nat} {xs : Nat → Int32} {Γ : zT} {X : Nat → Nat} {o lF lL lB lo vars sa sb : Nat} (hl9 : l.stackTraces = false) (hC : LC p s m c b L xs Γ X o lF lL lB lo vars sa sb) (hr : meth.sig.returnType = ret) (hlocks : meth.locks = false) : ∀ (μ i : Nat) (G : zG) (σ : AS) (ls : Array Slot) (H : Heap) (locs : List Loc), L + 4 - i = μ → i ≤ L + 3 → LI Γ G X o lF lL lB lo vars σ → lv_has ls 7 [(4, .int (nI i)), (3, .ref lo), (2, .ref o), (1, .ref (X 80)), (0, .ref b)] → zM Γ (fun q : Nat => s.heap.size ≤ q) s.heap G H locs → W p l e room_1 s m #[Value.ref b] below meth c H locs (200 + i) (42000 + 6 * i) (lw_Z below #[Value.ref b] s) (F0 m 53 ls []) := by
  intro μ
  induction μ using Nat.strongRecOn with
  | _ μ ih =>
  intro i G σ ls H locs hμ hiL hI hl hM
  obtain ⟨hx, hb, hml, hown, hts, hXs, hbl, hL, hK, hE, hd⟩ := id hC
  have hbA : ¬ (fun q : Nat => s.heap.size ≤ q) b := Nat.not_le.mpr hbl
  refine lv_iload hx hb dL_law_53 (lv_at hl 0 rfl) ?_
  refine lv_aload_n hx hb dL_law_55 rfl (lv_at hl 4 rfl) ?_
  refine va_slen hx hb hXs hbl hbA hM.2.2.1 dL_law_56 ?_
  refine z_asi (y := nI L) rfl ?_
  refine lv_iconst (v := nI 4) hx hb dL_law_57 rfl ?_
  refine lv_isub hx hb dL_law_58 ?_
  refine lv_icmp_gt (tgt := 532) hx hb dL_law_59 (by decide) (fun hc => ?_) (fun hc => ?_)
  · refine lv_iconst (v := (1 : Int32)) hx hb dL_law_532 rfl ?_
    refine va_forget (fun q hq => hM.2.2.1.2.2 q hq) ?_
    refine W.widen (k := 601024) (n := 7293000) (by omega) (by omega) ?_
    exact lw_ret hx hb hr hlocks dL_law_533
  · have hi4 : i + 4 ≤ L := sub4 hL (by omega) hc
    have k526 : ∀ (G2 : zG) (σ2 : AS) (ls : Array Slot) (H : Heap) (locs : List Loc), LI Γ G2 X o lF lL lB lo vars σ2 → lv_has ls 7 [(4, .int (nI i)), (3, .ref lo), (2, .ref o), (1, .ref (X 80)), (0, .ref b)] → zM Γ (fun q : Nat => s.heap.size ≤ q) s.heap G2 H locs → W p l e room_1 s m #[Value.ref b] below meth c H locs (201 + i) (42006 + 6 * i) (lw_Z below #[Value.ref b] s) (F0 m 526 ls []) := by
      intro G2 σ2 ls H locs hI2 hl hM
      refine z_iinc (v := i + 4) (lv' := [(4, .int (nI (i + 4))), (3, .ref lo), (2, .ref o), (1, .ref (X 80)), (0, .ref b)]) hx hb dL_law_526 hl (k := 0) rfl (nI_add _ 4) (by decide) rfl (fun ls hl => ?_)
      refine lv_goto (tgt := 53) hx hb dL_law_529 (by decide) ?_
      exact W.widen (by omega) (by omega) (ih _ (by omega) (i + 4) G2 σ2 ls H locs rfl (by omega) hI2 hl hM)
    refine lv_aload_n hx hb dL_law_62 rfl (lv_at hl 4 rfl) ?_
    refine lv_iload hx hb dL_law_63 (lv_at hl 0 rfl) ?_
    refine va_sld hx hb hXs hbl hbA hM.2.2.1 (vp_in_nI (by omega) (by omega)) dL_law_65 ?_
    refine z_asi (y := xs i) (by rw [nI_clamp (by omega)]) ?_
    refine lv_bipush (v := nI 15) hx hb dL_law_66 rfl ?_
    refine lv_iand hx hb dL_law_68 ?_
    obtain ⟨kk, hkk, hek⟩ := and15 (xs i)
    refine z_asi hek ?_
    rcases (show kk = 0 ∨ kk = 1 ∨ kk = 2 ∨ kk = 3 ∨ kk = 4 ∨ kk = 5 ∨ kk = 6 ∨ kk = 7 ∨ kk = 8 ∨ kk = 9 ∨ kk = 10 ∨ kk = 11 ∨ kk = 12 ∨ kk = 13 ∨ kk = 14 ∨ kk = 15 by omega) with rfl | rfl | rfl | rfl | rfl | rfl | rfl | rfl | rfl | rfl | rfl | rfl | rfl | rfl | rfl | rfl
    · exact lv_tableIn (off := 79) (tgt := 148) hx hb dL_law_69 (by decide) (by decide) (by decide) (by decide) (lw_k0 hl9 hC i hi4 G σ hI ls H locs hl hM _ k526)
    · exact lv_tableIn (off := 104) (tgt := 173) hx hb dL_law_69 (by decide) (by decide) (by decide) (by decide) (lw_k1 hl9 hC i hi4 G σ hI ls H locs hl hM _ k526)
    · exact lv_tableIn (off := 129) (tgt := 198) hx hb dL_law_69 (by decide) (by decide) (by decide) (by decide) (lw_k2 hl9 hC i hi4 G σ hI ls H locs hl hM _ k526)
    · exact lv_tableIn (off := 142) (tgt := 211) hx hb dL_law_69 (by decide) (by decide) (by decide) (by decide) (lw_k3 hl9 hC i hi4 G σ hI ls H locs hl hM _ k526)
    · exact lv_tableIn (off := 155) (tgt := 224) hx hb dL_law_69 (by decide) (by decide) (by decide) (by decide) (lw_k4 hl9 hC i hi4 G σ hI ls H locs hl hM _ k526)
    · exact lv_tableIn (off := 168) (tgt := 237) hx hb dL_law_69 (by decide) (by decide) (by decide) (by decide) (lw_k5 hl9 hC i hi4 G σ hI ls H locs hl hM _ k526)
    · exact lv_tableIn (off := 181) (tgt := 250) hx hb dL_law_69 (by decide) (by decide) (by decide) (by decide) (lw_k6 hl9 hC i hi4 G σ hI ls H locs hl hM _ k526)
    · exact lv_tableIn (off := 206) (tgt := 275) hx hb dL_law_69 (by decide) (by decide) (by decide) (by decide) (lw_k7 hl9 hC i hi4 G σ hI ls H locs hl hM _ k526)
    · exact lv_tableIn (off := 219) (tgt := 288) hx hb dL_law_69 (by decide) (by decide) (by decide) (by decide) (lw_k8 hl9 hC i hi4 G σ hI ls H locs hl hM _ k526)
    · exact lv_tableIn (off := 244) (tgt := 313) hx hb dL_law_69 (by decide) (by decide) (by decide) (by decide) (lw_k9 hl9 hC i hi4 G σ hI ls H locs hl hM _ k526)
    · exact lv_tableIn (off := 257) (tgt := 326) hx hb dL_law_69 (by decide) (by decide) (by decide) (by decide) (lw_k10 hl9 hC i hi4 G σ hI ls H locs hl hM _ k526)
    · exact lv_tableIn (off := 270) (tgt := 339) hx hb dL_law_69 (by decide) (by decide) (by decide) (by decide) (lw_k11 hl9 hC i hi4 G σ hI ls H locs hl hM _ k526)
    · exact lv_tableIn (off := 283) (tgt := 352) hx hb dL_law_69 (by decide) (by decide) (by decide) (by decide) (lw_k12 hl9 hC i hi4 G σ hI ls H locs hl hM _ k526)
    · exact lv_tableIn (off := 308) (tgt := 377) hx hb dL_law_69 (by decide) (by decide) (by decide) (by decide) (lw_k13 hl9 hC i hi4 G σ hI ls H locs hl hM _ k526)
    · exact lv_tableIn (off := 321) (tgt := 390) hx hb dL_law_69 (by decide) (by decide) (by decide) (by decide) (lw_k14 hl9 hC i hi4 G σ hI ls H locs hl hM _ k526)
    · exact lv_tableIn (off := 401) (tgt := 470) hx hb dL_law_69 (by decide) (by decide) (by decide) (by decide) (lw_k15 hl9 hC i hi4 G σ hI ls H locs hl hM _ k526)
