section
-- ===== PART A: goes FIRST, ahead of the names: the tables' words, and 'selects' of the private methods out of them =====
/-- a private method of a class that the tables say can be made, by its rows of tables_1 -/
def lw_okq (q : MethodName × Nat) : Prop := (q.1.cls ≠ "java/lang/invoke/MethodHandle" ∧ q.1.cls ≠ "java/lang/invoke/VarHandle") ∧ Cond.instantiable q.1.cls q.2 ∈ tables_1 ∧ Cond.privateMethod q.1 ∈ tables_1 ∧ Cond.instanceMethod q.1 ∈ tables_1
theorem lw_p0 : lw_okq (⟨"CutRows$Arena", "cellsFor", "([LCutRows$Whole;)I"⟩, 6) := ⟨⟨by decide +kernel, by decide +kernel⟩, List.mem_of_getElem? (i := 40) (by decide +kernel), List.mem_of_getElem? (i := 246) (by decide +kernel), List.mem_of_getElem? (i := 247) (by decide +kernel)⟩
theorem lw_p1 : lw_okq (⟨"CutRows$Arena", "append", "(LCutRows$Whole;)V"⟩, 6) := ⟨⟨by decide +kernel, by decide +kernel⟩, List.mem_of_getElem? (i := 40) (by decide +kernel), List.mem_of_getElem? (i := 254) (by decide +kernel), List.mem_of_getElem? (i := 255) (by decide +kernel)⟩
theorem lw_p2 : lw_okq (⟨"CutRows", "draftSumWith", "(I)Z"⟩, 16) := ⟨⟨by decide +kernel, by decide +kernel⟩, List.mem_of_getElem? (i := 23) (by decide +kernel), List.mem_of_getElem? (i := 283) (by decide +kernel), List.mem_of_getElem? (i := 284) (by decide +kernel)⟩
theorem lw_p3 : lw_okq (⟨"java/lang/Throwable", "fillInStackTrace", "(I)Ljava/lang/Throwable;"⟩, 6) := ⟨⟨by decide +kernel, by decide +kernel⟩, List.mem_of_getElem? (i := 351) (by decide +kernel), List.mem_of_getElem? (i := 349) (by decide +kernel), List.mem_of_getElem? (i := 350) (by decide +kernel)⟩
theorem lw_p4 : lw_okq (⟨"CutRows$Whole", "addTimes", "(JLCutRows$Whole;I)V"⟩, 3) := ⟨⟨by decide +kernel, by decide +kernel⟩, List.mem_of_getElem? (i := 73) (by decide +kernel), List.mem_of_getElem? (i := 614) (by decide +kernel), List.mem_of_getElem? (i := 615) (by decide +kernel)⟩
theorem lw_p5 : lw_okq (⟨"CutRows$Whole", "addLimbs", "(LCutRows$Whole;I)V"⟩, 3) := ⟨⟨by decide +kernel, by decide +kernel⟩, List.mem_of_getElem? (i := 73) (by decide +kernel), List.mem_of_getElem? (i := 627) (by decide +kernel), List.mem_of_getElem? (i := 628) (by decide +kernel)⟩
theorem lw_p6 : lw_okq (⟨"CutRows$Whole", "setDifference", "(LCutRows$Whole;LCutRows$Whole;I)V"⟩, 3) := ⟨⟨by decide +kernel, by decide +kernel⟩, List.mem_of_getElem? (i := 73) (by decide +kernel), List.mem_of_getElem? (i := 643) (by decide +kernel), List.mem_of_getElem? (i := 644) (by decide +kernel)⟩
theorem lw_p7 : lw_okq (⟨"CutRows", "keepMade", "([LCutRows$Whole;)I"⟩, 16) := ⟨⟨by decide +kernel, by decide +kernel⟩, List.mem_of_getElem? (i := 23) (by decide +kernel), List.mem_of_getElem? (i := 651) (by decide +kernel), List.mem_of_getElem? (i := 652) (by decide +kernel)⟩
theorem lw_p8 : lw_okq (⟨"CutRows", "hasCoefficient", "(I)Z"⟩, 16) := ⟨⟨by decide +kernel, by decide +kernel⟩, List.mem_of_getElem? (i := 23) (by decide +kernel), List.mem_of_getElem? (i := 655) (by decide +kernel), List.mem_of_getElem? (i := 656) (by decide +kernel)⟩
theorem lw_p9 : lw_okq (⟨"CutRows", "findGreatestDivisor", "(I)V"⟩, 16) := ⟨⟨by decide +kernel, by decide +kernel⟩, List.mem_of_getElem? (i := 23) (by decide +kernel), List.mem_of_getElem? (i := 665) (by decide +kernel), List.mem_of_getElem? (i := 666) (by decide +kernel)⟩
theorem lw_p10 : lw_okq (⟨"CutRows$Divider", "divide", "(LCutRows$Whole;LCutRows$Whole;)V"⟩, 5) := ⟨⟨by decide +kernel, by decide +kernel⟩, List.mem_of_getElem? (i := 121) (by decide +kernel), List.mem_of_getElem? (i := 674) (by decide +kernel), List.mem_of_getElem? (i := 675) (by decide +kernel)⟩
theorem lw_p11 : lw_okq (⟨"CutRows$Divider", "divideByDigit", "(LCutRows$Whole;I)V"⟩, 5) := ⟨⟨by decide +kernel, by decide +kernel⟩, List.mem_of_getElem? (i := 121) (by decide +kernel), List.mem_of_getElem? (i := 681) (by decide +kernel), List.mem_of_getElem? (i := 682) (by decide +kernel)⟩
theorem lw_p12 : lw_okq (⟨"CutRows$Divider", "divideByMany", "(LCutRows$Whole;LCutRows$Whole;)V"⟩, 5) := ⟨⟨by decide +kernel, by decide +kernel⟩, List.mem_of_getElem? (i := 121) (by decide +kernel), List.mem_of_getElem? (i := 686) (by decide +kernel), List.mem_of_getElem? (i := 687) (by decide +kernel)⟩
theorem lw_p13 : lw_okq (⟨"CutRows$Divider", "guessDigit", "(II)J"⟩, 5) := ⟨⟨by decide +kernel, by decide +kernel⟩, List.mem_of_getElem? (i := 121) (by decide +kernel), List.mem_of_getElem? (i := 698) (by decide +kernel), List.mem_of_getElem? (i := 699) (by decide +kernel)⟩
theorem lw_p14 : lw_okq (⟨"CutRows$Divider", "takeOut", "(JII)I"⟩, 5) := ⟨⟨by decide +kernel, by decide +kernel⟩, List.mem_of_getElem? (i := 121) (by decide +kernel), List.mem_of_getElem? (i := 703) (by decide +kernel), List.mem_of_getElem? (i := 704) (by decide +kernel)⟩
theorem lw_p15 : lw_okq (⟨"CutRows$Divider", "putBack", "(II)V"⟩, 5) := ⟨⟨by decide +kernel, by decide +kernel⟩, List.mem_of_getElem? (i := 121) (by decide +kernel), List.mem_of_getElem? (i := 707) (by decide +kernel), List.mem_of_getElem? (i := 708) (by decide +kernel)⟩
def lw_privs_1 : List (MethodName × Nat) := [(⟨"CutRows$Arena", "cellsFor", "([LCutRows$Whole;)I"⟩, 6), (⟨"CutRows$Arena", "append", "(LCutRows$Whole;)V"⟩, 6), (⟨"CutRows", "draftSumWith", "(I)Z"⟩, 16), (⟨"java/lang/Throwable", "fillInStackTrace", "(I)Ljava/lang/Throwable;"⟩, 6), (⟨"CutRows$Whole", "addTimes", "(JLCutRows$Whole;I)V"⟩, 3), (⟨"CutRows$Whole", "addLimbs", "(LCutRows$Whole;I)V"⟩, 3), (⟨"CutRows$Whole", "setDifference", "(LCutRows$Whole;LCutRows$Whole;I)V"⟩, 3), (⟨"CutRows", "keepMade", "([LCutRows$Whole;)I"⟩, 16), (⟨"CutRows", "hasCoefficient", "(I)Z"⟩, 16), (⟨"CutRows", "findGreatestDivisor", "(I)V"⟩, 16), (⟨"CutRows$Divider", "divide", "(LCutRows$Whole;LCutRows$Whole;)V"⟩, 5), (⟨"CutRows$Divider", "divideByDigit", "(LCutRows$Whole;I)V"⟩, 5), (⟨"CutRows$Divider", "divideByMany", "(LCutRows$Whole;LCutRows$Whole;)V"⟩, 5), (⟨"CutRows$Divider", "guessDigit", "(II)J"⟩, 5), (⟨"CutRows$Divider", "takeOut", "(JII)I"⟩, 5), (⟨"CutRows$Divider", "putBack", "(II)V"⟩, 5)]
theorem lw_r1 : ∀ q ∈ lw_privs_1, lw_okq q := List.forall_mem_cons.mpr ⟨lw_p0, List.forall_mem_cons.mpr ⟨lw_p1, List.forall_mem_cons.mpr ⟨lw_p2, List.forall_mem_cons.mpr ⟨lw_p3, List.forall_mem_cons.mpr ⟨lw_p4, List.forall_mem_cons.mpr ⟨lw_p5, List.forall_mem_cons.mpr ⟨lw_p6, List.forall_mem_cons.mpr ⟨lw_p7, List.forall_mem_cons.mpr ⟨lw_p8, List.forall_mem_cons.mpr ⟨lw_p9, List.forall_mem_cons.mpr ⟨lw_p10, List.forall_mem_cons.mpr ⟨lw_p11, List.forall_mem_cons.mpr ⟨lw_p12, List.forall_mem_cons.mpr ⟨lw_p13, List.forall_mem_cons.mpr ⟨lw_p14, List.forall_mem_cons.mpr ⟨lw_p15, fun _ h => absurd h List.not_mem_nil⟩⟩⟩⟩⟩⟩⟩⟩⟩⟩⟩⟩⟩⟩⟩⟩
theorem lw_p16 : lw_okq (⟨"CutRows", "holdsAtPoint", "(I)Z"⟩, 16) := ⟨⟨by decide +kernel, by decide +kernel⟩, List.mem_of_getElem? (i := 23) (by decide +kernel), List.mem_of_getElem? (i := 739) (by decide +kernel), List.mem_of_getElem? (i := 740) (by decide +kernel)⟩
theorem lw_p17 : lw_okq (⟨"CutRowsModel", "clear", "(I)V"⟩, 15) := ⟨⟨by decide +kernel, by decide +kernel⟩, List.mem_of_getElem? (i := 771) (by decide +kernel), List.mem_of_getElem? (i := 835) (by decide +kernel), List.mem_of_getElem? (i := 836) (by decide +kernel)⟩
theorem lw_p18 : lw_okq (⟨"CutRowsModel", "settle", "()V"⟩, 15) := ⟨⟨by decide +kernel, by decide +kernel⟩, List.mem_of_getElem? (i := 771) (by decide +kernel), List.mem_of_getElem? (i := 847) (by decide +kernel), List.mem_of_getElem? (i := 848) (by decide +kernel)⟩
theorem lw_p19 : lw_okq (⟨"CutRowsModel", "trim", "(I)V"⟩, 15) := ⟨⟨by decide +kernel, by decide +kernel⟩, List.mem_of_getElem? (i := 771) (by decide +kernel), List.mem_of_getElem? (i := 851) (by decide +kernel), List.mem_of_getElem? (i := 852) (by decide +kernel)⟩
theorem lw_p20 : lw_okq (⟨"CutRowsModel", "copy", "(II)V"⟩, 15) := ⟨⟨by decide +kernel, by decide +kernel⟩, List.mem_of_getElem? (i := 771) (by decide +kernel), List.mem_of_getElem? (i := 855) (by decide +kernel), List.mem_of_getElem? (i := 856) (by decide +kernel)⟩
theorem lw_p21 : lw_okq (⟨"CutRowsModel", "store", "(I)I"⟩, 15) := ⟨⟨by decide +kernel, by decide +kernel⟩, List.mem_of_getElem? (i := 771) (by decide +kernel), List.mem_of_getElem? (i := 863) (by decide +kernel), List.mem_of_getElem? (i := 864) (by decide +kernel)⟩
theorem lw_p22 : lw_okq (⟨"CutRowsModel", "isRow", "(I)Z"⟩, 15) := ⟨⟨by decide +kernel, by decide +kernel⟩, List.mem_of_getElem? (i := 771) (by decide +kernel), List.mem_of_getElem? (i := 882) (by decide +kernel), List.mem_of_getElem? (i := 883) (by decide +kernel)⟩
theorem lw_p23 : lw_okq (⟨"CutRowsModel", "multiply", "(III)V"⟩, 15) := ⟨⟨by decide +kernel, by decide +kernel⟩, List.mem_of_getElem? (i := 771) (by decide +kernel), List.mem_of_getElem? (i := 886) (by decide +kernel), List.mem_of_getElem? (i := 887) (by decide +kernel)⟩
theorem lw_p24 : lw_okq (⟨"CutRowsModel", "limbOf", "(II)J"⟩, 15) := ⟨⟨by decide +kernel, by decide +kernel⟩, List.mem_of_getElem? (i := 771) (by decide +kernel), List.mem_of_getElem? (i := 890) (by decide +kernel), List.mem_of_getElem? (i := 891) (by decide +kernel)⟩
theorem lw_p25 : lw_okq (⟨"CutRowsModel", "add", "(III)V"⟩, 15) := ⟨⟨by decide +kernel, by decide +kernel⟩, List.mem_of_getElem? (i := 771) (by decide +kernel), List.mem_of_getElem? (i := 895) (by decide +kernel), List.mem_of_getElem? (i := 896) (by decide +kernel)⟩
theorem lw_p26 : lw_okq (⟨"CutRowsModel", "addSizes", "(III)V"⟩, 15) := ⟨⟨by decide +kernel, by decide +kernel⟩, List.mem_of_getElem? (i := 771) (by decide +kernel), List.mem_of_getElem? (i := 899) (by decide +kernel), List.mem_of_getElem? (i := 900) (by decide +kernel)⟩
theorem lw_p27 : lw_okq (⟨"CutRowsModel", "compareSizes", "(II)I"⟩, 15) := ⟨⟨by decide +kernel, by decide +kernel⟩, List.mem_of_getElem? (i := 771) (by decide +kernel), List.mem_of_getElem? (i := 903) (by decide +kernel), List.mem_of_getElem? (i := 904) (by decide +kernel)⟩
theorem lw_p28 : lw_okq (⟨"CutRowsModel", "subtractSizes", "(III)V"⟩, 15) := ⟨⟨by decide +kernel, by decide +kernel⟩, List.mem_of_getElem? (i := 771) (by decide +kernel), List.mem_of_getElem? (i := 907) (by decide +kernel), List.mem_of_getElem? (i := 908) (by decide +kernel)⟩
theorem lw_p29 : lw_okq (⟨"CutRowsModel", "common", "(I)V"⟩, 15) := ⟨⟨by decide +kernel, by decide +kernel⟩, List.mem_of_getElem? (i := 771) (by decide +kernel), List.mem_of_getElem? (i := 919) (by decide +kernel), List.mem_of_getElem? (i := 920) (by decide +kernel)⟩
theorem lw_p30 : lw_okq (⟨"CutRowsModel", "isEven", "(I)Z"⟩, 15) := ⟨⟨by decide +kernel, by decide +kernel⟩, List.mem_of_getElem? (i := 771) (by decide +kernel), List.mem_of_getElem? (i := 923) (by decide +kernel), List.mem_of_getElem? (i := 924) (by decide +kernel)⟩
theorem lw_p31 : lw_okq (⟨"CutRowsModel", "halve", "(I)V"⟩, 15) := ⟨⟨by decide +kernel, by decide +kernel⟩, List.mem_of_getElem? (i := 771) (by decide +kernel), List.mem_of_getElem? (i := 928) (by decide +kernel), List.mem_of_getElem? (i := 929) (by decide +kernel)⟩
def lw_privs_2 : List (MethodName × Nat) := [(⟨"CutRows", "holdsAtPoint", "(I)Z"⟩, 16), (⟨"CutRowsModel", "clear", "(I)V"⟩, 15), (⟨"CutRowsModel", "settle", "()V"⟩, 15), (⟨"CutRowsModel", "trim", "(I)V"⟩, 15), (⟨"CutRowsModel", "copy", "(II)V"⟩, 15), (⟨"CutRowsModel", "store", "(I)I"⟩, 15), (⟨"CutRowsModel", "isRow", "(I)Z"⟩, 15), (⟨"CutRowsModel", "multiply", "(III)V"⟩, 15), (⟨"CutRowsModel", "limbOf", "(II)J"⟩, 15), (⟨"CutRowsModel", "add", "(III)V"⟩, 15), (⟨"CutRowsModel", "addSizes", "(III)V"⟩, 15), (⟨"CutRowsModel", "compareSizes", "(II)I"⟩, 15), (⟨"CutRowsModel", "subtractSizes", "(III)V"⟩, 15), (⟨"CutRowsModel", "common", "(I)V"⟩, 15), (⟨"CutRowsModel", "isEven", "(I)Z"⟩, 15), (⟨"CutRowsModel", "halve", "(I)V"⟩, 15)]
theorem lw_r2 : ∀ q ∈ lw_privs_2, lw_okq q := List.forall_mem_cons.mpr ⟨lw_p16, List.forall_mem_cons.mpr ⟨lw_p17, List.forall_mem_cons.mpr ⟨lw_p18, List.forall_mem_cons.mpr ⟨lw_p19, List.forall_mem_cons.mpr ⟨lw_p20, List.forall_mem_cons.mpr ⟨lw_p21, List.forall_mem_cons.mpr ⟨lw_p22, List.forall_mem_cons.mpr ⟨lw_p23, List.forall_mem_cons.mpr ⟨lw_p24, List.forall_mem_cons.mpr ⟨lw_p25, List.forall_mem_cons.mpr ⟨lw_p26, List.forall_mem_cons.mpr ⟨lw_p27, List.forall_mem_cons.mpr ⟨lw_p28, List.forall_mem_cons.mpr ⟨lw_p29, List.forall_mem_cons.mpr ⟨lw_p30, List.forall_mem_cons.mpr ⟨lw_p31, fun _ h => absurd h List.not_mem_nil⟩⟩⟩⟩⟩⟩⟩⟩⟩⟩⟩⟩⟩⟩⟩⟩
theorem lw_p32 : lw_okq (⟨"CutRowsModel", "divide", "(II)V"⟩, 15) := ⟨⟨by decide +kernel, by decide +kernel⟩, List.mem_of_getElem? (i := 771) (by decide +kernel), List.mem_of_getElem? (i := 932) (by decide +kernel), List.mem_of_getElem? (i := 933) (by decide +kernel)⟩
theorem lw_p33 : lw_okq (⟨"CutRowsModel", "bitsOf", "(I)I"⟩, 15) := ⟨⟨by decide +kernel, by decide +kernel⟩, List.mem_of_getElem? (i := 771) (by decide +kernel), List.mem_of_getElem? (i := 936) (by decide +kernel), List.mem_of_getElem? (i := 937) (by decide +kernel)⟩
theorem lw_p34 : lw_okq (⟨"CutRowsModel", "bitOf", "(II)I"⟩, 15) := ⟨⟨by decide +kernel, by decide +kernel⟩, List.mem_of_getElem? (i := 771) (by decide +kernel), List.mem_of_getElem? (i := 941) (by decide +kernel), List.mem_of_getElem? (i := 942) (by decide +kernel)⟩
theorem lw_p35 : lw_okq (⟨"CutRowsModel", "holds", "(I)Z"⟩, 15) := ⟨⟨by decide +kernel, by decide +kernel⟩, List.mem_of_getElem? (i := 771) (by decide +kernel), List.mem_of_getElem? (i := 965) (by decide +kernel), List.mem_of_getElem? (i := 966) (by decide +kernel)⟩
theorem lw_p36 : lw_okq (⟨"CutRowsModel", "refused", "(I)Z"⟩, 15) := ⟨⟨by decide +kernel, by decide +kernel⟩, List.mem_of_getElem? (i := 771) (by decide +kernel), List.mem_of_getElem? (i := 973) (by decide +kernel), List.mem_of_getElem? (i := 974) (by decide +kernel)⟩
def lw_privs_3 : List (MethodName × Nat) := [(⟨"CutRowsModel", "divide", "(II)V"⟩, 15), (⟨"CutRowsModel", "bitsOf", "(I)I"⟩, 15), (⟨"CutRowsModel", "bitOf", "(II)I"⟩, 15), (⟨"CutRowsModel", "holds", "(I)Z"⟩, 15), (⟨"CutRowsModel", "refused", "(I)Z"⟩, 15)]
theorem lw_r3 : ∀ q ∈ lw_privs_3, lw_okq q := List.forall_mem_cons.mpr ⟨lw_p32, List.forall_mem_cons.mpr ⟨lw_p33, List.forall_mem_cons.mpr ⟨lw_p34, List.forall_mem_cons.mpr ⟨lw_p35, List.forall_mem_cons.mpr ⟨lw_p36, fun _ h => absurd h List.not_mem_nil⟩⟩⟩⟩⟩
def lw_privs : List (MethodName × Nat) := lw_privs_1 ++ (lw_privs_2 ++ (lw_privs_3))
def lw_tbl : List Cond := k2_sels lw_privs ++ tables_1
theorem lw_privs_ok : ∀ q ∈ lw_privs, lw_okq q := by
  show ∀ q ∈ lw_privs_1 ++ (lw_privs_2 ++ (lw_privs_3)), lw_okq q
  exact List.forall_mem_append.mpr ⟨lw_r1, List.forall_mem_append.mpr ⟨lw_r2, lw_r3⟩⟩
-- ===== end of PART A; then your names; then what follows =====
/-! ===== BEGIN words of one list among another's, by their places ===== -/
theorem goodIn_r {big : List Cond} (ws : List Cond) (ps : List Nat) (hp : ws = ps.filterMap (fun i => big[i]?)) (h : ws.all goodWord = true) : GoodIn big ws := by
  intro w hw
  have h1 := List.all_eq_true.mp h w hw
  rw [hp] at hw
  obtain ⟨i, -, hi⟩ := List.mem_filterMap.mp hw
  have hm : w ∈ big := by first | exact List.mem_of_getElem? hi | exact List.getElem?_mem hi
  exact ⟨hm, good_of_word h1⟩
theorem goodIn_app {big a b : List Cond} (ha : GoodIn big a) (hb : GoodIn big b) : GoodIn big (a ++ b) := fun w h => (List.mem_append.mp h).elim (ha w) (hb w)
theorem goodIn_ca {big a b : List Cond} {c : Cond} (ha : GoodIn big (c :: a)) (hb : GoodIn big b) : GoodIn big (c :: (a ++ b)) := fun w h => (List.mem_cons.mp h).elim (fun e => ha w (List.mem_cons.mpr (Or.inl e))) (fun h => (List.mem_append.mp h).elim (fun h => ha w (List.mem_cons.mpr (Or.inr h))) (hb w))
theorem goodIn_sub {big ws : List Cond} (hm : ∀ w ∈ ws, w ∈ big) (h : ws.all goodWord = true) : GoodIn big ws := fun w hw => ⟨hm w hw, good_of_word (List.all_eq_true.mp h w hw)⟩
/-! ===== END ===== -/
end
section
/-! ===== BEGIN printed: names, fields, word lists, decode rows ===== -/
def RX0 : String := "CutRows$Arena"
def TX0 : u_T := fun k => match k with
  | 0 => ("CutRows$Arena", "cells", "[I", true)
  | 1 => ("CutRows$Arena", "starts", "[I", true)
  | 2 => ("CutRows$Arena", "width", "I", true)
  | 3 => ("CutRows$Arena", "maxRows", "I", true)
  | 4 => ("CutRows$Arena", "used", "I", false)
  | _ => ("CutRows$Arena", "rows", "I", false)
def tyX0 : Nat → FieldType := fun k => match k with
  | 0 => .array .int
  | 1 => .array .int
  | 2 => .int
  | 3 => .int
  | 4 => .int
  | _ => .int
abbrev wsX00 : List Cond := u_ws RX0 TX0 6
theorem nmX0 : ∀ a, a < 6 → ∀ b, b < 6 → a ≠ b → (TX0 a).2.1 ≠ (TX0 b).2.1 := by decide +kernel
theorem tyX0_ok : ∀ k, k < 6 → parseFieldDescriptor (TX0 k).2.2.1 = some (tyX0 k) := by decide +kernel
abbrev cX0_init : ByteArray := prog_2_method_1_code
def yX0_init : MethodName := ⟨RX0, "<init>", "(III)V"⟩
abbrev cX0_cellsLeft : ByteArray := prog_2_method_2_code
def yX0_cellsLeft : MethodName := ⟨RX0, "cellsLeft", "()I"⟩
abbrev cX0_has : ByteArray := prog_2_method_3_code
def yX0_has : MethodName := ⟨RX0, "has", "(I)Z"⟩
abbrev cX0_isFull : ByteArray := prog_2_method_4_code
def yX0_isFull : MethodName := ⟨RX0, "isFull", "()Z"⟩
abbrev cX0_signOf : ByteArray := prog_2_method_5_code
def yX0_signOf : MethodName := ⟨RX0, "signOf", "(II)I"⟩
abbrev cX0_sizeOf : ByteArray := prog_2_method_6_code
def yX0_sizeOf : MethodName := ⟨RX0, "sizeOf", "(II)I"⟩
abbrev cX0_digitOf : ByteArray := prog_2_method_7_code
def yX0_digitOf : MethodName := ⟨RX0, "digitOf", "(III)I"⟩
abbrev cX0_load : ByteArray := prog_2_method_8_code
def yX0_load : MethodName := ⟨RX0, "load", "(IILCutRows$Whole;)V"⟩
abbrev cX0_keep : ByteArray := prog_2_method_9_code
def yX0_keep : MethodName := ⟨RX0, "keep", "([LCutRows$Whole;)I"⟩
abbrev cX0_cellsFor : ByteArray := prog_2_method_10_code
def yX0_cellsFor : MethodName := ⟨RX0, "cellsFor", "([LCutRows$Whole;)I"⟩
abbrev cX0_append : ByteArray := prog_2_method_11_code
def yX0_append : MethodName := ⟨RX0, "append", "(LCutRows$Whole;)V"⟩
def RX1 : String := "CutRows$Divider"
def TX1 : u_T := fun k => match k with
  | 0 => ("CutRows$Divider", "greatest", "LCutRows$Whole;", true)
  | 1 => ("CutRows$Divider", "quotient", "LCutRows$Whole;", true)
  | 2 => ("CutRows$Divider", "remainder", "LCutRows$Whole;", true)
  | 3 => ("CutRows$Divider", "top", "[I", true)
  | _ => ("CutRows$Divider", "bottom", "[I", true)
def tyX1 : Nat → FieldType := fun k => match k with
  | 0 => .object "CutRows$Whole"
  | 1 => .object "CutRows$Whole"
  | 2 => .object "CutRows$Whole"
  | 3 => .array .int
  | _ => .array .int
abbrev wsX10 : List Cond := u_ws RX1 TX1 5
theorem nmX1 : ∀ a, a < 5 → ∀ b, b < 5 → a ≠ b → (TX1 a).2.1 ≠ (TX1 b).2.1 := by decide +kernel
theorem tyX1_ok : ∀ k, k < 5 → parseFieldDescriptor (TX1 k).2.2.1 = some (tyX1 k) := by decide +kernel
abbrev cX1_init : ByteArray := prog_3_method_1_code
def yX1_init : MethodName := ⟨RX1, "<init>", "()V"⟩
abbrev cX1_narrowGreatest : ByteArray := prog_3_method_2_code
def yX1_narrowGreatest : MethodName := ⟨RX1, "narrowGreatest", "(LCutRows$Whole;)V"⟩
abbrev cX1_floorByGreatest : ByteArray := prog_3_method_3_code
def yX1_floorByGreatest : MethodName := ⟨RX1, "floorByGreatest", "(LCutRows$Whole;LCutRows$Whole;)V"⟩
abbrev cX1_divide : ByteArray := prog_3_method_4_code
def yX1_divide : MethodName := ⟨RX1, "divide", "(LCutRows$Whole;LCutRows$Whole;)V"⟩
abbrev cX1_divideByDigit : ByteArray := prog_3_method_5_code
def yX1_divideByDigit : MethodName := ⟨RX1, "divideByDigit", "(LCutRows$Whole;I)V"⟩
abbrev cX1_divideByMany : ByteArray := prog_3_method_6_code
def yX1_divideByMany : MethodName := ⟨RX1, "divideByMany", "(LCutRows$Whole;LCutRows$Whole;)V"⟩
abbrev cX1_shiftUp : ByteArray := prog_3_method_7_code
def yX1_shiftUp : MethodName := ⟨RX1, "shiftUp", "(LCutRows$Whole;I[I)I"⟩
abbrev cX1_guessDigit : ByteArray := prog_3_method_8_code
def yX1_guessDigit : MethodName := ⟨RX1, "guessDigit", "(II)J"⟩
abbrev cX1_takeOut : ByteArray := prog_3_method_9_code
def yX1_takeOut : MethodName := ⟨RX1, "takeOut", "(JII)I"⟩
abbrev cX1_putBack : ByteArray := prog_3_method_10_code
def yX1_putBack : MethodName := ⟨RX1, "putBack", "(II)V"⟩
def RX2 : String := "CutRows$Register"
def TX2 : u_T := fun k => match k with
  | 0 => ("CutRows$Register", "number", "LCutRows$Whole;", true)
  | 1 => ("CutRows$Register", "state", "I", false)
  | 2 => ("CutRows$Register", "givenSign", "I", false)
  | _ => ("CutRows$Register", "fed", "I", false)
def tyX2 : Nat → FieldType := fun k => match k with
  | 0 => .object "CutRows$Whole"
  | 1 => .int
  | 2 => .int
  | _ => .int
abbrev wsX20 : List Cond := u_ws RX2 TX2 4
theorem nmX2 : ∀ a, a < 4 → ∀ b, b < 4 → a ≠ b → (TX2 a).2.1 ≠ (TX2 b).2.1 := by decide +kernel
theorem tyX2_ok : ∀ k, k < 4 → parseFieldDescriptor (TX2 k).2.2.1 = some (tyX2 k) := by decide +kernel
abbrev cX2_init : ByteArray := prog_4_method_1_code
def yX2_init : MethodName := ⟨RX2, "<init>", "()V"⟩
abbrev cX2_open : ByteArray := prog_4_method_2_code
def yX2_open : MethodName := ⟨RX2, "open", "(I)V"⟩
abbrev cX2_takesMore : ByteArray := prog_4_method_3_code
def yX2_takesMore : MethodName := ⟨RX2, "takesMore", "()Z"⟩
abbrev cX2_append : ByteArray := prog_4_method_4_code
def yX2_append : MethodName := ⟨RX2, "append", "(I)V"⟩
abbrev cX2_hasNumber : ByteArray := prog_4_method_5_code
def yX2_hasNumber : MethodName := ⟨RX2, "hasNumber", "()Z"⟩
abbrev cX2_finish : ByteArray := prog_4_method_6_code
def yX2_finish : MethodName := ⟨RX2, "finish", "()V"⟩
def RX3 : String := "CutRows$Whole"
def TX3 : u_T := fun k => match k with
  | 0 => ("CutRows$Whole", "limbs", "[I", true)
  | 1 => ("CutRows$Whole", "size", "I", false)
  | _ => ("CutRows$Whole", "sign", "I", false)
def tyX3 : Nat → FieldType := fun k => match k with
  | 0 => .array .int
  | 1 => .int
  | _ => .int
abbrev wsX30 : List Cond := u_ws RX3 TX3 3
theorem nmX3 : ∀ a, a < 3 → ∀ b, b < 3 → a ≠ b → (TX3 a).2.1 ≠ (TX3 b).2.1 := by decide +kernel
theorem tyX3_ok : ∀ k, k < 3 → parseFieldDescriptor (TX3 k).2.2.1 = some (tyX3 k) := by decide +kernel
abbrev cX3_init : ByteArray := prog_5_method_1_code
def yX3_init : MethodName := ⟨RX3, "<init>", "(I)V"⟩
abbrev cX3_setZero : ByteArray := prog_5_method_2_code
def yX3_setZero : MethodName := ⟨RX3, "setZero", "()V"⟩
abbrev cX3_copyFrom : ByteArray := prog_5_method_3_code
def yX3_copyFrom : MethodName := ⟨RX3, "copyFrom", "(LCutRows$Whole;)V"⟩
abbrev cX3_settle : ByteArray := prog_5_method_4_code
def yX3_settle : MethodName := ⟨RX3, "settle", "(II)V"⟩
abbrev cX3_digit : ByteArray := prog_5_method_5_code
def yX3_digit : MethodName := ⟨RX3, "digit", "(I)I"⟩
abbrev cX3_compareSize : ByteArray := prog_5_method_6_code
def yX3_compareSize : MethodName := ⟨RX3, "compareSize", "(LCutRows$Whole;)I"⟩
abbrev cX3_setProduct : ByteArray := prog_5_method_7_code
def yX3_setProduct : MethodName := ⟨RX3, "setProduct", "(LCutRows$Whole;LCutRows$Whole;)V"⟩
abbrev cX3_addTimes : ByteArray := prog_5_method_8_code
def yX3_addTimes : MethodName := ⟨RX3, "addTimes", "(JLCutRows$Whole;I)V"⟩
abbrev cX3_add : ByteArray := prog_5_method_9_code
def yX3_add : MethodName := ⟨RX3, "add", "(LCutRows$Whole;)V"⟩
abbrev cX3_addLimbs : ByteArray := prog_5_method_10_code
def yX3_addLimbs : MethodName := ⟨RX3, "addLimbs", "(LCutRows$Whole;I)V"⟩
abbrev cX3_setDifference : ByteArray := prog_5_method_11_code
def yX3_setDifference : MethodName := ⟨RX3, "setDifference", "(LCutRows$Whole;LCutRows$Whole;I)V"⟩
abbrev cX3_growByOne : ByteArray := prog_5_method_12_code
def yX3_growByOne : MethodName := ⟨RX3, "growByOne", "(I)V"⟩
def RX4 : String := "CutRows"
def TX4 : u_T := fun k => match k with
  | 0 => ("CutRows", "vars", "I", true)
  | 1 => ("CutRows", "arena", "LCutRows$Arena;", true)
  | 2 => ("CutRows", "register", "LCutRows$Register;", true)
  | 3 => ("CutRows", "vector", "[LCutRows$Whole;", true)
  | 4 => ("CutRows", "point", "[LCutRows$Whole;", true)
  | 5 => ("CutRows", "divider", "LCutRows$Divider;", true)
  | 6 => ("CutRows", "vectorSize", "I", false)
  | 7 => ("CutRows", "inputRows", "I", false)
  | 8 => ("CutRows", "sealed", "Z", false)
  | 9 => ("CutRows", "sumBegun", "Z", false)
  | 10 => ("CutRows", "contradicted", "Z", false)
  | 11 => ("CutRows", "sum", "[LCutRows$Whole;", false)
  | 12 => ("CutRows", "draft", "[LCutRows$Whole;", false)
  | 13 => ("CutRows", "factor", "LCutRows$Whole;", true)
  | 14 => ("CutRows", "product", "LCutRows$Whole;", true)
  | _ => ("CutRows", "total", "LCutRows$Whole;", true)
def tyX4 : Nat → FieldType := fun k => match k with
  | 0 => .int
  | 1 => .object "CutRows$Arena"
  | 2 => .object "CutRows$Register"
  | 3 => .array (.object "CutRows$Whole")
  | 4 => .array (.object "CutRows$Whole")
  | 5 => .object "CutRows$Divider"
  | 6 => .int
  | 7 => .int
  | 8 => .boolean
  | 9 => .boolean
  | 10 => .boolean
  | 11 => .array (.object "CutRows$Whole")
  | 12 => .array (.object "CutRows$Whole")
  | 13 => .object "CutRows$Whole"
  | 14 => .object "CutRows$Whole"
  | _ => .object "CutRows$Whole"
abbrev wsX40 : List Cond := u_ws RX4 TX4 16
theorem nmX4 : ∀ a, a < 16 → ∀ b, b < 16 → a ≠ b → (TX4 a).2.1 ≠ (TX4 b).2.1 := by decide +kernel
theorem tyX4_ok : ∀ k, k < 16 → parseFieldDescriptor (TX4 k).2.2.1 = some (tyX4 k) := by decide +kernel
abbrev cX4_init : ByteArray := prog_1_method_1_code
def yX4_init : MethodName := ⟨RX4, "<init>", "(III)V"⟩
abbrev cX4_beginNumber : ByteArray := prog_1_method_2_code
def yX4_beginNumber : MethodName := ⟨RX4, "beginNumber", "(I)Z"⟩
abbrev cX4_limb : ByteArray := prog_1_method_3_code
def yX4_limb : MethodName := ⟨RX4, "limb", "(I)Z"⟩
abbrev cX4_endCoefficient : ByteArray := prog_1_method_4_code
def yX4_endCoefficient : MethodName := ⟨RX4, "endCoefficient", "()Z"⟩
abbrev cX4_endConstraint : ByteArray := prog_1_method_5_code
def yX4_endConstraint : MethodName := ⟨RX4, "endConstraint", "()I"⟩
abbrev cX4_sealInput : ByteArray := prog_1_method_6_code
def yX4_sealInput : MethodName := ⟨RX4, "sealInput", "()Z"⟩
abbrev cX4_combineStart : ByteArray := prog_1_method_7_code
def yX4_combineStart : MethodName := ⟨RX4, "combineStart", "()Z"⟩
abbrev cX4_combineAdd : ByteArray := prog_1_method_8_code
def yX4_combineAdd : MethodName := ⟨RX4, "combineAdd", "(I)I"⟩
abbrev cX4_combineEnd : ByteArray := prog_1_method_9_code
def yX4_combineEnd : MethodName := ⟨RX4, "combineEnd", "()I"⟩
abbrev cX4_divideRound : ByteArray := prog_1_method_10_code
def yX4_divideRound : MethodName := ⟨RX4, "divideRound", "(I)I"⟩
abbrev cX4_refuted : ByteArray := prog_1_method_11_code
def yX4_refuted : MethodName := ⟨RX4, "refuted", "()Z"⟩
abbrev cX4_rowCount : ByteArray := prog_1_method_12_code
def yX4_rowCount : MethodName := ⟨RX4, "rowCount", "()I"⟩
abbrev cX4_evalStart : ByteArray := prog_1_method_13_code
def yX4_evalStart : MethodName := ⟨RX4, "evalStart", "()Z"⟩
abbrev cX4_evalPoint : ByteArray := prog_1_method_14_code
def yX4_evalPoint : MethodName := ⟨RX4, "evalPoint", "(I)Z"⟩
abbrev cX4_evalSatisfied : ByteArray := prog_1_method_15_code
def yX4_evalSatisfied : MethodName := ⟨RX4, "evalSatisfied", "()I"⟩
abbrev cX4_cell : ByteArray := prog_1_method_16_code
def yX4_cell : MethodName := ⟨RX4, "cell", "(III)I"⟩
abbrev cX4_count : ByteArray := prog_1_method_17_code
def yX4_count : MethodName := ⟨RX4, "count", "(I)I"⟩
abbrev cX4_nearest : ByteArray := prog_1_method_18_code
def yX4_nearest : MethodName := ⟨RX4, "nearest", "(II)I"⟩
abbrev cX4_zeros : ByteArray := prog_1_method_19_code
def yX4_zeros : MethodName := ⟨RX4, "zeros", "(II)[LCutRows$Whole;"⟩
abbrev cX4_setAllZero : ByteArray := prog_1_method_20_code
def yX4_setAllZero : MethodName := ⟨RX4, "setAllZero", "([LCutRows$Whole;)V"⟩
abbrev cX4_draftSumWith : ByteArray := prog_1_method_21_code
def yX4_draftSumWith : MethodName := ⟨RX4, "draftSumWith", "(I)Z"⟩
abbrev cX4_keepMade : ByteArray := prog_1_method_22_code
def yX4_keepMade : MethodName := ⟨RX4, "keepMade", "([LCutRows$Whole;)I"⟩
abbrev cX4_hasCoefficient : ByteArray := prog_1_method_23_code
def yX4_hasCoefficient : MethodName := ⟨RX4, "hasCoefficient", "(I)Z"⟩
abbrev cX4_findGreatestDivisor : ByteArray := prog_1_method_24_code
def yX4_findGreatestDivisor : MethodName := ⟨RX4, "findGreatestDivisor", "(I)V"⟩
abbrev cX4_holdsAtPoint : ByteArray := prog_1_method_25_code
def yX4_holdsAtPoint : MethodName := ⟨RX4, "holdsAtPoint", "(I)Z"⟩
def RX5 : String := "CutRowsModel"
def TX5 : u_T := fun k => match k with
  | 0 => ("CutRowsModel", "refusal", "I", false)
  | 1 => ("CutRowsModel", "vars", "I", false)
  | 2 => ("CutRowsModel", "maxRows", "I", false)
  | 3 => ("CutRowsModel", "cells", "I", false)
  | 4 => ("CutRowsModel", "limbs", "[I", true)
  | 5 => ("CutRowsModel", "length", "[I", true)
  | 6 => ("CutRowsModel", "isBelow", "[Z", true)
  | 7 => ("CutRowsModel", "rows", "I", false)
  | 8 => ("CutRowsModel", "input", "I", false)
  | 9 => ("CutRowsModel", "filled", "I", false)
  | 10 => ("CutRowsModel", "isSealed", "Z", false)
  | 11 => ("CutRowsModel", "isBegun", "Z", false)
  | 12 => ("CutRowsModel", "state", "I", false)
  | 13 => ("CutRowsModel", "sign", "I", false)
  | _ => ("CutRowsModel", "given", "I", false)
def tyX5 : Nat → FieldType := fun k => match k with
  | 0 => .int
  | 1 => .int
  | 2 => .int
  | 3 => .int
  | 4 => .array .int
  | 5 => .array .int
  | 6 => .array .boolean
  | 7 => .int
  | 8 => .int
  | 9 => .int
  | 10 => .boolean
  | 11 => .boolean
  | 12 => .int
  | 13 => .int
  | _ => .int
abbrev wsX50 : List Cond := u_ws RX5 TX5 15
theorem nmX5 : ∀ a, a < 15 → ∀ b, b < 15 → a ≠ b → (TX5 a).2.1 ≠ (TX5 b).2.1 := by decide +kernel
theorem tyX5_ok : ∀ k, k < 15 → parseFieldDescriptor (TX5 k).2.2.1 = some (tyX5 k) := by decide +kernel
abbrev cX5_init : ByteArray := prog_7_method_1_code
def yX5_init : MethodName := ⟨RX5, "<init>", "(III)V"⟩
abbrev cX5_between : ByteArray := prog_7_method_2_code
def yX5_between : MethodName := ⟨RX5, "between", "(II)I"⟩
abbrev cX5_thrown : ByteArray := prog_7_method_3_code
def yX5_thrown : MethodName := ⟨RX5, "thrown", "()I"⟩
abbrev cX5_refused : ByteArray := prog_7_method_4_code
def yX5_refused : MethodName := ⟨RX5, "refused", "(I)Z"⟩
abbrev cX5_trim : ByteArray := prog_7_method_5_code
def yX5_trim : MethodName := ⟨RX5, "trim", "(I)V"⟩
abbrev cX5_copy : ByteArray := prog_7_method_6_code
def yX5_copy : MethodName := ⟨RX5, "copy", "(II)V"⟩
abbrev cX5_clear : ByteArray := prog_7_method_7_code
def yX5_clear : MethodName := ⟨RX5, "clear", "(I)V"⟩
abbrev cX5_limbOf : ByteArray := prog_7_method_8_code
def yX5_limbOf : MethodName := ⟨RX5, "limbOf", "(II)J"⟩
abbrev cX5_compareSizes : ByteArray := prog_7_method_9_code
def yX5_compareSizes : MethodName := ⟨RX5, "compareSizes", "(II)I"⟩
abbrev cX5_addSizes : ByteArray := prog_7_method_10_code
def yX5_addSizes : MethodName := ⟨RX5, "addSizes", "(III)V"⟩
abbrev cX5_subtractSizes : ByteArray := prog_7_method_11_code
def yX5_subtractSizes : MethodName := ⟨RX5, "subtractSizes", "(III)V"⟩
abbrev cX5_add : ByteArray := prog_7_method_12_code
def yX5_add : MethodName := ⟨RX5, "add", "(III)V"⟩
abbrev cX5_multiply : ByteArray := prog_7_method_13_code
def yX5_multiply : MethodName := ⟨RX5, "multiply", "(III)V"⟩
abbrev cX5_bitsOf : ByteArray := prog_7_method_14_code
def yX5_bitsOf : MethodName := ⟨RX5, "bitsOf", "(I)I"⟩
abbrev cX5_bitOf : ByteArray := prog_7_method_15_code
def yX5_bitOf : MethodName := ⟨RX5, "bitOf", "(II)I"⟩
abbrev cX5_halve : ByteArray := prog_7_method_16_code
def yX5_halve : MethodName := ⟨RX5, "halve", "(I)V"⟩
abbrev cX5_divide : ByteArray := prog_7_method_17_code
def yX5_divide : MethodName := ⟨RX5, "divide", "(II)V"⟩
abbrev cX5_isEven : ByteArray := prog_7_method_18_code
def yX5_isEven : MethodName := ⟨RX5, "isEven", "(I)Z"⟩
abbrev cX5_common : ByteArray := prog_7_method_19_code
def yX5_common : MethodName := ⟨RX5, "common", "(I)V"⟩
abbrev cX5_beginNumber : ByteArray := prog_7_method_20_code
def yX5_beginNumber : MethodName := ⟨RX5, "beginNumber", "(I)Z"⟩
abbrev cX5_limb : ByteArray := prog_7_method_21_code
def yX5_limb : MethodName := ⟨RX5, "limb", "(I)Z"⟩
abbrev cX5_settle : ByteArray := prog_7_method_22_code
def yX5_settle : MethodName := ⟨RX5, "settle", "()V"⟩
abbrev cX5_endCoefficient : ByteArray := prog_7_method_23_code
def yX5_endCoefficient : MethodName := ⟨RX5, "endCoefficient", "()Z"⟩
abbrev cX5_placeOf : ByteArray := prog_7_method_24_code
def yX5_placeOf : MethodName := ⟨RX5, "placeOf", "(II)I"⟩
abbrev cX5_store : ByteArray := prog_7_method_25_code
def yX5_store : MethodName := ⟨RX5, "store", "(I)I"⟩
abbrev cX5_endConstraint : ByteArray := prog_7_method_26_code
def yX5_endConstraint : MethodName := ⟨RX5, "endConstraint", "()I"⟩
abbrev cX5_sealInput : ByteArray := prog_7_method_27_code
def yX5_sealInput : MethodName := ⟨RX5, "sealInput", "()Z"⟩
abbrev cX5_combineStart : ByteArray := prog_7_method_28_code
def yX5_combineStart : MethodName := ⟨RX5, "combineStart", "()Z"⟩
abbrev cX5_isRow : ByteArray := prog_7_method_29_code
def yX5_isRow : MethodName := ⟨RX5, "isRow", "(I)Z"⟩
abbrev cX5_combineAdd : ByteArray := prog_7_method_30_code
def yX5_combineAdd : MethodName := ⟨RX5, "combineAdd", "(I)I"⟩
abbrev cX5_combineEnd : ByteArray := prog_7_method_31_code
def yX5_combineEnd : MethodName := ⟨RX5, "combineEnd", "()I"⟩
abbrev cX5_divideRound : ByteArray := prog_7_method_32_code
def yX5_divideRound : MethodName := ⟨RX5, "divideRound", "(I)I"⟩
abbrev cX5_refuted : ByteArray := prog_7_method_33_code
def yX5_refuted : MethodName := ⟨RX5, "refuted", "()Z"⟩
abbrev cX5_rowCount : ByteArray := prog_7_method_34_code
def yX5_rowCount : MethodName := ⟨RX5, "rowCount", "()I"⟩
abbrev cX5_evalStart : ByteArray := prog_7_method_35_code
def yX5_evalStart : MethodName := ⟨RX5, "evalStart", "()Z"⟩
abbrev cX5_evalPoint : ByteArray := prog_7_method_36_code
def yX5_evalPoint : MethodName := ⟨RX5, "evalPoint", "(I)Z"⟩
abbrev cX5_holds : ByteArray := prog_7_method_37_code
def yX5_holds : MethodName := ⟨RX5, "holds", "(I)Z"⟩
abbrev cX5_evalSatisfied : ByteArray := prog_7_method_38_code
def yX5_evalSatisfied : MethodName := ⟨RX5, "evalSatisfied", "()I"⟩
abbrev cX5_cell : ByteArray := prog_7_method_39_code
def yX5_cell : MethodName := ⟨RX5, "cell", "(III)I"⟩
abbrev cX5_count : ByteArray := prog_7_method_40_code
def yX5_count : MethodName := ⟨RX5, "count", "(I)I"⟩
def RJ5 : String := "java/lang/AbstractStringBuilder"
def TJ5 : u_T := fun k => match k with
  | _ => ("", "", "", false)
def tyJ5 : Nat → FieldType := fun k => match k with
  | _ => .int
abbrev wsJ50 : List Cond := u_ws RJ5 TJ5 0
theorem nmJ5 : ∀ a, a < 0 → ∀ b, b < 0 → a ≠ b → (TJ5 a).2.1 ≠ (TJ5 b).2.1 := by decide +kernel
theorem tyJ5_ok : ∀ k, k < 0 → parseFieldDescriptor (TJ5 k).2.2.1 = some (tyJ5 k) := by decide +kernel
abbrev cJ5_init_d00df : ByteArray := prog_8_method_2_code
def yJ5_init_d00df : MethodName := ⟨RJ5, "<init>", "(I)V"⟩
abbrev cJ5_length_8abf5 : ByteArray := prog_8_method_6_code
def yJ5_length_8abf5 : MethodName := ⟨RJ5, "length", "()I"⟩
abbrev cJ5_ensureCapacityInternal_d00df : ByteArray := prog_8_method_9_code
def yJ5_ensureCapacityInternal_d00df : MethodName := ⟨RJ5, "ensureCapacityInternal", "(I)V"⟩
abbrev cJ5_newCapacity_0f7a4 : ByteArray := prog_8_method_10_code
def yJ5_newCapacity_0f7a4 : MethodName := ⟨RJ5, "newCapacity", "(I)I"⟩
abbrev cJ5_inflate_da8c8 : ByteArray := prog_8_method_11_code
def yJ5_inflate_da8c8 : MethodName := ⟨RJ5, "inflate", "()V"⟩
abbrev cJ5_append_cf1ce : ByteArray := prog_8_method_22_code
def yJ5_append_cf1ce : MethodName := ⟨RJ5, "append", "(Ljava/lang/String;)Ljava/lang/AbstractStringBuilder;"⟩
abbrev cJ5_appendNull_278bc : ByteArray := prog_8_method_26_code
def yJ5_appendNull_278bc : MethodName := ⟨RJ5, "appendNull", "()Ljava/lang/AbstractStringBuilder;"⟩
abbrev cJ5_append_c97b9 : ByteArray := prog_8_method_32_code
def yJ5_append_c97b9 : MethodName := ⟨RJ5, "append", "(I)Ljava/lang/AbstractStringBuilder;"⟩
abbrev cJ5_getValue_6d5f1 : ByteArray := prog_8_method_64_code
def yJ5_getValue_6d5f1 : MethodName := ⟨RJ5, "getValue", "()[B"⟩
abbrev cJ5_isLatin1_aae02 : ByteArray := prog_8_method_68_code
def yJ5_isLatin1_aae02 : MethodName := ⟨RJ5, "isLatin1", "()Z"⟩
abbrev cJ5_inflateIfNeededFor_a7421 : ByteArray := prog_8_method_71_code
def yJ5_inflateIfNeededFor_a7421 : MethodName := ⟨RJ5, "inflateIfNeededFor", "(Ljava/lang/String;)V"⟩
abbrev cJ5_putStringAt_47b60 : ByteArray := prog_8_method_73_code
def yJ5_putStringAt_47b60 : MethodName := ⟨RJ5, "putStringAt", "(ILjava/lang/String;)V"⟩
def RJx8e188 : String := "java/lang/Cloneable"
def TJx8e188 : u_T := fun k => match k with
  | _ => ("", "", "", false)
def tyJx8e188 : Nat → FieldType := fun k => match k with
  | _ => .int
abbrev wsJx8e1880 : List Cond := u_ws RJx8e188 TJx8e188 0
theorem nmJx8e188 : ∀ a, a < 0 → ∀ b, b < 0 → a ≠ b → (TJx8e188 a).2.1 ≠ (TJx8e188 b).2.1 := by decide +kernel
theorem tyJx8e188_ok : ∀ k, k < 0 → parseFieldDescriptor (TJx8e188 k).2.2.1 = some (tyJx8e188 k) := by decide +kernel
def RJ6 : String := "java/lang/Integer"
def TJ6 : u_T := fun k => match k with
  | _ => ("", "", "", false)
def tyJ6 : Nat → FieldType := fun k => match k with
  | _ => .int
abbrev wsJ60 : List Cond := u_ws RJ6 TJ6 0
theorem nmJ6 : ∀ a, a < 0 → ∀ b, b < 0 → a ≠ b → (TJ6 a).2.1 ≠ (TJ6 b).2.1 := by decide +kernel
theorem tyJ6_ok : ∀ k, k < 0 → parseFieldDescriptor (TJ6 k).2.2.1 = some (tyJ6 k) := by decide +kernel
abbrev cJ6_getChars_ba4f3 : ByteArray := prog_12_method_12_code
def yJ6_getChars_ba4f3 : MethodName := ⟨RJ6, "getChars", "(II[B)I"⟩
abbrev cJ6_stringSize_0f7a4 : ByteArray := prog_12_method_13_code
def yJ6_stringSize_0f7a4 : MethodName := ⟨RJ6, "stringSize", "(I)I"⟩
abbrev cJ6_compare_7cf53 : ByteArray := prog_12_method_40_code
def yJ6_compare_7cf53 : MethodName := ⟨RJ6, "compare", "(II)I"⟩
abbrev cJ6_numberOfLeadingZeros_0f7a4 : ByteArray := prog_12_method_47_code
def yJ6_numberOfLeadingZeros_0f7a4 : MethodName := ⟨RJ6, "numberOfLeadingZeros", "(I)I"⟩
abbrev cJ6_signum_0f7a4 : ByteArray := prog_12_method_56_code
def yJ6_signum_0f7a4 : MethodName := ⟨RJ6, "signum", "(I)I"⟩
def RJ9 : String := "java/lang/Math"
def TJ9 : u_T := fun k => match k with
  | _ => ("", "", "", false)
def tyJ9 : Nat → FieldType := fun k => match k with
  | _ => .int
abbrev wsJ90 : List Cond := u_ws RJ9 TJ9 0
theorem nmJ9 : ∀ a, a < 0 → ∀ b, b < 0 → a ≠ b → (TJ9 a).2.1 ≠ (TJ9 b).2.1 := by decide +kernel
theorem tyJ9_ok : ∀ k, k < 0 → parseFieldDescriptor (TJ9 k).2.2.1 = some (tyJ9 k) := by decide +kernel
abbrev cJ9_abs_0f7a4 : ByteArray := prog_13_method_59_code
def yJ9_abs_0f7a4 : MethodName := ⟨RJ9, "abs", "(I)I"⟩
abbrev cJ9_max_7cf53 : ByteArray := prog_13_method_65_code
def yJ9_max_7cf53 : MethodName := ⟨RJ9, "max", "(II)I"⟩
abbrev cJ9_min_7cf53 : ByteArray := prog_13_method_69_code
def yJ9_min_7cf53 : MethodName := ⟨RJ9, "min", "(II)I"⟩
def RJ0 : String := "java/lang/String"
def TJ0 : u_T := fun k => match k with
  | 0 => ("java/lang/String", "value", "[B", true)
  | 1 => ("java/lang/String", "coder", "B", true)
  | 2 => ("java/lang/String", "hash", "I", false)
  | _ => ("java/lang/String", "hashIsZero", "Z", false)
def tyJ0 : Nat → FieldType := fun k => match k with
  | 0 => .array .byte
  | 1 => .byte
  | 2 => .int
  | _ => .boolean
abbrev wsJ00 : List Cond := u_ws RJ0 TJ0 4
theorem nmJ0 : ∀ a, a < 4 → ∀ b, b < 4 → a ≠ b → (TJ0 a).2.1 ≠ (TJ0 b).2.1 := by decide +kernel
theorem tyJ0_ok : ∀ k, k < 4 → parseFieldDescriptor (TJ0 k).2.2.1 = some (tyJ0 k) := by decide +kernel
abbrev cJ0_init_81219 : ByteArray := prog_15_method_53_code
def yJ0_init_81219 : MethodName := ⟨RJ0, "<init>", "(Ljava/lang/StringBuilder;)V"⟩
abbrev cJ0_length_8abf5 : ByteArray := prog_15_method_54_code
def yJ0_length_8abf5 : MethodName := ⟨RJ0, "length", "()I"⟩
abbrev cJ0_getBytes_840e7 : ByteArray := prog_15_method_147_code
def yJ0_getBytes_840e7 : MethodName := ⟨RJ0, "getBytes", "([BIB)V"⟩
abbrev cJ0_init_db425 : ByteArray := prog_15_method_150_code
def yJ0_init_db425 : MethodName := ⟨RJ0, "<init>", "(Ljava/lang/AbstractStringBuilder;Ljava/lang/Void;)V"⟩
abbrev cJ0_coder_7d493 : ByteArray := prog_15_method_152_code
def yJ0_coder_7d493 : MethodName := ⟨RJ0, "coder", "()B"⟩
abbrev cJ0_checkBoundsOffCount_cabcc : ByteArray := prog_15_method_157_code
def yJ0_checkBoundsOffCount_cabcc : MethodName := ⟨RJ0, "checkBoundsOffCount", "(III)I"⟩
abbrev cJ0_checkBoundsBeginEnd_23922 : ByteArray := prog_15_method_158_code
def yJ0_checkBoundsBeginEnd_23922 : MethodName := ⟨RJ0, "checkBoundsBeginEnd", "(III)V"⟩
def RJ4 : String := "java/lang/StringBuilder"
def TJ4 : u_T := fun k => match k with
  | 0 => ("java/lang/AbstractStringBuilder", "value", "[B", false)
  | 1 => ("java/lang/AbstractStringBuilder", "coder", "B", false)
  | 2 => ("java/lang/AbstractStringBuilder", "maybeLatin1", "Z", false)
  | _ => ("java/lang/AbstractStringBuilder", "count", "I", false)
def tyJ4 : Nat → FieldType := fun k => match k with
  | 0 => .array .byte
  | 1 => .byte
  | 2 => .boolean
  | _ => .int
abbrev wsJ40 : List Cond := u_ws RJ4 TJ4 4
theorem nmJ4 : ∀ a, a < 4 → ∀ b, b < 4 → a ≠ b → (TJ4 a).2.1 ≠ (TJ4 b).2.1 := by decide +kernel
theorem tyJ4_ok : ∀ k, k < 4 → parseFieldDescriptor (TJ4 k).2.2.1 = some (tyJ4 k) := by decide +kernel
abbrev cJ4_init_da8c8 : ByteArray := prog_16_method_1_code
def yJ4_init_da8c8 : MethodName := ⟨RJ4, "<init>", "()V"⟩
abbrev cJ4_append_15ec4 : ByteArray := prog_16_method_7_code
def yJ4_append_15ec4 : MethodName := ⟨RJ4, "append", "(Ljava/lang/String;)Ljava/lang/StringBuilder;"⟩
abbrev cJ4_append_bf812 : ByteArray := prog_16_method_15_code
def yJ4_append_bf812 : MethodName := ⟨RJ4, "append", "(I)Ljava/lang/StringBuilder;"⟩
abbrev cJ4_toString_0e30d : ByteArray := prog_16_method_42_code
def yJ4_toString_0e30d : MethodName := ⟨RJ4, "toString", "()Ljava/lang/String;"⟩
abbrev cJ4_length_8abf5 : ByteArray := prog_16_method_93_code
def yJ4_length_8abf5 : MethodName := ⟨RJ4, "length", "()I"⟩
def RJ1 : String := "java/lang/StringLatin1"
def TJ1 : u_T := fun k => match k with
  | _ => ("", "", "", false)
def tyJ1 : Nat → FieldType := fun k => match k with
  | _ => .int
abbrev wsJ10 : List Cond := u_ws RJ1 TJ1 0
theorem nmJ1 : ∀ a, a < 0 → ∀ b, b < 0 → a ≠ b → (TJ1 a).2.1 ≠ (TJ1 b).2.1 := by decide +kernel
theorem tyJ1_ok : ∀ k, k < 0 → parseFieldDescriptor (TJ1 k).2.2.1 = some (tyJ1 k) := by decide +kernel
abbrev cJ1_inflate_0e8fd : ByteArray := prog_17_method_50_code
def yJ1_inflate_0e8fd : MethodName := ⟨RJ1, "inflate", "([BI[BII)V"⟩
def RJ2 : String := "java/lang/StringUTF16"
def TJ2 : u_T := fun k => match k with
  | _ => ("", "", "", false)
def tyJ2 : Nat → FieldType := fun k => match k with
  | _ => .int
abbrev wsJ20 : List Cond := u_ws RJ2 TJ2 0
theorem nmJ2 : ∀ a, a < 0 → ∀ b, b < 0 → a ≠ b → (TJ2 a).2.1 ≠ (TJ2 b).2.1 := by decide +kernel
theorem tyJ2_ok : ∀ k, k < 0 → parseFieldDescriptor (TJ2 k).2.2.1 = some (tyJ2 k) := by decide +kernel
abbrev cJ2_newBytesFor_77867 : ByteArray := prog_18_method_2_code
def yJ2_newBytesFor_77867 : MethodName := ⟨RJ2, "newBytesFor", "(I)[B"⟩
abbrev cJ2_newBytesLength_0f7a4 : ByteArray := prog_18_method_3_code
def yJ2_newBytesLength_0f7a4 : MethodName := ⟨RJ2, "newBytesLength", "(I)I"⟩
abbrev cJ2_putChar_b72d1 : ByteArray := prog_18_method_4_code
def yJ2_putChar_b72d1 : MethodName := ⟨RJ2, "putChar", "([BII)V"⟩
abbrev cJ2_getChar_3b067 : ByteArray := prog_18_method_5_code
def yJ2_getChar_3b067 : MethodName := ⟨RJ2, "getChar", "([BI)C"⟩
abbrev cJ2_length_9d52b : ByteArray := prog_18_method_6_code
def yJ2_length_9d52b : MethodName := ⟨RJ2, "length", "([B)I"⟩
abbrev cJ2_coderFromArrayLen_85cad : ByteArray := prog_18_method_15_code
def yJ2_coderFromArrayLen_85cad : MethodName := ⟨RJ2, "coderFromArrayLen", "([BI)B"⟩
abbrev cJ2_compress_39247 : ByteArray := prog_18_method_17_code
def yJ2_compress_39247 : MethodName := ⟨RJ2, "compress", "([BII)[B"⟩
abbrev cJ2_compress_5af95 : ByteArray := prog_18_method_22_code
def yJ2_compress_5af95 : MethodName := ⟨RJ2, "compress", "([BI[BII)I"⟩
abbrev cJ2_getChars_46870 : ByteArray := prog_18_method_77_code
def yJ2_getChars_46870 : MethodName := ⟨RJ2, "getChars", "(III[B)I"⟩
abbrev cJ2_putCharsAt_cd4e5 : ByteArray := prog_18_method_81_code
def yJ2_putCharsAt_cd4e5 : MethodName := ⟨RJ2, "putCharsAt", "([BICCCC)I"⟩
abbrev cJ2_inflate_0e8fd : ByteArray := prog_18_method_86_code
def yJ2_inflate_0e8fd : MethodName := ⟨RJ2, "inflate", "([BI[BII)V"⟩
abbrev cJ2_getChars_ba4f3 : ByteArray := prog_18_method_89_code
def yJ2_getChars_ba4f3 : MethodName := ⟨RJ2, "getChars", "(II[B)I"⟩
abbrev cJ2_checkBoundsBeginEnd_d044e : ByteArray := prog_18_method_93_code
def yJ2_checkBoundsBeginEnd_d044e : MethodName := ⟨RJ2, "checkBoundsBeginEnd", "(II[B)V"⟩
abbrev cJ2_checkBoundsOffCount_d044e : ByteArray := prog_18_method_94_code
def yJ2_checkBoundsOffCount_d044e : MethodName := ⟨RJ2, "checkBoundsOffCount", "(II[B)V"⟩
def RJ10 : String := "java/lang/System"
def TJ10 : u_T := fun k => match k with
  | _ => ("", "", "", false)
def tyJ10 : Nat → FieldType := fun k => match k with
  | _ => .int
abbrev wsJ100 : List Cond := u_ws RJ10 TJ10 0
theorem nmJ10 : ∀ a, a < 0 → ∀ b, b < 0 → a ≠ b → (TJ10 a).2.1 ≠ (TJ10 b).2.1 := by decide +kernel
theorem tyJ10_ok : ∀ k, k < 0 → parseFieldDescriptor (TJ10 k).2.2.1 = some (tyJ10 k) := by decide +kernel
def RJ7 : String := "java/util/Arrays"
def TJ7 : u_T := fun k => match k with
  | _ => ("", "", "", false)
def tyJ7 : Nat → FieldType := fun k => match k with
  | _ => .int
abbrev wsJ70 : List Cond := u_ws RJ7 TJ7 0
theorem nmJ7 : ∀ a, a < 0 → ∀ b, b < 0 → a ≠ b → (TJ7 a).2.1 ≠ (TJ7 b).2.1 := by decide +kernel
theorem tyJ7_ok : ∀ k, k < 0 → parseFieldDescriptor (TJ7 k).2.2.1 = some (tyJ7 k) := by decide +kernel
abbrev cJ7_rangeCheck_23922 : ByteArray := prog_21_method_30_code
def yJ7_rangeCheck_23922 : MethodName := ⟨RJ7, "rangeCheck", "(III)V"⟩
abbrev cJ7_fill_fda19 : ByteArray := prog_21_method_104_code
def yJ7_fill_fda19 : MethodName := ⟨RJ7, "fill", "([IIII)V"⟩
abbrev cJ7_copyOf_9075b : ByteArray := prog_21_method_121_code
def yJ7_copyOf_9075b : MethodName := ⟨RJ7, "copyOf", "([BI)[B"⟩
abbrev cJ7_checkLength_df160 : ByteArray := prog_21_method_131_code
def yJ7_checkLength_df160 : MethodName := ⟨RJ7, "checkLength", "(II)V"⟩
abbrev cJ7_copyOfRange_39247 : ByteArray := prog_21_method_132_code
def yJ7_copyOfRange_39247 : MethodName := ⟨RJ7, "copyOfRange", "([BII)[B"⟩
abbrev cJ7_copyOfRangeByte_39247 : ByteArray := prog_21_method_133_code
def yJ7_copyOfRangeByte_39247 : MethodName := ⟨RJ7, "copyOfRangeByte", "([BII)[B"⟩
def RJ8 : String := "jdk/internal/util/ArraysSupport"
def TJ8 : u_T := fun k => match k with
  | _ => ("", "", "", false)
def tyJ8 : Nat → FieldType := fun k => match k with
  | _ => .int
abbrev wsJ80 : List Cond := u_ws RJ8 TJ8 0
theorem nmJ8 : ∀ a, a < 0 → ∀ b, b < 0 → a ≠ b → (TJ8 a).2.1 ≠ (TJ8 b).2.1 := by decide +kernel
theorem tyJ8_ok : ∀ k, k < 0 → parseFieldDescriptor (TJ8 k).2.2.1 = some (tyJ8 k) := by decide +kernel
abbrev cJ8_newLength_cabcc : ByteArray := prog_22_method_27_code
def yJ8_newLength_cabcc : MethodName := ⟨RJ8, "newLength", "(III)I"⟩
abbrev cJ8_hugeLength_7cf53 : ByteArray := prog_22_method_28_code
def yJ8_hugeLength_7cf53 : MethodName := ⟨RJ8, "hugeLength", "(II)I"⟩
def RJ3 : String := "jdk/internal/util/Preconditions"
def TJ3 : u_T := fun k => match k with
  | _ => ("", "", "", false)
def tyJ3 : Nat → FieldType := fun k => match k with
  | _ => .int
abbrev wsJ30 : List Cond := u_ws RJ3 TJ3 0
theorem nmJ3 : ∀ a, a < 0 → ∀ b, b < 0 → a ≠ b → (TJ3 a).2.1 ≠ (TJ3 b).2.1 := by decide +kernel
theorem tyJ3_ok : ∀ k, k < 0 → parseFieldDescriptor (TJ3 k).2.2.1 = some (tyJ3 k) := by decide +kernel
abbrev cJ3_checkFromToIndex_8c36e : ByteArray := prog_23_method_12_code
def yJ3_checkFromToIndex_8c36e : MethodName := ⟨RJ3, "checkFromToIndex", "(IIILjava/util/function/BiFunction;)I"⟩
abbrev cJ3_checkFromIndexSize_8c36e : ByteArray := prog_23_method_13_code
def yJ3_checkFromIndexSize_8c36e : MethodName := ⟨RJ3, "checkFromIndexSize", "(IIILjava/util/function/BiFunction;)I"⟩
def RL : String := "CutRowsLaw"
abbrev cL_cell : ByteArray := method_2_code
def yL_cell : MethodName := ⟨RL, "cell", "([II)I"⟩
abbrev cL_cell_ : ByteArray := method_3_code
def yL_cell_ : MethodName := ⟨RL, "cell", "(LCutRows;III[J)I"⟩
abbrev cL_count : ByteArray := method_4_code
def yL_count : MethodName := ⟨RL, "count", "(LCutRows;I[J)I"⟩
abbrev cL_law : ByteArray := code
def yL_law : MethodName := ⟨RL, "law", "([I)Z"⟩
def wsX0_init : List Cond := .code yX0_init cX0_init 4 none :: ([.methodLink RX0 3 objectInit, .instanceMethod objectInit, .code objectInit ⟨#[0xb1]⟩ 1 none, .fieldLink RX0 9 "CutRows$Arena" "width" "I", .fieldLink RX0 15 "CutRows$Arena" "maxRows" "I", .arrayClass .int, .fieldLink RX0 18 "CutRows$Arena" "cells" "[I", .fieldLink RX0 22 "CutRows$Arena" "starts" "[I"] ++ wsX00)
def wsX0_cellsLeft : List Cond := .code yX0_cellsLeft cX0_cellsLeft 1 (some .int) :: ([.fieldLink RX0 18 "CutRows$Arena" "cells" "[I", .fieldLink RX0 25 "CutRows$Arena" "used" "I"] ++ wsX00)
def wsX0_has : List Cond := .code yX0_has cX0_has 2 (some .boolean) :: ([.fieldLink RX0 28 "CutRows$Arena" "rows" "I"] ++ wsX00)
def wsX0_isFull : List Cond := .code yX0_isFull cX0_isFull 1 (some .boolean) :: ([.fieldLink RX0 28 "CutRows$Arena" "rows" "I", .fieldLink RX0 15 "CutRows$Arena" "maxRows" "I"] ++ wsX00)
def wsJ6_signum_0f7a4 : List Cond := .code yJ6_signum_0f7a4 cJ6_signum_0f7a4 1 (some .int) :: ([])
def wsX0_signOf : List Cond := .code yX0_signOf cX0_signOf 3 (some .int) :: ([.fieldLink RX0 18 "CutRows$Arena" "cells" "[I", .fieldLink RX0 22 "CutRows$Arena" "starts" "[I", .fieldLink RX0 9 "CutRows$Arena" "width" "I", .methodLink RX0 31 yJ6_signum_0f7a4, .static yJ6_signum_0f7a4, .initialized RJ6, .code yJ6_signum_0f7a4 cJ6_signum_0f7a4 1 (some .int)] ++ wsX00)
def wsX0_sizeOf : List Cond := .code yX0_sizeOf cX0_sizeOf 3 (some .int) :: ([.fieldLink RX0 18 "CutRows$Arena" "cells" "[I", .fieldLink RX0 22 "CutRows$Arena" "starts" "[I", .fieldLink RX0 9 "CutRows$Arena" "width" "I", .methodLink RX0 37 Lib.Math.abs.name, .static Lib.Math.abs.name, .initialized "java/lang/Math", .code Lib.Math.abs.name Lib.Math.abs.code 1 (some .int)] ++ wsX00)
def wsX0_digitOf : List Cond := .code yX0_digitOf cX0_digitOf 4 (some .int) :: ([.fieldLink RX0 18 "CutRows$Arena" "cells" "[I", .fieldLink RX0 22 "CutRows$Arena" "starts" "[I", .fieldLink RX0 9 "CutRows$Arena" "width" "I", .methodLink RX0 42 yX0_sizeOf, .instanceMethod yX0_sizeOf, .selects RX0 yX0_sizeOf yX0_sizeOf, .initialized RX0, .code yX0_sizeOf cX0_sizeOf 3 (some .int), .methodLink RX0 37 Lib.Math.abs.name, .static Lib.Math.abs.name, .initialized "java/lang/Math", .code Lib.Math.abs.name Lib.Math.abs.code 1 (some .int)] ++ wsX00)
def wsX0_load_r1 : List Cond := [Cond.fieldLink RX0 18 "CutRows$Arena" "cells" "[I", Cond.fieldLink RX0 22 "CutRows$Arena" "starts" "[I", Cond.fieldLink RX0 9 "CutRows$Arena" "width" "I", Cond.fieldLink RX0 46 "CutRows$Whole" "limbs" "[I", Cond.methodLink RX0 51 arraycopyName, Cond.native arraycopyName, Cond.static arraycopyName, Cond.initialized "java/lang/System", Cond.fieldLink RX0 57 "CutRows$Whole" "size" "I", Cond.fieldLink RX0 63 "CutRows$Whole" "sign" "I", Cond.methodLink RX0 42 yX0_sizeOf, Cond.instanceMethod yX0_sizeOf, Cond.selects RX0 yX0_sizeOf yX0_sizeOf, Cond.initialized RX0, Cond.code yX0_sizeOf cX0_sizeOf 3 (some .int), Cond.methodLink RX0 37 Lib.Math.abs.name, Cond.static Lib.Math.abs.name, Cond.initialized "java/lang/Math", Cond.code Lib.Math.abs.name Lib.Math.abs.code 1 (some .int), Cond.methodLink RX0 60 yX0_signOf, Cond.instanceMethod yX0_signOf, Cond.selects RX0 yX0_signOf yX0_signOf, Cond.code yX0_signOf cX0_signOf 3 (some .int), Cond.methodLink RX0 31 yJ6_signum_0f7a4]
def wsX0_load_r2 : List Cond := [Cond.static yJ6_signum_0f7a4, Cond.initialized RJ6, Cond.code yJ6_signum_0f7a4 cJ6_signum_0f7a4 1 (some .int)]
def wsX0_load : List Cond := .code yX0_load cX0_load 5 none :: ((wsX0_load_r1 ++ wsX0_load_r2) ++ wsX00 ++ wsX30)
def wsX0_cellsFor : List Cond := .code yX0_cellsFor cX0_cellsFor 4 (some .int) :: ([.fieldLink RX0 9 "CutRows$Arena" "width" "I", .fieldLink RX0 57 "CutRows$Whole" "size" "I"] ++ wsX00 ++ wsX30)
def wsX0_append : List Cond := .code yX0_append cX0_append 2 none :: ([.fieldLink RX0 18 "CutRows$Arena" "cells" "[I", .fieldLink RX0 25 "CutRows$Arena" "used" "I", .fieldLink RX0 63 "CutRows$Whole" "sign" "I", .fieldLink RX0 57 "CutRows$Whole" "size" "I", .fieldLink RX0 46 "CutRows$Whole" "limbs" "[I", .methodLink RX0 51 arraycopyName, .native arraycopyName, .static arraycopyName, .initialized "java/lang/System"] ++ wsX00 ++ wsX30)
def wsX0_keep_r1 : List Cond := [Cond.fieldLink RX0 9 "CutRows$Arena" "width" "I", Cond.fieldLink RX0 22 "CutRows$Arena" "starts" "[I", Cond.fieldLink RX0 28 "CutRows$Arena" "rows" "I", Cond.fieldLink RX0 25 "CutRows$Arena" "used" "I", Cond.methodLink RX0 66 yX0_isFull, Cond.instanceMethod yX0_isFull, Cond.selects RX0 yX0_isFull yX0_isFull, Cond.initialized RX0, Cond.code yX0_isFull cX0_isFull 1 (some .boolean), Cond.fieldLink RX0 15 "CutRows$Arena" "maxRows" "I", Cond.methodLink RX0 70 yX0_cellsFor, Cond.instanceMethod yX0_cellsFor, Cond.selects RX0 yX0_cellsFor yX0_cellsFor, Cond.code yX0_cellsFor cX0_cellsFor 4 (some .int), Cond.fieldLink RX0 57 "CutRows$Whole" "size" "I", Cond.methodLink RX0 74 yX0_cellsLeft, Cond.instanceMethod yX0_cellsLeft, Cond.selects RX0 yX0_cellsLeft yX0_cellsLeft, Cond.code yX0_cellsLeft cX0_cellsLeft 1 (some .int), Cond.fieldLink RX0 18 "CutRows$Arena" "cells" "[I", Cond.methodLink RX0 78 yX0_append, Cond.instanceMethod yX0_append, Cond.selects RX0 yX0_append yX0_append, Cond.code yX0_append cX0_append 2 none]
def wsX0_keep_r2 : List Cond := [Cond.fieldLink RX0 63 "CutRows$Whole" "sign" "I", Cond.fieldLink RX0 46 "CutRows$Whole" "limbs" "[I", Cond.methodLink RX0 51 arraycopyName, Cond.native arraycopyName, Cond.static arraycopyName, Cond.initialized "java/lang/System"]
def wsX0_keep : List Cond := .code yX0_keep cX0_keep 3 (some .int) :: ((wsX0_keep_r1 ++ wsX0_keep_r2) ++ wsX00 ++ wsX30)
def wsX3_init : List Cond := .code yX3_init cX3_init 2 none :: ([.methodLink RX3 3 objectInit, .instanceMethod objectInit, .code objectInit ⟨#[0xb1]⟩ 1 none, .arrayClass .int, .fieldLink RX3 9 "CutRows$Whole" "limbs" "[I"] ++ wsX30)
def wsX1_init : List Cond := .code yX1_init cX1_init 1 none :: ([.methodLink RX1 3 objectInit, .instanceMethod objectInit, .code objectInit ⟨#[0xb1]⟩ 1 none, .classLink RX1 9 RX3, .instantiable RX3 3, .initialized RX3, .fieldLink RX1 14 "CutRows$Divider" "greatest" "LCutRows$Whole;", .fieldLink RX1 20 "CutRows$Divider" "quotient" "LCutRows$Whole;", .fieldLink RX1 23 "CutRows$Divider" "remainder" "LCutRows$Whole;", .arrayClass .int, .fieldLink RX1 26 "CutRows$Divider" "top" "[I", .fieldLink RX1 30 "CutRows$Divider" "bottom" "[I", .methodLink RX1 11 yX3_init, .instanceMethod yX3_init, .code yX3_init cX3_init 2 none, .methodLink RX3 3 objectInit, .fieldLink RX3 9 "CutRows$Whole" "limbs" "[I"] ++ wsX30 ++ wsX10)
def wsJ6_compare_7cf53 : List Cond := .code yJ6_compare_7cf53 cJ6_compare_7cf53 2 (some .int) :: ([])
def wsX3_compareSize : List Cond := .code yX3_compareSize cX3_compareSize 3 (some .int) :: ([.fieldLink RX3 15 "CutRows$Whole" "size" "I", .fieldLink RX3 9 "CutRows$Whole" "limbs" "[I", .methodLink RX3 28 yJ6_compare_7cf53, .static yJ6_compare_7cf53, .initialized RJ6, .code yJ6_compare_7cf53 cJ6_compare_7cf53 2 (some .int)] ++ wsX30)
def wsX3_setZero : List Cond := .code yX3_setZero cX3_setZero 1 none :: ([.fieldLink RX3 15 "CutRows$Whole" "size" "I", .fieldLink RX3 19 "CutRows$Whole" "sign" "I"] ++ wsX30)
def wsX3_copyFrom : List Cond := .code yX3_copyFrom cX3_copyFrom 2 none :: ([.fieldLink RX3 9 "CutRows$Whole" "limbs" "[I", .fieldLink RX3 15 "CutRows$Whole" "size" "I", .methodLink RX3 22 arraycopyName, .native arraycopyName, .static arraycopyName, .initialized "java/lang/System", .fieldLink RX3 19 "CutRows$Whole" "sign" "I"] ++ wsX30)
def wsX3_settle : List Cond := .code yX3_settle cX3_settle 3 none :: ([.fieldLink RX3 15 "CutRows$Whole" "size" "I", .fieldLink RX3 9 "CutRows$Whole" "limbs" "[I", .fieldLink RX3 19 "CutRows$Whole" "sign" "I"] ++ wsX30)
def wsX1_divideByDigit : List Cond := .code yX1_divideByDigit cX1_divideByDigit 6 none :: ([.fieldLink RX1 34 "CutRows$Whole" "size" "I", .fieldLink RX1 59 "CutRows$Whole" "limbs" "[I", .fieldLink RX1 20 "CutRows$Divider" "quotient" "LCutRows$Whole;", .fieldLink RX1 23 "CutRows$Divider" "remainder" "LCutRows$Whole;", .methodLink RX1 69 yX3_settle, .instanceMethod yX3_settle, .selects RX3 yX3_settle yX3_settle, .initialized RX3, .code yX3_settle cX3_settle 3 none, .fieldLink RX3 15 "CutRows$Whole" "size" "I", .fieldLink RX3 9 "CutRows$Whole" "limbs" "[I", .fieldLink RX3 19 "CutRows$Whole" "sign" "I"] ++ wsX30 ++ wsX10)
def wsJ6_numberOfLeadingZeros_0f7a4 : List Cond := .code yJ6_numberOfLeadingZeros_0f7a4 cJ6_numberOfLeadingZeros_0f7a4 2 (some .int) :: ([.constant RJ6 264 (65536)])
def wsX1_shiftUp : List Cond := .code yX1_shiftUp cX1_shiftUp 6 (some .int) :: ([.fieldLink RX1 34 "CutRows$Whole" "size" "I", .fieldLink RX1 59 "CutRows$Whole" "limbs" "[I", .constant RX1 91 (2147483647)] ++ wsX30)
def wsX1_guessDigit : List Cond := .code yX1_guessDigit cX1_guessDigit 16 (some .long) :: ([.fieldLink RX1 26 "CutRows$Divider" "top" "[I", .fieldLink RX1 30 "CutRows$Divider" "bottom" "[I", .constantLong RX1 92 (2147483647)] ++ wsX10)
def wsX1_putBack : List Cond := .code yX1_putBack cX1_putBack 6 none :: ([.fieldLink RX1 26 "CutRows$Divider" "top" "[I", .fieldLink RX1 30 "CutRows$Divider" "bottom" "[I", .constant RX1 91 (2147483647)] ++ wsX10)
def wsX1_takeOut : List Cond := .code yX1_takeOut cX1_takeOut 9 (some .int) :: ([.fieldLink RX1 30 "CutRows$Divider" "bottom" "[I", .fieldLink RX1 26 "CutRows$Divider" "top" "[I", .constant RX1 91 (2147483647), .methodLink RX1 94 yX1_putBack, .instanceMethod yX1_putBack, .selects RX1 yX1_putBack yX1_putBack, .initialized RX1, .code yX1_putBack cX1_putBack 6 none] ++ wsX10)
def wsX1_divideByMany_r1 : List Cond := [Cond.fieldLink RX1 34 "CutRows$Whole" "size" "I", Cond.fieldLink RX1 59 "CutRows$Whole" "limbs" "[I", Cond.fieldLink RX1 30 "CutRows$Divider" "bottom" "[I", Cond.fieldLink RX1 26 "CutRows$Divider" "top" "[I", Cond.fieldLink RX1 20 "CutRows$Divider" "quotient" "LCutRows$Whole;", Cond.fieldLink RX1 23 "CutRows$Divider" "remainder" "LCutRows$Whole;", Cond.constant RX1 91 (2147483647), Cond.methodLink RX1 73 yJ6_numberOfLeadingZeros_0f7a4, Cond.static yJ6_numberOfLeadingZeros_0f7a4, Cond.initialized RJ6, Cond.code yJ6_numberOfLeadingZeros_0f7a4 cJ6_numberOfLeadingZeros_0f7a4 2 (some .int), Cond.constant RJ6 264 (65536), Cond.methodLink RX1 79 yX1_shiftUp, Cond.static yX1_shiftUp, Cond.initialized RX1, Cond.code yX1_shiftUp cX1_shiftUp 6 (some .int), Cond.methodLink RX1 83 yX1_guessDigit, Cond.instanceMethod yX1_guessDigit, Cond.selects RX1 yX1_guessDigit yX1_guessDigit, Cond.code yX1_guessDigit cX1_guessDigit 16 (some .long), Cond.constantLong RX1 92 (2147483647), Cond.methodLink RX1 87 yX1_takeOut, Cond.instanceMethod yX1_takeOut, Cond.selects RX1 yX1_takeOut yX1_takeOut]
def wsX1_divideByMany_r2 : List Cond := [Cond.code yX1_takeOut cX1_takeOut 9 (some .int), Cond.methodLink RX1 94 yX1_putBack, Cond.instanceMethod yX1_putBack, Cond.selects RX1 yX1_putBack yX1_putBack, Cond.code yX1_putBack cX1_putBack 6 none, Cond.methodLink RX1 69 yX3_settle, Cond.instanceMethod yX3_settle, Cond.selects RX3 yX3_settle yX3_settle, Cond.initialized RX3, Cond.code yX3_settle cX3_settle 3 none, Cond.fieldLink RX3 15 "CutRows$Whole" "size" "I", Cond.fieldLink RX3 9 "CutRows$Whole" "limbs" "[I", Cond.fieldLink RX3 19 "CutRows$Whole" "sign" "I"]
def wsX1_divideByMany : List Cond := .code yX1_divideByMany cX1_divideByMany 8 none :: ((wsX1_divideByMany_r1 ++ wsX1_divideByMany_r2) ++ wsX30 ++ wsX10)
def wsX1_divide_r1 : List Cond := [Cond.fieldLink RX1 34 "CutRows$Whole" "size" "I", Cond.fieldLink RX1 20 "CutRows$Divider" "quotient" "LCutRows$Whole;", Cond.fieldLink RX1 23 "CutRows$Divider" "remainder" "LCutRows$Whole;", Cond.fieldLink RX1 59 "CutRows$Whole" "limbs" "[I", Cond.methodLink RX1 52 yX3_compareSize, Cond.instanceMethod yX3_compareSize, Cond.selects RX3 yX3_compareSize yX3_compareSize, Cond.initialized RX3, Cond.code yX3_compareSize cX3_compareSize 3 (some .int), Cond.fieldLink RX3 15 "CutRows$Whole" "size" "I", Cond.fieldLink RX3 9 "CutRows$Whole" "limbs" "[I", Cond.methodLink RX3 28 yJ6_compare_7cf53, Cond.static yJ6_compare_7cf53, Cond.initialized RJ6, Cond.code yJ6_compare_7cf53 cJ6_compare_7cf53 2 (some .int), Cond.methodLink RX1 56 yX3_setZero, Cond.instanceMethod yX3_setZero, Cond.selects RX3 yX3_setZero yX3_setZero, Cond.code yX3_setZero cX3_setZero 1 none, Cond.fieldLink RX3 19 "CutRows$Whole" "sign" "I", Cond.methodLink RX1 42 yX3_copyFrom, Cond.instanceMethod yX3_copyFrom, Cond.selects RX3 yX3_copyFrom yX3_copyFrom, Cond.code yX3_copyFrom cX3_copyFrom 2 none]
def wsX1_divide_r2 : List Cond := [Cond.methodLink RX3 22 arraycopyName, Cond.native arraycopyName, Cond.static arraycopyName, Cond.initialized "java/lang/System", Cond.methodLink RX1 62 yX1_divideByDigit, Cond.instanceMethod yX1_divideByDigit, Cond.selects RX1 yX1_divideByDigit yX1_divideByDigit, Cond.initialized RX1, Cond.code yX1_divideByDigit cX1_divideByDigit 6 none, Cond.methodLink RX1 69 yX3_settle, Cond.instanceMethod yX3_settle, Cond.selects RX3 yX3_settle yX3_settle, Cond.code yX3_settle cX3_settle 3 none, Cond.methodLink RX1 66 yX1_divideByMany, Cond.instanceMethod yX1_divideByMany, Cond.selects RX1 yX1_divideByMany yX1_divideByMany, Cond.code yX1_divideByMany cX1_divideByMany 8 none, Cond.fieldLink RX1 30 "CutRows$Divider" "bottom" "[I", Cond.fieldLink RX1 26 "CutRows$Divider" "top" "[I", Cond.constant RX1 91 (2147483647), Cond.methodLink RX1 73 yJ6_numberOfLeadingZeros_0f7a4, Cond.static yJ6_numberOfLeadingZeros_0f7a4, Cond.code yJ6_numberOfLeadingZeros_0f7a4 cJ6_numberOfLeadingZeros_0f7a4 2 (some .int), Cond.constant RJ6 264 (65536)]
def wsX1_divide_r3 : List Cond := [Cond.methodLink RX1 79 yX1_shiftUp, Cond.static yX1_shiftUp, Cond.code yX1_shiftUp cX1_shiftUp 6 (some .int), Cond.methodLink RX1 83 yX1_guessDigit, Cond.instanceMethod yX1_guessDigit, Cond.selects RX1 yX1_guessDigit yX1_guessDigit, Cond.code yX1_guessDigit cX1_guessDigit 16 (some .long), Cond.constantLong RX1 92 (2147483647), Cond.methodLink RX1 87 yX1_takeOut, Cond.instanceMethod yX1_takeOut, Cond.selects RX1 yX1_takeOut yX1_takeOut, Cond.code yX1_takeOut cX1_takeOut 9 (some .int), Cond.methodLink RX1 94 yX1_putBack, Cond.instanceMethod yX1_putBack, Cond.selects RX1 yX1_putBack yX1_putBack, Cond.code yX1_putBack cX1_putBack 6 none]
def wsX1_divide : List Cond := .code yX1_divide cX1_divide 3 none :: ((wsX1_divide_r1 ++ (wsX1_divide_r2 ++ wsX1_divide_r3)) ++ wsX30 ++ wsX10)
def wsX1_narrowGreatest_r1 : List Cond := [Cond.constant RX1 33 (1000000), Cond.fieldLink RX1 34 "CutRows$Whole" "size" "I", Cond.fieldLink RX1 14 "CutRows$Divider" "greatest" "LCutRows$Whole;", Cond.fieldLink RX1 23 "CutRows$Divider" "remainder" "LCutRows$Whole;", Cond.methodLink RX1 38 yX1_divide, Cond.instanceMethod yX1_divide, Cond.selects RX1 yX1_divide yX1_divide, Cond.initialized RX1, Cond.code yX1_divide cX1_divide 3 none, Cond.fieldLink RX1 20 "CutRows$Divider" "quotient" "LCutRows$Whole;", Cond.fieldLink RX1 59 "CutRows$Whole" "limbs" "[I", Cond.methodLink RX1 52 yX3_compareSize, Cond.instanceMethod yX3_compareSize, Cond.selects RX3 yX3_compareSize yX3_compareSize, Cond.initialized RX3, Cond.code yX3_compareSize cX3_compareSize 3 (some .int), Cond.fieldLink RX3 15 "CutRows$Whole" "size" "I", Cond.fieldLink RX3 9 "CutRows$Whole" "limbs" "[I", Cond.methodLink RX3 28 yJ6_compare_7cf53, Cond.static yJ6_compare_7cf53, Cond.initialized RJ6, Cond.code yJ6_compare_7cf53 cJ6_compare_7cf53 2 (some .int), Cond.methodLink RX1 56 yX3_setZero, Cond.instanceMethod yX3_setZero]
def wsX1_narrowGreatest_r2 : List Cond := [Cond.selects RX3 yX3_setZero yX3_setZero, Cond.code yX3_setZero cX3_setZero 1 none, Cond.fieldLink RX3 19 "CutRows$Whole" "sign" "I", Cond.methodLink RX1 42 yX3_copyFrom, Cond.instanceMethod yX3_copyFrom, Cond.selects RX3 yX3_copyFrom yX3_copyFrom, Cond.code yX3_copyFrom cX3_copyFrom 2 none, Cond.methodLink RX3 22 arraycopyName, Cond.native arraycopyName, Cond.static arraycopyName, Cond.initialized "java/lang/System", Cond.methodLink RX1 62 yX1_divideByDigit, Cond.instanceMethod yX1_divideByDigit, Cond.selects RX1 yX1_divideByDigit yX1_divideByDigit, Cond.code yX1_divideByDigit cX1_divideByDigit 6 none, Cond.methodLink RX1 69 yX3_settle, Cond.instanceMethod yX3_settle, Cond.selects RX3 yX3_settle yX3_settle, Cond.code yX3_settle cX3_settle 3 none, Cond.methodLink RX1 66 yX1_divideByMany, Cond.instanceMethod yX1_divideByMany, Cond.selects RX1 yX1_divideByMany yX1_divideByMany, Cond.code yX1_divideByMany cX1_divideByMany 8 none, Cond.fieldLink RX1 30 "CutRows$Divider" "bottom" "[I"]
def wsX1_narrowGreatest_r3 : List Cond := [Cond.fieldLink RX1 26 "CutRows$Divider" "top" "[I", Cond.constant RX1 91 (2147483647), Cond.methodLink RX1 73 yJ6_numberOfLeadingZeros_0f7a4, Cond.static yJ6_numberOfLeadingZeros_0f7a4, Cond.code yJ6_numberOfLeadingZeros_0f7a4 cJ6_numberOfLeadingZeros_0f7a4 2 (some .int), Cond.constant RJ6 264 (65536), Cond.methodLink RX1 79 yX1_shiftUp, Cond.static yX1_shiftUp, Cond.code yX1_shiftUp cX1_shiftUp 6 (some .int), Cond.methodLink RX1 83 yX1_guessDigit, Cond.instanceMethod yX1_guessDigit, Cond.selects RX1 yX1_guessDigit yX1_guessDigit, Cond.code yX1_guessDigit cX1_guessDigit 16 (some .long), Cond.constantLong RX1 92 (2147483647), Cond.methodLink RX1 87 yX1_takeOut, Cond.instanceMethod yX1_takeOut, Cond.selects RX1 yX1_takeOut yX1_takeOut, Cond.code yX1_takeOut cX1_takeOut 9 (some .int), Cond.methodLink RX1 94 yX1_putBack, Cond.instanceMethod yX1_putBack, Cond.selects RX1 yX1_putBack yX1_putBack, Cond.code yX1_putBack cX1_putBack 6 none]
def wsX1_narrowGreatest : List Cond := .code yX1_narrowGreatest cX1_narrowGreatest 3 none :: ((wsX1_narrowGreatest_r1 ++ (wsX1_narrowGreatest_r2 ++ wsX1_narrowGreatest_r3)) ++ wsX30 ++ wsX10)
def wsX3_digit : List Cond := .code yX3_digit cX3_digit 2 (some .int) :: ([.fieldLink RX3 15 "CutRows$Whole" "size" "I", .fieldLink RX3 9 "CutRows$Whole" "limbs" "[I"] ++ wsX30)
def wsX3_growByOne : List Cond := .code yX3_growByOne cX3_growByOne 3 none :: ([.fieldLink RX3 15 "CutRows$Whole" "size" "I", .fieldLink RX3 9 "CutRows$Whole" "limbs" "[I", .constant RX3 48 (2147483647), .methodLink RX3 61 Lib.Math.max.name, .static Lib.Math.max.name, .initialized "java/lang/Math", .code Lib.Math.max.name Lib.Math.max.code 2 (some .int), .methodLink RX3 66 yX3_digit, .instanceMethod yX3_digit, .selects RX3 yX3_digit yX3_digit, .initialized RX3, .code yX3_digit cX3_digit 2 (some .int), .methodLink RX3 44 yX3_settle, .instanceMethod yX3_settle, .selects RX3 yX3_settle yX3_settle, .code yX3_settle cX3_settle 3 none, .fieldLink RX3 19 "CutRows$Whole" "sign" "I"] ++ wsX30)
def wsX1_floorByGreatest_r1 : List Cond := [Cond.fieldLink RX1 14 "CutRows$Divider" "greatest" "LCutRows$Whole;", Cond.fieldLink RX1 20 "CutRows$Divider" "quotient" "LCutRows$Whole;", Cond.fieldLink RX1 34 "CutRows$Whole" "size" "I", Cond.fieldLink RX1 46 "CutRows$Whole" "sign" "I", Cond.fieldLink RX1 23 "CutRows$Divider" "remainder" "LCutRows$Whole;", Cond.methodLink RX1 38 yX1_divide, Cond.instanceMethod yX1_divide, Cond.selects RX1 yX1_divide yX1_divide, Cond.initialized RX1, Cond.code yX1_divide cX1_divide 3 none, Cond.fieldLink RX1 59 "CutRows$Whole" "limbs" "[I", Cond.methodLink RX1 52 yX3_compareSize, Cond.instanceMethod yX3_compareSize, Cond.selects RX3 yX3_compareSize yX3_compareSize, Cond.initialized RX3, Cond.code yX3_compareSize cX3_compareSize 3 (some .int), Cond.fieldLink RX3 15 "CutRows$Whole" "size" "I", Cond.fieldLink RX3 9 "CutRows$Whole" "limbs" "[I", Cond.methodLink RX3 28 yJ6_compare_7cf53, Cond.static yJ6_compare_7cf53, Cond.initialized RJ6, Cond.code yJ6_compare_7cf53 cJ6_compare_7cf53 2 (some .int), Cond.methodLink RX1 56 yX3_setZero, Cond.instanceMethod yX3_setZero]
def wsX1_floorByGreatest_r2 : List Cond := [Cond.selects RX3 yX3_setZero yX3_setZero, Cond.code yX3_setZero cX3_setZero 1 none, Cond.fieldLink RX3 19 "CutRows$Whole" "sign" "I", Cond.methodLink RX1 42 yX3_copyFrom, Cond.instanceMethod yX3_copyFrom, Cond.selects RX3 yX3_copyFrom yX3_copyFrom, Cond.code yX3_copyFrom cX3_copyFrom 2 none, Cond.methodLink RX3 22 arraycopyName, Cond.native arraycopyName, Cond.static arraycopyName, Cond.initialized "java/lang/System", Cond.methodLink RX1 62 yX1_divideByDigit, Cond.instanceMethod yX1_divideByDigit, Cond.selects RX1 yX1_divideByDigit yX1_divideByDigit, Cond.code yX1_divideByDigit cX1_divideByDigit 6 none, Cond.methodLink RX1 69 yX3_settle, Cond.instanceMethod yX3_settle, Cond.selects RX3 yX3_settle yX3_settle, Cond.code yX3_settle cX3_settle 3 none, Cond.methodLink RX1 66 yX1_divideByMany, Cond.instanceMethod yX1_divideByMany, Cond.selects RX1 yX1_divideByMany yX1_divideByMany, Cond.code yX1_divideByMany cX1_divideByMany 8 none, Cond.fieldLink RX1 30 "CutRows$Divider" "bottom" "[I"]
def wsX1_floorByGreatest_r3 : List Cond := [Cond.fieldLink RX1 26 "CutRows$Divider" "top" "[I", Cond.constant RX1 91 (2147483647), Cond.methodLink RX1 73 yJ6_numberOfLeadingZeros_0f7a4, Cond.static yJ6_numberOfLeadingZeros_0f7a4, Cond.code yJ6_numberOfLeadingZeros_0f7a4 cJ6_numberOfLeadingZeros_0f7a4 2 (some .int), Cond.constant RJ6 264 (65536), Cond.methodLink RX1 79 yX1_shiftUp, Cond.static yX1_shiftUp, Cond.code yX1_shiftUp cX1_shiftUp 6 (some .int), Cond.methodLink RX1 83 yX1_guessDigit, Cond.instanceMethod yX1_guessDigit, Cond.selects RX1 yX1_guessDigit yX1_guessDigit, Cond.code yX1_guessDigit cX1_guessDigit 16 (some .long), Cond.constantLong RX1 92 (2147483647), Cond.methodLink RX1 87 yX1_takeOut, Cond.instanceMethod yX1_takeOut, Cond.selects RX1 yX1_takeOut yX1_takeOut, Cond.code yX1_takeOut cX1_takeOut 9 (some .int), Cond.methodLink RX1 94 yX1_putBack, Cond.instanceMethod yX1_putBack, Cond.selects RX1 yX1_putBack yX1_putBack, Cond.code yX1_putBack cX1_putBack 6 none, Cond.methodLink RX1 49 yX3_growByOne, Cond.instanceMethod yX3_growByOne]
def wsX1_floorByGreatest_r4 : List Cond := [Cond.selects RX3 yX3_growByOne yX3_growByOne, Cond.code yX3_growByOne cX3_growByOne 3 none, Cond.constant RX3 48 (2147483647), Cond.methodLink RX3 61 Lib.Math.max.name, Cond.static Lib.Math.max.name, Cond.initialized "java/lang/Math", Cond.code Lib.Math.max.name Lib.Math.max.code 2 (some .int), Cond.methodLink RX3 66 yX3_digit, Cond.instanceMethod yX3_digit, Cond.selects RX3 yX3_digit yX3_digit, Cond.code yX3_digit cX3_digit 2 (some .int), Cond.methodLink RX3 44 yX3_settle]
def wsX1_floorByGreatest : List Cond := .code yX1_floorByGreatest cX1_floorByGreatest 3 none :: ((wsX1_floorByGreatest_r1 ++ (wsX1_floorByGreatest_r2 ++ (wsX1_floorByGreatest_r3 ++ wsX1_floorByGreatest_r4))) ++ wsX10 ++ wsX30)
def wsX2_init : List Cond := .code yX2_init cX2_init 1 none :: ([.methodLink RX2 3 objectInit, .instanceMethod objectInit, .code objectInit ⟨#[0xb1]⟩ 1 none, .classLink RX2 9 RX3, .instantiable RX3 3, .initialized RX3, .fieldLink RX2 14 "CutRows$Register" "number" "LCutRows$Whole;", .fieldLink RX2 20 "CutRows$Register" "state" "I", .methodLink RX2 11 yX3_init, .instanceMethod yX3_init, .code yX3_init cX3_init 2 none, .methodLink RX3 3 objectInit, .arrayClass .int, .fieldLink RX3 9 "CutRows$Whole" "limbs" "[I"] ++ wsX30 ++ wsX20)
def wsX2_open : List Cond := .code yX2_open cX2_open 2 none :: ([.fieldLink RX2 14 "CutRows$Register" "number" "LCutRows$Whole;", .fieldLink RX2 27 "CutRows$Register" "givenSign" "I", .fieldLink RX2 30 "CutRows$Register" "fed" "I", .fieldLink RX2 20 "CutRows$Register" "state" "I", .methodLink RX2 24 yX3_setZero, .instanceMethod yX3_setZero, .selects RX3 yX3_setZero yX3_setZero, .initialized RX3, .code yX3_setZero cX3_setZero 1 none, .fieldLink RX3 15 "CutRows$Whole" "size" "I", .fieldLink RX3 19 "CutRows$Whole" "sign" "I"] ++ wsX20 ++ wsX30)
def wsX2_takesMore : List Cond := .code yX2_takesMore cX2_takesMore 1 (some .boolean) :: ([.fieldLink RX2 20 "CutRows$Register" "state" "I", .fieldLink RX2 30 "CutRows$Register" "fed" "I"] ++ wsX20)
def wsX2_append : List Cond := .code yX2_append cX2_append 2 none :: ([.fieldLink RX2 14 "CutRows$Register" "number" "LCutRows$Whole;", .fieldLink RX2 33 "CutRows$Whole" "limbs" "[I", .fieldLink RX2 30 "CutRows$Register" "fed" "I", .fieldLink RX2 27 "CutRows$Register" "givenSign" "I", .fieldLink RX2 37 "CutRows$Whole" "size" "I", .fieldLink RX2 40 "CutRows$Whole" "sign" "I"] ++ wsX20 ++ wsX30)
def wsX2_hasNumber : List Cond := .code yX2_hasNumber cX2_hasNumber 1 (some .boolean) :: ([.fieldLink RX2 20 "CutRows$Register" "state" "I"] ++ wsX20)
def wsX2_finish : List Cond := .code yX2_finish cX2_finish 1 none :: ([.fieldLink RX2 20 "CutRows$Register" "state" "I"] ++ wsX20)
def wsJ7_rangeCheck_23922 : List Cond := .code yJ7_rangeCheck_23922 cJ7_rangeCheck_23922 3 none :: ([.classLink RJ7 45 RJ4, .instantiable RJ4 4, .initialized RJ4] ++ wsJ40)
def wsJ7_fill_fda19 : List Cond := .code yJ7_fill_fda19 cJ7_fill_fda19 5 none :: ([.methodLink RJ7 13 yJ7_rangeCheck_23922, .static yJ7_rangeCheck_23922, .initialized RJ7, .code yJ7_rangeCheck_23922 cJ7_rangeCheck_23922 3 none, .classLink RJ7 45 RJ4, .instantiable RJ4 4, .initialized RJ4] ++ wsJ40)
def wsX3_addTimes : List Cond := .code yX3_addTimes cX3_addTimes 8 none :: ([.fieldLink RX3 15 "CutRows$Whole" "size" "I", .fieldLink RX3 9 "CutRows$Whole" "limbs" "[I", .constant RX3 48 (2147483647)] ++ wsX30)
def wsX3_setProduct : List Cond := .code yX3_setProduct cX3_setProduct 4 none :: ([.fieldLink RX3 9 "CutRows$Whole" "limbs" "[I", .fieldLink RX3 15 "CutRows$Whole" "size" "I", .fieldLink RX3 19 "CutRows$Whole" "sign" "I", .methodLink RX3 34 yJ7_fill_fda19, .static yJ7_fill_fda19, .initialized RJ7, .code yJ7_fill_fda19 cJ7_fill_fda19 5 none, .methodLink RJ7 13 yJ7_rangeCheck_23922, .static yJ7_rangeCheck_23922, .code yJ7_rangeCheck_23922 cJ7_rangeCheck_23922 3 none, .classLink RJ7 45 RJ4, .instantiable RJ4 4, .initialized RJ4, .methodLink RX3 40 yX3_addTimes, .instanceMethod yX3_addTimes, .selects RX3 yX3_addTimes yX3_addTimes, .initialized RX3, .code yX3_addTimes cX3_addTimes 8 none, .constant RX3 48 (2147483647), .methodLink RX3 44 yX3_settle, .instanceMethod yX3_settle, .selects RX3 yX3_settle yX3_settle, .code yX3_settle cX3_settle 3 none] ++ wsX30 ++ wsJ40)
def wsX3_addLimbs : List Cond := .code yX3_addLimbs cX3_addLimbs 7 none :: ([.fieldLink RX3 15 "CutRows$Whole" "size" "I", .methodLink RX3 61 Lib.Math.max.name, .static Lib.Math.max.name, .initialized "java/lang/Math", .code Lib.Math.max.name Lib.Math.max.code 2 (some .int), .fieldLink RX3 9 "CutRows$Whole" "limbs" "[I", .constant RX3 48 (2147483647), .methodLink RX3 66 yX3_digit, .instanceMethod yX3_digit, .selects RX3 yX3_digit yX3_digit, .initialized RX3, .code yX3_digit cX3_digit 2 (some .int), .methodLink RX3 44 yX3_settle, .instanceMethod yX3_settle, .selects RX3 yX3_settle yX3_settle, .code yX3_settle cX3_settle 3 none, .fieldLink RX3 19 "CutRows$Whole" "sign" "I"] ++ wsX30)
def wsX3_setDifference : List Cond := .code yX3_setDifference cX3_setDifference 8 none :: ([.fieldLink RX3 15 "CutRows$Whole" "size" "I", .fieldLink RX3 9 "CutRows$Whole" "limbs" "[I", .constant RX3 48 (2147483647), .methodLink RX3 66 yX3_digit, .instanceMethod yX3_digit, .selects RX3 yX3_digit yX3_digit, .initialized RX3, .code yX3_digit cX3_digit 2 (some .int), .methodLink RX3 44 yX3_settle, .instanceMethod yX3_settle, .selects RX3 yX3_settle yX3_settle, .code yX3_settle cX3_settle 3 none, .fieldLink RX3 19 "CutRows$Whole" "sign" "I"] ++ wsX30)
def wsX3_add_r1 : List Cond := [Cond.fieldLink RX3 19 "CutRows$Whole" "sign" "I", Cond.methodLink RX3 49 yX3_addLimbs, Cond.instanceMethod yX3_addLimbs, Cond.selects RX3 yX3_addLimbs yX3_addLimbs, Cond.initialized RX3, Cond.code yX3_addLimbs cX3_addLimbs 7 none, Cond.fieldLink RX3 15 "CutRows$Whole" "size" "I", Cond.methodLink RX3 61 Lib.Math.max.name, Cond.static Lib.Math.max.name, Cond.initialized "java/lang/Math", Cond.code Lib.Math.max.name Lib.Math.max.code 2 (some .int), Cond.fieldLink RX3 9 "CutRows$Whole" "limbs" "[I", Cond.constant RX3 48 (2147483647), Cond.methodLink RX3 66 yX3_digit, Cond.instanceMethod yX3_digit, Cond.selects RX3 yX3_digit yX3_digit, Cond.code yX3_digit cX3_digit 2 (some .int), Cond.methodLink RX3 44 yX3_settle, Cond.instanceMethod yX3_settle, Cond.selects RX3 yX3_settle yX3_settle, Cond.code yX3_settle cX3_settle 3 none, Cond.methodLink RX3 53 yX3_compareSize, Cond.instanceMethod yX3_compareSize, Cond.selects RX3 yX3_compareSize yX3_compareSize]
def wsX3_add_r2 : List Cond := [Cond.code yX3_compareSize cX3_compareSize 3 (some .int), Cond.methodLink RX3 28 yJ6_compare_7cf53, Cond.static yJ6_compare_7cf53, Cond.initialized RJ6, Cond.code yJ6_compare_7cf53 cJ6_compare_7cf53 2 (some .int), Cond.methodLink RX3 57 yX3_setDifference, Cond.instanceMethod yX3_setDifference, Cond.selects RX3 yX3_setDifference yX3_setDifference, Cond.code yX3_setDifference cX3_setDifference 8 none]
def wsX3_add : List Cond := .code yX3_add cX3_add 2 none :: ((wsX3_add_r1 ++ wsX3_add_r2) ++ wsX30)
def wsX4_nearest : List Cond := .code yX4_nearest cX4_nearest 2 (some .int) :: ([.methodLink RX4 181 Lib.Math.min.name, .static Lib.Math.min.name, .initialized "java/lang/Math", .code Lib.Math.min.name Lib.Math.min.code 2 (some .int), .methodLink RX4 186 Lib.Math.max.name, .static Lib.Math.max.name, .code Lib.Math.max.name Lib.Math.max.code 2 (some .int)])
def wsX4_zeros : List Cond := .code yX4_zeros cX4_zeros 4 (some (.array (.object "CutRows$Whole"))) :: ([.classLink RX4 57 RX3, .instantiable RX3 3, .initialized RX3, .methodLink RX4 59 yX3_init, .instanceMethod yX3_init, .code yX3_init cX3_init 2 none, .methodLink RX3 3 objectInit, .instanceMethod objectInit, .code objectInit ⟨#[0xb1]⟩ 1 none, .arrayClass .int, .fieldLink RX3 9 "CutRows$Whole" "limbs" "[I"] ++ wsX30)
def wsX4_init_r1 : List Cond := [Cond.methodLink RX4 3 objectInit, Cond.instanceMethod objectInit, Cond.code objectInit ⟨#[0xb1]⟩ 1 none, Cond.fieldLink RX4 13 "CutRows" "vars" "I", Cond.classLink RX4 17 RX0, Cond.instantiable RX0 6, Cond.initialized RX0, Cond.fieldLink RX4 22 "CutRows" "arena" "LCutRows$Arena;", Cond.classLink RX4 26 RX2, Cond.instantiable RX2 4, Cond.initialized RX2, Cond.fieldLink RX4 29 "CutRows" "register" "LCutRows$Register;", Cond.fieldLink RX4 37 "CutRows" "vector" "[LCutRows$Whole;", Cond.fieldLink RX4 41 "CutRows" "point" "[LCutRows$Whole;", Cond.classLink RX4 44 RX1, Cond.instantiable RX1 5, Cond.initialized RX1, Cond.fieldLink RX4 47 "CutRows" "divider" "LCutRows$Divider;", Cond.fieldLink RX4 51 "CutRows" "sum" "[LCutRows$Whole;", Cond.fieldLink RX4 54 "CutRows" "draft" "[LCutRows$Whole;", Cond.classLink RX4 57 RX3, Cond.instantiable RX3 3, Cond.initialized RX3, Cond.fieldLink RX4 62 "CutRows" "factor" "LCutRows$Whole;"]
def wsX4_init_r2 : List Cond := [Cond.fieldLink RX4 66 "CutRows" "product" "LCutRows$Whole;", Cond.fieldLink RX4 69 "CutRows" "total" "LCutRows$Whole;", Cond.methodLink RX4 9 yX4_nearest, Cond.static yX4_nearest, Cond.initialized RX4, Cond.code yX4_nearest cX4_nearest 2 (some .int), Cond.methodLink RX4 181 Lib.Math.min.name, Cond.static Lib.Math.min.name, Cond.initialized "java/lang/Math", Cond.code Lib.Math.min.name Lib.Math.min.code 2 (some .int), Cond.methodLink RX4 186 Lib.Math.max.name, Cond.static Lib.Math.max.name, Cond.code Lib.Math.max.name Lib.Math.max.code 2 (some .int), Cond.methodLink RX4 19 yX0_init, Cond.instanceMethod yX0_init, Cond.code yX0_init cX0_init 4 none, Cond.methodLink RX0 3 objectInit, Cond.fieldLink RX0 9 "CutRows$Arena" "width" "I", Cond.fieldLink RX0 15 "CutRows$Arena" "maxRows" "I", Cond.arrayClass .int, Cond.fieldLink RX0 18 "CutRows$Arena" "cells" "[I", Cond.fieldLink RX0 22 "CutRows$Arena" "starts" "[I", Cond.instanceMethod yX2_init, Cond.code yX2_init cX2_init 1 none]
def wsX4_init_r3 : List Cond := [Cond.methodLink RX2 3 objectInit, Cond.classLink RX2 9 RX3, Cond.fieldLink RX2 14 "CutRows$Register" "number" "LCutRows$Whole;", Cond.fieldLink RX2 20 "CutRows$Register" "state" "I", Cond.methodLink RX2 11 yX3_init, Cond.instanceMethod yX3_init, Cond.code yX3_init cX3_init 2 none, Cond.methodLink RX3 3 objectInit, Cond.fieldLink RX3 9 "CutRows$Whole" "limbs" "[I", Cond.methodLink RX4 33 yX4_zeros, Cond.static yX4_zeros, Cond.code yX4_zeros cX4_zeros 4 (some (.array (.object "CutRows$Whole"))), Cond.methodLink RX4 59 yX3_init, Cond.instanceMethod yX1_init, Cond.code yX1_init cX1_init 1 none, Cond.methodLink RX1 3 objectInit, Cond.classLink RX1 9 RX3, Cond.fieldLink RX1 14 "CutRows$Divider" "greatest" "LCutRows$Whole;", Cond.fieldLink RX1 20 "CutRows$Divider" "quotient" "LCutRows$Whole;", Cond.fieldLink RX1 23 "CutRows$Divider" "remainder" "LCutRows$Whole;", Cond.fieldLink RX1 26 "CutRows$Divider" "top" "[I", Cond.fieldLink RX1 30 "CutRows$Divider" "bottom" "[I", Cond.methodLink RX1 11 yX3_init]
def wsX4_init : List Cond := .code yX4_init cX4_init 5 none :: ((wsX4_init_r1 ++ (wsX4_init_r2 ++ wsX4_init_r3)) ++ wsX40 ++ wsX00 ++ wsX20 ++ wsX10 ++ wsX30)
def wsX4_beginNumber : List Cond := .code yX4_beginNumber cX4_beginNumber 2 (some .boolean) :: ([.fieldLink RX4 29 "CutRows" "register" "LCutRows$Register;", .methodLink RX4 72 yX2_open, .instanceMethod yX2_open, .selects RX2 yX2_open yX2_open, .initialized RX2, .code yX2_open cX2_open 2 none, .fieldLink RX2 14 "CutRows$Register" "number" "LCutRows$Whole;", .fieldLink RX2 27 "CutRows$Register" "givenSign" "I", .fieldLink RX2 30 "CutRows$Register" "fed" "I", .fieldLink RX2 20 "CutRows$Register" "state" "I", .methodLink RX2 24 yX3_setZero, .instanceMethod yX3_setZero, .selects RX3 yX3_setZero yX3_setZero, .initialized RX3, .code yX3_setZero cX3_setZero 1 none, .fieldLink RX3 15 "CutRows$Whole" "size" "I", .fieldLink RX3 19 "CutRows$Whole" "sign" "I"] ++ wsX40 ++ wsX20 ++ wsX30)
def wsX4_limb : List Cond := .code yX4_limb cX4_limb 2 (some .boolean) :: ([.fieldLink RX4 29 "CutRows" "register" "LCutRows$Register;", .methodLink RX4 75 yX2_takesMore, .instanceMethod yX2_takesMore, .selects RX2 yX2_takesMore yX2_takesMore, .initialized RX2, .code yX2_takesMore cX2_takesMore 1 (some .boolean), .fieldLink RX2 20 "CutRows$Register" "state" "I", .fieldLink RX2 30 "CutRows$Register" "fed" "I", .methodLink RX4 79 yX2_append, .instanceMethod yX2_append, .selects RX2 yX2_append yX2_append, .code yX2_append cX2_append 2 none, .fieldLink RX2 14 "CutRows$Register" "number" "LCutRows$Whole;", .fieldLink RX2 33 "CutRows$Whole" "limbs" "[I", .fieldLink RX2 27 "CutRows$Register" "givenSign" "I", .fieldLink RX2 37 "CutRows$Whole" "size" "I", .fieldLink RX2 40 "CutRows$Whole" "sign" "I"] ++ wsX40 ++ wsX20 ++ wsX30)
def wsX4_endCoefficient : List Cond := .code yX4_endCoefficient cX4_endCoefficient 1 (some .boolean) :: ([.fieldLink RX4 29 "CutRows" "register" "LCutRows$Register;", .fieldLink RX4 82 "CutRows$Register" "state" "I", .fieldLink RX4 85 "CutRows" "vectorSize" "I", .fieldLink RX4 37 "CutRows" "vector" "[LCutRows$Whole;", .fieldLink RX4 88 "CutRows$Register" "number" "LCutRows$Whole;", .methodLink RX4 91 yX3_copyFrom, .instanceMethod yX3_copyFrom, .selects RX3 yX3_copyFrom yX3_copyFrom, .initialized RX3, .code yX3_copyFrom cX3_copyFrom 2 none, .fieldLink RX3 9 "CutRows$Whole" "limbs" "[I", .fieldLink RX3 15 "CutRows$Whole" "size" "I", .methodLink RX3 22 arraycopyName, .native arraycopyName, .static arraycopyName, .initialized "java/lang/System", .fieldLink RX3 19 "CutRows$Whole" "sign" "I", .methodLink RX4 95 yX2_finish, .instanceMethod yX2_finish, .selects RX2 yX2_finish yX2_finish, .initialized RX2, .code yX2_finish cX2_finish 1 none, .fieldLink RX2 20 "CutRows$Register" "state" "I"] ++ wsX40 ++ wsX20 ++ wsX30)
def wsX4_endConstraint_r1 : List Cond := [Cond.fieldLink RX4 85 "CutRows" "vectorSize" "I", Cond.fieldLink RX4 37 "CutRows" "vector" "[LCutRows$Whole;", Cond.fieldLink RX4 98 "CutRows" "sealed" "Z", Cond.fieldLink RX4 22 "CutRows" "arena" "LCutRows$Arena;", Cond.fieldLink RX4 106 "CutRows" "inputRows" "I", Cond.methodLink RX4 102 yX0_keep, Cond.instanceMethod yX0_keep, Cond.selects RX0 yX0_keep yX0_keep, Cond.initialized RX0, Cond.code yX0_keep cX0_keep 3 (some .int), Cond.fieldLink RX0 9 "CutRows$Arena" "width" "I", Cond.fieldLink RX0 22 "CutRows$Arena" "starts" "[I", Cond.fieldLink RX0 28 "CutRows$Arena" "rows" "I", Cond.fieldLink RX0 25 "CutRows$Arena" "used" "I", Cond.methodLink RX0 66 yX0_isFull, Cond.instanceMethod yX0_isFull, Cond.selects RX0 yX0_isFull yX0_isFull, Cond.code yX0_isFull cX0_isFull 1 (some .boolean), Cond.fieldLink RX0 15 "CutRows$Arena" "maxRows" "I", Cond.methodLink RX0 70 yX0_cellsFor, Cond.instanceMethod yX0_cellsFor, Cond.selects RX0 yX0_cellsFor yX0_cellsFor, Cond.code yX0_cellsFor cX0_cellsFor 4 (some .int), Cond.fieldLink RX0 57 "CutRows$Whole" "size" "I"]
def wsX4_endConstraint_r2 : List Cond := [Cond.methodLink RX0 74 yX0_cellsLeft, Cond.instanceMethod yX0_cellsLeft, Cond.selects RX0 yX0_cellsLeft yX0_cellsLeft, Cond.code yX0_cellsLeft cX0_cellsLeft 1 (some .int), Cond.fieldLink RX0 18 "CutRows$Arena" "cells" "[I", Cond.methodLink RX0 78 yX0_append, Cond.instanceMethod yX0_append, Cond.selects RX0 yX0_append yX0_append, Cond.code yX0_append cX0_append 2 none, Cond.fieldLink RX0 63 "CutRows$Whole" "sign" "I", Cond.fieldLink RX0 46 "CutRows$Whole" "limbs" "[I", Cond.methodLink RX0 51 arraycopyName, Cond.native arraycopyName, Cond.static arraycopyName, Cond.initialized "java/lang/System"]
def wsX4_endConstraint : List Cond := .code yX4_endConstraint cX4_endConstraint 3 (some .int) :: ((wsX4_endConstraint_r1 ++ wsX4_endConstraint_r2) ++ wsX40 ++ wsX00 ++ wsX30)
def wsX4_sealInput : List Cond := .code yX4_sealInput cX4_sealInput 2 (some .boolean) :: ([.fieldLink RX4 98 "CutRows" "sealed" "Z"] ++ wsX40)
def wsX4_setAllZero : List Cond := .code yX4_setAllZero cX4_setAllZero 2 none :: ([.methodLink RX4 189 yX3_setZero, .instanceMethod yX3_setZero, .selects RX3 yX3_setZero yX3_setZero, .initialized RX3, .code yX3_setZero cX3_setZero 1 none, .fieldLink RX3 15 "CutRows$Whole" "size" "I", .fieldLink RX3 19 "CutRows$Whole" "sign" "I"] ++ wsX30)
def wsX4_combineStart : List Cond := .code yX4_combineStart cX4_combineStart 1 (some .boolean) :: ([.fieldLink RX4 98 "CutRows" "sealed" "Z", .fieldLink RX4 51 "CutRows" "sum" "[LCutRows$Whole;", .fieldLink RX4 113 "CutRows" "sumBegun" "Z", .methodLink RX4 109 yX4_setAllZero, .static yX4_setAllZero, .initialized RX4, .code yX4_setAllZero cX4_setAllZero 2 none, .methodLink RX4 189 yX3_setZero, .instanceMethod yX3_setZero, .selects RX3 yX3_setZero yX3_setZero, .initialized RX3, .code yX3_setZero cX3_setZero 1 none, .fieldLink RX3 15 "CutRows$Whole" "size" "I", .fieldLink RX3 19 "CutRows$Whole" "sign" "I"] ++ wsX40 ++ wsX30)
def wsX4_draftSumWith_r1 : List Cond := [Cond.fieldLink RX4 13 "CutRows" "vars" "I", Cond.fieldLink RX4 22 "CutRows" "arena" "LCutRows$Arena;", Cond.fieldLink RX4 62 "CutRows" "factor" "LCutRows$Whole;", Cond.fieldLink RX4 54 "CutRows" "draft" "[LCutRows$Whole;", Cond.fieldLink RX4 29 "CutRows" "register" "LCutRows$Register;", Cond.fieldLink RX4 88 "CutRows$Register" "number" "LCutRows$Whole;", Cond.fieldLink RX4 51 "CutRows" "sum" "[LCutRows$Whole;", Cond.fieldLink RX4 198 "CutRows$Whole" "size" "I", Cond.methodLink RX4 141 yX0_load, Cond.instanceMethod yX0_load, Cond.selects RX0 yX0_load yX0_load, Cond.initialized RX0, Cond.code yX0_load cX0_load 5 none, Cond.fieldLink RX0 18 "CutRows$Arena" "cells" "[I", Cond.fieldLink RX0 22 "CutRows$Arena" "starts" "[I", Cond.fieldLink RX0 9 "CutRows$Arena" "width" "I", Cond.fieldLink RX0 46 "CutRows$Whole" "limbs" "[I", Cond.methodLink RX0 51 arraycopyName, Cond.native arraycopyName, Cond.static arraycopyName, Cond.initialized "java/lang/System", Cond.fieldLink RX0 57 "CutRows$Whole" "size" "I", Cond.fieldLink RX0 63 "CutRows$Whole" "sign" "I", Cond.methodLink RX0 42 yX0_sizeOf]
def wsX4_draftSumWith_r2 : List Cond := [Cond.instanceMethod yX0_sizeOf, Cond.selects RX0 yX0_sizeOf yX0_sizeOf, Cond.code yX0_sizeOf cX0_sizeOf 3 (some .int), Cond.methodLink RX0 37 Lib.Math.abs.name, Cond.static Lib.Math.abs.name, Cond.initialized "java/lang/Math", Cond.code Lib.Math.abs.name Lib.Math.abs.code 1 (some .int), Cond.methodLink RX0 60 yX0_signOf, Cond.instanceMethod yX0_signOf, Cond.selects RX0 yX0_signOf yX0_signOf, Cond.code yX0_signOf cX0_signOf 3 (some .int), Cond.methodLink RX0 31 yJ6_signum_0f7a4, Cond.static yJ6_signum_0f7a4, Cond.initialized RJ6, Cond.code yJ6_signum_0f7a4 cJ6_signum_0f7a4 1 (some .int), Cond.methodLink RX4 192 yX3_setProduct, Cond.instanceMethod yX3_setProduct, Cond.selects RX3 yX3_setProduct yX3_setProduct, Cond.initialized RX3, Cond.code yX3_setProduct cX3_setProduct 4 none, Cond.fieldLink RX3 9 "CutRows$Whole" "limbs" "[I", Cond.fieldLink RX3 15 "CutRows$Whole" "size" "I", Cond.fieldLink RX3 19 "CutRows$Whole" "sign" "I", Cond.methodLink RX3 34 yJ7_fill_fda19]
def wsX4_draftSumWith_r3 : List Cond := [Cond.static yJ7_fill_fda19, Cond.initialized RJ7, Cond.code yJ7_fill_fda19 cJ7_fill_fda19 5 none, Cond.methodLink RJ7 13 yJ7_rangeCheck_23922, Cond.static yJ7_rangeCheck_23922, Cond.code yJ7_rangeCheck_23922 cJ7_rangeCheck_23922 3 none, Cond.classLink RJ7 45 RJ4, Cond.instantiable RJ4 4, Cond.initialized RJ4, Cond.methodLink RX3 40 yX3_addTimes, Cond.instanceMethod yX3_addTimes, Cond.selects RX3 yX3_addTimes yX3_addTimes, Cond.code yX3_addTimes cX3_addTimes 8 none, Cond.constant RX3 48 (2147483647), Cond.methodLink RX3 44 yX3_settle, Cond.instanceMethod yX3_settle, Cond.selects RX3 yX3_settle yX3_settle, Cond.code yX3_settle cX3_settle 3 none, Cond.methodLink RX4 195 yX3_add, Cond.instanceMethod yX3_add, Cond.selects RX3 yX3_add yX3_add, Cond.code yX3_add cX3_add 2 none, Cond.methodLink RX3 49 yX3_addLimbs, Cond.instanceMethod yX3_addLimbs]
def wsX4_draftSumWith_r4 : List Cond := [Cond.selects RX3 yX3_addLimbs yX3_addLimbs, Cond.code yX3_addLimbs cX3_addLimbs 7 none, Cond.methodLink RX3 61 Lib.Math.max.name, Cond.static Lib.Math.max.name, Cond.code Lib.Math.max.name Lib.Math.max.code 2 (some .int), Cond.methodLink RX3 66 yX3_digit, Cond.instanceMethod yX3_digit, Cond.selects RX3 yX3_digit yX3_digit, Cond.code yX3_digit cX3_digit 2 (some .int), Cond.methodLink RX3 53 yX3_compareSize, Cond.instanceMethod yX3_compareSize, Cond.selects RX3 yX3_compareSize yX3_compareSize, Cond.code yX3_compareSize cX3_compareSize 3 (some .int), Cond.methodLink RX3 28 yJ6_compare_7cf53, Cond.static yJ6_compare_7cf53, Cond.code yJ6_compare_7cf53 cJ6_compare_7cf53 2 (some .int), Cond.methodLink RX3 57 yX3_setDifference, Cond.instanceMethod yX3_setDifference, Cond.selects RX3 yX3_setDifference yX3_setDifference, Cond.code yX3_setDifference cX3_setDifference 8 none]
def wsX4_draftSumWith : List Cond := .code yX4_draftSumWith cX4_draftSumWith 3 (some .boolean) :: ((wsX4_draftSumWith_r1 ++ (wsX4_draftSumWith_r2 ++ (wsX4_draftSumWith_r3 ++ wsX4_draftSumWith_r4))) ++ wsX40 ++ wsX20 ++ wsX30 ++ wsX00 ++ wsJ40)
def wsX4_combineAdd_r1 : List Cond := [Cond.fieldLink RX4 113 "CutRows" "sumBegun" "Z", Cond.fieldLink RX4 22 "CutRows" "arena" "LCutRows$Arena;", Cond.fieldLink RX4 29 "CutRows" "register" "LCutRows$Register;", Cond.fieldLink RX4 88 "CutRows$Register" "number" "LCutRows$Whole;", Cond.fieldLink RX4 123 "CutRows$Whole" "sign" "I", Cond.fieldLink RX4 51 "CutRows" "sum" "[LCutRows$Whole;", Cond.fieldLink RX4 54 "CutRows" "draft" "[LCutRows$Whole;", Cond.methodLink RX4 116 yX0_has, Cond.instanceMethod yX0_has, Cond.selects RX0 yX0_has yX0_has, Cond.initialized RX0, Cond.code yX0_has cX0_has 2 (some .boolean), Cond.fieldLink RX0 28 "CutRows$Arena" "rows" "I", Cond.methodLink RX4 120 yX2_hasNumber, Cond.instanceMethod yX2_hasNumber, Cond.selects RX2 yX2_hasNumber yX2_hasNumber, Cond.initialized RX2, Cond.code yX2_hasNumber cX2_hasNumber 1 (some .boolean), Cond.fieldLink RX2 20 "CutRows$Register" "state" "I", Cond.methodLink RX4 126 yX4_draftSumWith, Cond.instanceMethod yX4_draftSumWith, Cond.selects RX4 yX4_draftSumWith yX4_draftSumWith, Cond.initialized RX4, Cond.code yX4_draftSumWith cX4_draftSumWith 3 (some .boolean)]
def wsX4_combineAdd_r2 : List Cond := [Cond.fieldLink RX4 13 "CutRows" "vars" "I", Cond.fieldLink RX4 62 "CutRows" "factor" "LCutRows$Whole;", Cond.fieldLink RX4 198 "CutRows$Whole" "size" "I", Cond.methodLink RX4 141 yX0_load, Cond.instanceMethod yX0_load, Cond.selects RX0 yX0_load yX0_load, Cond.code yX0_load cX0_load 5 none, Cond.fieldLink RX0 18 "CutRows$Arena" "cells" "[I", Cond.fieldLink RX0 22 "CutRows$Arena" "starts" "[I", Cond.fieldLink RX0 9 "CutRows$Arena" "width" "I", Cond.fieldLink RX0 46 "CutRows$Whole" "limbs" "[I", Cond.methodLink RX0 51 arraycopyName, Cond.native arraycopyName, Cond.static arraycopyName, Cond.initialized "java/lang/System", Cond.fieldLink RX0 57 "CutRows$Whole" "size" "I", Cond.fieldLink RX0 63 "CutRows$Whole" "sign" "I", Cond.methodLink RX0 42 yX0_sizeOf, Cond.instanceMethod yX0_sizeOf, Cond.selects RX0 yX0_sizeOf yX0_sizeOf, Cond.code yX0_sizeOf cX0_sizeOf 3 (some .int), Cond.methodLink RX0 37 Lib.Math.abs.name, Cond.static Lib.Math.abs.name, Cond.initialized "java/lang/Math"]
def wsX4_combineAdd_r3 : List Cond := [Cond.code Lib.Math.abs.name Lib.Math.abs.code 1 (some .int), Cond.methodLink RX0 60 yX0_signOf, Cond.instanceMethod yX0_signOf, Cond.selects RX0 yX0_signOf yX0_signOf, Cond.code yX0_signOf cX0_signOf 3 (some .int), Cond.methodLink RX0 31 yJ6_signum_0f7a4, Cond.static yJ6_signum_0f7a4, Cond.initialized RJ6, Cond.code yJ6_signum_0f7a4 cJ6_signum_0f7a4 1 (some .int), Cond.methodLink RX4 192 yX3_setProduct, Cond.instanceMethod yX3_setProduct, Cond.selects RX3 yX3_setProduct yX3_setProduct, Cond.initialized RX3, Cond.code yX3_setProduct cX3_setProduct 4 none, Cond.fieldLink RX3 9 "CutRows$Whole" "limbs" "[I", Cond.fieldLink RX3 15 "CutRows$Whole" "size" "I", Cond.fieldLink RX3 19 "CutRows$Whole" "sign" "I", Cond.methodLink RX3 34 yJ7_fill_fda19, Cond.static yJ7_fill_fda19, Cond.initialized RJ7, Cond.code yJ7_fill_fda19 cJ7_fill_fda19 5 none, Cond.methodLink RJ7 13 yJ7_rangeCheck_23922, Cond.static yJ7_rangeCheck_23922, Cond.code yJ7_rangeCheck_23922 cJ7_rangeCheck_23922 3 none]
def wsX4_combineAdd_r4 : List Cond := [Cond.classLink RJ7 45 RJ4, Cond.instantiable RJ4 4, Cond.initialized RJ4, Cond.methodLink RX3 40 yX3_addTimes, Cond.instanceMethod yX3_addTimes, Cond.selects RX3 yX3_addTimes yX3_addTimes, Cond.code yX3_addTimes cX3_addTimes 8 none, Cond.constant RX3 48 (2147483647), Cond.methodLink RX3 44 yX3_settle, Cond.instanceMethod yX3_settle, Cond.selects RX3 yX3_settle yX3_settle, Cond.code yX3_settle cX3_settle 3 none, Cond.methodLink RX4 195 yX3_add, Cond.instanceMethod yX3_add, Cond.selects RX3 yX3_add yX3_add, Cond.code yX3_add cX3_add 2 none, Cond.methodLink RX3 49 yX3_addLimbs, Cond.instanceMethod yX3_addLimbs, Cond.selects RX3 yX3_addLimbs yX3_addLimbs, Cond.code yX3_addLimbs cX3_addLimbs 7 none, Cond.methodLink RX3 61 Lib.Math.max.name, Cond.static Lib.Math.max.name, Cond.code Lib.Math.max.name Lib.Math.max.code 2 (some .int), Cond.methodLink RX3 66 yX3_digit]
def wsX4_combineAdd_r5 : List Cond := [Cond.instanceMethod yX3_digit, Cond.selects RX3 yX3_digit yX3_digit, Cond.code yX3_digit cX3_digit 2 (some .int), Cond.methodLink RX3 53 yX3_compareSize, Cond.instanceMethod yX3_compareSize, Cond.selects RX3 yX3_compareSize yX3_compareSize, Cond.code yX3_compareSize cX3_compareSize 3 (some .int), Cond.methodLink RX3 28 yJ6_compare_7cf53, Cond.static yJ6_compare_7cf53, Cond.code yJ6_compare_7cf53 cJ6_compare_7cf53 2 (some .int), Cond.methodLink RX3 57 yX3_setDifference, Cond.instanceMethod yX3_setDifference, Cond.selects RX3 yX3_setDifference yX3_setDifference, Cond.code yX3_setDifference cX3_setDifference 8 none, Cond.methodLink RX4 95 yX2_finish, Cond.instanceMethod yX2_finish, Cond.selects RX2 yX2_finish yX2_finish, Cond.code yX2_finish cX2_finish 1 none]
def wsX4_combineAdd : List Cond := .code yX4_combineAdd cX4_combineAdd 3 (some .int) :: ((wsX4_combineAdd_r1 ++ (wsX4_combineAdd_r2 ++ (wsX4_combineAdd_r3 ++ (wsX4_combineAdd_r4 ++ wsX4_combineAdd_r5)))) ++ wsX40 ++ wsX20 ++ wsX30 ++ wsX00 ++ wsJ40)
def wsX4_hasCoefficient : List Cond := .code yX4_hasCoefficient cX4_hasCoefficient 3 (some .boolean) :: ([.fieldLink RX4 13 "CutRows" "vars" "I", .fieldLink RX4 22 "CutRows" "arena" "LCutRows$Arena;", .methodLink RX4 165 yX0_signOf, .instanceMethod yX0_signOf, .selects RX0 yX0_signOf yX0_signOf, .initialized RX0, .code yX0_signOf cX0_signOf 3 (some .int), .fieldLink RX0 18 "CutRows$Arena" "cells" "[I", .fieldLink RX0 22 "CutRows$Arena" "starts" "[I", .fieldLink RX0 9 "CutRows$Arena" "width" "I", .methodLink RX0 31 yJ6_signum_0f7a4, .static yJ6_signum_0f7a4, .initialized RJ6, .code yJ6_signum_0f7a4 cJ6_signum_0f7a4 1 (some .int)] ++ wsX40 ++ wsX00)
def wsX4_keepMade_r1 : List Cond := [Cond.fieldLink RX4 22 "CutRows" "arena" "LCutRows$Arena;", Cond.fieldLink RX4 13 "CutRows" "vars" "I", Cond.fieldLink RX4 123 "CutRows$Whole" "sign" "I", Cond.fieldLink RX4 149 "CutRows" "contradicted" "Z", Cond.methodLink RX4 102 yX0_keep, Cond.instanceMethod yX0_keep, Cond.selects RX0 yX0_keep yX0_keep, Cond.initialized RX0, Cond.code yX0_keep cX0_keep 3 (some .int), Cond.fieldLink RX0 9 "CutRows$Arena" "width" "I", Cond.fieldLink RX0 22 "CutRows$Arena" "starts" "[I", Cond.fieldLink RX0 28 "CutRows$Arena" "rows" "I", Cond.fieldLink RX0 25 "CutRows$Arena" "used" "I", Cond.methodLink RX0 66 yX0_isFull, Cond.instanceMethod yX0_isFull, Cond.selects RX0 yX0_isFull yX0_isFull, Cond.code yX0_isFull cX0_isFull 1 (some .boolean), Cond.fieldLink RX0 15 "CutRows$Arena" "maxRows" "I", Cond.methodLink RX0 70 yX0_cellsFor, Cond.instanceMethod yX0_cellsFor, Cond.selects RX0 yX0_cellsFor yX0_cellsFor, Cond.code yX0_cellsFor cX0_cellsFor 4 (some .int), Cond.fieldLink RX0 57 "CutRows$Whole" "size" "I", Cond.methodLink RX0 74 yX0_cellsLeft]
def wsX4_keepMade_r2 : List Cond := [Cond.instanceMethod yX0_cellsLeft, Cond.selects RX0 yX0_cellsLeft yX0_cellsLeft, Cond.code yX0_cellsLeft cX0_cellsLeft 1 (some .int), Cond.fieldLink RX0 18 "CutRows$Arena" "cells" "[I", Cond.methodLink RX0 78 yX0_append, Cond.instanceMethod yX0_append, Cond.selects RX0 yX0_append yX0_append, Cond.code yX0_append cX0_append 2 none, Cond.fieldLink RX0 63 "CutRows$Whole" "sign" "I", Cond.fieldLink RX0 46 "CutRows$Whole" "limbs" "[I", Cond.methodLink RX0 51 arraycopyName, Cond.native arraycopyName, Cond.static arraycopyName, Cond.initialized "java/lang/System", Cond.methodLink RX4 132 yX4_hasCoefficient, Cond.instanceMethod yX4_hasCoefficient, Cond.selects RX4 yX4_hasCoefficient yX4_hasCoefficient, Cond.initialized RX4, Cond.code yX4_hasCoefficient cX4_hasCoefficient 3 (some .boolean), Cond.methodLink RX4 165 yX0_signOf, Cond.instanceMethod yX0_signOf, Cond.selects RX0 yX0_signOf yX0_signOf, Cond.code yX0_signOf cX0_signOf 3 (some .int), Cond.methodLink RX0 31 yJ6_signum_0f7a4]
def wsX4_keepMade_r3 : List Cond := [Cond.static yJ6_signum_0f7a4, Cond.initialized RJ6, Cond.code yJ6_signum_0f7a4 cJ6_signum_0f7a4 1 (some .int)]
def wsX4_keepMade : List Cond := .code yX4_keepMade cX4_keepMade 3 (some .int) :: ((wsX4_keepMade_r1 ++ (wsX4_keepMade_r2 ++ wsX4_keepMade_r3)) ++ wsX40 ++ wsX30 ++ wsX00)
def wsX4_combineEnd_r1 : List Cond := [Cond.fieldLink RX4 113 "CutRows" "sumBegun" "Z", Cond.fieldLink RX4 51 "CutRows" "sum" "[LCutRows$Whole;", Cond.methodLink RX4 129 yX4_keepMade, Cond.instanceMethod yX4_keepMade, Cond.selects RX4 yX4_keepMade yX4_keepMade, Cond.initialized RX4, Cond.code yX4_keepMade cX4_keepMade 3 (some .int), Cond.fieldLink RX4 22 "CutRows" "arena" "LCutRows$Arena;", Cond.fieldLink RX4 13 "CutRows" "vars" "I", Cond.fieldLink RX4 123 "CutRows$Whole" "sign" "I", Cond.fieldLink RX4 149 "CutRows" "contradicted" "Z", Cond.methodLink RX4 102 yX0_keep, Cond.instanceMethod yX0_keep, Cond.selects RX0 yX0_keep yX0_keep, Cond.initialized RX0, Cond.code yX0_keep cX0_keep 3 (some .int), Cond.fieldLink RX0 9 "CutRows$Arena" "width" "I", Cond.fieldLink RX0 22 "CutRows$Arena" "starts" "[I", Cond.fieldLink RX0 28 "CutRows$Arena" "rows" "I", Cond.fieldLink RX0 25 "CutRows$Arena" "used" "I", Cond.methodLink RX0 66 yX0_isFull, Cond.instanceMethod yX0_isFull, Cond.selects RX0 yX0_isFull yX0_isFull, Cond.code yX0_isFull cX0_isFull 1 (some .boolean)]
def wsX4_combineEnd_r2 : List Cond := [Cond.fieldLink RX0 15 "CutRows$Arena" "maxRows" "I", Cond.methodLink RX0 70 yX0_cellsFor, Cond.instanceMethod yX0_cellsFor, Cond.selects RX0 yX0_cellsFor yX0_cellsFor, Cond.code yX0_cellsFor cX0_cellsFor 4 (some .int), Cond.fieldLink RX0 57 "CutRows$Whole" "size" "I", Cond.methodLink RX0 74 yX0_cellsLeft, Cond.instanceMethod yX0_cellsLeft, Cond.selects RX0 yX0_cellsLeft yX0_cellsLeft, Cond.code yX0_cellsLeft cX0_cellsLeft 1 (some .int), Cond.fieldLink RX0 18 "CutRows$Arena" "cells" "[I", Cond.methodLink RX0 78 yX0_append, Cond.instanceMethod yX0_append, Cond.selects RX0 yX0_append yX0_append, Cond.code yX0_append cX0_append 2 none, Cond.fieldLink RX0 63 "CutRows$Whole" "sign" "I", Cond.fieldLink RX0 46 "CutRows$Whole" "limbs" "[I", Cond.methodLink RX0 51 arraycopyName, Cond.native arraycopyName, Cond.static arraycopyName, Cond.initialized "java/lang/System", Cond.methodLink RX4 132 yX4_hasCoefficient, Cond.instanceMethod yX4_hasCoefficient, Cond.selects RX4 yX4_hasCoefficient yX4_hasCoefficient]
def wsX4_combineEnd_r3 : List Cond := [Cond.code yX4_hasCoefficient cX4_hasCoefficient 3 (some .boolean), Cond.methodLink RX4 165 yX0_signOf, Cond.instanceMethod yX0_signOf, Cond.selects RX0 yX0_signOf yX0_signOf, Cond.code yX0_signOf cX0_signOf 3 (some .int), Cond.methodLink RX0 31 yJ6_signum_0f7a4, Cond.static yJ6_signum_0f7a4, Cond.initialized RJ6, Cond.code yJ6_signum_0f7a4 cJ6_signum_0f7a4 1 (some .int)]
def wsX4_combineEnd : List Cond := .code yX4_combineEnd cX4_combineEnd 2 (some .int) :: ((wsX4_combineEnd_r1 ++ (wsX4_combineEnd_r2 ++ wsX4_combineEnd_r3)) ++ wsX40 ++ wsX30 ++ wsX00)
def wsX4_findGreatestDivisor_r1 : List Cond := [Cond.fieldLink RX4 47 "CutRows" "divider" "LCutRows$Divider;", Cond.fieldLink RX4 201 "CutRows$Divider" "greatest" "LCutRows$Whole;", Cond.fieldLink RX4 13 "CutRows" "vars" "I", Cond.fieldLink RX4 22 "CutRows" "arena" "LCutRows$Arena;", Cond.fieldLink RX4 62 "CutRows" "factor" "LCutRows$Whole;", Cond.methodLink RX4 189 yX3_setZero, Cond.instanceMethod yX3_setZero, Cond.selects RX3 yX3_setZero yX3_setZero, Cond.initialized RX3, Cond.code yX3_setZero cX3_setZero 1 none, Cond.fieldLink RX3 15 "CutRows$Whole" "size" "I", Cond.fieldLink RX3 19 "CutRows$Whole" "sign" "I", Cond.methodLink RX4 141 yX0_load, Cond.instanceMethod yX0_load, Cond.selects RX0 yX0_load yX0_load, Cond.initialized RX0, Cond.code yX0_load cX0_load 5 none, Cond.fieldLink RX0 18 "CutRows$Arena" "cells" "[I", Cond.fieldLink RX0 22 "CutRows$Arena" "starts" "[I", Cond.fieldLink RX0 9 "CutRows$Arena" "width" "I", Cond.fieldLink RX0 46 "CutRows$Whole" "limbs" "[I", Cond.methodLink RX0 51 arraycopyName, Cond.native arraycopyName, Cond.static arraycopyName]
def wsX4_findGreatestDivisor_r2 : List Cond := [Cond.initialized "java/lang/System", Cond.fieldLink RX0 57 "CutRows$Whole" "size" "I", Cond.fieldLink RX0 63 "CutRows$Whole" "sign" "I", Cond.methodLink RX0 42 yX0_sizeOf, Cond.instanceMethod yX0_sizeOf, Cond.selects RX0 yX0_sizeOf yX0_sizeOf, Cond.code yX0_sizeOf cX0_sizeOf 3 (some .int), Cond.methodLink RX0 37 Lib.Math.abs.name, Cond.static Lib.Math.abs.name, Cond.initialized "java/lang/Math", Cond.code Lib.Math.abs.name Lib.Math.abs.code 1 (some .int), Cond.methodLink RX0 60 yX0_signOf, Cond.instanceMethod yX0_signOf, Cond.selects RX0 yX0_signOf yX0_signOf, Cond.code yX0_signOf cX0_signOf 3 (some .int), Cond.methodLink RX0 31 yJ6_signum_0f7a4, Cond.static yJ6_signum_0f7a4, Cond.initialized RJ6, Cond.code yJ6_signum_0f7a4 cJ6_signum_0f7a4 1 (some .int), Cond.methodLink RX4 204 yX1_narrowGreatest, Cond.instanceMethod yX1_narrowGreatest, Cond.selects RX1 yX1_narrowGreatest yX1_narrowGreatest, Cond.initialized RX1, Cond.code yX1_narrowGreatest cX1_narrowGreatest 3 none]
def wsX4_findGreatestDivisor_r3 : List Cond := [Cond.constant RX1 33 (1000000), Cond.fieldLink RX1 34 "CutRows$Whole" "size" "I", Cond.fieldLink RX1 14 "CutRows$Divider" "greatest" "LCutRows$Whole;", Cond.fieldLink RX1 23 "CutRows$Divider" "remainder" "LCutRows$Whole;", Cond.methodLink RX1 38 yX1_divide, Cond.instanceMethod yX1_divide, Cond.selects RX1 yX1_divide yX1_divide, Cond.code yX1_divide cX1_divide 3 none, Cond.fieldLink RX1 20 "CutRows$Divider" "quotient" "LCutRows$Whole;", Cond.fieldLink RX1 59 "CutRows$Whole" "limbs" "[I", Cond.methodLink RX1 52 yX3_compareSize, Cond.instanceMethod yX3_compareSize, Cond.selects RX3 yX3_compareSize yX3_compareSize, Cond.code yX3_compareSize cX3_compareSize 3 (some .int), Cond.fieldLink RX3 9 "CutRows$Whole" "limbs" "[I", Cond.methodLink RX3 28 yJ6_compare_7cf53, Cond.static yJ6_compare_7cf53, Cond.code yJ6_compare_7cf53 cJ6_compare_7cf53 2 (some .int), Cond.methodLink RX1 56 yX3_setZero, Cond.methodLink RX1 42 yX3_copyFrom, Cond.instanceMethod yX3_copyFrom, Cond.selects RX3 yX3_copyFrom yX3_copyFrom, Cond.code yX3_copyFrom cX3_copyFrom 2 none, Cond.methodLink RX3 22 arraycopyName]
def wsX4_findGreatestDivisor_r4 : List Cond := [Cond.methodLink RX1 62 yX1_divideByDigit, Cond.instanceMethod yX1_divideByDigit, Cond.selects RX1 yX1_divideByDigit yX1_divideByDigit, Cond.code yX1_divideByDigit cX1_divideByDigit 6 none, Cond.methodLink RX1 69 yX3_settle, Cond.instanceMethod yX3_settle, Cond.selects RX3 yX3_settle yX3_settle, Cond.code yX3_settle cX3_settle 3 none, Cond.methodLink RX1 66 yX1_divideByMany, Cond.instanceMethod yX1_divideByMany, Cond.selects RX1 yX1_divideByMany yX1_divideByMany, Cond.code yX1_divideByMany cX1_divideByMany 8 none, Cond.fieldLink RX1 30 "CutRows$Divider" "bottom" "[I", Cond.fieldLink RX1 26 "CutRows$Divider" "top" "[I", Cond.constant RX1 91 (2147483647), Cond.methodLink RX1 73 yJ6_numberOfLeadingZeros_0f7a4, Cond.static yJ6_numberOfLeadingZeros_0f7a4, Cond.code yJ6_numberOfLeadingZeros_0f7a4 cJ6_numberOfLeadingZeros_0f7a4 2 (some .int), Cond.constant RJ6 264 (65536), Cond.methodLink RX1 79 yX1_shiftUp, Cond.static yX1_shiftUp, Cond.code yX1_shiftUp cX1_shiftUp 6 (some .int), Cond.methodLink RX1 83 yX1_guessDigit, Cond.instanceMethod yX1_guessDigit]
def wsX4_findGreatestDivisor_r5 : List Cond := [Cond.selects RX1 yX1_guessDigit yX1_guessDigit, Cond.code yX1_guessDigit cX1_guessDigit 16 (some .long), Cond.constantLong RX1 92 (2147483647), Cond.methodLink RX1 87 yX1_takeOut, Cond.instanceMethod yX1_takeOut, Cond.selects RX1 yX1_takeOut yX1_takeOut, Cond.code yX1_takeOut cX1_takeOut 9 (some .int), Cond.methodLink RX1 94 yX1_putBack, Cond.instanceMethod yX1_putBack, Cond.selects RX1 yX1_putBack yX1_putBack, Cond.code yX1_putBack cX1_putBack 6 none]
def wsX4_findGreatestDivisor : List Cond := .code yX4_findGreatestDivisor cX4_findGreatestDivisor 3 none :: ((wsX4_findGreatestDivisor_r1 ++ (wsX4_findGreatestDivisor_r2 ++ (wsX4_findGreatestDivisor_r3 ++ (wsX4_findGreatestDivisor_r4 ++ wsX4_findGreatestDivisor_r5)))) ++ wsX40 ++ wsX10 ++ wsX30 ++ wsX00)
def wsX4_divideRound_r1 : List Cond := [Cond.fieldLink RX4 98 "CutRows" "sealed" "Z", Cond.fieldLink RX4 22 "CutRows" "arena" "LCutRows$Arena;", Cond.fieldLink RX4 13 "CutRows" "vars" "I", Cond.fieldLink RX4 62 "CutRows" "factor" "LCutRows$Whole;", Cond.fieldLink RX4 47 "CutRows" "divider" "LCutRows$Divider;", Cond.fieldLink RX4 54 "CutRows" "draft" "[LCutRows$Whole;", Cond.methodLink RX4 116 yX0_has, Cond.instanceMethod yX0_has, Cond.selects RX0 yX0_has yX0_has, Cond.initialized RX0, Cond.code yX0_has cX0_has 2 (some .boolean), Cond.fieldLink RX0 28 "CutRows$Arena" "rows" "I", Cond.methodLink RX4 132 yX4_hasCoefficient, Cond.instanceMethod yX4_hasCoefficient, Cond.selects RX4 yX4_hasCoefficient yX4_hasCoefficient, Cond.initialized RX4, Cond.code yX4_hasCoefficient cX4_hasCoefficient 3 (some .boolean), Cond.methodLink RX4 165 yX0_signOf, Cond.instanceMethod yX0_signOf, Cond.selects RX0 yX0_signOf yX0_signOf, Cond.code yX0_signOf cX0_signOf 3 (some .int), Cond.fieldLink RX0 18 "CutRows$Arena" "cells" "[I", Cond.fieldLink RX0 22 "CutRows$Arena" "starts" "[I", Cond.fieldLink RX0 9 "CutRows$Arena" "width" "I"]
def wsX4_divideRound_r2 : List Cond := [Cond.methodLink RX0 31 yJ6_signum_0f7a4, Cond.static yJ6_signum_0f7a4, Cond.initialized RJ6, Cond.code yJ6_signum_0f7a4 cJ6_signum_0f7a4 1 (some .int), Cond.methodLink RX4 135 yX0_isFull, Cond.instanceMethod yX0_isFull, Cond.selects RX0 yX0_isFull yX0_isFull, Cond.code yX0_isFull cX0_isFull 1 (some .boolean), Cond.fieldLink RX0 15 "CutRows$Arena" "maxRows" "I", Cond.methodLink RX4 138 yX4_findGreatestDivisor, Cond.instanceMethod yX4_findGreatestDivisor, Cond.selects RX4 yX4_findGreatestDivisor yX4_findGreatestDivisor, Cond.code yX4_findGreatestDivisor cX4_findGreatestDivisor 3 none, Cond.fieldLink RX4 201 "CutRows$Divider" "greatest" "LCutRows$Whole;", Cond.methodLink RX4 189 yX3_setZero, Cond.instanceMethod yX3_setZero, Cond.selects RX3 yX3_setZero yX3_setZero, Cond.initialized RX3, Cond.code yX3_setZero cX3_setZero 1 none, Cond.fieldLink RX3 15 "CutRows$Whole" "size" "I", Cond.fieldLink RX3 19 "CutRows$Whole" "sign" "I", Cond.methodLink RX4 141 yX0_load, Cond.instanceMethod yX0_load, Cond.selects RX0 yX0_load yX0_load]
def wsX4_divideRound_r3 : List Cond := [Cond.code yX0_load cX0_load 5 none, Cond.fieldLink RX0 46 "CutRows$Whole" "limbs" "[I", Cond.methodLink RX0 51 arraycopyName, Cond.native arraycopyName, Cond.static arraycopyName, Cond.initialized "java/lang/System", Cond.fieldLink RX0 57 "CutRows$Whole" "size" "I", Cond.fieldLink RX0 63 "CutRows$Whole" "sign" "I", Cond.methodLink RX0 42 yX0_sizeOf, Cond.instanceMethod yX0_sizeOf, Cond.selects RX0 yX0_sizeOf yX0_sizeOf, Cond.code yX0_sizeOf cX0_sizeOf 3 (some .int), Cond.methodLink RX0 37 Lib.Math.abs.name, Cond.static Lib.Math.abs.name, Cond.initialized "java/lang/Math", Cond.code Lib.Math.abs.name Lib.Math.abs.code 1 (some .int), Cond.methodLink RX0 60 yX0_signOf, Cond.methodLink RX4 204 yX1_narrowGreatest, Cond.instanceMethod yX1_narrowGreatest, Cond.selects RX1 yX1_narrowGreatest yX1_narrowGreatest, Cond.initialized RX1, Cond.code yX1_narrowGreatest cX1_narrowGreatest 3 none, Cond.constant RX1 33 (1000000), Cond.fieldLink RX1 34 "CutRows$Whole" "size" "I"]
def wsX4_divideRound_r4 : List Cond := [Cond.fieldLink RX1 14 "CutRows$Divider" "greatest" "LCutRows$Whole;", Cond.fieldLink RX1 23 "CutRows$Divider" "remainder" "LCutRows$Whole;", Cond.methodLink RX1 38 yX1_divide, Cond.instanceMethod yX1_divide, Cond.selects RX1 yX1_divide yX1_divide, Cond.code yX1_divide cX1_divide 3 none, Cond.fieldLink RX1 20 "CutRows$Divider" "quotient" "LCutRows$Whole;", Cond.fieldLink RX1 59 "CutRows$Whole" "limbs" "[I", Cond.methodLink RX1 52 yX3_compareSize, Cond.instanceMethod yX3_compareSize, Cond.selects RX3 yX3_compareSize yX3_compareSize, Cond.code yX3_compareSize cX3_compareSize 3 (some .int), Cond.fieldLink RX3 9 "CutRows$Whole" "limbs" "[I", Cond.methodLink RX3 28 yJ6_compare_7cf53, Cond.static yJ6_compare_7cf53, Cond.code yJ6_compare_7cf53 cJ6_compare_7cf53 2 (some .int), Cond.methodLink RX1 56 yX3_setZero, Cond.methodLink RX1 42 yX3_copyFrom, Cond.instanceMethod yX3_copyFrom, Cond.selects RX3 yX3_copyFrom yX3_copyFrom, Cond.code yX3_copyFrom cX3_copyFrom 2 none, Cond.methodLink RX3 22 arraycopyName, Cond.methodLink RX1 62 yX1_divideByDigit, Cond.instanceMethod yX1_divideByDigit]
def wsX4_divideRound_r5 : List Cond := [Cond.selects RX1 yX1_divideByDigit yX1_divideByDigit, Cond.code yX1_divideByDigit cX1_divideByDigit 6 none, Cond.methodLink RX1 69 yX3_settle, Cond.instanceMethod yX3_settle, Cond.selects RX3 yX3_settle yX3_settle, Cond.code yX3_settle cX3_settle 3 none, Cond.methodLink RX1 66 yX1_divideByMany, Cond.instanceMethod yX1_divideByMany, Cond.selects RX1 yX1_divideByMany yX1_divideByMany, Cond.code yX1_divideByMany cX1_divideByMany 8 none, Cond.fieldLink RX1 30 "CutRows$Divider" "bottom" "[I", Cond.fieldLink RX1 26 "CutRows$Divider" "top" "[I", Cond.constant RX1 91 (2147483647), Cond.methodLink RX1 73 yJ6_numberOfLeadingZeros_0f7a4, Cond.static yJ6_numberOfLeadingZeros_0f7a4, Cond.code yJ6_numberOfLeadingZeros_0f7a4 cJ6_numberOfLeadingZeros_0f7a4 2 (some .int), Cond.constant RJ6 264 (65536), Cond.methodLink RX1 79 yX1_shiftUp, Cond.static yX1_shiftUp, Cond.code yX1_shiftUp cX1_shiftUp 6 (some .int), Cond.methodLink RX1 83 yX1_guessDigit, Cond.instanceMethod yX1_guessDigit, Cond.selects RX1 yX1_guessDigit yX1_guessDigit, Cond.code yX1_guessDigit cX1_guessDigit 16 (some .long)]
def wsX4_divideRound_r6 : List Cond := [Cond.constantLong RX1 92 (2147483647), Cond.methodLink RX1 87 yX1_takeOut, Cond.instanceMethod yX1_takeOut, Cond.selects RX1 yX1_takeOut yX1_takeOut, Cond.code yX1_takeOut cX1_takeOut 9 (some .int), Cond.methodLink RX1 94 yX1_putBack, Cond.instanceMethod yX1_putBack, Cond.selects RX1 yX1_putBack yX1_putBack, Cond.code yX1_putBack cX1_putBack 6 none, Cond.methodLink RX4 145 yX1_floorByGreatest, Cond.instanceMethod yX1_floorByGreatest, Cond.selects RX1 yX1_floorByGreatest yX1_floorByGreatest, Cond.code yX1_floorByGreatest cX1_floorByGreatest 3 none, Cond.fieldLink RX1 46 "CutRows$Whole" "sign" "I", Cond.methodLink RX1 49 yX3_growByOne, Cond.instanceMethod yX3_growByOne, Cond.selects RX3 yX3_growByOne yX3_growByOne, Cond.code yX3_growByOne cX3_growByOne 3 none, Cond.constant RX3 48 (2147483647), Cond.methodLink RX3 61 Lib.Math.max.name, Cond.static Lib.Math.max.name, Cond.code Lib.Math.max.name Lib.Math.max.code 2 (some .int), Cond.methodLink RX3 66 yX3_digit, Cond.instanceMethod yX3_digit]
def wsX4_divideRound_r7 : List Cond := [Cond.selects RX3 yX3_digit yX3_digit, Cond.code yX3_digit cX3_digit 2 (some .int), Cond.methodLink RX3 44 yX3_settle, Cond.methodLink RX4 129 yX4_keepMade, Cond.instanceMethod yX4_keepMade, Cond.selects RX4 yX4_keepMade yX4_keepMade, Cond.code yX4_keepMade cX4_keepMade 3 (some .int), Cond.fieldLink RX4 123 "CutRows$Whole" "sign" "I", Cond.fieldLink RX4 149 "CutRows" "contradicted" "Z", Cond.methodLink RX4 102 yX0_keep, Cond.instanceMethod yX0_keep, Cond.selects RX0 yX0_keep yX0_keep, Cond.code yX0_keep cX0_keep 3 (some .int), Cond.fieldLink RX0 25 "CutRows$Arena" "used" "I", Cond.methodLink RX0 66 yX0_isFull, Cond.methodLink RX0 70 yX0_cellsFor, Cond.instanceMethod yX0_cellsFor, Cond.selects RX0 yX0_cellsFor yX0_cellsFor, Cond.code yX0_cellsFor cX0_cellsFor 4 (some .int), Cond.methodLink RX0 74 yX0_cellsLeft, Cond.instanceMethod yX0_cellsLeft, Cond.selects RX0 yX0_cellsLeft yX0_cellsLeft, Cond.code yX0_cellsLeft cX0_cellsLeft 1 (some .int), Cond.methodLink RX0 78 yX0_append]
def wsX4_divideRound_r8 : List Cond := [Cond.instanceMethod yX0_append, Cond.selects RX0 yX0_append yX0_append, Cond.code yX0_append cX0_append 2 none]
def wsX4_divideRound : List Cond := .code yX4_divideRound cX4_divideRound 3 (some .int) :: ((wsX4_divideRound_r1 ++ (wsX4_divideRound_r2 ++ (wsX4_divideRound_r3 ++ (wsX4_divideRound_r4 ++ (wsX4_divideRound_r5 ++ (wsX4_divideRound_r6 ++ (wsX4_divideRound_r7 ++ wsX4_divideRound_r8))))))) ++ wsX40 ++ wsX00 ++ wsX10 ++ wsX30)
def wsX4_refuted : List Cond := .code yX4_refuted cX4_refuted 1 (some .boolean) :: ([.fieldLink RX4 149 "CutRows" "contradicted" "Z"] ++ wsX40)
def wsX4_rowCount : List Cond := .code yX4_rowCount cX4_rowCount 1 (some .int) :: ([.fieldLink RX4 22 "CutRows" "arena" "LCutRows$Arena;", .fieldLink RX4 152 "CutRows$Arena" "rows" "I"] ++ wsX40 ++ wsX00)
def wsX4_evalStart : List Cond := .code yX4_evalStart cX4_evalStart 1 (some .boolean) :: ([.fieldLink RX4 41 "CutRows" "point" "[LCutRows$Whole;", .methodLink RX4 109 yX4_setAllZero, .static yX4_setAllZero, .initialized RX4, .code yX4_setAllZero cX4_setAllZero 2 none, .methodLink RX4 189 yX3_setZero, .instanceMethod yX3_setZero, .selects RX3 yX3_setZero yX3_setZero, .initialized RX3, .code yX3_setZero cX3_setZero 1 none, .fieldLink RX3 15 "CutRows$Whole" "size" "I", .fieldLink RX3 19 "CutRows$Whole" "sign" "I"] ++ wsX40 ++ wsX30)
def wsX4_evalPoint_r1 : List Cond := [Cond.fieldLink RX4 13 "CutRows" "vars" "I", Cond.fieldLink RX4 29 "CutRows" "register" "LCutRows$Register;", Cond.fieldLink RX4 41 "CutRows" "point" "[LCutRows$Whole;", Cond.fieldLink RX4 88 "CutRows$Register" "number" "LCutRows$Whole;", Cond.methodLink RX4 120 yX2_hasNumber, Cond.instanceMethod yX2_hasNumber, Cond.selects RX2 yX2_hasNumber yX2_hasNumber, Cond.initialized RX2, Cond.code yX2_hasNumber cX2_hasNumber 1 (some .boolean), Cond.fieldLink RX2 20 "CutRows$Register" "state" "I", Cond.methodLink RX4 91 yX3_copyFrom, Cond.instanceMethod yX3_copyFrom, Cond.selects RX3 yX3_copyFrom yX3_copyFrom, Cond.initialized RX3, Cond.code yX3_copyFrom cX3_copyFrom 2 none, Cond.fieldLink RX3 9 "CutRows$Whole" "limbs" "[I", Cond.fieldLink RX3 15 "CutRows$Whole" "size" "I", Cond.methodLink RX3 22 arraycopyName, Cond.native arraycopyName, Cond.static arraycopyName, Cond.initialized "java/lang/System", Cond.fieldLink RX3 19 "CutRows$Whole" "sign" "I", Cond.methodLink RX4 95 yX2_finish, Cond.instanceMethod yX2_finish]
def wsX4_evalPoint_r2 : List Cond := [Cond.selects RX2 yX2_finish yX2_finish, Cond.code yX2_finish cX2_finish 1 none]
def wsX4_evalPoint : List Cond := .code yX4_evalPoint cX4_evalPoint 2 (some .boolean) :: ((wsX4_evalPoint_r1 ++ wsX4_evalPoint_r2) ++ wsX40 ++ wsX20 ++ wsX30)
def wsX4_holdsAtPoint_r1 : List Cond := [Cond.fieldLink RX4 22 "CutRows" "arena" "LCutRows$Arena;", Cond.fieldLink RX4 13 "CutRows" "vars" "I", Cond.fieldLink RX4 62 "CutRows" "factor" "LCutRows$Whole;", Cond.fieldLink RX4 69 "CutRows" "total" "LCutRows$Whole;", Cond.fieldLink RX4 123 "CutRows$Whole" "sign" "I", Cond.fieldLink RX4 66 "CutRows" "product" "LCutRows$Whole;", Cond.fieldLink RX4 41 "CutRows" "point" "[LCutRows$Whole;", Cond.methodLink RX4 141 yX0_load, Cond.instanceMethod yX0_load, Cond.selects RX0 yX0_load yX0_load, Cond.initialized RX0, Cond.code yX0_load cX0_load 5 none, Cond.fieldLink RX0 18 "CutRows$Arena" "cells" "[I", Cond.fieldLink RX0 22 "CutRows$Arena" "starts" "[I", Cond.fieldLink RX0 9 "CutRows$Arena" "width" "I", Cond.fieldLink RX0 46 "CutRows$Whole" "limbs" "[I", Cond.methodLink RX0 51 arraycopyName, Cond.native arraycopyName, Cond.static arraycopyName, Cond.initialized "java/lang/System", Cond.fieldLink RX0 57 "CutRows$Whole" "size" "I", Cond.fieldLink RX0 63 "CutRows$Whole" "sign" "I", Cond.methodLink RX0 42 yX0_sizeOf, Cond.instanceMethod yX0_sizeOf]
def wsX4_holdsAtPoint_r2 : List Cond := [Cond.selects RX0 yX0_sizeOf yX0_sizeOf, Cond.code yX0_sizeOf cX0_sizeOf 3 (some .int), Cond.methodLink RX0 37 Lib.Math.abs.name, Cond.static Lib.Math.abs.name, Cond.initialized "java/lang/Math", Cond.code Lib.Math.abs.name Lib.Math.abs.code 1 (some .int), Cond.methodLink RX0 60 yX0_signOf, Cond.instanceMethod yX0_signOf, Cond.selects RX0 yX0_signOf yX0_signOf, Cond.code yX0_signOf cX0_signOf 3 (some .int), Cond.methodLink RX0 31 yJ6_signum_0f7a4, Cond.static yJ6_signum_0f7a4, Cond.initialized RJ6, Cond.code yJ6_signum_0f7a4 cJ6_signum_0f7a4 1 (some .int), Cond.methodLink RX4 91 yX3_copyFrom, Cond.instanceMethod yX3_copyFrom, Cond.selects RX3 yX3_copyFrom yX3_copyFrom, Cond.initialized RX3, Cond.code yX3_copyFrom cX3_copyFrom 2 none, Cond.fieldLink RX3 9 "CutRows$Whole" "limbs" "[I", Cond.fieldLink RX3 15 "CutRows$Whole" "size" "I", Cond.methodLink RX3 22 arraycopyName, Cond.fieldLink RX3 19 "CutRows$Whole" "sign" "I", Cond.methodLink RX4 192 yX3_setProduct]
def wsX4_holdsAtPoint_r3 : List Cond := [Cond.instanceMethod yX3_setProduct, Cond.selects RX3 yX3_setProduct yX3_setProduct, Cond.code yX3_setProduct cX3_setProduct 4 none, Cond.methodLink RX3 34 yJ7_fill_fda19, Cond.static yJ7_fill_fda19, Cond.initialized RJ7, Cond.code yJ7_fill_fda19 cJ7_fill_fda19 5 none, Cond.methodLink RJ7 13 yJ7_rangeCheck_23922, Cond.static yJ7_rangeCheck_23922, Cond.code yJ7_rangeCheck_23922 cJ7_rangeCheck_23922 3 none, Cond.classLink RJ7 45 RJ4, Cond.instantiable RJ4 4, Cond.initialized RJ4, Cond.methodLink RX3 40 yX3_addTimes, Cond.instanceMethod yX3_addTimes, Cond.selects RX3 yX3_addTimes yX3_addTimes, Cond.code yX3_addTimes cX3_addTimes 8 none, Cond.constant RX3 48 (2147483647), Cond.methodLink RX3 44 yX3_settle, Cond.instanceMethod yX3_settle, Cond.selects RX3 yX3_settle yX3_settle, Cond.code yX3_settle cX3_settle 3 none, Cond.methodLink RX4 195 yX3_add, Cond.instanceMethod yX3_add]
def wsX4_holdsAtPoint_r4 : List Cond := [Cond.selects RX3 yX3_add yX3_add, Cond.code yX3_add cX3_add 2 none, Cond.methodLink RX3 49 yX3_addLimbs, Cond.instanceMethod yX3_addLimbs, Cond.selects RX3 yX3_addLimbs yX3_addLimbs, Cond.code yX3_addLimbs cX3_addLimbs 7 none, Cond.methodLink RX3 61 Lib.Math.max.name, Cond.static Lib.Math.max.name, Cond.code Lib.Math.max.name Lib.Math.max.code 2 (some .int), Cond.methodLink RX3 66 yX3_digit, Cond.instanceMethod yX3_digit, Cond.selects RX3 yX3_digit yX3_digit, Cond.code yX3_digit cX3_digit 2 (some .int), Cond.methodLink RX3 53 yX3_compareSize, Cond.instanceMethod yX3_compareSize, Cond.selects RX3 yX3_compareSize yX3_compareSize, Cond.code yX3_compareSize cX3_compareSize 3 (some .int), Cond.methodLink RX3 28 yJ6_compare_7cf53, Cond.static yJ6_compare_7cf53, Cond.code yJ6_compare_7cf53 cJ6_compare_7cf53 2 (some .int), Cond.methodLink RX3 57 yX3_setDifference, Cond.instanceMethod yX3_setDifference, Cond.selects RX3 yX3_setDifference yX3_setDifference, Cond.code yX3_setDifference cX3_setDifference 8 none]
def wsX4_holdsAtPoint : List Cond := .code yX4_holdsAtPoint cX4_holdsAtPoint 3 (some .boolean) :: ((wsX4_holdsAtPoint_r1 ++ (wsX4_holdsAtPoint_r2 ++ (wsX4_holdsAtPoint_r3 ++ wsX4_holdsAtPoint_r4))) ++ wsX40 ++ wsX30 ++ wsX00 ++ wsJ40)
def wsX4_evalSatisfied_r1 : List Cond := [Cond.fieldLink RX4 106 "CutRows" "inputRows" "I", Cond.methodLink RX4 155 yX4_holdsAtPoint, Cond.instanceMethod yX4_holdsAtPoint, Cond.selects RX4 yX4_holdsAtPoint yX4_holdsAtPoint, Cond.initialized RX4, Cond.code yX4_holdsAtPoint cX4_holdsAtPoint 3 (some .boolean), Cond.fieldLink RX4 22 "CutRows" "arena" "LCutRows$Arena;", Cond.fieldLink RX4 13 "CutRows" "vars" "I", Cond.fieldLink RX4 62 "CutRows" "factor" "LCutRows$Whole;", Cond.fieldLink RX4 69 "CutRows" "total" "LCutRows$Whole;", Cond.fieldLink RX4 123 "CutRows$Whole" "sign" "I", Cond.fieldLink RX4 66 "CutRows" "product" "LCutRows$Whole;", Cond.fieldLink RX4 41 "CutRows" "point" "[LCutRows$Whole;", Cond.methodLink RX4 141 yX0_load, Cond.instanceMethod yX0_load, Cond.selects RX0 yX0_load yX0_load, Cond.initialized RX0, Cond.code yX0_load cX0_load 5 none, Cond.fieldLink RX0 18 "CutRows$Arena" "cells" "[I", Cond.fieldLink RX0 22 "CutRows$Arena" "starts" "[I", Cond.fieldLink RX0 9 "CutRows$Arena" "width" "I", Cond.fieldLink RX0 46 "CutRows$Whole" "limbs" "[I", Cond.methodLink RX0 51 arraycopyName, Cond.native arraycopyName]
def wsX4_evalSatisfied_r2 : List Cond := [Cond.static arraycopyName, Cond.initialized "java/lang/System", Cond.fieldLink RX0 57 "CutRows$Whole" "size" "I", Cond.fieldLink RX0 63 "CutRows$Whole" "sign" "I", Cond.methodLink RX0 42 yX0_sizeOf, Cond.instanceMethod yX0_sizeOf, Cond.selects RX0 yX0_sizeOf yX0_sizeOf, Cond.code yX0_sizeOf cX0_sizeOf 3 (some .int), Cond.methodLink RX0 37 Lib.Math.abs.name, Cond.static Lib.Math.abs.name, Cond.initialized "java/lang/Math", Cond.code Lib.Math.abs.name Lib.Math.abs.code 1 (some .int), Cond.methodLink RX0 60 yX0_signOf, Cond.instanceMethod yX0_signOf, Cond.selects RX0 yX0_signOf yX0_signOf, Cond.code yX0_signOf cX0_signOf 3 (some .int), Cond.methodLink RX0 31 yJ6_signum_0f7a4, Cond.static yJ6_signum_0f7a4, Cond.initialized RJ6, Cond.code yJ6_signum_0f7a4 cJ6_signum_0f7a4 1 (some .int), Cond.methodLink RX4 91 yX3_copyFrom, Cond.instanceMethod yX3_copyFrom, Cond.selects RX3 yX3_copyFrom yX3_copyFrom, Cond.initialized RX3]
def wsX4_evalSatisfied_r3 : List Cond := [Cond.code yX3_copyFrom cX3_copyFrom 2 none, Cond.fieldLink RX3 9 "CutRows$Whole" "limbs" "[I", Cond.fieldLink RX3 15 "CutRows$Whole" "size" "I", Cond.methodLink RX3 22 arraycopyName, Cond.fieldLink RX3 19 "CutRows$Whole" "sign" "I", Cond.methodLink RX4 192 yX3_setProduct, Cond.instanceMethod yX3_setProduct, Cond.selects RX3 yX3_setProduct yX3_setProduct, Cond.code yX3_setProduct cX3_setProduct 4 none, Cond.methodLink RX3 34 yJ7_fill_fda19, Cond.static yJ7_fill_fda19, Cond.initialized RJ7, Cond.code yJ7_fill_fda19 cJ7_fill_fda19 5 none, Cond.methodLink RJ7 13 yJ7_rangeCheck_23922, Cond.static yJ7_rangeCheck_23922, Cond.code yJ7_rangeCheck_23922 cJ7_rangeCheck_23922 3 none, Cond.classLink RJ7 45 RJ4, Cond.instantiable RJ4 4, Cond.initialized RJ4, Cond.methodLink RX3 40 yX3_addTimes, Cond.instanceMethod yX3_addTimes, Cond.selects RX3 yX3_addTimes yX3_addTimes, Cond.code yX3_addTimes cX3_addTimes 8 none, Cond.constant RX3 48 (2147483647)]
def wsX4_evalSatisfied_r4 : List Cond := [Cond.methodLink RX3 44 yX3_settle, Cond.instanceMethod yX3_settle, Cond.selects RX3 yX3_settle yX3_settle, Cond.code yX3_settle cX3_settle 3 none, Cond.methodLink RX4 195 yX3_add, Cond.instanceMethod yX3_add, Cond.selects RX3 yX3_add yX3_add, Cond.code yX3_add cX3_add 2 none, Cond.methodLink RX3 49 yX3_addLimbs, Cond.instanceMethod yX3_addLimbs, Cond.selects RX3 yX3_addLimbs yX3_addLimbs, Cond.code yX3_addLimbs cX3_addLimbs 7 none, Cond.methodLink RX3 61 Lib.Math.max.name, Cond.static Lib.Math.max.name, Cond.code Lib.Math.max.name Lib.Math.max.code 2 (some .int), Cond.methodLink RX3 66 yX3_digit, Cond.instanceMethod yX3_digit, Cond.selects RX3 yX3_digit yX3_digit, Cond.code yX3_digit cX3_digit 2 (some .int), Cond.methodLink RX3 53 yX3_compareSize, Cond.instanceMethod yX3_compareSize, Cond.selects RX3 yX3_compareSize yX3_compareSize, Cond.code yX3_compareSize cX3_compareSize 3 (some .int), Cond.methodLink RX3 28 yJ6_compare_7cf53]
def wsX4_evalSatisfied_r5 : List Cond := [Cond.static yJ6_compare_7cf53, Cond.code yJ6_compare_7cf53 cJ6_compare_7cf53 2 (some .int), Cond.methodLink RX3 57 yX3_setDifference, Cond.instanceMethod yX3_setDifference, Cond.selects RX3 yX3_setDifference yX3_setDifference, Cond.code yX3_setDifference cX3_setDifference 8 none]
def wsX4_evalSatisfied : List Cond := .code yX4_evalSatisfied cX4_evalSatisfied 2 (some .int) :: ((wsX4_evalSatisfied_r1 ++ (wsX4_evalSatisfied_r2 ++ (wsX4_evalSatisfied_r3 ++ (wsX4_evalSatisfied_r4 ++ wsX4_evalSatisfied_r5)))) ++ wsX40 ++ wsX30 ++ wsX00 ++ wsJ40)
def wsX4_cell_r1 : List Cond := [Cond.classLink RX4 158 "java/lang/IllegalArgumentException", Cond.initialized "java/lang/IllegalArgumentException", Cond.fieldLink RX4 22 "CutRows" "arena" "LCutRows$Arena;", Cond.fieldLink RX4 13 "CutRows" "vars" "I", Cond.methodLink RX4 116 yX0_has, Cond.instanceMethod yX0_has, Cond.selects RX0 yX0_has yX0_has, Cond.initialized RX0, Cond.code yX0_has cX0_has 2 (some .boolean), Cond.fieldLink RX0 28 "CutRows$Arena" "rows" "I", Cond.methodLink RX4 165 yX0_signOf, Cond.instanceMethod yX0_signOf, Cond.selects RX0 yX0_signOf yX0_signOf, Cond.code yX0_signOf cX0_signOf 3 (some .int), Cond.fieldLink RX0 18 "CutRows$Arena" "cells" "[I", Cond.fieldLink RX0 22 "CutRows$Arena" "starts" "[I", Cond.fieldLink RX0 9 "CutRows$Arena" "width" "I", Cond.methodLink RX0 31 yJ6_signum_0f7a4, Cond.static yJ6_signum_0f7a4, Cond.initialized RJ6, Cond.code yJ6_signum_0f7a4 cJ6_signum_0f7a4 1 (some .int), Cond.methodLink RX4 168 yX0_sizeOf, Cond.instanceMethod yX0_sizeOf, Cond.selects RX0 yX0_sizeOf yX0_sizeOf]
def wsX4_cell_r2 : List Cond := [Cond.code yX0_sizeOf cX0_sizeOf 3 (some .int), Cond.methodLink RX0 37 Lib.Math.abs.name, Cond.static Lib.Math.abs.name, Cond.initialized "java/lang/Math", Cond.code Lib.Math.abs.name Lib.Math.abs.code 1 (some .int), Cond.methodLink RX4 171 yX0_digitOf, Cond.instanceMethod yX0_digitOf, Cond.selects RX0 yX0_digitOf yX0_digitOf, Cond.code yX0_digitOf cX0_digitOf 4 (some .int), Cond.methodLink RX0 42 yX0_sizeOf]
def wsX5_between : List Cond := .code yX5_between cX5_between 2 (some .int) :: ([])
def wsX5_init : List Cond := .code yX5_init cX5_init 4 none :: ([.methodLink RX5 1 objectInit, .instanceMethod objectInit, .code objectInit ⟨#[0xb1]⟩ 1 none, .arrayClass .int, .fieldLink RX5 7 "CutRowsModel" "limbs" "[I", .fieldLink RX5 13 "CutRowsModel" "length" "[I", .arrayClass .boolean, .fieldLink RX5 16 "CutRowsModel" "isBelow" "[Z", .fieldLink RX5 24 "CutRowsModel" "vars" "I", .fieldLink RX5 28 "CutRowsModel" "maxRows" "I", .fieldLink RX5 31 "CutRowsModel" "cells" "I", .methodLink RX5 20 yX5_between, .static yX5_between, .initialized RX5, .code yX5_between cX5_between 2 (some .int)] ++ wsX50)
def wsX5_thrown : List Cond := .code yX5_thrown cX5_thrown 1 (some .int) :: ([.fieldLink RX5 34 "CutRowsModel" "refusal" "I"] ++ wsX50)
def wsX5_refused : List Cond := .code yX5_refused cX5_refused 2 (some .boolean) :: ([.fieldLink RX5 34 "CutRowsModel" "refusal" "I"] ++ wsX50)
def wsX5_trim : List Cond := .code yX5_trim cX5_trim 2 none :: ([.fieldLink RX5 13 "CutRowsModel" "length" "[I", .fieldLink RX5 7 "CutRowsModel" "limbs" "[I", .fieldLink RX5 16 "CutRowsModel" "isBelow" "[Z"] ++ wsX50)
def wsX5_copy : List Cond := .code yX5_copy cX5_copy 4 none :: ([.fieldLink RX5 13 "CutRowsModel" "length" "[I", .fieldLink RX5 16 "CutRowsModel" "isBelow" "[Z", .fieldLink RX5 7 "CutRowsModel" "limbs" "[I"] ++ wsX50)
def wsX5_clear : List Cond := .code yX5_clear cX5_clear 2 none :: ([.fieldLink RX5 13 "CutRowsModel" "length" "[I", .fieldLink RX5 16 "CutRowsModel" "isBelow" "[Z"] ++ wsX50)
def wsX5_limbOf : List Cond := .code yX5_limbOf cX5_limbOf 3 (some .long) :: ([.fieldLink RX5 13 "CutRowsModel" "length" "[I", .fieldLink RX5 7 "CutRowsModel" "limbs" "[I"] ++ wsX50)
def wsX5_compareSizes : List Cond := .code yX5_compareSizes cX5_compareSizes 4 (some .int) :: ([.fieldLink RX5 13 "CutRowsModel" "length" "[I", .fieldLink RX5 7 "CutRowsModel" "limbs" "[I"] ++ wsX50)
def wsX5_addSizes : List Cond := .code yX5_addSizes cX5_addSizes 10 none :: ([.fieldLink RX5 13 "CutRowsModel" "length" "[I", .fieldLink RX5 7 "CutRowsModel" "limbs" "[I", .constantLong RX5 41 (2147483647), .methodLink RX5 37 yX5_limbOf, .instanceMethod yX5_limbOf, .selects RX5 yX5_limbOf yX5_limbOf, .initialized RX5, .code yX5_limbOf cX5_limbOf 3 (some .long), .methodLink RX5 43 yX5_trim, .instanceMethod yX5_trim, .selects RX5 yX5_trim yX5_trim, .code yX5_trim cX5_trim 2 none, .fieldLink RX5 16 "CutRowsModel" "isBelow" "[Z"] ++ wsX50)
def wsX5_subtractSizes : List Cond := .code yX5_subtractSizes cX5_subtractSizes 10 none :: ([.fieldLink RX5 13 "CutRowsModel" "length" "[I", .fieldLink RX5 7 "CutRowsModel" "limbs" "[I", .constantLong RX5 41 (2147483647), .methodLink RX5 37 yX5_limbOf, .instanceMethod yX5_limbOf, .selects RX5 yX5_limbOf yX5_limbOf, .initialized RX5, .code yX5_limbOf cX5_limbOf 3 (some .long), .methodLink RX5 43 yX5_trim, .instanceMethod yX5_trim, .selects RX5 yX5_trim yX5_trim, .code yX5_trim cX5_trim 2 none, .fieldLink RX5 16 "CutRowsModel" "isBelow" "[Z"] ++ wsX50)
def wsX5_add_r1 : List Cond := [Cond.fieldLink RX5 16 "CutRowsModel" "isBelow" "[Z", Cond.fieldLink RX5 13 "CutRowsModel" "length" "[I", Cond.methodLink RX5 47 yX5_addSizes, Cond.instanceMethod yX5_addSizes, Cond.selects RX5 yX5_addSizes yX5_addSizes, Cond.initialized RX5, Cond.code yX5_addSizes cX5_addSizes 10 none, Cond.fieldLink RX5 7 "CutRowsModel" "limbs" "[I", Cond.constantLong RX5 41 (2147483647), Cond.methodLink RX5 37 yX5_limbOf, Cond.instanceMethod yX5_limbOf, Cond.selects RX5 yX5_limbOf yX5_limbOf, Cond.code yX5_limbOf cX5_limbOf 3 (some .long), Cond.methodLink RX5 43 yX5_trim, Cond.instanceMethod yX5_trim, Cond.selects RX5 yX5_trim yX5_trim, Cond.code yX5_trim cX5_trim 2 none, Cond.methodLink RX5 51 yX5_compareSizes, Cond.instanceMethod yX5_compareSizes, Cond.selects RX5 yX5_compareSizes yX5_compareSizes, Cond.code yX5_compareSizes cX5_compareSizes 4 (some .int), Cond.methodLink RX5 54 yX5_subtractSizes, Cond.instanceMethod yX5_subtractSizes, Cond.selects RX5 yX5_subtractSizes yX5_subtractSizes]
def wsX5_add_r2 : List Cond := [Cond.code yX5_subtractSizes cX5_subtractSizes 10 none]
def wsX5_add : List Cond := .code yX5_add cX5_add 6 none :: ((wsX5_add_r1 ++ wsX5_add_r2) ++ wsX50)
def wsX5_multiply : List Cond := .code yX5_multiply cX5_multiply 12 none :: ([.fieldLink RX5 13 "CutRowsModel" "length" "[I", .fieldLink RX5 7 "CutRowsModel" "limbs" "[I", .constantLong RX5 41 (2147483647), .fieldLink RX5 16 "CutRowsModel" "isBelow" "[Z", .methodLink RX5 37 yX5_limbOf, .instanceMethod yX5_limbOf, .selects RX5 yX5_limbOf yX5_limbOf, .initialized RX5, .code yX5_limbOf cX5_limbOf 3 (some .long), .methodLink RX5 43 yX5_trim, .instanceMethod yX5_trim, .selects RX5 yX5_trim yX5_trim, .code yX5_trim cX5_trim 2 none] ++ wsX50)
def wsX5_bitsOf : List Cond := .code yX5_bitsOf cX5_bitsOf 4 (some .int) :: ([.fieldLink RX5 13 "CutRowsModel" "length" "[I", .fieldLink RX5 7 "CutRowsModel" "limbs" "[I", .constant RX5 57 (1073741824)] ++ wsX50)
def wsX5_bitOf : List Cond := .code yX5_bitOf cX5_bitOf 3 (some .int) :: ([.methodLink RX5 37 yX5_limbOf, .instanceMethod yX5_limbOf, .selects RX5 yX5_limbOf yX5_limbOf, .initialized RX5, .code yX5_limbOf cX5_limbOf 3 (some .long), .fieldLink RX5 13 "CutRowsModel" "length" "[I", .fieldLink RX5 7 "CutRowsModel" "limbs" "[I"] ++ wsX50)
def wsX5_halve : List Cond := .code yX5_halve cX5_halve 6 none :: ([.fieldLink RX5 13 "CutRowsModel" "length" "[I", .fieldLink RX5 7 "CutRowsModel" "limbs" "[I", .methodLink RX5 43 yX5_trim, .instanceMethod yX5_trim, .selects RX5 yX5_trim yX5_trim, .initialized RX5, .code yX5_trim cX5_trim 2 none, .fieldLink RX5 16 "CutRowsModel" "isBelow" "[Z"] ++ wsX50)
def wsX5_divide_r1 : List Cond := [Cond.fieldLink RX5 16 "CutRowsModel" "isBelow" "[Z", Cond.fieldLink RX5 13 "CutRowsModel" "length" "[I", Cond.fieldLink RX5 7 "CutRowsModel" "limbs" "[I", Cond.methodLink RX5 58 yX5_copy, Cond.instanceMethod yX5_copy, Cond.selects RX5 yX5_copy yX5_copy, Cond.initialized RX5, Cond.code yX5_copy cX5_copy 4 none, Cond.methodLink RX5 62 yX5_clear, Cond.instanceMethod yX5_clear, Cond.selects RX5 yX5_clear yX5_clear, Cond.code yX5_clear cX5_clear 2 none, Cond.methodLink RX5 43 yX5_trim, Cond.instanceMethod yX5_trim, Cond.selects RX5 yX5_trim yX5_trim, Cond.code yX5_trim cX5_trim 2 none, Cond.methodLink RX5 65 yX5_bitsOf, Cond.instanceMethod yX5_bitsOf, Cond.selects RX5 yX5_bitsOf yX5_bitsOf, Cond.code yX5_bitsOf cX5_bitsOf 4 (some .int), Cond.constant RX5 57 (1073741824), Cond.methodLink RX5 47 yX5_addSizes, Cond.instanceMethod yX5_addSizes, Cond.selects RX5 yX5_addSizes yX5_addSizes]
def wsX5_divide_r2 : List Cond := [Cond.code yX5_addSizes cX5_addSizes 10 none, Cond.constantLong RX5 41 (2147483647), Cond.methodLink RX5 37 yX5_limbOf, Cond.instanceMethod yX5_limbOf, Cond.selects RX5 yX5_limbOf yX5_limbOf, Cond.code yX5_limbOf cX5_limbOf 3 (some .long), Cond.methodLink RX5 69 yX5_bitOf, Cond.instanceMethod yX5_bitOf, Cond.selects RX5 yX5_bitOf yX5_bitOf, Cond.code yX5_bitOf cX5_bitOf 3 (some .int), Cond.methodLink RX5 51 yX5_compareSizes, Cond.instanceMethod yX5_compareSizes, Cond.selects RX5 yX5_compareSizes yX5_compareSizes, Cond.code yX5_compareSizes cX5_compareSizes 4 (some .int), Cond.methodLink RX5 54 yX5_subtractSizes, Cond.instanceMethod yX5_subtractSizes, Cond.selects RX5 yX5_subtractSizes yX5_subtractSizes, Cond.code yX5_subtractSizes cX5_subtractSizes 10 none]
def wsX5_divide : List Cond := .code yX5_divide cX5_divide 10 none :: ((wsX5_divide_r1 ++ wsX5_divide_r2) ++ wsX50)
def wsX5_isEven : List Cond := .code yX5_isEven cX5_isEven 2 (some .boolean) :: ([.constantLong RX5 72 (2), .methodLink RX5 37 yX5_limbOf, .instanceMethod yX5_limbOf, .selects RX5 yX5_limbOf yX5_limbOf, .initialized RX5, .code yX5_limbOf cX5_limbOf 3 (some .long), .fieldLink RX5 13 "CutRowsModel" "length" "[I", .fieldLink RX5 7 "CutRowsModel" "limbs" "[I"] ++ wsX50)
def wsX5_common_r1 : List Cond := [Cond.fieldLink RX5 16 "CutRowsModel" "isBelow" "[Z", Cond.fieldLink RX5 13 "CutRowsModel" "length" "[I", Cond.methodLink RX5 58 yX5_copy, Cond.instanceMethod yX5_copy, Cond.selects RX5 yX5_copy yX5_copy, Cond.initialized RX5, Cond.code yX5_copy cX5_copy 4 none, Cond.fieldLink RX5 7 "CutRowsModel" "limbs" "[I", Cond.methodLink RX5 74 yX5_isEven, Cond.instanceMethod yX5_isEven, Cond.selects RX5 yX5_isEven yX5_isEven, Cond.code yX5_isEven cX5_isEven 2 (some .boolean), Cond.constantLong RX5 72 (2), Cond.methodLink RX5 37 yX5_limbOf, Cond.instanceMethod yX5_limbOf, Cond.selects RX5 yX5_limbOf yX5_limbOf, Cond.code yX5_limbOf cX5_limbOf 3 (some .long), Cond.methodLink RX5 78 yX5_halve, Cond.instanceMethod yX5_halve, Cond.selects RX5 yX5_halve yX5_halve, Cond.code yX5_halve cX5_halve 6 none, Cond.methodLink RX5 43 yX5_trim, Cond.instanceMethod yX5_trim, Cond.selects RX5 yX5_trim yX5_trim]
def wsX5_common_r2 : List Cond := [Cond.code yX5_trim cX5_trim 2 none, Cond.methodLink RX5 51 yX5_compareSizes, Cond.instanceMethod yX5_compareSizes, Cond.selects RX5 yX5_compareSizes yX5_compareSizes, Cond.code yX5_compareSizes cX5_compareSizes 4 (some .int), Cond.methodLink RX5 54 yX5_subtractSizes, Cond.instanceMethod yX5_subtractSizes, Cond.selects RX5 yX5_subtractSizes yX5_subtractSizes, Cond.code yX5_subtractSizes cX5_subtractSizes 10 none, Cond.constantLong RX5 41 (2147483647), Cond.methodLink RX5 47 yX5_addSizes, Cond.instanceMethod yX5_addSizes, Cond.selects RX5 yX5_addSizes yX5_addSizes, Cond.code yX5_addSizes cX5_addSizes 10 none]
def wsX5_common : List Cond := .code yX5_common cX5_common 4 none :: ((wsX5_common_r1 ++ wsX5_common_r2) ++ wsX50)
def wsX5_beginNumber : List Cond := .code yX5_beginNumber cX5_beginNumber 2 (some .boolean) :: ([.fieldLink RX5 34 "CutRowsModel" "refusal" "I", .fieldLink RX5 81 "CutRowsModel" "sign" "I", .fieldLink RX5 84 "CutRowsModel" "state" "I", .fieldLink RX5 87 "CutRowsModel" "given" "I", .methodLink RX5 62 yX5_clear, .instanceMethod yX5_clear, .selects RX5 yX5_clear yX5_clear, .initialized RX5, .code yX5_clear cX5_clear 2 none, .fieldLink RX5 13 "CutRowsModel" "length" "[I", .fieldLink RX5 16 "CutRowsModel" "isBelow" "[Z"] ++ wsX50)
def wsX5_limb : List Cond := .code yX5_limb cX5_limb 2 (some .boolean) :: ([.fieldLink RX5 34 "CutRowsModel" "refusal" "I", .fieldLink RX5 84 "CutRowsModel" "state" "I", .fieldLink RX5 87 "CutRowsModel" "given" "I", .fieldLink RX5 7 "CutRowsModel" "limbs" "[I"] ++ wsX50)
def wsX5_settle : List Cond := .code yX5_settle cX5_settle 1 none :: ([.fieldLink RX5 13 "CutRowsModel" "length" "[I", .fieldLink RX5 81 "CutRowsModel" "sign" "I", .fieldLink RX5 87 "CutRowsModel" "given" "I", .fieldLink RX5 16 "CutRowsModel" "isBelow" "[Z", .methodLink RX5 43 yX5_trim, .instanceMethod yX5_trim, .selects RX5 yX5_trim yX5_trim, .initialized RX5, .code yX5_trim cX5_trim 2 none, .fieldLink RX5 7 "CutRowsModel" "limbs" "[I"] ++ wsX50)
def wsX5_endCoefficient : List Cond := .code yX5_endCoefficient cX5_endCoefficient 1 (some .boolean) :: ([.fieldLink RX5 34 "CutRowsModel" "refusal" "I", .fieldLink RX5 84 "CutRowsModel" "state" "I", .fieldLink RX5 90 "CutRowsModel" "filled" "I", .fieldLink RX5 24 "CutRowsModel" "vars" "I", .methodLink RX5 93 yX5_settle, .instanceMethod yX5_settle, .selects RX5 yX5_settle yX5_settle, .initialized RX5, .code yX5_settle cX5_settle 1 none, .fieldLink RX5 13 "CutRowsModel" "length" "[I", .fieldLink RX5 81 "CutRowsModel" "sign" "I", .fieldLink RX5 87 "CutRowsModel" "given" "I", .fieldLink RX5 16 "CutRowsModel" "isBelow" "[Z", .methodLink RX5 43 yX5_trim, .instanceMethod yX5_trim, .selects RX5 yX5_trim yX5_trim, .code yX5_trim cX5_trim 2 none, .fieldLink RX5 7 "CutRowsModel" "limbs" "[I", .methodLink RX5 58 yX5_copy, .instanceMethod yX5_copy, .selects RX5 yX5_copy yX5_copy, .code yX5_copy cX5_copy 4 none] ++ wsX50)
def wsX5_placeOf : List Cond := .code yX5_placeOf cX5_placeOf 2 (some .int) :: ([])
def wsX5_store : List Cond := .code yX5_store cX5_store 4 (some .int) :: ([.fieldLink RX5 24 "CutRowsModel" "vars" "I", .fieldLink RX5 13 "CutRowsModel" "length" "[I", .fieldLink RX5 96 "CutRowsModel" "rows" "I", .fieldLink RX5 28 "CutRowsModel" "maxRows" "I", .fieldLink RX5 31 "CutRowsModel" "cells" "I", .methodLink RX5 99 yX5_placeOf, .static yX5_placeOf, .initialized RX5, .code yX5_placeOf cX5_placeOf 2 (some .int), .methodLink RX5 58 yX5_copy, .instanceMethod yX5_copy, .selects RX5 yX5_copy yX5_copy, .code yX5_copy cX5_copy 4 none, .fieldLink RX5 16 "CutRowsModel" "isBelow" "[Z", .fieldLink RX5 7 "CutRowsModel" "limbs" "[I"] ++ wsX50)
def wsX5_endConstraint : List Cond := .code yX5_endConstraint cX5_endConstraint 3 (some .int) :: ([.fieldLink RX5 34 "CutRowsModel" "refusal" "I", .fieldLink RX5 90 "CutRowsModel" "filled" "I", .fieldLink RX5 102 "CutRowsModel" "isSealed" "Z", .fieldLink RX5 24 "CutRowsModel" "vars" "I", .fieldLink RX5 96 "CutRowsModel" "rows" "I", .fieldLink RX5 109 "CutRowsModel" "input" "I", .methodLink RX5 106 yX5_store, .instanceMethod yX5_store, .selects RX5 yX5_store yX5_store, .initialized RX5, .code yX5_store cX5_store 4 (some .int), .fieldLink RX5 13 "CutRowsModel" "length" "[I", .fieldLink RX5 28 "CutRowsModel" "maxRows" "I", .fieldLink RX5 31 "CutRowsModel" "cells" "I", .methodLink RX5 99 yX5_placeOf, .static yX5_placeOf, .code yX5_placeOf cX5_placeOf 2 (some .int), .methodLink RX5 58 yX5_copy, .instanceMethod yX5_copy, .selects RX5 yX5_copy yX5_copy, .code yX5_copy cX5_copy 4 none, .fieldLink RX5 16 "CutRowsModel" "isBelow" "[Z", .fieldLink RX5 7 "CutRowsModel" "limbs" "[I"] ++ wsX50)
def wsX5_sealInput : List Cond := .code yX5_sealInput cX5_sealInput 2 (some .boolean) :: ([.fieldLink RX5 34 "CutRowsModel" "refusal" "I", .fieldLink RX5 102 "CutRowsModel" "isSealed" "Z"] ++ wsX50)
def wsX5_combineStart : List Cond := .code yX5_combineStart cX5_combineStart 2 (some .boolean) :: ([.fieldLink RX5 34 "CutRowsModel" "refusal" "I", .fieldLink RX5 102 "CutRowsModel" "isSealed" "Z", .fieldLink RX5 112 "CutRowsModel" "isBegun" "Z", .fieldLink RX5 24 "CutRowsModel" "vars" "I", .methodLink RX5 62 yX5_clear, .instanceMethod yX5_clear, .selects RX5 yX5_clear yX5_clear, .initialized RX5, .code yX5_clear cX5_clear 2 none, .fieldLink RX5 13 "CutRowsModel" "length" "[I", .fieldLink RX5 16 "CutRowsModel" "isBelow" "[Z"] ++ wsX50)
def wsX5_isRow : List Cond := .code yX5_isRow cX5_isRow 2 (some .boolean) :: ([.fieldLink RX5 96 "CutRowsModel" "rows" "I"] ++ wsX50)
def wsX5_combineAdd_r1 : List Cond := [Cond.fieldLink RX5 34 "CutRowsModel" "refusal" "I", Cond.fieldLink RX5 112 "CutRowsModel" "isBegun" "Z", Cond.fieldLink RX5 84 "CutRowsModel" "state" "I", Cond.fieldLink RX5 16 "CutRowsModel" "isBelow" "[Z", Cond.fieldLink RX5 24 "CutRowsModel" "vars" "I", Cond.fieldLink RX5 13 "CutRowsModel" "length" "[I", Cond.methodLink RX5 115 yX5_isRow, Cond.instanceMethod yX5_isRow, Cond.selects RX5 yX5_isRow yX5_isRow, Cond.initialized RX5, Cond.code yX5_isRow cX5_isRow 2 (some .boolean), Cond.fieldLink RX5 96 "CutRowsModel" "rows" "I", Cond.methodLink RX5 93 yX5_settle, Cond.instanceMethod yX5_settle, Cond.selects RX5 yX5_settle yX5_settle, Cond.code yX5_settle cX5_settle 1 none, Cond.fieldLink RX5 81 "CutRowsModel" "sign" "I", Cond.fieldLink RX5 87 "CutRowsModel" "given" "I", Cond.methodLink RX5 43 yX5_trim, Cond.instanceMethod yX5_trim, Cond.selects RX5 yX5_trim yX5_trim, Cond.code yX5_trim cX5_trim 2 none, Cond.fieldLink RX5 7 "CutRowsModel" "limbs" "[I", Cond.methodLink RX5 99 yX5_placeOf]
def wsX5_combineAdd_r2 : List Cond := [Cond.static yX5_placeOf, Cond.code yX5_placeOf cX5_placeOf 2 (some .int), Cond.methodLink RX5 118 yX5_multiply, Cond.instanceMethod yX5_multiply, Cond.selects RX5 yX5_multiply yX5_multiply, Cond.code yX5_multiply cX5_multiply 12 none, Cond.constantLong RX5 41 (2147483647), Cond.methodLink RX5 37 yX5_limbOf, Cond.instanceMethod yX5_limbOf, Cond.selects RX5 yX5_limbOf yX5_limbOf, Cond.code yX5_limbOf cX5_limbOf 3 (some .long), Cond.methodLink RX5 121 yX5_add, Cond.instanceMethod yX5_add, Cond.selects RX5 yX5_add yX5_add, Cond.code yX5_add cX5_add 6 none, Cond.methodLink RX5 47 yX5_addSizes, Cond.instanceMethod yX5_addSizes, Cond.selects RX5 yX5_addSizes yX5_addSizes, Cond.code yX5_addSizes cX5_addSizes 10 none, Cond.methodLink RX5 51 yX5_compareSizes, Cond.instanceMethod yX5_compareSizes, Cond.selects RX5 yX5_compareSizes yX5_compareSizes, Cond.code yX5_compareSizes cX5_compareSizes 4 (some .int), Cond.methodLink RX5 54 yX5_subtractSizes]
def wsX5_combineAdd_r3 : List Cond := [Cond.instanceMethod yX5_subtractSizes, Cond.selects RX5 yX5_subtractSizes yX5_subtractSizes, Cond.code yX5_subtractSizes cX5_subtractSizes 10 none, Cond.methodLink RX5 58 yX5_copy, Cond.instanceMethod yX5_copy, Cond.selects RX5 yX5_copy yX5_copy, Cond.code yX5_copy cX5_copy 4 none]
def wsX5_combineAdd : List Cond := .code yX5_combineAdd cX5_combineAdd 3 (some .int) :: ((wsX5_combineAdd_r1 ++ (wsX5_combineAdd_r2 ++ wsX5_combineAdd_r3)) ++ wsX50)
def wsX5_combineEnd : List Cond := .code yX5_combineEnd cX5_combineEnd 2 (some .int) :: ([.fieldLink RX5 34 "CutRowsModel" "refusal" "I", .fieldLink RX5 112 "CutRowsModel" "isBegun" "Z", .methodLink RX5 106 yX5_store, .instanceMethod yX5_store, .selects RX5 yX5_store yX5_store, .initialized RX5, .code yX5_store cX5_store 4 (some .int), .fieldLink RX5 24 "CutRowsModel" "vars" "I", .fieldLink RX5 13 "CutRowsModel" "length" "[I", .fieldLink RX5 96 "CutRowsModel" "rows" "I", .fieldLink RX5 28 "CutRowsModel" "maxRows" "I", .fieldLink RX5 31 "CutRowsModel" "cells" "I", .methodLink RX5 99 yX5_placeOf, .static yX5_placeOf, .code yX5_placeOf cX5_placeOf 2 (some .int), .methodLink RX5 58 yX5_copy, .instanceMethod yX5_copy, .selects RX5 yX5_copy yX5_copy, .code yX5_copy cX5_copy 4 none, .fieldLink RX5 16 "CutRowsModel" "isBelow" "[Z", .fieldLink RX5 7 "CutRowsModel" "limbs" "[I"] ++ wsX50)
def wsX5_divideRound_r1 : List Cond := [Cond.fieldLink RX5 34 "CutRowsModel" "refusal" "I", Cond.fieldLink RX5 102 "CutRowsModel" "isSealed" "Z", Cond.fieldLink RX5 24 "CutRowsModel" "vars" "I", Cond.fieldLink RX5 13 "CutRowsModel" "length" "[I", Cond.fieldLink RX5 16 "CutRowsModel" "isBelow" "[Z", Cond.methodLink RX5 115 yX5_isRow, Cond.instanceMethod yX5_isRow, Cond.selects RX5 yX5_isRow yX5_isRow, Cond.initialized RX5, Cond.code yX5_isRow cX5_isRow 2 (some .boolean), Cond.fieldLink RX5 96 "CutRowsModel" "rows" "I", Cond.methodLink RX5 62 yX5_clear, Cond.instanceMethod yX5_clear, Cond.selects RX5 yX5_clear yX5_clear, Cond.code yX5_clear cX5_clear 2 none, Cond.methodLink RX5 99 yX5_placeOf, Cond.static yX5_placeOf, Cond.code yX5_placeOf cX5_placeOf 2 (some .int), Cond.methodLink RX5 124 yX5_common, Cond.instanceMethod yX5_common, Cond.selects RX5 yX5_common yX5_common, Cond.code yX5_common cX5_common 4 none, Cond.methodLink RX5 58 yX5_copy, Cond.instanceMethod yX5_copy]
def wsX5_divideRound_r2 : List Cond := [Cond.selects RX5 yX5_copy yX5_copy, Cond.code yX5_copy cX5_copy 4 none, Cond.fieldLink RX5 7 "CutRowsModel" "limbs" "[I", Cond.methodLink RX5 74 yX5_isEven, Cond.instanceMethod yX5_isEven, Cond.selects RX5 yX5_isEven yX5_isEven, Cond.code yX5_isEven cX5_isEven 2 (some .boolean), Cond.constantLong RX5 72 (2), Cond.methodLink RX5 37 yX5_limbOf, Cond.instanceMethod yX5_limbOf, Cond.selects RX5 yX5_limbOf yX5_limbOf, Cond.code yX5_limbOf cX5_limbOf 3 (some .long), Cond.methodLink RX5 78 yX5_halve, Cond.instanceMethod yX5_halve, Cond.selects RX5 yX5_halve yX5_halve, Cond.code yX5_halve cX5_halve 6 none, Cond.methodLink RX5 43 yX5_trim, Cond.instanceMethod yX5_trim, Cond.selects RX5 yX5_trim yX5_trim, Cond.code yX5_trim cX5_trim 2 none, Cond.methodLink RX5 51 yX5_compareSizes, Cond.instanceMethod yX5_compareSizes, Cond.selects RX5 yX5_compareSizes yX5_compareSizes, Cond.code yX5_compareSizes cX5_compareSizes 4 (some .int)]
def wsX5_divideRound_r3 : List Cond := [Cond.methodLink RX5 54 yX5_subtractSizes, Cond.instanceMethod yX5_subtractSizes, Cond.selects RX5 yX5_subtractSizes yX5_subtractSizes, Cond.code yX5_subtractSizes cX5_subtractSizes 10 none, Cond.constantLong RX5 41 (2147483647), Cond.methodLink RX5 47 yX5_addSizes, Cond.instanceMethod yX5_addSizes, Cond.selects RX5 yX5_addSizes yX5_addSizes, Cond.code yX5_addSizes cX5_addSizes 10 none, Cond.methodLink RX5 127 yX5_divide, Cond.instanceMethod yX5_divide, Cond.selects RX5 yX5_divide yX5_divide, Cond.code yX5_divide cX5_divide 10 none, Cond.methodLink RX5 65 yX5_bitsOf, Cond.instanceMethod yX5_bitsOf, Cond.selects RX5 yX5_bitsOf yX5_bitsOf, Cond.code yX5_bitsOf cX5_bitsOf 4 (some .int), Cond.constant RX5 57 (1073741824), Cond.methodLink RX5 69 yX5_bitOf, Cond.instanceMethod yX5_bitOf, Cond.selects RX5 yX5_bitOf yX5_bitOf, Cond.code yX5_bitOf cX5_bitOf 3 (some .int), Cond.methodLink RX5 106 yX5_store, Cond.instanceMethod yX5_store]
def wsX5_divideRound_r4 : List Cond := [Cond.selects RX5 yX5_store yX5_store, Cond.code yX5_store cX5_store 4 (some .int), Cond.fieldLink RX5 28 "CutRowsModel" "maxRows" "I", Cond.fieldLink RX5 31 "CutRowsModel" "cells" "I"]
def wsX5_divideRound : List Cond := .code yX5_divideRound cX5_divideRound 5 (some .int) :: ((wsX5_divideRound_r1 ++ (wsX5_divideRound_r2 ++ (wsX5_divideRound_r3 ++ wsX5_divideRound_r4))) ++ wsX50)
def wsX5_refuted : List Cond := .code yX5_refuted cX5_refuted 4 (some .boolean) :: ([.fieldLink RX5 34 "CutRowsModel" "refusal" "I", .fieldLink RX5 109 "CutRowsModel" "input" "I", .fieldLink RX5 96 "CutRowsModel" "rows" "I", .fieldLink RX5 16 "CutRowsModel" "isBelow" "[Z", .fieldLink RX5 24 "CutRowsModel" "vars" "I", .fieldLink RX5 13 "CutRowsModel" "length" "[I", .methodLink RX5 99 yX5_placeOf, .static yX5_placeOf, .initialized RX5, .code yX5_placeOf cX5_placeOf 2 (some .int)] ++ wsX50)
def wsX5_rowCount : List Cond := .code yX5_rowCount cX5_rowCount 1 (some .int) :: ([.fieldLink RX5 34 "CutRowsModel" "refusal" "I", .fieldLink RX5 96 "CutRowsModel" "rows" "I"] ++ wsX50)
def wsX5_evalStart : List Cond := .code yX5_evalStart cX5_evalStart 2 (some .boolean) :: ([.fieldLink RX5 34 "CutRowsModel" "refusal" "I", .fieldLink RX5 24 "CutRowsModel" "vars" "I", .methodLink RX5 62 yX5_clear, .instanceMethod yX5_clear, .selects RX5 yX5_clear yX5_clear, .initialized RX5, .code yX5_clear cX5_clear 2 none, .fieldLink RX5 13 "CutRowsModel" "length" "[I", .fieldLink RX5 16 "CutRowsModel" "isBelow" "[Z"] ++ wsX50)
def wsX5_evalPoint : List Cond := .code yX5_evalPoint cX5_evalPoint 2 (some .boolean) :: ([.fieldLink RX5 34 "CutRowsModel" "refusal" "I", .fieldLink RX5 24 "CutRowsModel" "vars" "I", .fieldLink RX5 84 "CutRowsModel" "state" "I", .methodLink RX5 93 yX5_settle, .instanceMethod yX5_settle, .selects RX5 yX5_settle yX5_settle, .initialized RX5, .code yX5_settle cX5_settle 1 none, .fieldLink RX5 13 "CutRowsModel" "length" "[I", .fieldLink RX5 81 "CutRowsModel" "sign" "I", .fieldLink RX5 87 "CutRowsModel" "given" "I", .fieldLink RX5 16 "CutRowsModel" "isBelow" "[Z", .methodLink RX5 43 yX5_trim, .instanceMethod yX5_trim, .selects RX5 yX5_trim yX5_trim, .code yX5_trim cX5_trim 2 none, .fieldLink RX5 7 "CutRowsModel" "limbs" "[I", .methodLink RX5 58 yX5_copy, .instanceMethod yX5_copy, .selects RX5 yX5_copy yX5_copy, .code yX5_copy cX5_copy 4 none] ++ wsX50)
def wsX5_holds_r1 : List Cond := [Cond.fieldLink RX5 24 "CutRowsModel" "vars" "I", Cond.fieldLink RX5 16 "CutRowsModel" "isBelow" "[Z", Cond.fieldLink RX5 13 "CutRowsModel" "length" "[I", Cond.methodLink RX5 62 yX5_clear, Cond.instanceMethod yX5_clear, Cond.selects RX5 yX5_clear yX5_clear, Cond.initialized RX5, Cond.code yX5_clear cX5_clear 2 none, Cond.methodLink RX5 99 yX5_placeOf, Cond.static yX5_placeOf, Cond.code yX5_placeOf cX5_placeOf 2 (some .int), Cond.methodLink RX5 118 yX5_multiply, Cond.instanceMethod yX5_multiply, Cond.selects RX5 yX5_multiply yX5_multiply, Cond.code yX5_multiply cX5_multiply 12 none, Cond.fieldLink RX5 7 "CutRowsModel" "limbs" "[I", Cond.constantLong RX5 41 (2147483647), Cond.methodLink RX5 37 yX5_limbOf, Cond.instanceMethod yX5_limbOf, Cond.selects RX5 yX5_limbOf yX5_limbOf, Cond.code yX5_limbOf cX5_limbOf 3 (some .long), Cond.methodLink RX5 43 yX5_trim, Cond.instanceMethod yX5_trim, Cond.selects RX5 yX5_trim yX5_trim]
def wsX5_holds_r2 : List Cond := [Cond.code yX5_trim cX5_trim 2 none, Cond.methodLink RX5 121 yX5_add, Cond.instanceMethod yX5_add, Cond.selects RX5 yX5_add yX5_add, Cond.code yX5_add cX5_add 6 none, Cond.methodLink RX5 47 yX5_addSizes, Cond.instanceMethod yX5_addSizes, Cond.selects RX5 yX5_addSizes yX5_addSizes, Cond.code yX5_addSizes cX5_addSizes 10 none, Cond.methodLink RX5 51 yX5_compareSizes, Cond.instanceMethod yX5_compareSizes, Cond.selects RX5 yX5_compareSizes yX5_compareSizes, Cond.code yX5_compareSizes cX5_compareSizes 4 (some .int), Cond.methodLink RX5 54 yX5_subtractSizes, Cond.instanceMethod yX5_subtractSizes, Cond.selects RX5 yX5_subtractSizes yX5_subtractSizes, Cond.code yX5_subtractSizes cX5_subtractSizes 10 none, Cond.methodLink RX5 58 yX5_copy, Cond.instanceMethod yX5_copy, Cond.selects RX5 yX5_copy yX5_copy, Cond.code yX5_copy cX5_copy 4 none]
def wsX5_holds : List Cond := .code yX5_holds cX5_holds 3 (some .boolean) :: ((wsX5_holds_r1 ++ wsX5_holds_r2) ++ wsX50)
def wsX5_evalSatisfied_r1 : List Cond := [Cond.fieldLink RX5 34 "CutRowsModel" "refusal" "I", Cond.fieldLink RX5 109 "CutRowsModel" "input" "I", Cond.methodLink RX5 130 yX5_holds, Cond.instanceMethod yX5_holds, Cond.selects RX5 yX5_holds yX5_holds, Cond.initialized RX5, Cond.code yX5_holds cX5_holds 3 (some .boolean), Cond.fieldLink RX5 24 "CutRowsModel" "vars" "I", Cond.fieldLink RX5 16 "CutRowsModel" "isBelow" "[Z", Cond.fieldLink RX5 13 "CutRowsModel" "length" "[I", Cond.methodLink RX5 62 yX5_clear, Cond.instanceMethod yX5_clear, Cond.selects RX5 yX5_clear yX5_clear, Cond.code yX5_clear cX5_clear 2 none, Cond.methodLink RX5 99 yX5_placeOf, Cond.static yX5_placeOf, Cond.code yX5_placeOf cX5_placeOf 2 (some .int), Cond.methodLink RX5 118 yX5_multiply, Cond.instanceMethod yX5_multiply, Cond.selects RX5 yX5_multiply yX5_multiply, Cond.code yX5_multiply cX5_multiply 12 none, Cond.fieldLink RX5 7 "CutRowsModel" "limbs" "[I", Cond.constantLong RX5 41 (2147483647), Cond.methodLink RX5 37 yX5_limbOf]
def wsX5_evalSatisfied_r2 : List Cond := [Cond.instanceMethod yX5_limbOf, Cond.selects RX5 yX5_limbOf yX5_limbOf, Cond.code yX5_limbOf cX5_limbOf 3 (some .long), Cond.methodLink RX5 43 yX5_trim, Cond.instanceMethod yX5_trim, Cond.selects RX5 yX5_trim yX5_trim, Cond.code yX5_trim cX5_trim 2 none, Cond.methodLink RX5 121 yX5_add, Cond.instanceMethod yX5_add, Cond.selects RX5 yX5_add yX5_add, Cond.code yX5_add cX5_add 6 none, Cond.methodLink RX5 47 yX5_addSizes, Cond.instanceMethod yX5_addSizes, Cond.selects RX5 yX5_addSizes yX5_addSizes, Cond.code yX5_addSizes cX5_addSizes 10 none, Cond.methodLink RX5 51 yX5_compareSizes, Cond.instanceMethod yX5_compareSizes, Cond.selects RX5 yX5_compareSizes yX5_compareSizes, Cond.code yX5_compareSizes cX5_compareSizes 4 (some .int), Cond.methodLink RX5 54 yX5_subtractSizes, Cond.instanceMethod yX5_subtractSizes, Cond.selects RX5 yX5_subtractSizes yX5_subtractSizes, Cond.code yX5_subtractSizes cX5_subtractSizes 10 none, Cond.methodLink RX5 58 yX5_copy]
def wsX5_evalSatisfied_r3 : List Cond := [Cond.instanceMethod yX5_copy, Cond.selects RX5 yX5_copy yX5_copy, Cond.code yX5_copy cX5_copy 4 none]
def wsX5_evalSatisfied : List Cond := .code yX5_evalSatisfied cX5_evalSatisfied 2 (some .int) :: ((wsX5_evalSatisfied_r1 ++ (wsX5_evalSatisfied_r2 ++ wsX5_evalSatisfied_r3)) ++ wsX50)
def wsX5_cell : List Cond := .code yX5_cell cX5_cell 5 (some .int) :: ([.fieldLink RX5 24 "CutRowsModel" "vars" "I", .fieldLink RX5 13 "CutRowsModel" "length" "[I", .fieldLink RX5 16 "CutRowsModel" "isBelow" "[Z", .methodLink RX5 115 yX5_isRow, .instanceMethod yX5_isRow, .selects RX5 yX5_isRow yX5_isRow, .initialized RX5, .code yX5_isRow cX5_isRow 2 (some .boolean), .fieldLink RX5 96 "CutRowsModel" "rows" "I", .methodLink RX5 133 yX5_refused, .instanceMethod yX5_refused, .selects RX5 yX5_refused yX5_refused, .code yX5_refused cX5_refused 2 (some .boolean), .fieldLink RX5 34 "CutRowsModel" "refusal" "I", .methodLink RX5 99 yX5_placeOf, .static yX5_placeOf, .code yX5_placeOf cX5_placeOf 2 (some .int), .methodLink RX5 37 yX5_limbOf, .instanceMethod yX5_limbOf, .selects RX5 yX5_limbOf yX5_limbOf, .code yX5_limbOf cX5_limbOf 3 (some .long), .fieldLink RX5 7 "CutRowsModel" "limbs" "[I"] ++ wsX50)
def wsX5_count : List Cond := .code yX5_count cX5_count 2 (some .int) :: ([.fieldLink RX5 31 "CutRowsModel" "cells" "I", .fieldLink RX5 109 "CutRowsModel" "input" "I", .fieldLink RX5 90 "CutRowsModel" "filled" "I", .fieldLink RX5 102 "CutRowsModel" "isSealed" "Z", .fieldLink RX5 112 "CutRowsModel" "isBegun" "Z", .fieldLink RX5 84 "CutRowsModel" "state" "I", .methodLink RX5 133 yX5_refused, .instanceMethod yX5_refused, .selects RX5 yX5_refused yX5_refused, .initialized RX5, .code yX5_refused cX5_refused 2 (some .boolean), .fieldLink RX5 34 "CutRowsModel" "refusal" "I"] ++ wsX50)
def wsJ2_newBytesLength_0f7a4 : List Cond := .code yJ2_newBytesLength_0f7a4 cJ2_newBytesLength_0f7a4 1 (some .int) :: ([.constant RJ2 20 (1073741823)])
def wsJ2_newBytesFor_77867 : List Cond := .code yJ2_newBytesFor_77867 cJ2_newBytesFor_77867 1 (some (.array .byte)) :: ([.arrayClass .byte, .methodLink RJ2 11 yJ2_newBytesLength_0f7a4, .static yJ2_newBytesLength_0f7a4, .initialized RJ2, .code yJ2_newBytesLength_0f7a4 cJ2_newBytesLength_0f7a4 1 (some .int), .constant RJ2 20 (1073741823)])
def wsJ5_init_d00df : List Cond := .code yJ5_init_d00df cJ5_init_d00df 2 none :: ([.methodLink RJ5 3 objectInit, .instanceMethod objectInit, .code objectInit ⟨#[0xb1]⟩ 1 none, .fieldLink RJ5 18 "java/lang/String" "COMPACT_STRINGS" "Z", .arrayClass .byte, .fieldLink RJ5 15 "java/lang/AbstractStringBuilder" "value" "[B", .fieldLink RJ5 22 "java/lang/AbstractStringBuilder" "coder" "B", .methodLink RJ5 26 yJ2_newBytesFor_77867, .static yJ2_newBytesFor_77867, .initialized RJ2, .code yJ2_newBytesFor_77867 cJ2_newBytesFor_77867 1 (some (.array .byte)), .methodLink RJ2 11 yJ2_newBytesLength_0f7a4, .static yJ2_newBytesLength_0f7a4, .code yJ2_newBytesLength_0f7a4 cJ2_newBytesLength_0f7a4 1 (some .int), .constant RJ2 20 (1073741823)] ++ wsJ40)
def wsJ5_length_8abf5 : List Cond := .code yJ5_length_8abf5 cJ5_length_8abf5 1 (some .int) :: ([.fieldLink RJ5 79 "java/lang/AbstractStringBuilder" "count" "I"] ++ wsJ40)
def wsJ8_hugeLength_7cf53 : List Cond := .code yJ8_hugeLength_7cf53 cJ8_hugeLength_7cf53 3 (some .int) :: ([.constant RJ8 200 (2147483639)])
def wsJ8_newLength_cabcc : List Cond := .code yJ8_newLength_cabcc cJ8_newLength_cabcc 4 (some .int) :: ([.methodLink RJ8 194 Lib.Math.max.name, .static Lib.Math.max.name, .initialized "java/lang/Math", .code Lib.Math.max.name Lib.Math.max.code 2 (some .int), .constant RJ8 200 (2147483639), .methodLink RJ8 201 yJ8_hugeLength_7cf53, .static yJ8_hugeLength_7cf53, .initialized RJ8, .code yJ8_hugeLength_7cf53 cJ8_hugeLength_7cf53 3 (some .int)])
def wsJ5_newCapacity_0f7a4 : List Cond := .code yJ5_newCapacity_0f7a4 cJ5_newCapacity_0f7a4 6 (some .int) :: ([.fieldLink RJ5 15 "java/lang/AbstractStringBuilder" "value" "[B", .fieldLink RJ5 22 "java/lang/AbstractStringBuilder" "coder" "B", .constant RJ5 39 (2147483647), .methodLink RJ5 114 yJ8_newLength_cabcc, .static yJ8_newLength_cabcc, .initialized RJ8, .code yJ8_newLength_cabcc cJ8_newLength_cabcc 4 (some .int), .methodLink RJ8 194 Lib.Math.max.name, .static Lib.Math.max.name, .initialized "java/lang/Math", .code Lib.Math.max.name Lib.Math.max.code 2 (some .int), .constant RJ8 200 (2147483639), .methodLink RJ8 201 yJ8_hugeLength_7cf53, .static yJ8_hugeLength_7cf53, .code yJ8_hugeLength_7cf53 cJ8_hugeLength_7cf53 3 (some .int)] ++ wsJ40)
def wsJ7_copyOf_9075b : List Cond := .code yJ7_copyOf_9075b cJ7_copyOf_9075b 3 (some (.array .byte)) :: ([.methodLink RJ7 310 ⟨"[B", "clone", "()Ljava/lang/Object;"⟩, .sameMethod "[B" "java/lang/Object" "clone" "()Ljava/lang/Object;", .native ⟨"java/lang/Object", "clone", "()Ljava/lang/Object;"⟩, .instanceMethod ⟨"java/lang/Object", "clone", "()Ljava/lang/Object;"⟩, .selects "[B" ⟨"[B", "clone", "()Ljava/lang/Object;"⟩ ⟨"java/lang/Object", "clone", "()Ljava/lang/Object;"⟩, .classLink RJ7 311 "[B", .arrayClass .byte, .methodLink RJ7 304 Lib.Math.min.name, .static Lib.Math.min.name, .initialized "java/lang/Math", .code Lib.Math.min.name Lib.Math.min.code 2 (some .int), .methodLink RJ7 150 arraycopyName, .native arraycopyName, .static arraycopyName, .initialized "java/lang/System"])
def wsJ5_ensureCapacityInternal_d00df_r1 : List Cond := [Cond.fieldLink RJ5 15 "java/lang/AbstractStringBuilder" "value" "[B", Cond.fieldLink RJ5 22 "java/lang/AbstractStringBuilder" "coder" "B", Cond.methodLink RJ5 104 ⟨"java/lang/AbstractStringBuilder", "newCapacity", "(I)I"⟩, Cond.sameMethod "java/lang/AbstractStringBuilder" "java/lang/AbstractStringBuilder" "newCapacity" "(I)I", Cond.selects RJ4 ⟨"java/lang/AbstractStringBuilder", "newCapacity", "(I)I"⟩ yJ5_newCapacity_0f7a4, Cond.instanceMethod yJ5_newCapacity_0f7a4, Cond.initialized RJ5, Cond.code yJ5_newCapacity_0f7a4 cJ5_newCapacity_0f7a4 6 (some .int), Cond.constant RJ5 39 (2147483647), Cond.methodLink RJ5 114 yJ8_newLength_cabcc, Cond.static yJ8_newLength_cabcc, Cond.initialized RJ8, Cond.code yJ8_newLength_cabcc cJ8_newLength_cabcc 4 (some .int), Cond.methodLink RJ8 194 Lib.Math.max.name, Cond.static Lib.Math.max.name, Cond.initialized "java/lang/Math", Cond.code Lib.Math.max.name Lib.Math.max.code 2 (some .int), Cond.constant RJ8 200 (2147483639), Cond.methodLink RJ8 201 yJ8_hugeLength_7cf53, Cond.static yJ8_hugeLength_7cf53, Cond.code yJ8_hugeLength_7cf53 cJ8_hugeLength_7cf53 3 (some .int), Cond.methodLink RJ5 108 yJ7_copyOf_9075b, Cond.static yJ7_copyOf_9075b, Cond.initialized RJ7]
def wsJ5_ensureCapacityInternal_d00df_r2 : List Cond := [Cond.code yJ7_copyOf_9075b cJ7_copyOf_9075b 3 (some (.array .byte)), Cond.methodLink RJ7 310 ⟨"[B", "clone", "()Ljava/lang/Object;"⟩, Cond.sameMethod "[B" "java/lang/Object" "clone" "()Ljava/lang/Object;", Cond.native ⟨"java/lang/Object", "clone", "()Ljava/lang/Object;"⟩, Cond.instanceMethod ⟨"java/lang/Object", "clone", "()Ljava/lang/Object;"⟩, Cond.selects "[B" ⟨"[B", "clone", "()Ljava/lang/Object;"⟩ ⟨"java/lang/Object", "clone", "()Ljava/lang/Object;"⟩, Cond.classLink RJ7 311 "[B", Cond.arrayClass .byte, Cond.methodLink RJ7 304 Lib.Math.min.name, Cond.static Lib.Math.min.name, Cond.code Lib.Math.min.name Lib.Math.min.code 2 (some .int), Cond.methodLink RJ7 150 arraycopyName, Cond.native arraycopyName, Cond.static arraycopyName, Cond.initialized "java/lang/System"]
def wsJ5_ensureCapacityInternal_d00df : List Cond := .code yJ5_ensureCapacityInternal_d00df cJ5_ensureCapacityInternal_d00df 3 none :: ((wsJ5_ensureCapacityInternal_d00df_r1 ++ wsJ5_ensureCapacityInternal_d00df_r2) ++ wsJ40)
def wsJ5_isLatin1_aae02 : List Cond := .code yJ5_isLatin1_aae02 cJ5_isLatin1_aae02 1 (some .boolean) :: ([.fieldLink RJ5 18 "java/lang/String" "COMPACT_STRINGS" "Z", .fieldLink RJ5 22 "java/lang/AbstractStringBuilder" "coder" "B"] ++ wsJ40)
def wsJ2_length_9d52b : List Cond := .code yJ2_length_9d52b cJ2_length_9d52b 1 (some .int) :: ([])
def wsJ3_checkFromIndexSize_8c36e : List Cond := .code yJ3_checkFromIndexSize_8c36e cJ3_checkFromIndexSize_8c36e 4 (some .int) :: ([])
def wsJ0_checkBoundsOffCount_cabcc : List Cond := .code yJ0_checkBoundsOffCount_cabcc cJ0_checkBoundsOffCount_cabcc 3 (some .int) :: ([.fieldLink RJ0 1053 "jdk/internal/util/Preconditions" "SIOOBE_FORMATTER" "Ljava/util/function/BiFunction;", .methodLink RJ0 1065 yJ3_checkFromIndexSize_8c36e, .static yJ3_checkFromIndexSize_8c36e, .initialized RJ3, .code yJ3_checkFromIndexSize_8c36e cJ3_checkFromIndexSize_8c36e 4 (some .int)])
def wsJ2_checkBoundsOffCount_d044e : List Cond := .code yJ2_checkBoundsOffCount_d044e cJ2_checkBoundsOffCount_d044e 3 none :: ([.methodLink RJ2 48 yJ2_length_9d52b, .static yJ2_length_9d52b, .initialized RJ2, .code yJ2_length_9d52b cJ2_length_9d52b 1 (some .int), .methodLink RJ2 419 yJ0_checkBoundsOffCount_cabcc, .static yJ0_checkBoundsOffCount_cabcc, .initialized RJ0, .code yJ0_checkBoundsOffCount_cabcc cJ0_checkBoundsOffCount_cabcc 3 (some .int), .fieldLink RJ0 1053 "jdk/internal/util/Preconditions" "SIOOBE_FORMATTER" "Ljava/util/function/BiFunction;", .methodLink RJ0 1065 yJ3_checkFromIndexSize_8c36e, .static yJ3_checkFromIndexSize_8c36e, .initialized RJ3, .code yJ3_checkFromIndexSize_8c36e cJ3_checkFromIndexSize_8c36e 4 (some .int)])
def wsJ2_putChar_b72d1 : List Cond := .code yJ2_putChar_b72d1 cJ2_putChar_b72d1 3 none :: ([.fieldLink RJ2 44 "java/lang/StringUTF16" "$assertionsDisabled" "Z", .fieldLink RJ2 59 "java/lang/StringUTF16" "HI_BYTE_SHIFT" "I", .fieldLink RJ2 63 "java/lang/StringUTF16" "LO_BYTE_SHIFT" "I", .methodLink RJ2 48 yJ2_length_9d52b, .static yJ2_length_9d52b, .initialized RJ2, .code yJ2_length_9d52b cJ2_length_9d52b 1 (some .int)])
def wsJ2_inflate_0e8fd : List Cond := .code yJ2_inflate_0e8fd cJ2_inflate_0e8fd 6 none :: ([.methodLink RJ2 173 yJ2_checkBoundsOffCount_d044e, .static yJ2_checkBoundsOffCount_d044e, .initialized RJ2, .code yJ2_checkBoundsOffCount_d044e cJ2_checkBoundsOffCount_d044e 3 none, .methodLink RJ2 48 yJ2_length_9d52b, .static yJ2_length_9d52b, .code yJ2_length_9d52b cJ2_length_9d52b 1 (some .int), .methodLink RJ2 419 yJ0_checkBoundsOffCount_cabcc, .static yJ0_checkBoundsOffCount_cabcc, .initialized RJ0, .code yJ0_checkBoundsOffCount_cabcc cJ0_checkBoundsOffCount_cabcc 3 (some .int), .fieldLink RJ0 1053 "jdk/internal/util/Preconditions" "SIOOBE_FORMATTER" "Ljava/util/function/BiFunction;", .methodLink RJ0 1065 yJ3_checkFromIndexSize_8c36e, .static yJ3_checkFromIndexSize_8c36e, .initialized RJ3, .code yJ3_checkFromIndexSize_8c36e cJ3_checkFromIndexSize_8c36e 4 (some .int), .methodLink RJ2 111 yJ2_putChar_b72d1, .static yJ2_putChar_b72d1, .code yJ2_putChar_b72d1 cJ2_putChar_b72d1 3 none, .fieldLink RJ2 44 "java/lang/StringUTF16" "$assertionsDisabled" "Z", .fieldLink RJ2 59 "java/lang/StringUTF16" "HI_BYTE_SHIFT" "I", .fieldLink RJ2 63 "java/lang/StringUTF16" "LO_BYTE_SHIFT" "I"])
def wsJ1_inflate_0e8fd_r1 : List Cond := [Cond.methodLink RJ1 240 yJ2_inflate_0e8fd, Cond.static yJ2_inflate_0e8fd, Cond.initialized RJ2, Cond.code yJ2_inflate_0e8fd cJ2_inflate_0e8fd 6 none, Cond.methodLink RJ2 173 yJ2_checkBoundsOffCount_d044e, Cond.static yJ2_checkBoundsOffCount_d044e, Cond.code yJ2_checkBoundsOffCount_d044e cJ2_checkBoundsOffCount_d044e 3 none, Cond.methodLink RJ2 48 yJ2_length_9d52b, Cond.static yJ2_length_9d52b, Cond.code yJ2_length_9d52b cJ2_length_9d52b 1 (some .int), Cond.methodLink RJ2 419 yJ0_checkBoundsOffCount_cabcc, Cond.static yJ0_checkBoundsOffCount_cabcc, Cond.initialized RJ0, Cond.code yJ0_checkBoundsOffCount_cabcc cJ0_checkBoundsOffCount_cabcc 3 (some .int), Cond.fieldLink RJ0 1053 "jdk/internal/util/Preconditions" "SIOOBE_FORMATTER" "Ljava/util/function/BiFunction;", Cond.methodLink RJ0 1065 yJ3_checkFromIndexSize_8c36e, Cond.static yJ3_checkFromIndexSize_8c36e, Cond.initialized RJ3, Cond.code yJ3_checkFromIndexSize_8c36e cJ3_checkFromIndexSize_8c36e 4 (some .int), Cond.methodLink RJ2 111 yJ2_putChar_b72d1, Cond.static yJ2_putChar_b72d1, Cond.code yJ2_putChar_b72d1 cJ2_putChar_b72d1 3 none, Cond.fieldLink RJ2 44 "java/lang/StringUTF16" "$assertionsDisabled" "Z", Cond.fieldLink RJ2 59 "java/lang/StringUTF16" "HI_BYTE_SHIFT" "I"]
def wsJ1_inflate_0e8fd_r2 : List Cond := [Cond.fieldLink RJ2 63 "java/lang/StringUTF16" "LO_BYTE_SHIFT" "I"]
def wsJ1_inflate_0e8fd : List Cond := .code yJ1_inflate_0e8fd cJ1_inflate_0e8fd 5 none :: ((wsJ1_inflate_0e8fd_r1 ++ wsJ1_inflate_0e8fd_r2))
def wsJ5_inflate_da8c8_r1 : List Cond := [Cond.fieldLink RJ5 15 "java/lang/AbstractStringBuilder" "value" "[B", Cond.fieldLink RJ5 79 "java/lang/AbstractStringBuilder" "count" "I", Cond.fieldLink RJ5 22 "java/lang/AbstractStringBuilder" "coder" "B", Cond.methodLink RJ5 83 ⟨"java/lang/AbstractStringBuilder", "isLatin1", "()Z"⟩, Cond.sameMethod "java/lang/AbstractStringBuilder" "java/lang/AbstractStringBuilder" "isLatin1" "()Z", Cond.selects RJ4 ⟨"java/lang/AbstractStringBuilder", "isLatin1", "()Z"⟩ yJ5_isLatin1_aae02, Cond.instanceMethod yJ5_isLatin1_aae02, Cond.initialized RJ5, Cond.code yJ5_isLatin1_aae02 cJ5_isLatin1_aae02 1 (some .boolean), Cond.fieldLink RJ5 18 "java/lang/String" "COMPACT_STRINGS" "Z", Cond.methodLink RJ5 26 yJ2_newBytesFor_77867, Cond.static yJ2_newBytesFor_77867, Cond.initialized RJ2, Cond.code yJ2_newBytesFor_77867 cJ2_newBytesFor_77867 1 (some (.array .byte)), Cond.arrayClass .byte, Cond.methodLink RJ2 11 yJ2_newBytesLength_0f7a4, Cond.static yJ2_newBytesLength_0f7a4, Cond.code yJ2_newBytesLength_0f7a4 cJ2_newBytesLength_0f7a4 1 (some .int), Cond.constant RJ2 20 (1073741823), Cond.methodLink RJ5 125 yJ1_inflate_0e8fd, Cond.static yJ1_inflate_0e8fd, Cond.initialized RJ1, Cond.code yJ1_inflate_0e8fd cJ1_inflate_0e8fd 5 none, Cond.methodLink RJ1 240 yJ2_inflate_0e8fd]
def wsJ5_inflate_da8c8_r2 : List Cond := [Cond.static yJ2_inflate_0e8fd, Cond.code yJ2_inflate_0e8fd cJ2_inflate_0e8fd 6 none, Cond.methodLink RJ2 173 yJ2_checkBoundsOffCount_d044e, Cond.static yJ2_checkBoundsOffCount_d044e, Cond.code yJ2_checkBoundsOffCount_d044e cJ2_checkBoundsOffCount_d044e 3 none, Cond.methodLink RJ2 48 yJ2_length_9d52b, Cond.static yJ2_length_9d52b, Cond.code yJ2_length_9d52b cJ2_length_9d52b 1 (some .int), Cond.methodLink RJ2 419 yJ0_checkBoundsOffCount_cabcc, Cond.static yJ0_checkBoundsOffCount_cabcc, Cond.initialized RJ0, Cond.code yJ0_checkBoundsOffCount_cabcc cJ0_checkBoundsOffCount_cabcc 3 (some .int), Cond.fieldLink RJ0 1053 "jdk/internal/util/Preconditions" "SIOOBE_FORMATTER" "Ljava/util/function/BiFunction;", Cond.methodLink RJ0 1065 yJ3_checkFromIndexSize_8c36e, Cond.static yJ3_checkFromIndexSize_8c36e, Cond.initialized RJ3, Cond.code yJ3_checkFromIndexSize_8c36e cJ3_checkFromIndexSize_8c36e 4 (some .int), Cond.methodLink RJ2 111 yJ2_putChar_b72d1, Cond.static yJ2_putChar_b72d1, Cond.code yJ2_putChar_b72d1 cJ2_putChar_b72d1 3 none, Cond.fieldLink RJ2 44 "java/lang/StringUTF16" "$assertionsDisabled" "Z", Cond.fieldLink RJ2 59 "java/lang/StringUTF16" "HI_BYTE_SHIFT" "I", Cond.fieldLink RJ2 63 "java/lang/StringUTF16" "LO_BYTE_SHIFT" "I"]
def wsJ5_inflate_da8c8 : List Cond := .code yJ5_inflate_da8c8 cJ5_inflate_da8c8 2 none :: ((wsJ5_inflate_da8c8_r1 ++ wsJ5_inflate_da8c8_r2) ++ wsJ40)
def wsJ3_checkFromToIndex_8c36e : List Cond := .code yJ3_checkFromToIndex_8c36e cJ3_checkFromToIndex_8c36e 4 (some .int) :: ([])
def wsJ0_checkBoundsBeginEnd_23922 : List Cond := .code yJ0_checkBoundsBeginEnd_23922 cJ0_checkBoundsBeginEnd_23922 3 none :: ([.fieldLink RJ0 1053 "jdk/internal/util/Preconditions" "SIOOBE_FORMATTER" "Ljava/util/function/BiFunction;", .methodLink RJ0 1062 yJ3_checkFromToIndex_8c36e, .static yJ3_checkFromToIndex_8c36e, .initialized RJ3, .code yJ3_checkFromToIndex_8c36e cJ3_checkFromToIndex_8c36e 4 (some .int)])
def wsJ2_checkBoundsBeginEnd_d044e : List Cond := .code yJ2_checkBoundsBeginEnd_d044e cJ2_checkBoundsBeginEnd_d044e 3 none :: ([.methodLink RJ2 48 yJ2_length_9d52b, .static yJ2_length_9d52b, .initialized RJ2, .code yJ2_length_9d52b cJ2_length_9d52b 1 (some .int), .methodLink RJ2 241 yJ0_checkBoundsBeginEnd_23922, .static yJ0_checkBoundsBeginEnd_23922, .initialized RJ0, .code yJ0_checkBoundsBeginEnd_23922 cJ0_checkBoundsBeginEnd_23922 3 none, .fieldLink RJ0 1053 "jdk/internal/util/Preconditions" "SIOOBE_FORMATTER" "Ljava/util/function/BiFunction;", .methodLink RJ0 1062 yJ3_checkFromToIndex_8c36e, .static yJ3_checkFromToIndex_8c36e, .initialized RJ3, .code yJ3_checkFromToIndex_8c36e cJ3_checkFromToIndex_8c36e 4 (some .int)])
def wsJ2_putCharsAt_cd4e5 : List Cond := .code yJ2_putCharsAt_cd4e5 cJ2_putCharsAt_cd4e5 7 (some .int) :: ([.fieldLink RJ2 44 "java/lang/StringUTF16" "$assertionsDisabled" "Z", .methodLink RJ2 96 yJ2_checkBoundsBeginEnd_d044e, .static yJ2_checkBoundsBeginEnd_d044e, .initialized RJ2, .code yJ2_checkBoundsBeginEnd_d044e cJ2_checkBoundsBeginEnd_d044e 3 none, .methodLink RJ2 48 yJ2_length_9d52b, .static yJ2_length_9d52b, .code yJ2_length_9d52b cJ2_length_9d52b 1 (some .int), .methodLink RJ2 241 yJ0_checkBoundsBeginEnd_23922, .static yJ0_checkBoundsBeginEnd_23922, .initialized RJ0, .code yJ0_checkBoundsBeginEnd_23922 cJ0_checkBoundsBeginEnd_23922 3 none, .fieldLink RJ0 1053 "jdk/internal/util/Preconditions" "SIOOBE_FORMATTER" "Ljava/util/function/BiFunction;", .methodLink RJ0 1062 yJ3_checkFromToIndex_8c36e, .static yJ3_checkFromToIndex_8c36e, .initialized RJ3, .code yJ3_checkFromToIndex_8c36e cJ3_checkFromToIndex_8c36e 4 (some .int), .methodLink RJ2 111 yJ2_putChar_b72d1, .static yJ2_putChar_b72d1, .code yJ2_putChar_b72d1 cJ2_putChar_b72d1 3 none, .fieldLink RJ2 59 "java/lang/StringUTF16" "HI_BYTE_SHIFT" "I", .fieldLink RJ2 63 "java/lang/StringUTF16" "LO_BYTE_SHIFT" "I"])
def wsJ5_appendNull_278bc_r1 : List Cond := [Cond.fieldLink RJ5 79 "java/lang/AbstractStringBuilder" "count" "I", Cond.fieldLink RJ5 15 "java/lang/AbstractStringBuilder" "value" "[B", Cond.methodLink RJ5 100 ⟨"java/lang/AbstractStringBuilder", "ensureCapacityInternal", "(I)V"⟩, Cond.sameMethod "java/lang/AbstractStringBuilder" "java/lang/AbstractStringBuilder" "ensureCapacityInternal" "(I)V", Cond.selects RJ4 ⟨"java/lang/AbstractStringBuilder", "ensureCapacityInternal", "(I)V"⟩ yJ5_ensureCapacityInternal_d00df, Cond.instanceMethod yJ5_ensureCapacityInternal_d00df, Cond.initialized RJ5, Cond.code yJ5_ensureCapacityInternal_d00df cJ5_ensureCapacityInternal_d00df 3 none, Cond.fieldLink RJ5 22 "java/lang/AbstractStringBuilder" "coder" "B", Cond.methodLink RJ5 104 ⟨"java/lang/AbstractStringBuilder", "newCapacity", "(I)I"⟩, Cond.sameMethod "java/lang/AbstractStringBuilder" "java/lang/AbstractStringBuilder" "newCapacity" "(I)I", Cond.selects RJ4 ⟨"java/lang/AbstractStringBuilder", "newCapacity", "(I)I"⟩ yJ5_newCapacity_0f7a4, Cond.instanceMethod yJ5_newCapacity_0f7a4, Cond.code yJ5_newCapacity_0f7a4 cJ5_newCapacity_0f7a4 6 (some .int), Cond.constant RJ5 39 (2147483647), Cond.methodLink RJ5 114 yJ8_newLength_cabcc, Cond.static yJ8_newLength_cabcc, Cond.initialized RJ8, Cond.code yJ8_newLength_cabcc cJ8_newLength_cabcc 4 (some .int), Cond.methodLink RJ8 194 Lib.Math.max.name, Cond.static Lib.Math.max.name, Cond.initialized "java/lang/Math", Cond.code Lib.Math.max.name Lib.Math.max.code 2 (some .int), Cond.constant RJ8 200 (2147483639)]
def wsJ5_appendNull_278bc_r2 : List Cond := [Cond.methodLink RJ8 201 yJ8_hugeLength_7cf53, Cond.static yJ8_hugeLength_7cf53, Cond.code yJ8_hugeLength_7cf53 cJ8_hugeLength_7cf53 3 (some .int), Cond.methodLink RJ5 108 yJ7_copyOf_9075b, Cond.static yJ7_copyOf_9075b, Cond.initialized RJ7, Cond.code yJ7_copyOf_9075b cJ7_copyOf_9075b 3 (some (.array .byte)), Cond.methodLink RJ7 310 ⟨"[B", "clone", "()Ljava/lang/Object;"⟩, Cond.sameMethod "[B" "java/lang/Object" "clone" "()Ljava/lang/Object;", Cond.native ⟨"java/lang/Object", "clone", "()Ljava/lang/Object;"⟩, Cond.instanceMethod ⟨"java/lang/Object", "clone", "()Ljava/lang/Object;"⟩, Cond.selects "[B" ⟨"[B", "clone", "()Ljava/lang/Object;"⟩ ⟨"java/lang/Object", "clone", "()Ljava/lang/Object;"⟩, Cond.classLink RJ7 311 "[B", Cond.arrayClass .byte, Cond.methodLink RJ7 304 Lib.Math.min.name, Cond.static Lib.Math.min.name, Cond.code Lib.Math.min.name Lib.Math.min.code 2 (some .int), Cond.methodLink RJ7 150 arraycopyName, Cond.native arraycopyName, Cond.static arraycopyName, Cond.initialized "java/lang/System", Cond.methodLink RJ5 83 ⟨"java/lang/AbstractStringBuilder", "isLatin1", "()Z"⟩, Cond.sameMethod "java/lang/AbstractStringBuilder" "java/lang/AbstractStringBuilder" "isLatin1" "()Z", Cond.selects RJ4 ⟨"java/lang/AbstractStringBuilder", "isLatin1", "()Z"⟩ yJ5_isLatin1_aae02]
def wsJ5_appendNull_278bc_r3 : List Cond := [Cond.instanceMethod yJ5_isLatin1_aae02, Cond.code yJ5_isLatin1_aae02 cJ5_isLatin1_aae02 1 (some .boolean), Cond.fieldLink RJ5 18 "java/lang/String" "COMPACT_STRINGS" "Z", Cond.methodLink RJ5 226 yJ2_putCharsAt_cd4e5, Cond.static yJ2_putCharsAt_cd4e5, Cond.initialized RJ2, Cond.code yJ2_putCharsAt_cd4e5 cJ2_putCharsAt_cd4e5 7 (some .int), Cond.fieldLink RJ2 44 "java/lang/StringUTF16" "$assertionsDisabled" "Z", Cond.methodLink RJ2 96 yJ2_checkBoundsBeginEnd_d044e, Cond.static yJ2_checkBoundsBeginEnd_d044e, Cond.code yJ2_checkBoundsBeginEnd_d044e cJ2_checkBoundsBeginEnd_d044e 3 none, Cond.methodLink RJ2 48 yJ2_length_9d52b, Cond.static yJ2_length_9d52b, Cond.code yJ2_length_9d52b cJ2_length_9d52b 1 (some .int), Cond.methodLink RJ2 241 yJ0_checkBoundsBeginEnd_23922, Cond.static yJ0_checkBoundsBeginEnd_23922, Cond.initialized RJ0, Cond.code yJ0_checkBoundsBeginEnd_23922 cJ0_checkBoundsBeginEnd_23922 3 none, Cond.fieldLink RJ0 1053 "jdk/internal/util/Preconditions" "SIOOBE_FORMATTER" "Ljava/util/function/BiFunction;", Cond.methodLink RJ0 1062 yJ3_checkFromToIndex_8c36e, Cond.static yJ3_checkFromToIndex_8c36e, Cond.initialized RJ3, Cond.code yJ3_checkFromToIndex_8c36e cJ3_checkFromToIndex_8c36e 4 (some .int), Cond.methodLink RJ2 111 yJ2_putChar_b72d1]
def wsJ5_appendNull_278bc_r4 : List Cond := [Cond.static yJ2_putChar_b72d1, Cond.code yJ2_putChar_b72d1 cJ2_putChar_b72d1 3 none, Cond.fieldLink RJ2 59 "java/lang/StringUTF16" "HI_BYTE_SHIFT" "I", Cond.fieldLink RJ2 63 "java/lang/StringUTF16" "LO_BYTE_SHIFT" "I"]
def wsJ5_appendNull_278bc : List Cond := .code yJ5_appendNull_278bc cJ5_appendNull_278bc 3 (some (.object "java/lang/AbstractStringBuilder")) :: ((wsJ5_appendNull_278bc_r1 ++ (wsJ5_appendNull_278bc_r2 ++ (wsJ5_appendNull_278bc_r3 ++ wsJ5_appendNull_278bc_r4))) ++ wsJ40)
def wsJ0_coder_7d493 : List Cond := .code yJ0_coder_7d493 cJ0_coder_7d493 1 (some .byte) :: ([.fieldLink RJ0 38 "java/lang/String" "COMPACT_STRINGS" "Z", .fieldLink RJ0 15 "java/lang/String" "coder" "B"] ++ wsJ00)
def wsJ0_length_8abf5 : List Cond := .code yJ0_length_8abf5 cJ0_length_8abf5 1 (some .int) :: ([.fieldLink RJ0 9 "java/lang/String" "value" "[B", .methodLink RJ0 335 yJ0_coder_7d493, .instanceMethod yJ0_coder_7d493, .selects RJ0 yJ0_coder_7d493 yJ0_coder_7d493, .initialized RJ0, .code yJ0_coder_7d493 cJ0_coder_7d493 1 (some .byte), .fieldLink RJ0 38 "java/lang/String" "COMPACT_STRINGS" "Z", .fieldLink RJ0 15 "java/lang/String" "coder" "B"] ++ wsJ00)
def wsJ5_inflateIfNeededFor_a7421_r1 : List Cond := [Cond.fieldLink RJ5 18 "java/lang/String" "COMPACT_STRINGS" "Z", Cond.fieldLink RJ5 22 "java/lang/AbstractStringBuilder" "coder" "B", Cond.methodLink RJ5 40 yJ0_coder_7d493, Cond.instanceMethod yJ0_coder_7d493, Cond.selects RJ0 yJ0_coder_7d493 yJ0_coder_7d493, Cond.initialized RJ0, Cond.code yJ0_coder_7d493 cJ0_coder_7d493 1 (some .byte), Cond.fieldLink RJ0 38 "java/lang/String" "COMPACT_STRINGS" "Z", Cond.fieldLink RJ0 15 "java/lang/String" "coder" "B", Cond.methodLink RJ5 195 ⟨"java/lang/AbstractStringBuilder", "inflate", "()V"⟩, Cond.sameMethod "java/lang/AbstractStringBuilder" "java/lang/AbstractStringBuilder" "inflate" "()V", Cond.selects RJ4 ⟨"java/lang/AbstractStringBuilder", "inflate", "()V"⟩ yJ5_inflate_da8c8, Cond.instanceMethod yJ5_inflate_da8c8, Cond.initialized RJ5, Cond.code yJ5_inflate_da8c8 cJ5_inflate_da8c8 2 none, Cond.fieldLink RJ5 15 "java/lang/AbstractStringBuilder" "value" "[B", Cond.fieldLink RJ5 79 "java/lang/AbstractStringBuilder" "count" "I", Cond.methodLink RJ5 83 ⟨"java/lang/AbstractStringBuilder", "isLatin1", "()Z"⟩, Cond.sameMethod "java/lang/AbstractStringBuilder" "java/lang/AbstractStringBuilder" "isLatin1" "()Z", Cond.selects RJ4 ⟨"java/lang/AbstractStringBuilder", "isLatin1", "()Z"⟩ yJ5_isLatin1_aae02, Cond.instanceMethod yJ5_isLatin1_aae02, Cond.code yJ5_isLatin1_aae02 cJ5_isLatin1_aae02 1 (some .boolean), Cond.methodLink RJ5 26 yJ2_newBytesFor_77867, Cond.static yJ2_newBytesFor_77867]
def wsJ5_inflateIfNeededFor_a7421_r2 : List Cond := [Cond.initialized RJ2, Cond.code yJ2_newBytesFor_77867 cJ2_newBytesFor_77867 1 (some (.array .byte)), Cond.arrayClass .byte, Cond.methodLink RJ2 11 yJ2_newBytesLength_0f7a4, Cond.static yJ2_newBytesLength_0f7a4, Cond.code yJ2_newBytesLength_0f7a4 cJ2_newBytesLength_0f7a4 1 (some .int), Cond.constant RJ2 20 (1073741823), Cond.methodLink RJ5 125 yJ1_inflate_0e8fd, Cond.static yJ1_inflate_0e8fd, Cond.initialized RJ1, Cond.code yJ1_inflate_0e8fd cJ1_inflate_0e8fd 5 none, Cond.methodLink RJ1 240 yJ2_inflate_0e8fd, Cond.static yJ2_inflate_0e8fd, Cond.code yJ2_inflate_0e8fd cJ2_inflate_0e8fd 6 none, Cond.methodLink RJ2 173 yJ2_checkBoundsOffCount_d044e, Cond.static yJ2_checkBoundsOffCount_d044e, Cond.code yJ2_checkBoundsOffCount_d044e cJ2_checkBoundsOffCount_d044e 3 none, Cond.methodLink RJ2 48 yJ2_length_9d52b, Cond.static yJ2_length_9d52b, Cond.code yJ2_length_9d52b cJ2_length_9d52b 1 (some .int), Cond.methodLink RJ2 419 yJ0_checkBoundsOffCount_cabcc, Cond.static yJ0_checkBoundsOffCount_cabcc, Cond.code yJ0_checkBoundsOffCount_cabcc cJ0_checkBoundsOffCount_cabcc 3 (some .int), Cond.fieldLink RJ0 1053 "jdk/internal/util/Preconditions" "SIOOBE_FORMATTER" "Ljava/util/function/BiFunction;"]
def wsJ5_inflateIfNeededFor_a7421_r3 : List Cond := [Cond.methodLink RJ0 1065 yJ3_checkFromIndexSize_8c36e, Cond.static yJ3_checkFromIndexSize_8c36e, Cond.initialized RJ3, Cond.code yJ3_checkFromIndexSize_8c36e cJ3_checkFromIndexSize_8c36e 4 (some .int), Cond.methodLink RJ2 111 yJ2_putChar_b72d1, Cond.static yJ2_putChar_b72d1, Cond.code yJ2_putChar_b72d1 cJ2_putChar_b72d1 3 none, Cond.fieldLink RJ2 44 "java/lang/StringUTF16" "$assertionsDisabled" "Z", Cond.fieldLink RJ2 59 "java/lang/StringUTF16" "HI_BYTE_SHIFT" "I", Cond.fieldLink RJ2 63 "java/lang/StringUTF16" "LO_BYTE_SHIFT" "I"]
def wsJ5_inflateIfNeededFor_a7421 : List Cond := .code yJ5_inflateIfNeededFor_a7421 cJ5_inflateIfNeededFor_a7421 2 none :: ((wsJ5_inflateIfNeededFor_a7421_r1 ++ (wsJ5_inflateIfNeededFor_a7421_r2 ++ wsJ5_inflateIfNeededFor_a7421_r3)) ++ wsJ40 ++ wsJ00)
def wsJ0_getBytes_840e7_r1 : List Cond := [Cond.fieldLink RJ0 9 "java/lang/String" "value" "[B", Cond.methodLink RJ0 212 arraycopyName, Cond.native arraycopyName, Cond.static arraycopyName, Cond.initialized "java/lang/System", Cond.methodLink RJ0 335 yJ0_coder_7d493, Cond.instanceMethod yJ0_coder_7d493, Cond.selects RJ0 yJ0_coder_7d493 yJ0_coder_7d493, Cond.initialized RJ0, Cond.code yJ0_coder_7d493 cJ0_coder_7d493 1 (some .byte), Cond.fieldLink RJ0 38 "java/lang/String" "COMPACT_STRINGS" "Z", Cond.fieldLink RJ0 15 "java/lang/String" "coder" "B", Cond.methodLink RJ0 106 yJ1_inflate_0e8fd, Cond.static yJ1_inflate_0e8fd, Cond.initialized RJ1, Cond.code yJ1_inflate_0e8fd cJ1_inflate_0e8fd 5 none, Cond.methodLink RJ1 240 yJ2_inflate_0e8fd, Cond.static yJ2_inflate_0e8fd, Cond.initialized RJ2, Cond.code yJ2_inflate_0e8fd cJ2_inflate_0e8fd 6 none, Cond.methodLink RJ2 173 yJ2_checkBoundsOffCount_d044e, Cond.static yJ2_checkBoundsOffCount_d044e, Cond.code yJ2_checkBoundsOffCount_d044e cJ2_checkBoundsOffCount_d044e 3 none, Cond.methodLink RJ2 48 yJ2_length_9d52b]
def wsJ0_getBytes_840e7_r2 : List Cond := [Cond.static yJ2_length_9d52b, Cond.code yJ2_length_9d52b cJ2_length_9d52b 1 (some .int), Cond.methodLink RJ2 419 yJ0_checkBoundsOffCount_cabcc, Cond.static yJ0_checkBoundsOffCount_cabcc, Cond.code yJ0_checkBoundsOffCount_cabcc cJ0_checkBoundsOffCount_cabcc 3 (some .int), Cond.fieldLink RJ0 1053 "jdk/internal/util/Preconditions" "SIOOBE_FORMATTER" "Ljava/util/function/BiFunction;", Cond.methodLink RJ0 1065 yJ3_checkFromIndexSize_8c36e, Cond.static yJ3_checkFromIndexSize_8c36e, Cond.initialized RJ3, Cond.code yJ3_checkFromIndexSize_8c36e cJ3_checkFromIndexSize_8c36e 4 (some .int), Cond.methodLink RJ2 111 yJ2_putChar_b72d1, Cond.static yJ2_putChar_b72d1, Cond.code yJ2_putChar_b72d1 cJ2_putChar_b72d1 3 none, Cond.fieldLink RJ2 44 "java/lang/StringUTF16" "$assertionsDisabled" "Z", Cond.fieldLink RJ2 59 "java/lang/StringUTF16" "HI_BYTE_SHIFT" "I", Cond.fieldLink RJ2 63 "java/lang/StringUTF16" "LO_BYTE_SHIFT" "I"]
def wsJ0_getBytes_840e7 : List Cond := .code yJ0_getBytes_840e7 cJ0_getBytes_840e7 4 none :: ((wsJ0_getBytes_840e7_r1 ++ wsJ0_getBytes_840e7_r2) ++ wsJ00)
def wsJ5_putStringAt_47b60_r1 : List Cond := [Cond.fieldLink RJ5 15 "java/lang/AbstractStringBuilder" "value" "[B", Cond.fieldLink RJ5 22 "java/lang/AbstractStringBuilder" "coder" "B", Cond.methodLink RJ5 397 ⟨"java/lang/AbstractStringBuilder", "inflateIfNeededFor", "(Ljava/lang/String;)V"⟩, Cond.sameMethod "java/lang/AbstractStringBuilder" "java/lang/AbstractStringBuilder" "inflateIfNeededFor" "(Ljava/lang/String;)V", Cond.selects RJ4 ⟨"java/lang/AbstractStringBuilder", "inflateIfNeededFor", "(Ljava/lang/String;)V"⟩ yJ5_inflateIfNeededFor_a7421, Cond.instanceMethod yJ5_inflateIfNeededFor_a7421, Cond.initialized RJ5, Cond.code yJ5_inflateIfNeededFor_a7421 cJ5_inflateIfNeededFor_a7421 2 none, Cond.fieldLink RJ5 18 "java/lang/String" "COMPACT_STRINGS" "Z", Cond.methodLink RJ5 40 yJ0_coder_7d493, Cond.instanceMethod yJ0_coder_7d493, Cond.selects RJ0 yJ0_coder_7d493 yJ0_coder_7d493, Cond.initialized RJ0, Cond.code yJ0_coder_7d493 cJ0_coder_7d493 1 (some .byte), Cond.fieldLink RJ0 38 "java/lang/String" "COMPACT_STRINGS" "Z", Cond.fieldLink RJ0 15 "java/lang/String" "coder" "B", Cond.methodLink RJ5 195 ⟨"java/lang/AbstractStringBuilder", "inflate", "()V"⟩, Cond.sameMethod "java/lang/AbstractStringBuilder" "java/lang/AbstractStringBuilder" "inflate" "()V", Cond.selects RJ4 ⟨"java/lang/AbstractStringBuilder", "inflate", "()V"⟩ yJ5_inflate_da8c8, Cond.instanceMethod yJ5_inflate_da8c8, Cond.code yJ5_inflate_da8c8 cJ5_inflate_da8c8 2 none, Cond.fieldLink RJ5 79 "java/lang/AbstractStringBuilder" "count" "I", Cond.methodLink RJ5 83 ⟨"java/lang/AbstractStringBuilder", "isLatin1", "()Z"⟩, Cond.sameMethod "java/lang/AbstractStringBuilder" "java/lang/AbstractStringBuilder" "isLatin1" "()Z"]
def wsJ5_putStringAt_47b60_r2 : List Cond := [Cond.selects RJ4 ⟨"java/lang/AbstractStringBuilder", "isLatin1", "()Z"⟩ yJ5_isLatin1_aae02, Cond.instanceMethod yJ5_isLatin1_aae02, Cond.code yJ5_isLatin1_aae02 cJ5_isLatin1_aae02 1 (some .boolean), Cond.methodLink RJ5 26 yJ2_newBytesFor_77867, Cond.static yJ2_newBytesFor_77867, Cond.initialized RJ2, Cond.code yJ2_newBytesFor_77867 cJ2_newBytesFor_77867 1 (some (.array .byte)), Cond.arrayClass .byte, Cond.methodLink RJ2 11 yJ2_newBytesLength_0f7a4, Cond.static yJ2_newBytesLength_0f7a4, Cond.code yJ2_newBytesLength_0f7a4 cJ2_newBytesLength_0f7a4 1 (some .int), Cond.constant RJ2 20 (1073741823), Cond.methodLink RJ5 125 yJ1_inflate_0e8fd, Cond.static yJ1_inflate_0e8fd, Cond.initialized RJ1, Cond.code yJ1_inflate_0e8fd cJ1_inflate_0e8fd 5 none, Cond.methodLink RJ1 240 yJ2_inflate_0e8fd, Cond.static yJ2_inflate_0e8fd, Cond.code yJ2_inflate_0e8fd cJ2_inflate_0e8fd 6 none, Cond.methodLink RJ2 173 yJ2_checkBoundsOffCount_d044e, Cond.static yJ2_checkBoundsOffCount_d044e, Cond.code yJ2_checkBoundsOffCount_d044e cJ2_checkBoundsOffCount_d044e 3 none, Cond.methodLink RJ2 48 yJ2_length_9d52b, Cond.static yJ2_length_9d52b]
def wsJ5_putStringAt_47b60_r3 : List Cond := [Cond.code yJ2_length_9d52b cJ2_length_9d52b 1 (some .int), Cond.methodLink RJ2 419 yJ0_checkBoundsOffCount_cabcc, Cond.static yJ0_checkBoundsOffCount_cabcc, Cond.code yJ0_checkBoundsOffCount_cabcc cJ0_checkBoundsOffCount_cabcc 3 (some .int), Cond.fieldLink RJ0 1053 "jdk/internal/util/Preconditions" "SIOOBE_FORMATTER" "Ljava/util/function/BiFunction;", Cond.methodLink RJ0 1065 yJ3_checkFromIndexSize_8c36e, Cond.static yJ3_checkFromIndexSize_8c36e, Cond.initialized RJ3, Cond.code yJ3_checkFromIndexSize_8c36e cJ3_checkFromIndexSize_8c36e 4 (some .int), Cond.methodLink RJ2 111 yJ2_putChar_b72d1, Cond.static yJ2_putChar_b72d1, Cond.code yJ2_putChar_b72d1 cJ2_putChar_b72d1 3 none, Cond.fieldLink RJ2 44 "java/lang/StringUTF16" "$assertionsDisabled" "Z", Cond.fieldLink RJ2 59 "java/lang/StringUTF16" "HI_BYTE_SHIFT" "I", Cond.fieldLink RJ2 63 "java/lang/StringUTF16" "LO_BYTE_SHIFT" "I", Cond.methodLink RJ5 399 yJ0_getBytes_840e7, Cond.instanceMethod yJ0_getBytes_840e7, Cond.selects RJ0 yJ0_getBytes_840e7 yJ0_getBytes_840e7, Cond.code yJ0_getBytes_840e7 cJ0_getBytes_840e7 4 none, Cond.fieldLink RJ0 9 "java/lang/String" "value" "[B", Cond.methodLink RJ0 212 arraycopyName, Cond.native arraycopyName, Cond.static arraycopyName, Cond.initialized "java/lang/System"]
def wsJ5_putStringAt_47b60_r4 : List Cond := [Cond.methodLink RJ0 335 yJ0_coder_7d493, Cond.methodLink RJ0 106 yJ1_inflate_0e8fd]
def wsJ5_putStringAt_47b60 : List Cond := .code yJ5_putStringAt_47b60 cJ5_putStringAt_47b60 3 none :: ((wsJ5_putStringAt_47b60_r1 ++ (wsJ5_putStringAt_47b60_r2 ++ (wsJ5_putStringAt_47b60_r3 ++ wsJ5_putStringAt_47b60_r4))) ++ wsJ40 ++ wsJ00)
def wsJ5_append_cf1ce_r1 : List Cond := [Cond.fieldLink RJ5 79 "java/lang/AbstractStringBuilder" "count" "I", Cond.methodLink RJ5 204 ⟨"java/lang/AbstractStringBuilder", "appendNull", "()Ljava/lang/AbstractStringBuilder;"⟩, Cond.sameMethod "java/lang/AbstractStringBuilder" "java/lang/AbstractStringBuilder" "appendNull" "()Ljava/lang/AbstractStringBuilder;", Cond.selects RJ4 ⟨"java/lang/AbstractStringBuilder", "appendNull", "()Ljava/lang/AbstractStringBuilder;"⟩ yJ5_appendNull_278bc, Cond.instanceMethod yJ5_appendNull_278bc, Cond.initialized RJ5, Cond.code yJ5_appendNull_278bc cJ5_appendNull_278bc 3 (some (.object "java/lang/AbstractStringBuilder")), Cond.fieldLink RJ5 15 "java/lang/AbstractStringBuilder" "value" "[B", Cond.methodLink RJ5 100 ⟨"java/lang/AbstractStringBuilder", "ensureCapacityInternal", "(I)V"⟩, Cond.sameMethod "java/lang/AbstractStringBuilder" "java/lang/AbstractStringBuilder" "ensureCapacityInternal" "(I)V", Cond.selects RJ4 ⟨"java/lang/AbstractStringBuilder", "ensureCapacityInternal", "(I)V"⟩ yJ5_ensureCapacityInternal_d00df, Cond.instanceMethod yJ5_ensureCapacityInternal_d00df, Cond.code yJ5_ensureCapacityInternal_d00df cJ5_ensureCapacityInternal_d00df 3 none, Cond.fieldLink RJ5 22 "java/lang/AbstractStringBuilder" "coder" "B", Cond.methodLink RJ5 104 ⟨"java/lang/AbstractStringBuilder", "newCapacity", "(I)I"⟩, Cond.sameMethod "java/lang/AbstractStringBuilder" "java/lang/AbstractStringBuilder" "newCapacity" "(I)I", Cond.selects RJ4 ⟨"java/lang/AbstractStringBuilder", "newCapacity", "(I)I"⟩ yJ5_newCapacity_0f7a4, Cond.instanceMethod yJ5_newCapacity_0f7a4, Cond.code yJ5_newCapacity_0f7a4 cJ5_newCapacity_0f7a4 6 (some .int), Cond.constant RJ5 39 (2147483647), Cond.methodLink RJ5 114 yJ8_newLength_cabcc, Cond.static yJ8_newLength_cabcc, Cond.initialized RJ8, Cond.code yJ8_newLength_cabcc cJ8_newLength_cabcc 4 (some .int)]
def wsJ5_append_cf1ce_r2 : List Cond := [Cond.methodLink RJ8 194 Lib.Math.max.name, Cond.static Lib.Math.max.name, Cond.initialized "java/lang/Math", Cond.code Lib.Math.max.name Lib.Math.max.code 2 (some .int), Cond.constant RJ8 200 (2147483639), Cond.methodLink RJ8 201 yJ8_hugeLength_7cf53, Cond.static yJ8_hugeLength_7cf53, Cond.code yJ8_hugeLength_7cf53 cJ8_hugeLength_7cf53 3 (some .int), Cond.methodLink RJ5 108 yJ7_copyOf_9075b, Cond.static yJ7_copyOf_9075b, Cond.initialized RJ7, Cond.code yJ7_copyOf_9075b cJ7_copyOf_9075b 3 (some (.array .byte)), Cond.methodLink RJ7 310 ⟨"[B", "clone", "()Ljava/lang/Object;"⟩, Cond.sameMethod "[B" "java/lang/Object" "clone" "()Ljava/lang/Object;", Cond.native ⟨"java/lang/Object", "clone", "()Ljava/lang/Object;"⟩, Cond.instanceMethod ⟨"java/lang/Object", "clone", "()Ljava/lang/Object;"⟩, Cond.selects "[B" ⟨"[B", "clone", "()Ljava/lang/Object;"⟩ ⟨"java/lang/Object", "clone", "()Ljava/lang/Object;"⟩, Cond.classLink RJ7 311 "[B", Cond.arrayClass .byte, Cond.methodLink RJ7 304 Lib.Math.min.name, Cond.static Lib.Math.min.name, Cond.code Lib.Math.min.name Lib.Math.min.code 2 (some .int), Cond.methodLink RJ7 150 arraycopyName, Cond.native arraycopyName]
def wsJ5_append_cf1ce_r3 : List Cond := [Cond.static arraycopyName, Cond.initialized "java/lang/System", Cond.methodLink RJ5 83 ⟨"java/lang/AbstractStringBuilder", "isLatin1", "()Z"⟩, Cond.sameMethod "java/lang/AbstractStringBuilder" "java/lang/AbstractStringBuilder" "isLatin1" "()Z", Cond.selects RJ4 ⟨"java/lang/AbstractStringBuilder", "isLatin1", "()Z"⟩ yJ5_isLatin1_aae02, Cond.instanceMethod yJ5_isLatin1_aae02, Cond.code yJ5_isLatin1_aae02 cJ5_isLatin1_aae02 1 (some .boolean), Cond.fieldLink RJ5 18 "java/lang/String" "COMPACT_STRINGS" "Z", Cond.methodLink RJ5 226 yJ2_putCharsAt_cd4e5, Cond.static yJ2_putCharsAt_cd4e5, Cond.initialized RJ2, Cond.code yJ2_putCharsAt_cd4e5 cJ2_putCharsAt_cd4e5 7 (some .int), Cond.fieldLink RJ2 44 "java/lang/StringUTF16" "$assertionsDisabled" "Z", Cond.methodLink RJ2 96 yJ2_checkBoundsBeginEnd_d044e, Cond.static yJ2_checkBoundsBeginEnd_d044e, Cond.code yJ2_checkBoundsBeginEnd_d044e cJ2_checkBoundsBeginEnd_d044e 3 none, Cond.methodLink RJ2 48 yJ2_length_9d52b, Cond.static yJ2_length_9d52b, Cond.code yJ2_length_9d52b cJ2_length_9d52b 1 (some .int), Cond.methodLink RJ2 241 yJ0_checkBoundsBeginEnd_23922, Cond.static yJ0_checkBoundsBeginEnd_23922, Cond.initialized RJ0, Cond.code yJ0_checkBoundsBeginEnd_23922 cJ0_checkBoundsBeginEnd_23922 3 none, Cond.fieldLink RJ0 1053 "jdk/internal/util/Preconditions" "SIOOBE_FORMATTER" "Ljava/util/function/BiFunction;"]
def wsJ5_append_cf1ce_r4 : List Cond := [Cond.methodLink RJ0 1062 yJ3_checkFromToIndex_8c36e, Cond.static yJ3_checkFromToIndex_8c36e, Cond.initialized RJ3, Cond.code yJ3_checkFromToIndex_8c36e cJ3_checkFromToIndex_8c36e 4 (some .int), Cond.methodLink RJ2 111 yJ2_putChar_b72d1, Cond.static yJ2_putChar_b72d1, Cond.code yJ2_putChar_b72d1 cJ2_putChar_b72d1 3 none, Cond.fieldLink RJ2 59 "java/lang/StringUTF16" "HI_BYTE_SHIFT" "I", Cond.fieldLink RJ2 63 "java/lang/StringUTF16" "LO_BYTE_SHIFT" "I", Cond.methodLink RJ5 32 yJ0_length_8abf5, Cond.instanceMethod yJ0_length_8abf5, Cond.selects RJ0 yJ0_length_8abf5 yJ0_length_8abf5, Cond.code yJ0_length_8abf5 cJ0_length_8abf5 1 (some .int), Cond.fieldLink RJ0 9 "java/lang/String" "value" "[B", Cond.methodLink RJ0 335 yJ0_coder_7d493, Cond.instanceMethod yJ0_coder_7d493, Cond.selects RJ0 yJ0_coder_7d493 yJ0_coder_7d493, Cond.code yJ0_coder_7d493 cJ0_coder_7d493 1 (some .byte), Cond.fieldLink RJ0 38 "java/lang/String" "COMPACT_STRINGS" "Z", Cond.fieldLink RJ0 15 "java/lang/String" "coder" "B", Cond.methodLink RJ5 208 ⟨"java/lang/AbstractStringBuilder", "putStringAt", "(ILjava/lang/String;)V"⟩, Cond.sameMethod "java/lang/AbstractStringBuilder" "java/lang/AbstractStringBuilder" "putStringAt" "(ILjava/lang/String;)V", Cond.selects RJ4 ⟨"java/lang/AbstractStringBuilder", "putStringAt", "(ILjava/lang/String;)V"⟩ yJ5_putStringAt_47b60, Cond.instanceMethod yJ5_putStringAt_47b60]
def wsJ5_append_cf1ce_r5 : List Cond := [Cond.code yJ5_putStringAt_47b60 cJ5_putStringAt_47b60 3 none, Cond.methodLink RJ5 397 ⟨"java/lang/AbstractStringBuilder", "inflateIfNeededFor", "(Ljava/lang/String;)V"⟩, Cond.sameMethod "java/lang/AbstractStringBuilder" "java/lang/AbstractStringBuilder" "inflateIfNeededFor" "(Ljava/lang/String;)V", Cond.selects RJ4 ⟨"java/lang/AbstractStringBuilder", "inflateIfNeededFor", "(Ljava/lang/String;)V"⟩ yJ5_inflateIfNeededFor_a7421, Cond.instanceMethod yJ5_inflateIfNeededFor_a7421, Cond.code yJ5_inflateIfNeededFor_a7421 cJ5_inflateIfNeededFor_a7421 2 none, Cond.methodLink RJ5 40 yJ0_coder_7d493, Cond.methodLink RJ5 195 ⟨"java/lang/AbstractStringBuilder", "inflate", "()V"⟩, Cond.sameMethod "java/lang/AbstractStringBuilder" "java/lang/AbstractStringBuilder" "inflate" "()V", Cond.selects RJ4 ⟨"java/lang/AbstractStringBuilder", "inflate", "()V"⟩ yJ5_inflate_da8c8, Cond.instanceMethod yJ5_inflate_da8c8, Cond.code yJ5_inflate_da8c8 cJ5_inflate_da8c8 2 none, Cond.methodLink RJ5 26 yJ2_newBytesFor_77867, Cond.static yJ2_newBytesFor_77867, Cond.code yJ2_newBytesFor_77867 cJ2_newBytesFor_77867 1 (some (.array .byte)), Cond.methodLink RJ2 11 yJ2_newBytesLength_0f7a4, Cond.static yJ2_newBytesLength_0f7a4, Cond.code yJ2_newBytesLength_0f7a4 cJ2_newBytesLength_0f7a4 1 (some .int), Cond.constant RJ2 20 (1073741823), Cond.methodLink RJ5 125 yJ1_inflate_0e8fd, Cond.static yJ1_inflate_0e8fd, Cond.initialized RJ1, Cond.code yJ1_inflate_0e8fd cJ1_inflate_0e8fd 5 none, Cond.methodLink RJ1 240 yJ2_inflate_0e8fd]
def wsJ5_append_cf1ce_r6 : List Cond := [Cond.static yJ2_inflate_0e8fd, Cond.code yJ2_inflate_0e8fd cJ2_inflate_0e8fd 6 none, Cond.methodLink RJ2 173 yJ2_checkBoundsOffCount_d044e, Cond.static yJ2_checkBoundsOffCount_d044e, Cond.code yJ2_checkBoundsOffCount_d044e cJ2_checkBoundsOffCount_d044e 3 none, Cond.methodLink RJ2 419 yJ0_checkBoundsOffCount_cabcc, Cond.static yJ0_checkBoundsOffCount_cabcc, Cond.code yJ0_checkBoundsOffCount_cabcc cJ0_checkBoundsOffCount_cabcc 3 (some .int), Cond.methodLink RJ0 1065 yJ3_checkFromIndexSize_8c36e, Cond.static yJ3_checkFromIndexSize_8c36e, Cond.code yJ3_checkFromIndexSize_8c36e cJ3_checkFromIndexSize_8c36e 4 (some .int), Cond.methodLink RJ5 399 yJ0_getBytes_840e7, Cond.instanceMethod yJ0_getBytes_840e7, Cond.selects RJ0 yJ0_getBytes_840e7 yJ0_getBytes_840e7, Cond.code yJ0_getBytes_840e7 cJ0_getBytes_840e7 4 none, Cond.methodLink RJ0 212 arraycopyName, Cond.methodLink RJ0 106 yJ1_inflate_0e8fd]
def wsJ5_append_cf1ce : List Cond := .code yJ5_append_cf1ce cJ5_append_cf1ce 3 (some (.object "java/lang/AbstractStringBuilder")) :: ((wsJ5_append_cf1ce_r1 ++ (wsJ5_append_cf1ce_r2 ++ (wsJ5_append_cf1ce_r3 ++ (wsJ5_append_cf1ce_r4 ++ (wsJ5_append_cf1ce_r5 ++ wsJ5_append_cf1ce_r6))))) ++ wsJ40 ++ wsJ00)
def wsJ6_stringSize_0f7a4 : List Cond := .code yJ6_stringSize_0f7a4 cJ6_stringSize_0f7a4 4 (some .int) :: ([])
def wsJ6_getChars_ba4f3 : List Cond := .code yJ6_getChars_ba4f3 cJ6_getChars_ba4f3 7 (some .int) :: ([.fieldLink RJ6 83 "java/lang/Integer" "DigitOnes" "[B", .fieldLink RJ6 87 "java/lang/Integer" "DigitTens" "[B"])
def wsJ2_getChars_ba4f3 : List Cond := .code yJ2_getChars_ba4f3 cJ2_getChars_ba4f3 7 (some .int) :: ([.fieldLink RJ2 403 "java/lang/Integer" "DigitOnes" "[B", .fieldLink RJ2 407 "java/lang/Integer" "DigitTens" "[B", .methodLink RJ2 111 yJ2_putChar_b72d1, .static yJ2_putChar_b72d1, .initialized RJ2, .code yJ2_putChar_b72d1 cJ2_putChar_b72d1 3 none, .fieldLink RJ2 44 "java/lang/StringUTF16" "$assertionsDisabled" "Z", .fieldLink RJ2 59 "java/lang/StringUTF16" "HI_BYTE_SHIFT" "I", .fieldLink RJ2 63 "java/lang/StringUTF16" "LO_BYTE_SHIFT" "I", .methodLink RJ2 48 yJ2_length_9d52b, .static yJ2_length_9d52b, .code yJ2_length_9d52b cJ2_length_9d52b 1 (some .int)])
def wsJ2_getChars_46870_r1 : List Cond := [Cond.fieldLink RJ2 44 "java/lang/StringUTF16" "$assertionsDisabled" "Z", Cond.methodLink RJ2 96 yJ2_checkBoundsBeginEnd_d044e, Cond.static yJ2_checkBoundsBeginEnd_d044e, Cond.initialized RJ2, Cond.code yJ2_checkBoundsBeginEnd_d044e cJ2_checkBoundsBeginEnd_d044e 3 none, Cond.methodLink RJ2 48 yJ2_length_9d52b, Cond.static yJ2_length_9d52b, Cond.code yJ2_length_9d52b cJ2_length_9d52b 1 (some .int), Cond.methodLink RJ2 241 yJ0_checkBoundsBeginEnd_23922, Cond.static yJ0_checkBoundsBeginEnd_23922, Cond.initialized RJ0, Cond.code yJ0_checkBoundsBeginEnd_23922 cJ0_checkBoundsBeginEnd_23922 3 none, Cond.fieldLink RJ0 1053 "jdk/internal/util/Preconditions" "SIOOBE_FORMATTER" "Ljava/util/function/BiFunction;", Cond.methodLink RJ0 1062 yJ3_checkFromToIndex_8c36e, Cond.static yJ3_checkFromToIndex_8c36e, Cond.initialized RJ3, Cond.code yJ3_checkFromToIndex_8c36e cJ3_checkFromToIndex_8c36e 4 (some .int), Cond.methodLink RJ2 393 yJ2_getChars_ba4f3, Cond.static yJ2_getChars_ba4f3, Cond.code yJ2_getChars_ba4f3 cJ2_getChars_ba4f3 7 (some .int), Cond.fieldLink RJ2 403 "java/lang/Integer" "DigitOnes" "[B", Cond.fieldLink RJ2 407 "java/lang/Integer" "DigitTens" "[B", Cond.methodLink RJ2 111 yJ2_putChar_b72d1, Cond.static yJ2_putChar_b72d1]
def wsJ2_getChars_46870_r2 : List Cond := [Cond.code yJ2_putChar_b72d1 cJ2_putChar_b72d1 3 none, Cond.fieldLink RJ2 59 "java/lang/StringUTF16" "HI_BYTE_SHIFT" "I", Cond.fieldLink RJ2 63 "java/lang/StringUTF16" "LO_BYTE_SHIFT" "I"]
def wsJ2_getChars_46870 : List Cond := .code yJ2_getChars_46870 cJ2_getChars_46870 5 (some .int) :: ((wsJ2_getChars_46870_r1 ++ wsJ2_getChars_46870_r2))
def wsJ5_append_c97b9_r1 : List Cond := [Cond.fieldLink RJ5 79 "java/lang/AbstractStringBuilder" "count" "I", Cond.fieldLink RJ5 15 "java/lang/AbstractStringBuilder" "value" "[B", Cond.methodLink RJ5 245 yJ6_stringSize_0f7a4, Cond.static yJ6_stringSize_0f7a4, Cond.initialized RJ6, Cond.code yJ6_stringSize_0f7a4 cJ6_stringSize_0f7a4 4 (some .int), Cond.methodLink RJ5 100 ⟨"java/lang/AbstractStringBuilder", "ensureCapacityInternal", "(I)V"⟩, Cond.sameMethod "java/lang/AbstractStringBuilder" "java/lang/AbstractStringBuilder" "ensureCapacityInternal" "(I)V", Cond.selects RJ4 ⟨"java/lang/AbstractStringBuilder", "ensureCapacityInternal", "(I)V"⟩ yJ5_ensureCapacityInternal_d00df, Cond.instanceMethod yJ5_ensureCapacityInternal_d00df, Cond.initialized RJ5, Cond.code yJ5_ensureCapacityInternal_d00df cJ5_ensureCapacityInternal_d00df 3 none, Cond.fieldLink RJ5 22 "java/lang/AbstractStringBuilder" "coder" "B", Cond.methodLink RJ5 104 ⟨"java/lang/AbstractStringBuilder", "newCapacity", "(I)I"⟩, Cond.sameMethod "java/lang/AbstractStringBuilder" "java/lang/AbstractStringBuilder" "newCapacity" "(I)I", Cond.selects RJ4 ⟨"java/lang/AbstractStringBuilder", "newCapacity", "(I)I"⟩ yJ5_newCapacity_0f7a4, Cond.instanceMethod yJ5_newCapacity_0f7a4, Cond.code yJ5_newCapacity_0f7a4 cJ5_newCapacity_0f7a4 6 (some .int), Cond.constant RJ5 39 (2147483647), Cond.methodLink RJ5 114 yJ8_newLength_cabcc, Cond.static yJ8_newLength_cabcc, Cond.initialized RJ8, Cond.code yJ8_newLength_cabcc cJ8_newLength_cabcc 4 (some .int), Cond.methodLink RJ8 194 Lib.Math.max.name]
def wsJ5_append_c97b9_r2 : List Cond := [Cond.static Lib.Math.max.name, Cond.initialized "java/lang/Math", Cond.code Lib.Math.max.name Lib.Math.max.code 2 (some .int), Cond.constant RJ8 200 (2147483639), Cond.methodLink RJ8 201 yJ8_hugeLength_7cf53, Cond.static yJ8_hugeLength_7cf53, Cond.code yJ8_hugeLength_7cf53 cJ8_hugeLength_7cf53 3 (some .int), Cond.methodLink RJ5 108 yJ7_copyOf_9075b, Cond.static yJ7_copyOf_9075b, Cond.initialized RJ7, Cond.code yJ7_copyOf_9075b cJ7_copyOf_9075b 3 (some (.array .byte)), Cond.methodLink RJ7 310 ⟨"[B", "clone", "()Ljava/lang/Object;"⟩, Cond.sameMethod "[B" "java/lang/Object" "clone" "()Ljava/lang/Object;", Cond.native ⟨"java/lang/Object", "clone", "()Ljava/lang/Object;"⟩, Cond.instanceMethod ⟨"java/lang/Object", "clone", "()Ljava/lang/Object;"⟩, Cond.selects "[B" ⟨"[B", "clone", "()Ljava/lang/Object;"⟩ ⟨"java/lang/Object", "clone", "()Ljava/lang/Object;"⟩, Cond.classLink RJ7 311 "[B", Cond.arrayClass .byte, Cond.methodLink RJ7 304 Lib.Math.min.name, Cond.static Lib.Math.min.name, Cond.code Lib.Math.min.name Lib.Math.min.code 2 (some .int), Cond.methodLink RJ7 150 arraycopyName, Cond.native arraycopyName, Cond.static arraycopyName]
def wsJ5_append_c97b9_r3 : List Cond := [Cond.initialized "java/lang/System", Cond.methodLink RJ5 83 ⟨"java/lang/AbstractStringBuilder", "isLatin1", "()Z"⟩, Cond.sameMethod "java/lang/AbstractStringBuilder" "java/lang/AbstractStringBuilder" "isLatin1" "()Z", Cond.selects RJ4 ⟨"java/lang/AbstractStringBuilder", "isLatin1", "()Z"⟩ yJ5_isLatin1_aae02, Cond.instanceMethod yJ5_isLatin1_aae02, Cond.code yJ5_isLatin1_aae02 cJ5_isLatin1_aae02 1 (some .boolean), Cond.fieldLink RJ5 18 "java/lang/String" "COMPACT_STRINGS" "Z", Cond.methodLink RJ5 248 yJ6_getChars_ba4f3, Cond.static yJ6_getChars_ba4f3, Cond.code yJ6_getChars_ba4f3 cJ6_getChars_ba4f3 7 (some .int), Cond.fieldLink RJ6 83 "java/lang/Integer" "DigitOnes" "[B", Cond.fieldLink RJ6 87 "java/lang/Integer" "DigitTens" "[B", Cond.methodLink RJ5 251 yJ2_getChars_46870, Cond.static yJ2_getChars_46870, Cond.initialized RJ2, Cond.code yJ2_getChars_46870 cJ2_getChars_46870 5 (some .int), Cond.fieldLink RJ2 44 "java/lang/StringUTF16" "$assertionsDisabled" "Z", Cond.methodLink RJ2 96 yJ2_checkBoundsBeginEnd_d044e, Cond.static yJ2_checkBoundsBeginEnd_d044e, Cond.code yJ2_checkBoundsBeginEnd_d044e cJ2_checkBoundsBeginEnd_d044e 3 none, Cond.methodLink RJ2 48 yJ2_length_9d52b, Cond.static yJ2_length_9d52b, Cond.code yJ2_length_9d52b cJ2_length_9d52b 1 (some .int), Cond.methodLink RJ2 241 yJ0_checkBoundsBeginEnd_23922]
def wsJ5_append_c97b9_r4 : List Cond := [Cond.static yJ0_checkBoundsBeginEnd_23922, Cond.initialized RJ0, Cond.code yJ0_checkBoundsBeginEnd_23922 cJ0_checkBoundsBeginEnd_23922 3 none, Cond.fieldLink RJ0 1053 "jdk/internal/util/Preconditions" "SIOOBE_FORMATTER" "Ljava/util/function/BiFunction;", Cond.methodLink RJ0 1062 yJ3_checkFromToIndex_8c36e, Cond.static yJ3_checkFromToIndex_8c36e, Cond.initialized RJ3, Cond.code yJ3_checkFromToIndex_8c36e cJ3_checkFromToIndex_8c36e 4 (some .int), Cond.methodLink RJ2 393 yJ2_getChars_ba4f3, Cond.static yJ2_getChars_ba4f3, Cond.code yJ2_getChars_ba4f3 cJ2_getChars_ba4f3 7 (some .int), Cond.fieldLink RJ2 403 "java/lang/Integer" "DigitOnes" "[B", Cond.fieldLink RJ2 407 "java/lang/Integer" "DigitTens" "[B", Cond.methodLink RJ2 111 yJ2_putChar_b72d1, Cond.static yJ2_putChar_b72d1, Cond.code yJ2_putChar_b72d1 cJ2_putChar_b72d1 3 none, Cond.fieldLink RJ2 59 "java/lang/StringUTF16" "HI_BYTE_SHIFT" "I", Cond.fieldLink RJ2 63 "java/lang/StringUTF16" "LO_BYTE_SHIFT" "I"]
def wsJ5_append_c97b9 : List Cond := .code yJ5_append_c97b9 cJ5_append_c97b9 4 (some (.object "java/lang/AbstractStringBuilder")) :: ((wsJ5_append_c97b9_r1 ++ (wsJ5_append_c97b9_r2 ++ (wsJ5_append_c97b9_r3 ++ wsJ5_append_c97b9_r4))) ++ wsJ40)
def wsJ5_getValue_6d5f1 : List Cond := .code yJ5_getValue_6d5f1 cJ5_getValue_6d5f1 1 (some (.array .byte)) :: ([.fieldLink RJ5 15 "java/lang/AbstractStringBuilder" "value" "[B"] ++ wsJ40)
def wsJ9_abs_0f7a4 : List Cond := .code yJ9_abs_0f7a4 cJ9_abs_0f7a4 1 (some .int) :: ([])
def wsJ9_max_7cf53 : List Cond := .code yJ9_max_7cf53 cJ9_max_7cf53 2 (some .int) :: ([])
def wsJ9_min_7cf53 : List Cond := .code yJ9_min_7cf53 cJ9_min_7cf53 2 (some .int) :: ([])
def wsJ4_length_8abf5 : List Cond := .code yJ4_length_8abf5 cJ4_length_8abf5 1 (some .int) :: ([.methodLink RJ4 343 yJ5_length_8abf5, .sameMethod "java/lang/AbstractStringBuilder" "java/lang/AbstractStringBuilder" "length" "()I", .superclass RJ4 RJ5, .instanceMethod yJ5_length_8abf5, .initialized RJ5, .code yJ5_length_8abf5 cJ5_length_8abf5 1 (some .int), .fieldLink RJ5 79 "java/lang/AbstractStringBuilder" "count" "I"] ++ wsJ40)
def wsJ7_checkLength_df160 : List Cond := .code yJ7_checkLength_df160 cJ7_checkLength_df160 2 none :: ([.classLink RJ7 45 RJ4, .instantiable RJ4 4, .initialized RJ4] ++ wsJ40)
def wsJ7_copyOfRangeByte_39247 : List Cond := .code yJ7_copyOfRangeByte_39247 cJ7_copyOfRangeByte_39247 5 (some (.array .byte)) :: ([.arrayClass .byte, .methodLink RJ7 304 Lib.Math.min.name, .static Lib.Math.min.name, .initialized "java/lang/Math", .code Lib.Math.min.name Lib.Math.min.code 2 (some .int), .methodLink RJ7 150 arraycopyName, .native arraycopyName, .static arraycopyName, .initialized "java/lang/System", .methodLink RJ7 343 yJ7_checkLength_df160, .static yJ7_checkLength_df160, .initialized RJ7, .code yJ7_checkLength_df160 cJ7_checkLength_df160 2 none, .classLink RJ7 45 RJ4, .instantiable RJ4 4, .initialized RJ4] ++ wsJ40)
def wsJ7_copyOfRange_39247_r1 : List Cond := [Cond.methodLink RJ7 310 ⟨"[B", "clone", "()Ljava/lang/Object;"⟩, Cond.sameMethod "[B" "java/lang/Object" "clone" "()Ljava/lang/Object;", Cond.native ⟨"java/lang/Object", "clone", "()Ljava/lang/Object;"⟩, Cond.instanceMethod ⟨"java/lang/Object", "clone", "()Ljava/lang/Object;"⟩, Cond.selects "[B" ⟨"[B", "clone", "()Ljava/lang/Object;"⟩ ⟨"java/lang/Object", "clone", "()Ljava/lang/Object;"⟩, Cond.classLink RJ7 311 "[B", Cond.methodLink RJ7 339 yJ7_copyOfRangeByte_39247, Cond.static yJ7_copyOfRangeByte_39247, Cond.initialized RJ7, Cond.code yJ7_copyOfRangeByte_39247 cJ7_copyOfRangeByte_39247 5 (some (.array .byte)), Cond.arrayClass .byte, Cond.methodLink RJ7 304 Lib.Math.min.name, Cond.static Lib.Math.min.name, Cond.initialized "java/lang/Math", Cond.code Lib.Math.min.name Lib.Math.min.code 2 (some .int), Cond.methodLink RJ7 150 arraycopyName, Cond.native arraycopyName, Cond.static arraycopyName, Cond.initialized "java/lang/System", Cond.methodLink RJ7 343 yJ7_checkLength_df160, Cond.static yJ7_checkLength_df160, Cond.code yJ7_checkLength_df160 cJ7_checkLength_df160 2 none, Cond.classLink RJ7 45 RJ4, Cond.instantiable RJ4 4]
def wsJ7_copyOfRange_39247_r2 : List Cond := [Cond.initialized RJ4]
def wsJ7_copyOfRange_39247 : List Cond := .code yJ7_copyOfRange_39247 cJ7_copyOfRange_39247 3 (some (.array .byte)) :: ((wsJ7_copyOfRange_39247_r1 ++ wsJ7_copyOfRange_39247_r2) ++ wsJ40)
def wsJ2_getChar_3b067 : List Cond := .code yJ2_getChar_3b067 cJ2_getChar_3b067 2 (some .char) :: ([.fieldLink RJ2 44 "java/lang/StringUTF16" "$assertionsDisabled" "Z", .fieldLink RJ2 59 "java/lang/StringUTF16" "HI_BYTE_SHIFT" "I", .fieldLink RJ2 63 "java/lang/StringUTF16" "LO_BYTE_SHIFT" "I", .methodLink RJ2 48 yJ2_length_9d52b, .static yJ2_length_9d52b, .initialized RJ2, .code yJ2_length_9d52b cJ2_length_9d52b 1 (some .int)])
def wsJ2_compress_5af95 : List Cond := .code yJ2_compress_5af95 cJ2_compress_5af95 7 (some .int) :: ([.methodLink RJ2 173 yJ2_checkBoundsOffCount_d044e, .static yJ2_checkBoundsOffCount_d044e, .initialized RJ2, .code yJ2_checkBoundsOffCount_d044e cJ2_checkBoundsOffCount_d044e 3 none, .methodLink RJ2 48 yJ2_length_9d52b, .static yJ2_length_9d52b, .code yJ2_length_9d52b cJ2_length_9d52b 1 (some .int), .methodLink RJ2 419 yJ0_checkBoundsOffCount_cabcc, .static yJ0_checkBoundsOffCount_cabcc, .initialized RJ0, .code yJ0_checkBoundsOffCount_cabcc cJ0_checkBoundsOffCount_cabcc 3 (some .int), .fieldLink RJ0 1053 "jdk/internal/util/Preconditions" "SIOOBE_FORMATTER" "Ljava/util/function/BiFunction;", .methodLink RJ0 1065 yJ3_checkFromIndexSize_8c36e, .static yJ3_checkFromIndexSize_8c36e, .initialized RJ3, .code yJ3_checkFromIndexSize_8c36e cJ3_checkFromIndexSize_8c36e 4 (some .int), .methodLink RJ2 71 yJ2_getChar_3b067, .static yJ2_getChar_3b067, .code yJ2_getChar_3b067 cJ2_getChar_3b067 2 (some .char), .fieldLink RJ2 44 "java/lang/StringUTF16" "$assertionsDisabled" "Z", .fieldLink RJ2 59 "java/lang/StringUTF16" "HI_BYTE_SHIFT" "I", .fieldLink RJ2 63 "java/lang/StringUTF16" "LO_BYTE_SHIFT" "I"])
def wsJ2_compress_39247_r1 : List Cond := [Cond.arrayClass .byte, Cond.methodLink RJ2 123 yJ2_compress_5af95, Cond.static yJ2_compress_5af95, Cond.initialized RJ2, Cond.code yJ2_compress_5af95 cJ2_compress_5af95 7 (some .int), Cond.methodLink RJ2 173 yJ2_checkBoundsOffCount_d044e, Cond.static yJ2_checkBoundsOffCount_d044e, Cond.code yJ2_checkBoundsOffCount_d044e cJ2_checkBoundsOffCount_d044e 3 none, Cond.methodLink RJ2 48 yJ2_length_9d52b, Cond.static yJ2_length_9d52b, Cond.code yJ2_length_9d52b cJ2_length_9d52b 1 (some .int), Cond.methodLink RJ2 419 yJ0_checkBoundsOffCount_cabcc, Cond.static yJ0_checkBoundsOffCount_cabcc, Cond.initialized RJ0, Cond.code yJ0_checkBoundsOffCount_cabcc cJ0_checkBoundsOffCount_cabcc 3 (some .int), Cond.fieldLink RJ0 1053 "jdk/internal/util/Preconditions" "SIOOBE_FORMATTER" "Ljava/util/function/BiFunction;", Cond.methodLink RJ0 1065 yJ3_checkFromIndexSize_8c36e, Cond.static yJ3_checkFromIndexSize_8c36e, Cond.initialized RJ3, Cond.code yJ3_checkFromIndexSize_8c36e cJ3_checkFromIndexSize_8c36e 4 (some .int), Cond.methodLink RJ2 71 yJ2_getChar_3b067, Cond.static yJ2_getChar_3b067, Cond.code yJ2_getChar_3b067 cJ2_getChar_3b067 2 (some .char), Cond.fieldLink RJ2 44 "java/lang/StringUTF16" "$assertionsDisabled" "Z"]
def wsJ2_compress_39247_r2 : List Cond := [Cond.fieldLink RJ2 59 "java/lang/StringUTF16" "HI_BYTE_SHIFT" "I", Cond.fieldLink RJ2 63 "java/lang/StringUTF16" "LO_BYTE_SHIFT" "I", Cond.methodLink RJ2 11 yJ2_newBytesLength_0f7a4, Cond.static yJ2_newBytesLength_0f7a4, Cond.code yJ2_newBytesLength_0f7a4 cJ2_newBytesLength_0f7a4 1 (some .int), Cond.constant RJ2 20 (1073741823), Cond.methodLink RJ2 126 yJ7_copyOfRange_39247, Cond.static yJ7_copyOfRange_39247, Cond.initialized RJ7, Cond.code yJ7_copyOfRange_39247 cJ7_copyOfRange_39247 3 (some (.array .byte)), Cond.methodLink RJ7 310 ⟨"[B", "clone", "()Ljava/lang/Object;"⟩, Cond.sameMethod "[B" "java/lang/Object" "clone" "()Ljava/lang/Object;", Cond.native ⟨"java/lang/Object", "clone", "()Ljava/lang/Object;"⟩, Cond.instanceMethod ⟨"java/lang/Object", "clone", "()Ljava/lang/Object;"⟩, Cond.selects "[B" ⟨"[B", "clone", "()Ljava/lang/Object;"⟩ ⟨"java/lang/Object", "clone", "()Ljava/lang/Object;"⟩, Cond.classLink RJ7 311 "[B", Cond.methodLink RJ7 339 yJ7_copyOfRangeByte_39247, Cond.static yJ7_copyOfRangeByte_39247, Cond.code yJ7_copyOfRangeByte_39247 cJ7_copyOfRangeByte_39247 5 (some (.array .byte)), Cond.methodLink RJ7 304 Lib.Math.min.name, Cond.static Lib.Math.min.name, Cond.initialized "java/lang/Math", Cond.code Lib.Math.min.name Lib.Math.min.code 2 (some .int), Cond.methodLink RJ7 150 arraycopyName]
def wsJ2_compress_39247_r3 : List Cond := [Cond.native arraycopyName, Cond.static arraycopyName, Cond.initialized "java/lang/System", Cond.methodLink RJ7 343 yJ7_checkLength_df160, Cond.static yJ7_checkLength_df160, Cond.code yJ7_checkLength_df160 cJ7_checkLength_df160 2 none, Cond.classLink RJ7 45 RJ4, Cond.instantiable RJ4 4, Cond.initialized RJ4]
def wsJ2_compress_39247 : List Cond := .code yJ2_compress_39247 cJ2_compress_39247 6 (some (.array .byte)) :: ((wsJ2_compress_39247_r1 ++ (wsJ2_compress_39247_r2 ++ wsJ2_compress_39247_r3)) ++ wsJ40)
def wsJ2_coderFromArrayLen_85cad : List Cond := .code yJ2_coderFromArrayLen_85cad cJ2_coderFromArrayLen_85cad 2 (some .byte) :: ([])
def wsJ0_init_db425_r1 : List Cond := [Cond.methodLink RJ0 1 objectInit, Cond.instanceMethod objectInit, Cond.code objectInit ⟨#[0xb1]⟩ 1 none, Cond.fieldLink RJ0 15 "java/lang/String" "coder" "B", Cond.fieldLink RJ0 9 "java/lang/String" "value" "[B", Cond.fieldLink RJ0 38 "java/lang/String" "COMPACT_STRINGS" "Z", Cond.fieldLink RJ0 1048 "java/lang/AbstractStringBuilder" "maybeLatin1" "Z", Cond.methodLink RJ0 552 ⟨"java/lang/AbstractStringBuilder", "getValue", "()[B"⟩, Cond.sameMethod "java/lang/AbstractStringBuilder" "java/lang/AbstractStringBuilder" "getValue" "()[B", Cond.selects RJ4 ⟨"java/lang/AbstractStringBuilder", "getValue", "()[B"⟩ yJ5_getValue_6d5f1, Cond.instanceMethod yJ5_getValue_6d5f1, Cond.initialized RJ5, Cond.code yJ5_getValue_6d5f1 cJ5_getValue_6d5f1 1 (some (.array .byte)), Cond.fieldLink RJ5 15 "java/lang/AbstractStringBuilder" "value" "[B", Cond.methodLink RJ0 549 ⟨"java/lang/AbstractStringBuilder", "length", "()I"⟩, Cond.sameMethod "java/lang/AbstractStringBuilder" "java/lang/AbstractStringBuilder" "length" "()I", Cond.instanceMethod ⟨"java/lang/AbstractStringBuilder", "length", "()I"⟩, Cond.selects RJ4 ⟨"java/lang/AbstractStringBuilder", "length", "()I"⟩ yJ4_length_8abf5, Cond.instanceMethod yJ4_length_8abf5, Cond.initialized RJ4, Cond.code yJ4_length_8abf5 cJ4_length_8abf5 1 (some .int), Cond.methodLink RJ4 343 yJ5_length_8abf5, Cond.superclass RJ4 RJ5, Cond.instanceMethod yJ5_length_8abf5]
def wsJ0_init_db425_r2 : List Cond := [Cond.code yJ5_length_8abf5 cJ5_length_8abf5 1 (some .int), Cond.fieldLink RJ5 79 "java/lang/AbstractStringBuilder" "count" "I", Cond.methodLink RJ0 1047 ⟨"java/lang/AbstractStringBuilder", "isLatin1", "()Z"⟩, Cond.sameMethod "java/lang/AbstractStringBuilder" "java/lang/AbstractStringBuilder" "isLatin1" "()Z", Cond.selects RJ4 ⟨"java/lang/AbstractStringBuilder", "isLatin1", "()Z"⟩ yJ5_isLatin1_aae02, Cond.instanceMethod yJ5_isLatin1_aae02, Cond.code yJ5_isLatin1_aae02 cJ5_isLatin1_aae02 1 (some .boolean), Cond.fieldLink RJ5 18 "java/lang/String" "COMPACT_STRINGS" "Z", Cond.fieldLink RJ5 22 "java/lang/AbstractStringBuilder" "coder" "B", Cond.methodLink RJ0 54 yJ7_copyOfRange_39247, Cond.static yJ7_copyOfRange_39247, Cond.initialized RJ7, Cond.code yJ7_copyOfRange_39247 cJ7_copyOfRange_39247 3 (some (.array .byte)), Cond.methodLink RJ7 310 ⟨"[B", "clone", "()Ljava/lang/Object;"⟩, Cond.sameMethod "[B" "java/lang/Object" "clone" "()Ljava/lang/Object;", Cond.native ⟨"java/lang/Object", "clone", "()Ljava/lang/Object;"⟩, Cond.instanceMethod ⟨"java/lang/Object", "clone", "()Ljava/lang/Object;"⟩, Cond.selects "[B" ⟨"[B", "clone", "()Ljava/lang/Object;"⟩ ⟨"java/lang/Object", "clone", "()Ljava/lang/Object;"⟩, Cond.classLink RJ7 311 "[B", Cond.methodLink RJ7 339 yJ7_copyOfRangeByte_39247, Cond.static yJ7_copyOfRangeByte_39247, Cond.code yJ7_copyOfRangeByte_39247 cJ7_copyOfRangeByte_39247 5 (some (.array .byte)), Cond.arrayClass .byte, Cond.methodLink RJ7 304 Lib.Math.min.name]
def wsJ0_init_db425_r3 : List Cond := [Cond.static Lib.Math.min.name, Cond.initialized "java/lang/Math", Cond.code Lib.Math.min.name Lib.Math.min.code 2 (some .int), Cond.methodLink RJ7 150 arraycopyName, Cond.native arraycopyName, Cond.static arraycopyName, Cond.initialized "java/lang/System", Cond.methodLink RJ7 343 yJ7_checkLength_df160, Cond.static yJ7_checkLength_df160, Cond.code yJ7_checkLength_df160 cJ7_checkLength_df160 2 none, Cond.classLink RJ7 45 RJ4, Cond.instantiable RJ4 4, Cond.methodLink RJ0 1051 yJ2_compress_39247, Cond.static yJ2_compress_39247, Cond.initialized RJ2, Cond.code yJ2_compress_39247 cJ2_compress_39247 6 (some (.array .byte)), Cond.methodLink RJ2 123 yJ2_compress_5af95, Cond.static yJ2_compress_5af95, Cond.code yJ2_compress_5af95 cJ2_compress_5af95 7 (some .int), Cond.methodLink RJ2 173 yJ2_checkBoundsOffCount_d044e, Cond.static yJ2_checkBoundsOffCount_d044e, Cond.code yJ2_checkBoundsOffCount_d044e cJ2_checkBoundsOffCount_d044e 3 none, Cond.methodLink RJ2 48 yJ2_length_9d52b, Cond.static yJ2_length_9d52b]
def wsJ0_init_db425_r4 : List Cond := [Cond.code yJ2_length_9d52b cJ2_length_9d52b 1 (some .int), Cond.methodLink RJ2 419 yJ0_checkBoundsOffCount_cabcc, Cond.static yJ0_checkBoundsOffCount_cabcc, Cond.initialized RJ0, Cond.code yJ0_checkBoundsOffCount_cabcc cJ0_checkBoundsOffCount_cabcc 3 (some .int), Cond.fieldLink RJ0 1053 "jdk/internal/util/Preconditions" "SIOOBE_FORMATTER" "Ljava/util/function/BiFunction;", Cond.methodLink RJ0 1065 yJ3_checkFromIndexSize_8c36e, Cond.static yJ3_checkFromIndexSize_8c36e, Cond.initialized RJ3, Cond.code yJ3_checkFromIndexSize_8c36e cJ3_checkFromIndexSize_8c36e 4 (some .int), Cond.methodLink RJ2 71 yJ2_getChar_3b067, Cond.static yJ2_getChar_3b067, Cond.code yJ2_getChar_3b067 cJ2_getChar_3b067 2 (some .char), Cond.fieldLink RJ2 44 "java/lang/StringUTF16" "$assertionsDisabled" "Z", Cond.fieldLink RJ2 59 "java/lang/StringUTF16" "HI_BYTE_SHIFT" "I", Cond.fieldLink RJ2 63 "java/lang/StringUTF16" "LO_BYTE_SHIFT" "I", Cond.methodLink RJ2 11 yJ2_newBytesLength_0f7a4, Cond.static yJ2_newBytesLength_0f7a4, Cond.code yJ2_newBytesLength_0f7a4 cJ2_newBytesLength_0f7a4 1 (some .int), Cond.constant RJ2 20 (1073741823), Cond.methodLink RJ2 126 yJ7_copyOfRange_39247, Cond.methodLink RJ0 47 yJ2_coderFromArrayLen_85cad, Cond.static yJ2_coderFromArrayLen_85cad, Cond.code yJ2_coderFromArrayLen_85cad cJ2_coderFromArrayLen_85cad 2 (some .byte)]
def wsJ0_init_db425 : List Cond := .code yJ0_init_db425 cJ0_init_db425 5 none :: ((wsJ0_init_db425_r1 ++ (wsJ0_init_db425_r2 ++ (wsJ0_init_db425_r3 ++ wsJ0_init_db425_r4))) ++ wsJ00 ++ wsJ40)
def wsJ0_init_81219_r1 : List Cond := [Cond.methodLink RJ0 489 yJ0_init_db425, Cond.instanceMethod yJ0_init_db425, Cond.initialized RJ0, Cond.code yJ0_init_db425 cJ0_init_db425 5 none, Cond.methodLink RJ0 1 objectInit, Cond.instanceMethod objectInit, Cond.code objectInit ⟨#[0xb1]⟩ 1 none, Cond.fieldLink RJ0 15 "java/lang/String" "coder" "B", Cond.fieldLink RJ0 9 "java/lang/String" "value" "[B", Cond.fieldLink RJ0 38 "java/lang/String" "COMPACT_STRINGS" "Z", Cond.fieldLink RJ0 1048 "java/lang/AbstractStringBuilder" "maybeLatin1" "Z", Cond.methodLink RJ0 552 ⟨"java/lang/AbstractStringBuilder", "getValue", "()[B"⟩, Cond.sameMethod "java/lang/AbstractStringBuilder" "java/lang/AbstractStringBuilder" "getValue" "()[B", Cond.selects RJ4 ⟨"java/lang/AbstractStringBuilder", "getValue", "()[B"⟩ yJ5_getValue_6d5f1, Cond.instanceMethod yJ5_getValue_6d5f1, Cond.initialized RJ5, Cond.code yJ5_getValue_6d5f1 cJ5_getValue_6d5f1 1 (some (.array .byte)), Cond.fieldLink RJ5 15 "java/lang/AbstractStringBuilder" "value" "[B", Cond.methodLink RJ0 549 ⟨"java/lang/AbstractStringBuilder", "length", "()I"⟩, Cond.sameMethod "java/lang/AbstractStringBuilder" "java/lang/AbstractStringBuilder" "length" "()I", Cond.instanceMethod ⟨"java/lang/AbstractStringBuilder", "length", "()I"⟩, Cond.selects RJ4 ⟨"java/lang/AbstractStringBuilder", "length", "()I"⟩ yJ4_length_8abf5, Cond.instanceMethod yJ4_length_8abf5, Cond.initialized RJ4]
def wsJ0_init_81219_r2 : List Cond := [Cond.code yJ4_length_8abf5 cJ4_length_8abf5 1 (some .int), Cond.methodLink RJ4 343 yJ5_length_8abf5, Cond.superclass RJ4 RJ5, Cond.instanceMethod yJ5_length_8abf5, Cond.code yJ5_length_8abf5 cJ5_length_8abf5 1 (some .int), Cond.fieldLink RJ5 79 "java/lang/AbstractStringBuilder" "count" "I", Cond.methodLink RJ0 1047 ⟨"java/lang/AbstractStringBuilder", "isLatin1", "()Z"⟩, Cond.sameMethod "java/lang/AbstractStringBuilder" "java/lang/AbstractStringBuilder" "isLatin1" "()Z", Cond.selects RJ4 ⟨"java/lang/AbstractStringBuilder", "isLatin1", "()Z"⟩ yJ5_isLatin1_aae02, Cond.instanceMethod yJ5_isLatin1_aae02, Cond.code yJ5_isLatin1_aae02 cJ5_isLatin1_aae02 1 (some .boolean), Cond.fieldLink RJ5 18 "java/lang/String" "COMPACT_STRINGS" "Z", Cond.fieldLink RJ5 22 "java/lang/AbstractStringBuilder" "coder" "B", Cond.methodLink RJ0 54 yJ7_copyOfRange_39247, Cond.static yJ7_copyOfRange_39247, Cond.initialized RJ7, Cond.code yJ7_copyOfRange_39247 cJ7_copyOfRange_39247 3 (some (.array .byte)), Cond.methodLink RJ7 310 ⟨"[B", "clone", "()Ljava/lang/Object;"⟩, Cond.sameMethod "[B" "java/lang/Object" "clone" "()Ljava/lang/Object;", Cond.native ⟨"java/lang/Object", "clone", "()Ljava/lang/Object;"⟩, Cond.instanceMethod ⟨"java/lang/Object", "clone", "()Ljava/lang/Object;"⟩, Cond.selects "[B" ⟨"[B", "clone", "()Ljava/lang/Object;"⟩ ⟨"java/lang/Object", "clone", "()Ljava/lang/Object;"⟩, Cond.classLink RJ7 311 "[B", Cond.methodLink RJ7 339 yJ7_copyOfRangeByte_39247]
def wsJ0_init_81219_r3 : List Cond := [Cond.static yJ7_copyOfRangeByte_39247, Cond.code yJ7_copyOfRangeByte_39247 cJ7_copyOfRangeByte_39247 5 (some (.array .byte)), Cond.arrayClass .byte, Cond.methodLink RJ7 304 Lib.Math.min.name, Cond.static Lib.Math.min.name, Cond.initialized "java/lang/Math", Cond.code Lib.Math.min.name Lib.Math.min.code 2 (some .int), Cond.methodLink RJ7 150 arraycopyName, Cond.native arraycopyName, Cond.static arraycopyName, Cond.initialized "java/lang/System", Cond.methodLink RJ7 343 yJ7_checkLength_df160, Cond.static yJ7_checkLength_df160, Cond.code yJ7_checkLength_df160 cJ7_checkLength_df160 2 none, Cond.classLink RJ7 45 RJ4, Cond.instantiable RJ4 4, Cond.methodLink RJ0 1051 yJ2_compress_39247, Cond.static yJ2_compress_39247, Cond.initialized RJ2, Cond.code yJ2_compress_39247 cJ2_compress_39247 6 (some (.array .byte)), Cond.methodLink RJ2 123 yJ2_compress_5af95, Cond.static yJ2_compress_5af95, Cond.code yJ2_compress_5af95 cJ2_compress_5af95 7 (some .int), Cond.methodLink RJ2 173 yJ2_checkBoundsOffCount_d044e]
def wsJ0_init_81219_r4 : List Cond := [Cond.static yJ2_checkBoundsOffCount_d044e, Cond.code yJ2_checkBoundsOffCount_d044e cJ2_checkBoundsOffCount_d044e 3 none, Cond.methodLink RJ2 48 yJ2_length_9d52b, Cond.static yJ2_length_9d52b, Cond.code yJ2_length_9d52b cJ2_length_9d52b 1 (some .int), Cond.methodLink RJ2 419 yJ0_checkBoundsOffCount_cabcc, Cond.static yJ0_checkBoundsOffCount_cabcc, Cond.code yJ0_checkBoundsOffCount_cabcc cJ0_checkBoundsOffCount_cabcc 3 (some .int), Cond.fieldLink RJ0 1053 "jdk/internal/util/Preconditions" "SIOOBE_FORMATTER" "Ljava/util/function/BiFunction;", Cond.methodLink RJ0 1065 yJ3_checkFromIndexSize_8c36e, Cond.static yJ3_checkFromIndexSize_8c36e, Cond.initialized RJ3, Cond.code yJ3_checkFromIndexSize_8c36e cJ3_checkFromIndexSize_8c36e 4 (some .int), Cond.methodLink RJ2 71 yJ2_getChar_3b067, Cond.static yJ2_getChar_3b067, Cond.code yJ2_getChar_3b067 cJ2_getChar_3b067 2 (some .char), Cond.fieldLink RJ2 44 "java/lang/StringUTF16" "$assertionsDisabled" "Z", Cond.fieldLink RJ2 59 "java/lang/StringUTF16" "HI_BYTE_SHIFT" "I", Cond.fieldLink RJ2 63 "java/lang/StringUTF16" "LO_BYTE_SHIFT" "I", Cond.methodLink RJ2 11 yJ2_newBytesLength_0f7a4, Cond.static yJ2_newBytesLength_0f7a4, Cond.code yJ2_newBytesLength_0f7a4 cJ2_newBytesLength_0f7a4 1 (some .int), Cond.constant RJ2 20 (1073741823), Cond.methodLink RJ2 126 yJ7_copyOfRange_39247]
def wsJ0_init_81219_r5 : List Cond := [Cond.methodLink RJ0 47 yJ2_coderFromArrayLen_85cad, Cond.static yJ2_coderFromArrayLen_85cad, Cond.code yJ2_coderFromArrayLen_85cad cJ2_coderFromArrayLen_85cad 2 (some .byte)]
def wsJ0_init_81219 : List Cond := .code yJ0_init_81219 cJ0_init_81219 2 none :: ((wsJ0_init_81219_r1 ++ (wsJ0_init_81219_r2 ++ (wsJ0_init_81219_r3 ++ (wsJ0_init_81219_r4 ++ wsJ0_init_81219_r5)))) ++ wsJ00 ++ wsJ40)
def wsJ4_init_da8c8 : List Cond := .code yJ4_init_da8c8 cJ4_init_da8c8 1 none :: ([.methodLink RJ4 1 yJ5_init_d00df, .instanceMethod yJ5_init_d00df, .initialized RJ5, .code yJ5_init_d00df cJ5_init_d00df 2 none, .methodLink RJ5 3 objectInit, .instanceMethod objectInit, .code objectInit ⟨#[0xb1]⟩ 1 none, .fieldLink RJ5 18 "java/lang/String" "COMPACT_STRINGS" "Z", .arrayClass .byte, .fieldLink RJ5 15 "java/lang/AbstractStringBuilder" "value" "[B", .fieldLink RJ5 22 "java/lang/AbstractStringBuilder" "coder" "B", .methodLink RJ5 26 yJ2_newBytesFor_77867, .static yJ2_newBytesFor_77867, .initialized RJ2, .code yJ2_newBytesFor_77867 cJ2_newBytesFor_77867 1 (some (.array .byte)), .methodLink RJ2 11 yJ2_newBytesLength_0f7a4, .static yJ2_newBytesLength_0f7a4, .code yJ2_newBytesLength_0f7a4 cJ2_newBytesLength_0f7a4 1 (some .int), .constant RJ2 20 (1073741823)] ++ wsJ40)
def wsJ4_append_15ec4_r1 : List Cond := [Cond.methodLink RJ4 29 yJ5_append_cf1ce, Cond.sameMethod "java/lang/AbstractStringBuilder" "java/lang/AbstractStringBuilder" "append" "(Ljava/lang/String;)Ljava/lang/AbstractStringBuilder;", Cond.superclass RJ4 RJ5, Cond.instanceMethod yJ5_append_cf1ce, Cond.initialized RJ5, Cond.code yJ5_append_cf1ce cJ5_append_cf1ce 3 (some (.object "java/lang/AbstractStringBuilder")), Cond.fieldLink RJ5 79 "java/lang/AbstractStringBuilder" "count" "I", Cond.methodLink RJ5 204 ⟨"java/lang/AbstractStringBuilder", "appendNull", "()Ljava/lang/AbstractStringBuilder;"⟩, Cond.sameMethod "java/lang/AbstractStringBuilder" "java/lang/AbstractStringBuilder" "appendNull" "()Ljava/lang/AbstractStringBuilder;", Cond.selects RJ4 ⟨"java/lang/AbstractStringBuilder", "appendNull", "()Ljava/lang/AbstractStringBuilder;"⟩ yJ5_appendNull_278bc, Cond.instanceMethod yJ5_appendNull_278bc, Cond.code yJ5_appendNull_278bc cJ5_appendNull_278bc 3 (some (.object "java/lang/AbstractStringBuilder")), Cond.fieldLink RJ5 15 "java/lang/AbstractStringBuilder" "value" "[B", Cond.methodLink RJ5 100 ⟨"java/lang/AbstractStringBuilder", "ensureCapacityInternal", "(I)V"⟩, Cond.sameMethod "java/lang/AbstractStringBuilder" "java/lang/AbstractStringBuilder" "ensureCapacityInternal" "(I)V", Cond.selects RJ4 ⟨"java/lang/AbstractStringBuilder", "ensureCapacityInternal", "(I)V"⟩ yJ5_ensureCapacityInternal_d00df, Cond.instanceMethod yJ5_ensureCapacityInternal_d00df, Cond.code yJ5_ensureCapacityInternal_d00df cJ5_ensureCapacityInternal_d00df 3 none, Cond.fieldLink RJ5 22 "java/lang/AbstractStringBuilder" "coder" "B", Cond.methodLink RJ5 104 ⟨"java/lang/AbstractStringBuilder", "newCapacity", "(I)I"⟩, Cond.sameMethod "java/lang/AbstractStringBuilder" "java/lang/AbstractStringBuilder" "newCapacity" "(I)I", Cond.selects RJ4 ⟨"java/lang/AbstractStringBuilder", "newCapacity", "(I)I"⟩ yJ5_newCapacity_0f7a4, Cond.instanceMethod yJ5_newCapacity_0f7a4, Cond.code yJ5_newCapacity_0f7a4 cJ5_newCapacity_0f7a4 6 (some .int)]
def wsJ4_append_15ec4_r2 : List Cond := [Cond.constant RJ5 39 (2147483647), Cond.methodLink RJ5 114 yJ8_newLength_cabcc, Cond.static yJ8_newLength_cabcc, Cond.initialized RJ8, Cond.code yJ8_newLength_cabcc cJ8_newLength_cabcc 4 (some .int), Cond.methodLink RJ8 194 Lib.Math.max.name, Cond.static Lib.Math.max.name, Cond.initialized "java/lang/Math", Cond.code Lib.Math.max.name Lib.Math.max.code 2 (some .int), Cond.constant RJ8 200 (2147483639), Cond.methodLink RJ8 201 yJ8_hugeLength_7cf53, Cond.static yJ8_hugeLength_7cf53, Cond.code yJ8_hugeLength_7cf53 cJ8_hugeLength_7cf53 3 (some .int), Cond.methodLink RJ5 108 yJ7_copyOf_9075b, Cond.static yJ7_copyOf_9075b, Cond.initialized RJ7, Cond.code yJ7_copyOf_9075b cJ7_copyOf_9075b 3 (some (.array .byte)), Cond.methodLink RJ7 310 ⟨"[B", "clone", "()Ljava/lang/Object;"⟩, Cond.sameMethod "[B" "java/lang/Object" "clone" "()Ljava/lang/Object;", Cond.native ⟨"java/lang/Object", "clone", "()Ljava/lang/Object;"⟩, Cond.instanceMethod ⟨"java/lang/Object", "clone", "()Ljava/lang/Object;"⟩, Cond.selects "[B" ⟨"[B", "clone", "()Ljava/lang/Object;"⟩ ⟨"java/lang/Object", "clone", "()Ljava/lang/Object;"⟩, Cond.classLink RJ7 311 "[B", Cond.arrayClass .byte]
def wsJ4_append_15ec4_r3 : List Cond := [Cond.methodLink RJ7 304 Lib.Math.min.name, Cond.static Lib.Math.min.name, Cond.code Lib.Math.min.name Lib.Math.min.code 2 (some .int), Cond.methodLink RJ7 150 arraycopyName, Cond.native arraycopyName, Cond.static arraycopyName, Cond.initialized "java/lang/System", Cond.methodLink RJ5 83 ⟨"java/lang/AbstractStringBuilder", "isLatin1", "()Z"⟩, Cond.sameMethod "java/lang/AbstractStringBuilder" "java/lang/AbstractStringBuilder" "isLatin1" "()Z", Cond.selects RJ4 ⟨"java/lang/AbstractStringBuilder", "isLatin1", "()Z"⟩ yJ5_isLatin1_aae02, Cond.instanceMethod yJ5_isLatin1_aae02, Cond.code yJ5_isLatin1_aae02 cJ5_isLatin1_aae02 1 (some .boolean), Cond.fieldLink RJ5 18 "java/lang/String" "COMPACT_STRINGS" "Z", Cond.methodLink RJ5 226 yJ2_putCharsAt_cd4e5, Cond.static yJ2_putCharsAt_cd4e5, Cond.initialized RJ2, Cond.code yJ2_putCharsAt_cd4e5 cJ2_putCharsAt_cd4e5 7 (some .int), Cond.fieldLink RJ2 44 "java/lang/StringUTF16" "$assertionsDisabled" "Z", Cond.methodLink RJ2 96 yJ2_checkBoundsBeginEnd_d044e, Cond.static yJ2_checkBoundsBeginEnd_d044e, Cond.code yJ2_checkBoundsBeginEnd_d044e cJ2_checkBoundsBeginEnd_d044e 3 none, Cond.methodLink RJ2 48 yJ2_length_9d52b, Cond.static yJ2_length_9d52b, Cond.code yJ2_length_9d52b cJ2_length_9d52b 1 (some .int)]
def wsJ4_append_15ec4_r4 : List Cond := [Cond.methodLink RJ2 241 yJ0_checkBoundsBeginEnd_23922, Cond.static yJ0_checkBoundsBeginEnd_23922, Cond.initialized RJ0, Cond.code yJ0_checkBoundsBeginEnd_23922 cJ0_checkBoundsBeginEnd_23922 3 none, Cond.fieldLink RJ0 1053 "jdk/internal/util/Preconditions" "SIOOBE_FORMATTER" "Ljava/util/function/BiFunction;", Cond.methodLink RJ0 1062 yJ3_checkFromToIndex_8c36e, Cond.static yJ3_checkFromToIndex_8c36e, Cond.initialized RJ3, Cond.code yJ3_checkFromToIndex_8c36e cJ3_checkFromToIndex_8c36e 4 (some .int), Cond.methodLink RJ2 111 yJ2_putChar_b72d1, Cond.static yJ2_putChar_b72d1, Cond.code yJ2_putChar_b72d1 cJ2_putChar_b72d1 3 none, Cond.fieldLink RJ2 59 "java/lang/StringUTF16" "HI_BYTE_SHIFT" "I", Cond.fieldLink RJ2 63 "java/lang/StringUTF16" "LO_BYTE_SHIFT" "I", Cond.methodLink RJ5 32 yJ0_length_8abf5, Cond.instanceMethod yJ0_length_8abf5, Cond.selects RJ0 yJ0_length_8abf5 yJ0_length_8abf5, Cond.code yJ0_length_8abf5 cJ0_length_8abf5 1 (some .int), Cond.fieldLink RJ0 9 "java/lang/String" "value" "[B", Cond.methodLink RJ0 335 yJ0_coder_7d493, Cond.instanceMethod yJ0_coder_7d493, Cond.selects RJ0 yJ0_coder_7d493 yJ0_coder_7d493, Cond.code yJ0_coder_7d493 cJ0_coder_7d493 1 (some .byte), Cond.fieldLink RJ0 38 "java/lang/String" "COMPACT_STRINGS" "Z"]
def wsJ4_append_15ec4_r5 : List Cond := [Cond.fieldLink RJ0 15 "java/lang/String" "coder" "B", Cond.methodLink RJ5 208 ⟨"java/lang/AbstractStringBuilder", "putStringAt", "(ILjava/lang/String;)V"⟩, Cond.sameMethod "java/lang/AbstractStringBuilder" "java/lang/AbstractStringBuilder" "putStringAt" "(ILjava/lang/String;)V", Cond.selects RJ4 ⟨"java/lang/AbstractStringBuilder", "putStringAt", "(ILjava/lang/String;)V"⟩ yJ5_putStringAt_47b60, Cond.instanceMethod yJ5_putStringAt_47b60, Cond.code yJ5_putStringAt_47b60 cJ5_putStringAt_47b60 3 none, Cond.methodLink RJ5 397 ⟨"java/lang/AbstractStringBuilder", "inflateIfNeededFor", "(Ljava/lang/String;)V"⟩, Cond.sameMethod "java/lang/AbstractStringBuilder" "java/lang/AbstractStringBuilder" "inflateIfNeededFor" "(Ljava/lang/String;)V", Cond.selects RJ4 ⟨"java/lang/AbstractStringBuilder", "inflateIfNeededFor", "(Ljava/lang/String;)V"⟩ yJ5_inflateIfNeededFor_a7421, Cond.instanceMethod yJ5_inflateIfNeededFor_a7421, Cond.code yJ5_inflateIfNeededFor_a7421 cJ5_inflateIfNeededFor_a7421 2 none, Cond.methodLink RJ5 40 yJ0_coder_7d493, Cond.methodLink RJ5 195 ⟨"java/lang/AbstractStringBuilder", "inflate", "()V"⟩, Cond.sameMethod "java/lang/AbstractStringBuilder" "java/lang/AbstractStringBuilder" "inflate" "()V", Cond.selects RJ4 ⟨"java/lang/AbstractStringBuilder", "inflate", "()V"⟩ yJ5_inflate_da8c8, Cond.instanceMethod yJ5_inflate_da8c8, Cond.code yJ5_inflate_da8c8 cJ5_inflate_da8c8 2 none, Cond.methodLink RJ5 26 yJ2_newBytesFor_77867, Cond.static yJ2_newBytesFor_77867, Cond.code yJ2_newBytesFor_77867 cJ2_newBytesFor_77867 1 (some (.array .byte)), Cond.methodLink RJ2 11 yJ2_newBytesLength_0f7a4, Cond.static yJ2_newBytesLength_0f7a4, Cond.code yJ2_newBytesLength_0f7a4 cJ2_newBytesLength_0f7a4 1 (some .int), Cond.constant RJ2 20 (1073741823)]
def wsJ4_append_15ec4_r6 : List Cond := [Cond.methodLink RJ5 125 yJ1_inflate_0e8fd, Cond.static yJ1_inflate_0e8fd, Cond.initialized RJ1, Cond.code yJ1_inflate_0e8fd cJ1_inflate_0e8fd 5 none, Cond.methodLink RJ1 240 yJ2_inflate_0e8fd, Cond.static yJ2_inflate_0e8fd, Cond.code yJ2_inflate_0e8fd cJ2_inflate_0e8fd 6 none, Cond.methodLink RJ2 173 yJ2_checkBoundsOffCount_d044e, Cond.static yJ2_checkBoundsOffCount_d044e, Cond.code yJ2_checkBoundsOffCount_d044e cJ2_checkBoundsOffCount_d044e 3 none, Cond.methodLink RJ2 419 yJ0_checkBoundsOffCount_cabcc, Cond.static yJ0_checkBoundsOffCount_cabcc, Cond.code yJ0_checkBoundsOffCount_cabcc cJ0_checkBoundsOffCount_cabcc 3 (some .int), Cond.methodLink RJ0 1065 yJ3_checkFromIndexSize_8c36e, Cond.static yJ3_checkFromIndexSize_8c36e, Cond.code yJ3_checkFromIndexSize_8c36e cJ3_checkFromIndexSize_8c36e 4 (some .int), Cond.methodLink RJ5 399 yJ0_getBytes_840e7, Cond.instanceMethod yJ0_getBytes_840e7, Cond.selects RJ0 yJ0_getBytes_840e7 yJ0_getBytes_840e7, Cond.code yJ0_getBytes_840e7 cJ0_getBytes_840e7 4 none, Cond.methodLink RJ0 212 arraycopyName, Cond.methodLink RJ0 106 yJ1_inflate_0e8fd]
def wsJ4_append_15ec4 : List Cond := .code yJ4_append_15ec4 cJ4_append_15ec4 2 (some (.object "java/lang/StringBuilder")) :: ((wsJ4_append_15ec4_r1 ++ (wsJ4_append_15ec4_r2 ++ (wsJ4_append_15ec4_r3 ++ (wsJ4_append_15ec4_r4 ++ (wsJ4_append_15ec4_r5 ++ wsJ4_append_15ec4_r6))))) ++ wsJ40 ++ wsJ00)
def wsJ4_append_bf812_r1 : List Cond := [Cond.methodLink RJ4 53 yJ5_append_c97b9, Cond.sameMethod "java/lang/AbstractStringBuilder" "java/lang/AbstractStringBuilder" "append" "(I)Ljava/lang/AbstractStringBuilder;", Cond.superclass RJ4 RJ5, Cond.instanceMethod yJ5_append_c97b9, Cond.initialized RJ5, Cond.code yJ5_append_c97b9 cJ5_append_c97b9 4 (some (.object "java/lang/AbstractStringBuilder")), Cond.fieldLink RJ5 79 "java/lang/AbstractStringBuilder" "count" "I", Cond.fieldLink RJ5 15 "java/lang/AbstractStringBuilder" "value" "[B", Cond.methodLink RJ5 245 yJ6_stringSize_0f7a4, Cond.static yJ6_stringSize_0f7a4, Cond.initialized RJ6, Cond.code yJ6_stringSize_0f7a4 cJ6_stringSize_0f7a4 4 (some .int), Cond.methodLink RJ5 100 ⟨"java/lang/AbstractStringBuilder", "ensureCapacityInternal", "(I)V"⟩, Cond.sameMethod "java/lang/AbstractStringBuilder" "java/lang/AbstractStringBuilder" "ensureCapacityInternal" "(I)V", Cond.selects RJ4 ⟨"java/lang/AbstractStringBuilder", "ensureCapacityInternal", "(I)V"⟩ yJ5_ensureCapacityInternal_d00df, Cond.instanceMethod yJ5_ensureCapacityInternal_d00df, Cond.code yJ5_ensureCapacityInternal_d00df cJ5_ensureCapacityInternal_d00df 3 none, Cond.fieldLink RJ5 22 "java/lang/AbstractStringBuilder" "coder" "B", Cond.methodLink RJ5 104 ⟨"java/lang/AbstractStringBuilder", "newCapacity", "(I)I"⟩, Cond.sameMethod "java/lang/AbstractStringBuilder" "java/lang/AbstractStringBuilder" "newCapacity" "(I)I", Cond.selects RJ4 ⟨"java/lang/AbstractStringBuilder", "newCapacity", "(I)I"⟩ yJ5_newCapacity_0f7a4, Cond.instanceMethod yJ5_newCapacity_0f7a4, Cond.code yJ5_newCapacity_0f7a4 cJ5_newCapacity_0f7a4 6 (some .int), Cond.constant RJ5 39 (2147483647)]
def wsJ4_append_bf812_r2 : List Cond := [Cond.methodLink RJ5 114 yJ8_newLength_cabcc, Cond.static yJ8_newLength_cabcc, Cond.initialized RJ8, Cond.code yJ8_newLength_cabcc cJ8_newLength_cabcc 4 (some .int), Cond.methodLink RJ8 194 Lib.Math.max.name, Cond.static Lib.Math.max.name, Cond.initialized "java/lang/Math", Cond.code Lib.Math.max.name Lib.Math.max.code 2 (some .int), Cond.constant RJ8 200 (2147483639), Cond.methodLink RJ8 201 yJ8_hugeLength_7cf53, Cond.static yJ8_hugeLength_7cf53, Cond.code yJ8_hugeLength_7cf53 cJ8_hugeLength_7cf53 3 (some .int), Cond.methodLink RJ5 108 yJ7_copyOf_9075b, Cond.static yJ7_copyOf_9075b, Cond.initialized RJ7, Cond.code yJ7_copyOf_9075b cJ7_copyOf_9075b 3 (some (.array .byte)), Cond.methodLink RJ7 310 ⟨"[B", "clone", "()Ljava/lang/Object;"⟩, Cond.sameMethod "[B" "java/lang/Object" "clone" "()Ljava/lang/Object;", Cond.native ⟨"java/lang/Object", "clone", "()Ljava/lang/Object;"⟩, Cond.instanceMethod ⟨"java/lang/Object", "clone", "()Ljava/lang/Object;"⟩, Cond.selects "[B" ⟨"[B", "clone", "()Ljava/lang/Object;"⟩ ⟨"java/lang/Object", "clone", "()Ljava/lang/Object;"⟩, Cond.classLink RJ7 311 "[B", Cond.arrayClass .byte, Cond.methodLink RJ7 304 Lib.Math.min.name]
def wsJ4_append_bf812_r3 : List Cond := [Cond.static Lib.Math.min.name, Cond.code Lib.Math.min.name Lib.Math.min.code 2 (some .int), Cond.methodLink RJ7 150 arraycopyName, Cond.native arraycopyName, Cond.static arraycopyName, Cond.initialized "java/lang/System", Cond.methodLink RJ5 83 ⟨"java/lang/AbstractStringBuilder", "isLatin1", "()Z"⟩, Cond.sameMethod "java/lang/AbstractStringBuilder" "java/lang/AbstractStringBuilder" "isLatin1" "()Z", Cond.selects RJ4 ⟨"java/lang/AbstractStringBuilder", "isLatin1", "()Z"⟩ yJ5_isLatin1_aae02, Cond.instanceMethod yJ5_isLatin1_aae02, Cond.code yJ5_isLatin1_aae02 cJ5_isLatin1_aae02 1 (some .boolean), Cond.fieldLink RJ5 18 "java/lang/String" "COMPACT_STRINGS" "Z", Cond.methodLink RJ5 248 yJ6_getChars_ba4f3, Cond.static yJ6_getChars_ba4f3, Cond.code yJ6_getChars_ba4f3 cJ6_getChars_ba4f3 7 (some .int), Cond.fieldLink RJ6 83 "java/lang/Integer" "DigitOnes" "[B", Cond.fieldLink RJ6 87 "java/lang/Integer" "DigitTens" "[B", Cond.methodLink RJ5 251 yJ2_getChars_46870, Cond.static yJ2_getChars_46870, Cond.initialized RJ2, Cond.code yJ2_getChars_46870 cJ2_getChars_46870 5 (some .int), Cond.fieldLink RJ2 44 "java/lang/StringUTF16" "$assertionsDisabled" "Z", Cond.methodLink RJ2 96 yJ2_checkBoundsBeginEnd_d044e, Cond.static yJ2_checkBoundsBeginEnd_d044e]
def wsJ4_append_bf812_r4 : List Cond := [Cond.code yJ2_checkBoundsBeginEnd_d044e cJ2_checkBoundsBeginEnd_d044e 3 none, Cond.methodLink RJ2 48 yJ2_length_9d52b, Cond.static yJ2_length_9d52b, Cond.code yJ2_length_9d52b cJ2_length_9d52b 1 (some .int), Cond.methodLink RJ2 241 yJ0_checkBoundsBeginEnd_23922, Cond.static yJ0_checkBoundsBeginEnd_23922, Cond.initialized RJ0, Cond.code yJ0_checkBoundsBeginEnd_23922 cJ0_checkBoundsBeginEnd_23922 3 none, Cond.fieldLink RJ0 1053 "jdk/internal/util/Preconditions" "SIOOBE_FORMATTER" "Ljava/util/function/BiFunction;", Cond.methodLink RJ0 1062 yJ3_checkFromToIndex_8c36e, Cond.static yJ3_checkFromToIndex_8c36e, Cond.initialized RJ3, Cond.code yJ3_checkFromToIndex_8c36e cJ3_checkFromToIndex_8c36e 4 (some .int), Cond.methodLink RJ2 393 yJ2_getChars_ba4f3, Cond.static yJ2_getChars_ba4f3, Cond.code yJ2_getChars_ba4f3 cJ2_getChars_ba4f3 7 (some .int), Cond.fieldLink RJ2 403 "java/lang/Integer" "DigitOnes" "[B", Cond.fieldLink RJ2 407 "java/lang/Integer" "DigitTens" "[B", Cond.methodLink RJ2 111 yJ2_putChar_b72d1, Cond.static yJ2_putChar_b72d1, Cond.code yJ2_putChar_b72d1 cJ2_putChar_b72d1 3 none, Cond.fieldLink RJ2 59 "java/lang/StringUTF16" "HI_BYTE_SHIFT" "I", Cond.fieldLink RJ2 63 "java/lang/StringUTF16" "LO_BYTE_SHIFT" "I"]
def wsJ4_append_bf812 : List Cond := .code yJ4_append_bf812 cJ4_append_bf812 2 (some (.object "java/lang/StringBuilder")) :: ((wsJ4_append_bf812_r1 ++ (wsJ4_append_bf812_r2 ++ (wsJ4_append_bf812_r3 ++ wsJ4_append_bf812_r4))) ++ wsJ40)
def wsJ4_toString_0e30d_r1 : List Cond := [Cond.classLink RJ4 18 RJ0, Cond.instantiable RJ0 4, Cond.initialized RJ0, Cond.methodLink RJ4 137 yJ0_init_81219, Cond.instanceMethod yJ0_init_81219, Cond.code yJ0_init_81219 cJ0_init_81219 2 none, Cond.methodLink RJ0 489 yJ0_init_db425, Cond.instanceMethod yJ0_init_db425, Cond.code yJ0_init_db425 cJ0_init_db425 5 none, Cond.methodLink RJ0 1 objectInit, Cond.instanceMethod objectInit, Cond.code objectInit ⟨#[0xb1]⟩ 1 none, Cond.fieldLink RJ0 15 "java/lang/String" "coder" "B", Cond.fieldLink RJ0 9 "java/lang/String" "value" "[B", Cond.fieldLink RJ0 38 "java/lang/String" "COMPACT_STRINGS" "Z", Cond.fieldLink RJ0 1048 "java/lang/AbstractStringBuilder" "maybeLatin1" "Z", Cond.methodLink RJ0 552 ⟨"java/lang/AbstractStringBuilder", "getValue", "()[B"⟩, Cond.sameMethod "java/lang/AbstractStringBuilder" "java/lang/AbstractStringBuilder" "getValue" "()[B", Cond.selects RJ4 ⟨"java/lang/AbstractStringBuilder", "getValue", "()[B"⟩ yJ5_getValue_6d5f1, Cond.instanceMethod yJ5_getValue_6d5f1, Cond.initialized RJ5, Cond.code yJ5_getValue_6d5f1 cJ5_getValue_6d5f1 1 (some (.array .byte)), Cond.fieldLink RJ5 15 "java/lang/AbstractStringBuilder" "value" "[B", Cond.methodLink RJ0 549 ⟨"java/lang/AbstractStringBuilder", "length", "()I"⟩]
def wsJ4_toString_0e30d_r2 : List Cond := [Cond.sameMethod "java/lang/AbstractStringBuilder" "java/lang/AbstractStringBuilder" "length" "()I", Cond.instanceMethod ⟨"java/lang/AbstractStringBuilder", "length", "()I"⟩, Cond.selects RJ4 ⟨"java/lang/AbstractStringBuilder", "length", "()I"⟩ yJ4_length_8abf5, Cond.instanceMethod yJ4_length_8abf5, Cond.initialized RJ4, Cond.code yJ4_length_8abf5 cJ4_length_8abf5 1 (some .int), Cond.methodLink RJ4 343 yJ5_length_8abf5, Cond.superclass RJ4 RJ5, Cond.instanceMethod yJ5_length_8abf5, Cond.code yJ5_length_8abf5 cJ5_length_8abf5 1 (some .int), Cond.fieldLink RJ5 79 "java/lang/AbstractStringBuilder" "count" "I", Cond.methodLink RJ0 1047 ⟨"java/lang/AbstractStringBuilder", "isLatin1", "()Z"⟩, Cond.sameMethod "java/lang/AbstractStringBuilder" "java/lang/AbstractStringBuilder" "isLatin1" "()Z", Cond.selects RJ4 ⟨"java/lang/AbstractStringBuilder", "isLatin1", "()Z"⟩ yJ5_isLatin1_aae02, Cond.instanceMethod yJ5_isLatin1_aae02, Cond.code yJ5_isLatin1_aae02 cJ5_isLatin1_aae02 1 (some .boolean), Cond.fieldLink RJ5 18 "java/lang/String" "COMPACT_STRINGS" "Z", Cond.fieldLink RJ5 22 "java/lang/AbstractStringBuilder" "coder" "B", Cond.methodLink RJ0 54 yJ7_copyOfRange_39247, Cond.static yJ7_copyOfRange_39247, Cond.initialized RJ7, Cond.code yJ7_copyOfRange_39247 cJ7_copyOfRange_39247 3 (some (.array .byte)), Cond.methodLink RJ7 310 ⟨"[B", "clone", "()Ljava/lang/Object;"⟩, Cond.sameMethod "[B" "java/lang/Object" "clone" "()Ljava/lang/Object;"]
def wsJ4_toString_0e30d_r3 : List Cond := [Cond.native ⟨"java/lang/Object", "clone", "()Ljava/lang/Object;"⟩, Cond.instanceMethod ⟨"java/lang/Object", "clone", "()Ljava/lang/Object;"⟩, Cond.selects "[B" ⟨"[B", "clone", "()Ljava/lang/Object;"⟩ ⟨"java/lang/Object", "clone", "()Ljava/lang/Object;"⟩, Cond.classLink RJ7 311 "[B", Cond.methodLink RJ7 339 yJ7_copyOfRangeByte_39247, Cond.static yJ7_copyOfRangeByte_39247, Cond.code yJ7_copyOfRangeByte_39247 cJ7_copyOfRangeByte_39247 5 (some (.array .byte)), Cond.arrayClass .byte, Cond.methodLink RJ7 304 Lib.Math.min.name, Cond.static Lib.Math.min.name, Cond.initialized "java/lang/Math", Cond.code Lib.Math.min.name Lib.Math.min.code 2 (some .int), Cond.methodLink RJ7 150 arraycopyName, Cond.native arraycopyName, Cond.static arraycopyName, Cond.initialized "java/lang/System", Cond.methodLink RJ7 343 yJ7_checkLength_df160, Cond.static yJ7_checkLength_df160, Cond.code yJ7_checkLength_df160 cJ7_checkLength_df160 2 none, Cond.classLink RJ7 45 RJ4, Cond.instantiable RJ4 4, Cond.methodLink RJ0 1051 yJ2_compress_39247, Cond.static yJ2_compress_39247, Cond.initialized RJ2]
def wsJ4_toString_0e30d_r4 : List Cond := [Cond.code yJ2_compress_39247 cJ2_compress_39247 6 (some (.array .byte)), Cond.methodLink RJ2 123 yJ2_compress_5af95, Cond.static yJ2_compress_5af95, Cond.code yJ2_compress_5af95 cJ2_compress_5af95 7 (some .int), Cond.methodLink RJ2 173 yJ2_checkBoundsOffCount_d044e, Cond.static yJ2_checkBoundsOffCount_d044e, Cond.code yJ2_checkBoundsOffCount_d044e cJ2_checkBoundsOffCount_d044e 3 none, Cond.methodLink RJ2 48 yJ2_length_9d52b, Cond.static yJ2_length_9d52b, Cond.code yJ2_length_9d52b cJ2_length_9d52b 1 (some .int), Cond.methodLink RJ2 419 yJ0_checkBoundsOffCount_cabcc, Cond.static yJ0_checkBoundsOffCount_cabcc, Cond.code yJ0_checkBoundsOffCount_cabcc cJ0_checkBoundsOffCount_cabcc 3 (some .int), Cond.fieldLink RJ0 1053 "jdk/internal/util/Preconditions" "SIOOBE_FORMATTER" "Ljava/util/function/BiFunction;", Cond.methodLink RJ0 1065 yJ3_checkFromIndexSize_8c36e, Cond.static yJ3_checkFromIndexSize_8c36e, Cond.initialized RJ3, Cond.code yJ3_checkFromIndexSize_8c36e cJ3_checkFromIndexSize_8c36e 4 (some .int), Cond.methodLink RJ2 71 yJ2_getChar_3b067, Cond.static yJ2_getChar_3b067, Cond.code yJ2_getChar_3b067 cJ2_getChar_3b067 2 (some .char), Cond.fieldLink RJ2 44 "java/lang/StringUTF16" "$assertionsDisabled" "Z", Cond.fieldLink RJ2 59 "java/lang/StringUTF16" "HI_BYTE_SHIFT" "I", Cond.fieldLink RJ2 63 "java/lang/StringUTF16" "LO_BYTE_SHIFT" "I"]
def wsJ4_toString_0e30d_r5 : List Cond := [Cond.methodLink RJ2 11 yJ2_newBytesLength_0f7a4, Cond.static yJ2_newBytesLength_0f7a4, Cond.code yJ2_newBytesLength_0f7a4 cJ2_newBytesLength_0f7a4 1 (some .int), Cond.constant RJ2 20 (1073741823), Cond.methodLink RJ2 126 yJ7_copyOfRange_39247, Cond.methodLink RJ0 47 yJ2_coderFromArrayLen_85cad, Cond.static yJ2_coderFromArrayLen_85cad, Cond.code yJ2_coderFromArrayLen_85cad cJ2_coderFromArrayLen_85cad 2 (some .byte)]
def wsJ4_toString_0e30d : List Cond := .code yJ4_toString_0e30d cJ4_toString_0e30d 1 (some (.object "java/lang/String")) :: ((wsJ4_toString_0e30d_r1 ++ (wsJ4_toString_0e30d_r2 ++ (wsJ4_toString_0e30d_r3 ++ (wsJ4_toString_0e30d_r4 ++ wsJ4_toString_0e30d_r5)))) ++ wsJ00 ++ wsJ40)
abbrev vwCl : List vw_C := [(RJ0, TJ0, 4), (RJ4, TJ4, 4), (RX0, TX0, 6), (RX1, TX1, 5), (RX2, TX2, 4), (RX3, TX3, 3), (RX4, TX4, 16), (RX5, TX5, 15)]
end
section
theorem dX0_init_0 : decode cX0_init 0 = .ok (.aload_n 0, 1) := by decide +kernel
theorem dX0_init_1 : decode cX0_init 1 = .ok (.invokespecial 3, 3) := by decide +kernel
theorem dX0_init_4 : decode cX0_init 4 = .ok (.aload_n 0, 1) := by decide +kernel
theorem dX0_init_5 : decode cX0_init 5 = .ok (.iload_n 1, 1) := by decide +kernel
theorem dX0_init_6 : decode cX0_init 6 = .ok (.putfield 9, 3) := by decide +kernel
theorem dX0_init_9 : decode cX0_init 9 = .ok (.aload_n 0, 1) := by decide +kernel
theorem dX0_init_10 : decode cX0_init 10 = .ok (.iload_n 2, 1) := by decide +kernel
theorem dX0_init_11 : decode cX0_init 11 = .ok (.putfield 15, 3) := by decide +kernel
theorem dX0_init_14 : decode cX0_init 14 = .ok (.aload_n 0, 1) := by decide +kernel
theorem dX0_init_15 : decode cX0_init 15 = .ok (.iload_n 3, 1) := by decide +kernel
theorem dX0_init_16 : decode cX0_init 16 = .ok (.newarray .int, 2) := by decide +kernel
theorem dX0_init_18 : decode cX0_init 18 = .ok (.putfield 18, 3) := by decide +kernel
theorem dX0_init_21 : decode cX0_init 21 = .ok (.aload_n 0, 1) := by decide +kernel
theorem dX0_init_22 : decode cX0_init 22 = .ok (.iload_n 1, 1) := by decide +kernel
theorem dX0_init_23 : decode cX0_init 23 = .ok (.iload_n 2, 1) := by decide +kernel
theorem dX0_init_24 : decode cX0_init 24 = .ok (.imul, 1) := by decide +kernel
theorem dX0_init_25 : decode cX0_init 25 = .ok (.newarray .int, 2) := by decide +kernel
theorem dX0_init_27 : decode cX0_init 27 = .ok (.putfield 22, 3) := by decide +kernel
theorem dX0_init_30 : decode cX0_init 30 = .ok (.return_, 1) := by decide +kernel
theorem dX0_cellsLeft_0 : decode cX0_cellsLeft 0 = .ok (.aload_n 0, 1) := by decide +kernel
theorem dX0_cellsLeft_1 : decode cX0_cellsLeft 1 = .ok (.getfield 18, 3) := by decide +kernel
theorem dX0_cellsLeft_4 : decode cX0_cellsLeft 4 = .ok (.arraylength, 1) := by decide +kernel
theorem dX0_cellsLeft_5 : decode cX0_cellsLeft 5 = .ok (.aload_n 0, 1) := by decide +kernel
theorem dX0_cellsLeft_6 : decode cX0_cellsLeft 6 = .ok (.getfield 25, 3) := by decide +kernel
theorem dX0_cellsLeft_9 : decode cX0_cellsLeft 9 = .ok (.isub, 1) := by decide +kernel
theorem dX0_cellsLeft_10 : decode cX0_cellsLeft 10 = .ok (.ireturn, 1) := by decide +kernel
theorem dX0_has_0 : decode cX0_has 0 = .ok (.iload_n 1, 1) := by decide +kernel
theorem dX0_has_1 : decode cX0_has 1 = .ok (.ifCond .lt 15, 3) := by decide +kernel
theorem dX0_has_4 : decode cX0_has 4 = .ok (.iload_n 1, 1) := by decide +kernel
theorem dX0_has_5 : decode cX0_has 5 = .ok (.aload_n 0, 1) := by decide +kernel
theorem dX0_has_6 : decode cX0_has 6 = .ok (.getfield 28, 3) := by decide +kernel
theorem dX0_has_9 : decode cX0_has 9 = .ok (.if_icmp .ge 7, 3) := by decide +kernel
theorem dX0_has_12 : decode cX0_has 12 = .ok (.iconst 1, 1) := by decide +kernel
theorem dX0_has_13 : decode cX0_has 13 = .ok (.goto 4, 3) := by decide +kernel
theorem dX0_has_16 : decode cX0_has 16 = .ok (.iconst 0, 1) := by decide +kernel
theorem dX0_has_17 : decode cX0_has 17 = .ok (.ireturn, 1) := by decide +kernel
theorem dX0_isFull_0 : decode cX0_isFull 0 = .ok (.aload_n 0, 1) := by decide +kernel
theorem dX0_isFull_1 : decode cX0_isFull 1 = .ok (.getfield 28, 3) := by decide +kernel
theorem dX0_isFull_4 : decode cX0_isFull 4 = .ok (.aload_n 0, 1) := by decide +kernel
theorem dX0_isFull_5 : decode cX0_isFull 5 = .ok (.getfield 15, 3) := by decide +kernel
theorem dX0_isFull_8 : decode cX0_isFull 8 = .ok (.if_icmp .lt 7, 3) := by decide +kernel
theorem dX0_isFull_11 : decode cX0_isFull 11 = .ok (.iconst 1, 1) := by decide +kernel
theorem dX0_isFull_12 : decode cX0_isFull 12 = .ok (.goto 4, 3) := by decide +kernel
theorem dX0_isFull_15 : decode cX0_isFull 15 = .ok (.iconst 0, 1) := by decide +kernel
theorem dX0_isFull_16 : decode cX0_isFull 16 = .ok (.ireturn, 1) := by decide +kernel
set_option maxRecDepth 20000 in
theorem ggX0_signOf_J6_signum_0f7a4 : GoodIn wsX0_signOf wsJ6_signum_0f7a4 := goodIn_r _ [7] (by decide +kernel) (by decide +kernel)
set_option maxRecDepth 20000 in
theorem gX0_signOf_J6_signum_0f7a4 : GoodIn wsX0_signOf (va_wsS RX0 31 yJ6_signum_0f7a4 wsJ6_signum_0f7a4) := goodIn_app (goodIn_of _ (by decide +kernel)) ggX0_signOf_J6_signum_0f7a4
theorem dX0_signOf_0 : decode cX0_signOf 0 = .ok (.aload_n 0, 1) := by decide +kernel
theorem dX0_signOf_1 : decode cX0_signOf 1 = .ok (.getfield 18, 3) := by decide +kernel
theorem dX0_signOf_4 : decode cX0_signOf 4 = .ok (.aload_n 0, 1) := by decide +kernel
theorem dX0_signOf_5 : decode cX0_signOf 5 = .ok (.getfield 22, 3) := by decide +kernel
theorem dX0_signOf_8 : decode cX0_signOf 8 = .ok (.iload_n 1, 1) := by decide +kernel
theorem dX0_signOf_9 : decode cX0_signOf 9 = .ok (.aload_n 0, 1) := by decide +kernel
theorem dX0_signOf_10 : decode cX0_signOf 10 = .ok (.getfield 9, 3) := by decide +kernel
theorem dX0_signOf_13 : decode cX0_signOf 13 = .ok (.imul, 1) := by decide +kernel
theorem dX0_signOf_14 : decode cX0_signOf 14 = .ok (.iload_n 2, 1) := by decide +kernel
theorem dX0_signOf_15 : decode cX0_signOf 15 = .ok (.iadd, 1) := by decide +kernel
theorem dX0_signOf_16 : decode cX0_signOf 16 = .ok (.iaload, 1) := by decide +kernel
theorem dX0_signOf_17 : decode cX0_signOf 17 = .ok (.iaload, 1) := by decide +kernel
theorem dX0_signOf_18 : decode cX0_signOf 18 = .ok (.invokestatic 31, 3) := by decide +kernel
theorem dX0_signOf_21 : decode cX0_signOf 21 = .ok (.ireturn, 1) := by decide +kernel
theorem dX0_sizeOf_0 : decode cX0_sizeOf 0 = .ok (.aload_n 0, 1) := by decide +kernel
theorem dX0_sizeOf_1 : decode cX0_sizeOf 1 = .ok (.getfield 18, 3) := by decide +kernel
theorem dX0_sizeOf_4 : decode cX0_sizeOf 4 = .ok (.aload_n 0, 1) := by decide +kernel
theorem dX0_sizeOf_5 : decode cX0_sizeOf 5 = .ok (.getfield 22, 3) := by decide +kernel
theorem dX0_sizeOf_8 : decode cX0_sizeOf 8 = .ok (.iload_n 1, 1) := by decide +kernel
theorem dX0_sizeOf_9 : decode cX0_sizeOf 9 = .ok (.aload_n 0, 1) := by decide +kernel
theorem dX0_sizeOf_10 : decode cX0_sizeOf 10 = .ok (.getfield 9, 3) := by decide +kernel
theorem dX0_sizeOf_13 : decode cX0_sizeOf 13 = .ok (.imul, 1) := by decide +kernel
theorem dX0_sizeOf_14 : decode cX0_sizeOf 14 = .ok (.iload_n 2, 1) := by decide +kernel
theorem dX0_sizeOf_15 : decode cX0_sizeOf 15 = .ok (.iadd, 1) := by decide +kernel
theorem dX0_sizeOf_16 : decode cX0_sizeOf 16 = .ok (.iaload, 1) := by decide +kernel
theorem dX0_sizeOf_17 : decode cX0_sizeOf 17 = .ok (.iaload, 1) := by decide +kernel
theorem dX0_sizeOf_18 : decode cX0_sizeOf 18 = .ok (.invokestatic 37, 3) := by decide +kernel
theorem dX0_sizeOf_21 : decode cX0_sizeOf 21 = .ok (.ireturn, 1) := by decide +kernel
set_option maxRecDepth 20000 in
theorem ggX0_digitOf_X0_sizeOf : GoodIn wsX0_digitOf wsX0_sizeOf := goodIn_r _ [8, 1, 2, 3, 9, 10, 11, 12, 13, 14, 15, 16, 17, 18] (by decide +kernel) (by decide +kernel)
set_option maxRecDepth 20000 in
theorem gX0_digitOf_X0_sizeOf : GoodIn wsX0_digitOf (wsV RX0 42 RX0 yX0_sizeOf wsX0_sizeOf) := goodIn_app (goodIn_of _ (by decide +kernel)) ggX0_digitOf_X0_sizeOf
theorem dX0_digitOf_0 : decode cX0_digitOf 0 = .ok (.iload_n 3, 1) := by decide +kernel
theorem dX0_digitOf_1 : decode cX0_digitOf 1 = .ok (.aload_n 0, 1) := by decide +kernel
theorem dX0_digitOf_2 : decode cX0_digitOf 2 = .ok (.iload_n 1, 1) := by decide +kernel
theorem dX0_digitOf_3 : decode cX0_digitOf 3 = .ok (.iload_n 2, 1) := by decide +kernel
theorem dX0_digitOf_4 : decode cX0_digitOf 4 = .ok (.invokevirtual 42, 3) := by decide +kernel
theorem dX0_digitOf_7 : decode cX0_digitOf 7 = .ok (.if_icmp .ge 28, 3) := by decide +kernel
theorem dX0_digitOf_10 : decode cX0_digitOf 10 = .ok (.aload_n 0, 1) := by decide +kernel
theorem dX0_digitOf_11 : decode cX0_digitOf 11 = .ok (.getfield 18, 3) := by decide +kernel
theorem dX0_digitOf_14 : decode cX0_digitOf 14 = .ok (.aload_n 0, 1) := by decide +kernel
theorem dX0_digitOf_15 : decode cX0_digitOf 15 = .ok (.getfield 22, 3) := by decide +kernel
theorem dX0_digitOf_18 : decode cX0_digitOf 18 = .ok (.iload_n 1, 1) := by decide +kernel
theorem dX0_digitOf_19 : decode cX0_digitOf 19 = .ok (.aload_n 0, 1) := by decide +kernel
theorem dX0_digitOf_20 : decode cX0_digitOf 20 = .ok (.getfield 9, 3) := by decide +kernel
theorem dX0_digitOf_23 : decode cX0_digitOf 23 = .ok (.imul, 1) := by decide +kernel
theorem dX0_digitOf_24 : decode cX0_digitOf 24 = .ok (.iload_n 2, 1) := by decide +kernel
theorem dX0_digitOf_25 : decode cX0_digitOf 25 = .ok (.iadd, 1) := by decide +kernel
theorem dX0_digitOf_26 : decode cX0_digitOf 26 = .ok (.iaload, 1) := by decide +kernel
theorem dX0_digitOf_27 : decode cX0_digitOf 27 = .ok (.iconst 1, 1) := by decide +kernel
theorem dX0_digitOf_28 : decode cX0_digitOf 28 = .ok (.iadd, 1) := by decide +kernel
theorem dX0_digitOf_29 : decode cX0_digitOf 29 = .ok (.iload_n 3, 1) := by decide +kernel
theorem dX0_digitOf_30 : decode cX0_digitOf 30 = .ok (.iadd, 1) := by decide +kernel
theorem dX0_digitOf_31 : decode cX0_digitOf 31 = .ok (.iaload, 1) := by decide +kernel
theorem dX0_digitOf_32 : decode cX0_digitOf 32 = .ok (.goto 4, 3) := by decide +kernel
theorem dX0_digitOf_35 : decode cX0_digitOf 35 = .ok (.iconst 0, 1) := by decide +kernel
theorem dX0_digitOf_36 : decode cX0_digitOf 36 = .ok (.ireturn, 1) := by decide +kernel
set_option maxRecDepth 20000 in
theorem ggX0_load_X0_sizeOf : GoodIn wsX0_load wsX0_sizeOf := goodIn_r _ [15, 1, 2, 3, 16, 17, 18, 19, 28, 29, 30, 31, 32, 33] (by decide +kernel) (by decide +kernel)
set_option maxRecDepth 20000 in
theorem gX0_load_X0_sizeOf : GoodIn wsX0_load (wsV RX0 42 RX0 yX0_sizeOf wsX0_sizeOf) := goodIn_app (goodIn_of _ (by decide +kernel)) ggX0_load_X0_sizeOf
set_option maxRecDepth 20000 in
theorem ggX0_load_X0_signOf : GoodIn wsX0_load wsX0_signOf := goodIn_r _ [23, 1, 2, 3, 24, 25, 26, 27, 28, 29, 30, 31, 32, 33] (by decide +kernel) (by decide +kernel)
set_option maxRecDepth 20000 in
theorem gX0_load_X0_signOf : GoodIn wsX0_load (wsV RX0 60 RX0 yX0_signOf wsX0_signOf) := goodIn_app (goodIn_of _ (by decide +kernel)) ggX0_load_X0_signOf
theorem dX0_load_0 : decode cX0_load 0 = .ok (.aload_n 0, 1) := by decide +kernel
theorem dX0_load_1 : decode cX0_load 1 = .ok (.iload_n 1, 1) := by decide +kernel
theorem dX0_load_2 : decode cX0_load 2 = .ok (.iload_n 2, 1) := by decide +kernel
theorem dX0_load_3 : decode cX0_load 3 = .ok (.invokevirtual 42, 3) := by decide +kernel
theorem dX0_load_6 : decode cX0_load 6 = .ok (.istore 4, 2) := by decide +kernel
theorem dX0_load_8 : decode cX0_load 8 = .ok (.aload_n 0, 1) := by decide +kernel
theorem dX0_load_9 : decode cX0_load 9 = .ok (.getfield 18, 3) := by decide +kernel
theorem dX0_load_12 : decode cX0_load 12 = .ok (.aload_n 0, 1) := by decide +kernel
theorem dX0_load_13 : decode cX0_load 13 = .ok (.getfield 22, 3) := by decide +kernel
theorem dX0_load_16 : decode cX0_load 16 = .ok (.iload_n 1, 1) := by decide +kernel
theorem dX0_load_17 : decode cX0_load 17 = .ok (.aload_n 0, 1) := by decide +kernel
theorem dX0_load_18 : decode cX0_load 18 = .ok (.getfield 9, 3) := by decide +kernel
theorem dX0_load_21 : decode cX0_load 21 = .ok (.imul, 1) := by decide +kernel
theorem dX0_load_22 : decode cX0_load 22 = .ok (.iload_n 2, 1) := by decide +kernel
theorem dX0_load_23 : decode cX0_load 23 = .ok (.iadd, 1) := by decide +kernel
theorem dX0_load_24 : decode cX0_load 24 = .ok (.iaload, 1) := by decide +kernel
theorem dX0_load_25 : decode cX0_load 25 = .ok (.iconst 1, 1) := by decide +kernel
theorem dX0_load_26 : decode cX0_load 26 = .ok (.iadd, 1) := by decide +kernel
theorem dX0_load_27 : decode cX0_load 27 = .ok (.aload_n 3, 1) := by decide +kernel
theorem dX0_load_28 : decode cX0_load 28 = .ok (.getfield 46, 3) := by decide +kernel
theorem dX0_load_31 : decode cX0_load 31 = .ok (.iconst 0, 1) := by decide +kernel
theorem dX0_load_32 : decode cX0_load 32 = .ok (.iload 4, 2) := by decide +kernel
theorem dX0_load_34 : decode cX0_load 34 = .ok (.invokestatic 51, 3) := by decide +kernel
theorem dX0_load_37 : decode cX0_load 37 = .ok (.aload_n 3, 1) := by decide +kernel
theorem dX0_load_38 : decode cX0_load 38 = .ok (.iload 4, 2) := by decide +kernel
theorem dX0_load_40 : decode cX0_load 40 = .ok (.putfield 57, 3) := by decide +kernel
theorem dX0_load_43 : decode cX0_load 43 = .ok (.aload_n 3, 1) := by decide +kernel
theorem dX0_load_44 : decode cX0_load 44 = .ok (.aload_n 0, 1) := by decide +kernel
theorem dX0_load_45 : decode cX0_load 45 = .ok (.iload_n 1, 1) := by decide +kernel
theorem dX0_load_46 : decode cX0_load 46 = .ok (.iload_n 2, 1) := by decide +kernel
theorem dX0_load_47 : decode cX0_load 47 = .ok (.invokevirtual 60, 3) := by decide +kernel
theorem dX0_load_50 : decode cX0_load 50 = .ok (.putfield 63, 3) := by decide +kernel
theorem dX0_load_53 : decode cX0_load 53 = .ok (.return_, 1) := by decide +kernel
set_option maxRecDepth 20000 in
theorem ggX0_keep_X0_isFull : GoodIn wsX0_keep wsX0_isFull := goodIn_r _ [9, 3, 10, 31, 32, 33, 34, 35, 36] (by decide +kernel) (by decide +kernel)
set_option maxRecDepth 20000 in
theorem gX0_keep_X0_isFull : GoodIn wsX0_keep (wsV RX0 66 RX0 yX0_isFull wsX0_isFull) := goodIn_app (goodIn_of _ (by decide +kernel)) ggX0_keep_X0_isFull
set_option maxRecDepth 20000 in
theorem ggX0_keep_X0_cellsFor : GoodIn wsX0_keep wsX0_cellsFor := goodIn_r _ [14, 1, 15, 31, 32, 33, 34, 35, 36, 37, 38, 39] (by decide +kernel) (by decide +kernel)
set_option maxRecDepth 20000 in
theorem gX0_keep_X0_cellsFor : GoodIn wsX0_keep (wsV RX0 70 RX0 yX0_cellsFor wsX0_cellsFor) := goodIn_app (goodIn_of _ (by decide +kernel)) ggX0_keep_X0_cellsFor
set_option maxRecDepth 20000 in
theorem ggX0_keep_X0_cellsLeft : GoodIn wsX0_keep wsX0_cellsLeft := goodIn_r _ [19, 20, 4, 31, 32, 33, 34, 35, 36] (by decide +kernel) (by decide +kernel)
set_option maxRecDepth 20000 in
theorem gX0_keep_X0_cellsLeft : GoodIn wsX0_keep (wsV RX0 74 RX0 yX0_cellsLeft wsX0_cellsLeft) := goodIn_app (goodIn_of _ (by decide +kernel)) ggX0_keep_X0_cellsLeft
set_option maxRecDepth 20000 in
theorem ggX0_keep_X0_append : GoodIn wsX0_keep wsX0_append := goodIn_r _ [24, 20, 4, 25, 15, 26, 27, 28, 29, 30, 31, 32, 33, 34, 35, 36, 37, 38, 39] (by decide +kernel) (by decide +kernel)
set_option maxRecDepth 20000 in
theorem gX0_keep_X0_append : GoodIn wsX0_keep (wsV RX0 78 RX0 yX0_append wsX0_append) := goodIn_app (goodIn_of _ (by decide +kernel)) ggX0_keep_X0_append
theorem dX0_keep_0 : decode cX0_keep 0 = .ok (.aload_n 0, 1) := by decide +kernel
theorem dX0_keep_1 : decode cX0_keep 1 = .ok (.invokevirtual 66, 3) := by decide +kernel
theorem dX0_keep_4 : decode cX0_keep 4 = .ok (.ifCond .ne 15, 3) := by decide +kernel
theorem dX0_keep_7 : decode cX0_keep 7 = .ok (.aload_n 0, 1) := by decide +kernel
theorem dX0_keep_8 : decode cX0_keep 8 = .ok (.aload_n 1, 1) := by decide +kernel
theorem dX0_keep_9 : decode cX0_keep 9 = .ok (.invokevirtual 70, 3) := by decide +kernel
theorem dX0_keep_12 : decode cX0_keep 12 = .ok (.aload_n 0, 1) := by decide +kernel
theorem dX0_keep_13 : decode cX0_keep 13 = .ok (.invokevirtual 74, 3) := by decide +kernel
theorem dX0_keep_16 : decode cX0_keep 16 = .ok (.if_icmp .le 6, 3) := by decide +kernel
theorem dX0_keep_19 : decode cX0_keep 19 = .ok (.bipush (-4), 2) := by decide +kernel
theorem dX0_keep_21 : decode cX0_keep 21 = .ok (.ireturn, 1) := by decide +kernel
theorem dX0_keep_22 : decode cX0_keep 22 = .ok (.iconst 0, 1) := by decide +kernel
theorem dX0_keep_23 : decode cX0_keep 23 = .ok (.istore_n 2, 1) := by decide +kernel
theorem dX0_keep_24 : decode cX0_keep 24 = .ok (.iload_n 2, 1) := by decide +kernel
theorem dX0_keep_25 : decode cX0_keep 25 = .ok (.aload_n 0, 1) := by decide +kernel
theorem dX0_keep_26 : decode cX0_keep 26 = .ok (.getfield 9, 3) := by decide +kernel
theorem dX0_keep_29 : decode cX0_keep 29 = .ok (.if_icmp .ge 36, 3) := by decide +kernel
theorem dX0_keep_32 : decode cX0_keep 32 = .ok (.aload_n 0, 1) := by decide +kernel
theorem dX0_keep_33 : decode cX0_keep 33 = .ok (.getfield 22, 3) := by decide +kernel
theorem dX0_keep_36 : decode cX0_keep 36 = .ok (.aload_n 0, 1) := by decide +kernel
theorem dX0_keep_37 : decode cX0_keep 37 = .ok (.getfield 28, 3) := by decide +kernel
theorem dX0_keep_40 : decode cX0_keep 40 = .ok (.aload_n 0, 1) := by decide +kernel
theorem dX0_keep_41 : decode cX0_keep 41 = .ok (.getfield 9, 3) := by decide +kernel
theorem dX0_keep_44 : decode cX0_keep 44 = .ok (.imul, 1) := by decide +kernel
theorem dX0_keep_45 : decode cX0_keep 45 = .ok (.iload_n 2, 1) := by decide +kernel
theorem dX0_keep_46 : decode cX0_keep 46 = .ok (.iadd, 1) := by decide +kernel
theorem dX0_keep_47 : decode cX0_keep 47 = .ok (.aload_n 0, 1) := by decide +kernel
theorem dX0_keep_48 : decode cX0_keep 48 = .ok (.getfield 25, 3) := by decide +kernel
theorem dX0_keep_51 : decode cX0_keep 51 = .ok (.iastore, 1) := by decide +kernel
theorem dX0_keep_52 : decode cX0_keep 52 = .ok (.aload_n 0, 1) := by decide +kernel
theorem dX0_keep_53 : decode cX0_keep 53 = .ok (.aload_n 1, 1) := by decide +kernel
theorem dX0_keep_54 : decode cX0_keep 54 = .ok (.iload_n 2, 1) := by decide +kernel
theorem dX0_keep_55 : decode cX0_keep 55 = .ok (.aaload, 1) := by decide +kernel
theorem dX0_keep_56 : decode cX0_keep 56 = .ok (.invokevirtual 78, 3) := by decide +kernel
theorem dX0_keep_59 : decode cX0_keep 59 = .ok (.iinc 2 1, 3) := by decide +kernel
theorem dX0_keep_62 : decode cX0_keep 62 = .ok (.goto (-38), 3) := by decide +kernel
theorem dX0_keep_65 : decode cX0_keep 65 = .ok (.aload_n 0, 1) := by decide +kernel
theorem dX0_keep_66 : decode cX0_keep 66 = .ok (.dup, 1) := by decide +kernel
theorem dX0_keep_67 : decode cX0_keep 67 = .ok (.getfield 28, 3) := by decide +kernel
theorem dX0_keep_70 : decode cX0_keep 70 = .ok (.iconst 1, 1) := by decide +kernel
theorem dX0_keep_71 : decode cX0_keep 71 = .ok (.iadd, 1) := by decide +kernel
theorem dX0_keep_72 : decode cX0_keep 72 = .ok (.putfield 28, 3) := by decide +kernel
theorem dX0_keep_75 : decode cX0_keep 75 = .ok (.aload_n 0, 1) := by decide +kernel
theorem dX0_keep_76 : decode cX0_keep 76 = .ok (.getfield 28, 3) := by decide +kernel
theorem dX0_keep_79 : decode cX0_keep 79 = .ok (.iconst 1, 1) := by decide +kernel
theorem dX0_keep_80 : decode cX0_keep 80 = .ok (.isub, 1) := by decide +kernel
theorem dX0_keep_81 : decode cX0_keep 81 = .ok (.ireturn, 1) := by decide +kernel
theorem dX0_cellsFor_0 : decode cX0_cellsFor 0 = .ok (.aload_n 0, 1) := by decide +kernel
theorem dX0_cellsFor_1 : decode cX0_cellsFor 1 = .ok (.getfield 9, 3) := by decide +kernel
theorem dX0_cellsFor_4 : decode cX0_cellsFor 4 = .ok (.istore_n 2, 1) := by decide +kernel
theorem dX0_cellsFor_5 : decode cX0_cellsFor 5 = .ok (.iconst 0, 1) := by decide +kernel
theorem dX0_cellsFor_6 : decode cX0_cellsFor 6 = .ok (.istore_n 3, 1) := by decide +kernel
theorem dX0_cellsFor_7 : decode cX0_cellsFor 7 = .ok (.iload_n 3, 1) := by decide +kernel
theorem dX0_cellsFor_8 : decode cX0_cellsFor 8 = .ok (.aload_n 0, 1) := by decide +kernel
theorem dX0_cellsFor_9 : decode cX0_cellsFor 9 = .ok (.getfield 9, 3) := by decide +kernel
theorem dX0_cellsFor_12 : decode cX0_cellsFor 12 = .ok (.if_icmp .ge 18, 3) := by decide +kernel
theorem dX0_cellsFor_15 : decode cX0_cellsFor 15 = .ok (.iload_n 2, 1) := by decide +kernel
theorem dX0_cellsFor_16 : decode cX0_cellsFor 16 = .ok (.aload_n 1, 1) := by decide +kernel
theorem dX0_cellsFor_17 : decode cX0_cellsFor 17 = .ok (.iload_n 3, 1) := by decide +kernel
theorem dX0_cellsFor_18 : decode cX0_cellsFor 18 = .ok (.aaload, 1) := by decide +kernel
theorem dX0_cellsFor_19 : decode cX0_cellsFor 19 = .ok (.getfield 57, 3) := by decide +kernel
theorem dX0_cellsFor_22 : decode cX0_cellsFor 22 = .ok (.iadd, 1) := by decide +kernel
theorem dX0_cellsFor_23 : decode cX0_cellsFor 23 = .ok (.istore_n 2, 1) := by decide +kernel
theorem dX0_cellsFor_24 : decode cX0_cellsFor 24 = .ok (.iinc 3 1, 3) := by decide +kernel
theorem dX0_cellsFor_27 : decode cX0_cellsFor 27 = .ok (.goto (-20), 3) := by decide +kernel
theorem dX0_cellsFor_30 : decode cX0_cellsFor 30 = .ok (.iload_n 2, 1) := by decide +kernel
theorem dX0_cellsFor_31 : decode cX0_cellsFor 31 = .ok (.ireturn, 1) := by decide +kernel
theorem dX0_append_0 : decode cX0_append 0 = .ok (.aload_n 0, 1) := by decide +kernel
theorem dX0_append_1 : decode cX0_append 1 = .ok (.getfield 18, 3) := by decide +kernel
theorem dX0_append_4 : decode cX0_append 4 = .ok (.aload_n 0, 1) := by decide +kernel
theorem dX0_append_5 : decode cX0_append 5 = .ok (.getfield 25, 3) := by decide +kernel
theorem dX0_append_8 : decode cX0_append 8 = .ok (.aload_n 1, 1) := by decide +kernel
theorem dX0_append_9 : decode cX0_append 9 = .ok (.getfield 63, 3) := by decide +kernel
theorem dX0_append_12 : decode cX0_append 12 = .ok (.aload_n 1, 1) := by decide +kernel
theorem dX0_append_13 : decode cX0_append 13 = .ok (.getfield 57, 3) := by decide +kernel
theorem dX0_append_16 : decode cX0_append 16 = .ok (.imul, 1) := by decide +kernel
theorem dX0_append_17 : decode cX0_append 17 = .ok (.iastore, 1) := by decide +kernel
theorem dX0_append_18 : decode cX0_append 18 = .ok (.aload_n 1, 1) := by decide +kernel
theorem dX0_append_19 : decode cX0_append 19 = .ok (.getfield 46, 3) := by decide +kernel
theorem dX0_append_22 : decode cX0_append 22 = .ok (.iconst 0, 1) := by decide +kernel
theorem dX0_append_23 : decode cX0_append 23 = .ok (.aload_n 0, 1) := by decide +kernel
theorem dX0_append_24 : decode cX0_append 24 = .ok (.getfield 18, 3) := by decide +kernel
theorem dX0_append_27 : decode cX0_append 27 = .ok (.aload_n 0, 1) := by decide +kernel
theorem dX0_append_28 : decode cX0_append 28 = .ok (.getfield 25, 3) := by decide +kernel
theorem dX0_append_31 : decode cX0_append 31 = .ok (.iconst 1, 1) := by decide +kernel
theorem dX0_append_32 : decode cX0_append 32 = .ok (.iadd, 1) := by decide +kernel
theorem dX0_append_33 : decode cX0_append 33 = .ok (.aload_n 1, 1) := by decide +kernel
theorem dX0_append_34 : decode cX0_append 34 = .ok (.getfield 57, 3) := by decide +kernel
theorem dX0_append_37 : decode cX0_append 37 = .ok (.invokestatic 51, 3) := by decide +kernel
theorem dX0_append_40 : decode cX0_append 40 = .ok (.aload_n 0, 1) := by decide +kernel
theorem dX0_append_41 : decode cX0_append 41 = .ok (.dup, 1) := by decide +kernel
theorem dX0_append_42 : decode cX0_append 42 = .ok (.getfield 25, 3) := by decide +kernel
theorem dX0_append_45 : decode cX0_append 45 = .ok (.iconst 1, 1) := by decide +kernel
theorem dX0_append_46 : decode cX0_append 46 = .ok (.aload_n 1, 1) := by decide +kernel
theorem dX0_append_47 : decode cX0_append 47 = .ok (.getfield 57, 3) := by decide +kernel
theorem dX0_append_50 : decode cX0_append 50 = .ok (.iadd, 1) := by decide +kernel
theorem dX0_append_51 : decode cX0_append 51 = .ok (.iadd, 1) := by decide +kernel
theorem dX0_append_52 : decode cX0_append 52 = .ok (.putfield 25, 3) := by decide +kernel
theorem dX0_append_55 : decode cX0_append 55 = .ok (.return_, 1) := by decide +kernel
set_option maxRecDepth 20000 in
theorem ggX1_init_X3_init : GoodIn wsX1_init wsX3_init := goodIn_r _ [15, 16, 2, 3, 10, 17, 18, 19, 20] (by decide +kernel) (by decide +kernel)
set_option maxRecDepth 20000 in
theorem gX1_init_X3_init : GoodIn wsX1_init (wsX3_init) := ggX1_init_X3_init
theorem dX1_init_0 : decode cX1_init 0 = .ok (.aload_n 0, 1) := by decide +kernel
theorem dX1_init_1 : decode cX1_init 1 = .ok (.invokespecial 3, 3) := by decide +kernel
theorem dX1_init_4 : decode cX1_init 4 = .ok (.aload_n 0, 1) := by decide +kernel
theorem dX1_init_5 : decode cX1_init 5 = .ok (.new 9, 3) := by decide +kernel
theorem dX1_init_8 : decode cX1_init 8 = .ok (.dup, 1) := by decide +kernel
theorem dX1_init_9 : decode cX1_init 9 = .ok (.bipush 48, 2) := by decide +kernel
theorem dX1_init_11 : decode cX1_init 11 = .ok (.invokespecial 11, 3) := by decide +kernel
theorem dX1_init_14 : decode cX1_init 14 = .ok (.putfield 14, 3) := by decide +kernel
theorem dX1_init_17 : decode cX1_init 17 = .ok (.aload_n 0, 1) := by decide +kernel
theorem dX1_init_18 : decode cX1_init 18 = .ok (.new 9, 3) := by decide +kernel
theorem dX1_init_21 : decode cX1_init 21 = .ok (.dup, 1) := by decide +kernel
theorem dX1_init_22 : decode cX1_init 22 = .ok (.bipush 48, 2) := by decide +kernel
theorem dX1_init_24 : decode cX1_init 24 = .ok (.invokespecial 11, 3) := by decide +kernel
theorem dX1_init_27 : decode cX1_init 27 = .ok (.putfield 20, 3) := by decide +kernel
theorem dX1_init_30 : decode cX1_init 30 = .ok (.aload_n 0, 1) := by decide +kernel
theorem dX1_init_31 : decode cX1_init 31 = .ok (.new 9, 3) := by decide +kernel
theorem dX1_init_34 : decode cX1_init 34 = .ok (.dup, 1) := by decide +kernel
theorem dX1_init_35 : decode cX1_init 35 = .ok (.bipush 48, 2) := by decide +kernel
theorem dX1_init_37 : decode cX1_init 37 = .ok (.invokespecial 11, 3) := by decide +kernel
theorem dX1_init_40 : decode cX1_init 40 = .ok (.putfield 23, 3) := by decide +kernel
theorem dX1_init_43 : decode cX1_init 43 = .ok (.aload_n 0, 1) := by decide +kernel
theorem dX1_init_44 : decode cX1_init 44 = .ok (.bipush 49, 2) := by decide +kernel
theorem dX1_init_46 : decode cX1_init 46 = .ok (.newarray .int, 2) := by decide +kernel
theorem dX1_init_48 : decode cX1_init 48 = .ok (.putfield 26, 3) := by decide +kernel
theorem dX1_init_51 : decode cX1_init 51 = .ok (.aload_n 0, 1) := by decide +kernel
theorem dX1_init_52 : decode cX1_init 52 = .ok (.bipush 48, 2) := by decide +kernel
theorem dX1_init_54 : decode cX1_init 54 = .ok (.newarray .int, 2) := by decide +kernel
theorem dX1_init_56 : decode cX1_init 56 = .ok (.putfield 30, 3) := by decide +kernel
theorem dX1_init_59 : decode cX1_init 59 = .ok (.return_, 1) := by decide +kernel
set_option maxRecDepth 20000 in
theorem ggX1_narrowGreatest_X1_divide : GoodIn wsX1_narrowGreatest wsX1_divide := goodIn_r _ [9, 2, 10, 4, 11, 12, 13, 14, 15, 16, 17, 18, 19, 20, 21, 22, 23, 24, 25, 26, 27, 28, 29, 30, 31, 32, 33, 34, 35, 36, 37, 38, 8, 39, 40, 41, 42, 43, 44, 45, 46, 47, 48, 49, 50, 51, 52, 53, 54, 55, 56, 57, 58, 59, 60, 61, 62, 63, 64, 65, 66, 67, 68, 69, 70, 71, 72, 73, 74, 75, 76, 77, 78] (by decide +kernel) (by decide +kernel)
set_option maxRecDepth 20000 in
theorem gX1_narrowGreatest_X1_divide : GoodIn wsX1_narrowGreatest (wsV RX1 38 RX1 yX1_divide wsX1_divide) := goodIn_app (goodIn_of _ (by decide +kernel)) ggX1_narrowGreatest_X1_divide
set_option maxRecDepth 20000 in
theorem ggX1_narrowGreatest_X3_copyFrom : GoodIn wsX1_narrowGreatest wsX3_copyFrom := goodIn_r _ [31, 18, 17, 32, 33, 34, 35, 27, 71, 72, 73] (by decide +kernel) (by decide +kernel)
set_option maxRecDepth 20000 in
theorem gX1_narrowGreatest_X3_copyFrom : GoodIn wsX1_narrowGreatest (wsV RX1 42 RX3 yX3_copyFrom wsX3_copyFrom) := goodIn_app (goodIn_of _ (by decide +kernel)) ggX1_narrowGreatest_X3_copyFrom
theorem dX1_narrowGreatest_0 : decode cX1_narrowGreatest 0 = .ok (.iconst 0, 1) := by decide +kernel
theorem dX1_narrowGreatest_1 : decode cX1_narrowGreatest 1 = .ok (.istore_n 2, 1) := by decide +kernel
theorem dX1_narrowGreatest_2 : decode cX1_narrowGreatest 2 = .ok (.iload_n 2, 1) := by decide +kernel
theorem dX1_narrowGreatest_3 : decode cX1_narrowGreatest 3 = .ok (.ldc 33, 2) := by decide +kernel
theorem dX1_narrowGreatest_5 : decode cX1_narrowGreatest 5 = .ok (.if_icmp .ge 41, 3) := by decide +kernel
theorem dX1_narrowGreatest_8 : decode cX1_narrowGreatest 8 = .ok (.aload_n 1, 1) := by decide +kernel
theorem dX1_narrowGreatest_9 : decode cX1_narrowGreatest 9 = .ok (.getfield 34, 3) := by decide +kernel
theorem dX1_narrowGreatest_12 : decode cX1_narrowGreatest 12 = .ok (.ifCond .le 34, 3) := by decide +kernel
theorem dX1_narrowGreatest_15 : decode cX1_narrowGreatest 15 = .ok (.aload_n 0, 1) := by decide +kernel
theorem dX1_narrowGreatest_16 : decode cX1_narrowGreatest 16 = .ok (.aload_n 0, 1) := by decide +kernel
theorem dX1_narrowGreatest_17 : decode cX1_narrowGreatest 17 = .ok (.getfield 14, 3) := by decide +kernel
theorem dX1_narrowGreatest_20 : decode cX1_narrowGreatest 20 = .ok (.aload_n 1, 1) := by decide +kernel
theorem dX1_narrowGreatest_21 : decode cX1_narrowGreatest 21 = .ok (.invokevirtual 38, 3) := by decide +kernel
theorem dX1_narrowGreatest_24 : decode cX1_narrowGreatest 24 = .ok (.aload_n 0, 1) := by decide +kernel
theorem dX1_narrowGreatest_25 : decode cX1_narrowGreatest 25 = .ok (.getfield 14, 3) := by decide +kernel
theorem dX1_narrowGreatest_28 : decode cX1_narrowGreatest 28 = .ok (.aload_n 1, 1) := by decide +kernel
theorem dX1_narrowGreatest_29 : decode cX1_narrowGreatest 29 = .ok (.invokevirtual 42, 3) := by decide +kernel
theorem dX1_narrowGreatest_32 : decode cX1_narrowGreatest 32 = .ok (.aload_n 1, 1) := by decide +kernel
theorem dX1_narrowGreatest_33 : decode cX1_narrowGreatest 33 = .ok (.aload_n 0, 1) := by decide +kernel
theorem dX1_narrowGreatest_34 : decode cX1_narrowGreatest 34 = .ok (.getfield 23, 3) := by decide +kernel
theorem dX1_narrowGreatest_37 : decode cX1_narrowGreatest 37 = .ok (.invokevirtual 42, 3) := by decide +kernel
theorem dX1_narrowGreatest_40 : decode cX1_narrowGreatest 40 = .ok (.iinc 2 1, 3) := by decide +kernel
theorem dX1_narrowGreatest_43 : decode cX1_narrowGreatest 43 = .ok (.goto (-41), 3) := by decide +kernel
theorem dX1_narrowGreatest_46 : decode cX1_narrowGreatest 46 = .ok (.return_, 1) := by decide +kernel
set_option maxRecDepth 20000 in
theorem ggX1_floorByGreatest_X1_divide : GoodIn wsX1_floorByGreatest wsX1_divide := goodIn_r _ [10, 3, 2, 5, 11, 12, 13, 14, 15, 16, 17, 18, 19, 20, 21, 22, 23, 24, 25, 26, 27, 28, 29, 30, 31, 32, 33, 34, 35, 36, 37, 38, 9, 39, 40, 41, 42, 43, 44, 45, 46, 47, 48, 49, 50, 51, 52, 53, 54, 55, 56, 57, 58, 59, 60, 61, 62, 63, 64, 65, 66, 67, 68, 69, 70, 90, 91, 92, 85, 86, 87, 88, 89] (by decide +kernel) (by decide +kernel)
set_option maxRecDepth 20000 in
theorem gX1_floorByGreatest_X1_divide : GoodIn wsX1_floorByGreatest (wsV RX1 38 RX1 yX1_divide wsX1_divide) := goodIn_app (goodIn_of _ (by decide +kernel)) ggX1_floorByGreatest_X1_divide
set_option maxRecDepth 20000 in
theorem ggX1_floorByGreatest_X3_copyFrom : GoodIn wsX1_floorByGreatest wsX3_copyFrom := goodIn_r _ [31, 18, 17, 32, 33, 34, 35, 27, 90, 91, 92] (by decide +kernel) (by decide +kernel)
set_option maxRecDepth 20000 in
theorem gX1_floorByGreatest_X3_copyFrom : GoodIn wsX1_floorByGreatest (wsV RX1 42 RX3 yX3_copyFrom wsX3_copyFrom) := goodIn_app (goodIn_of _ (by decide +kernel)) ggX1_floorByGreatest_X3_copyFrom
set_option maxRecDepth 20000 in
theorem ggX1_floorByGreatest_X3_growByOne : GoodIn wsX1_floorByGreatest wsX3_growByOne := goodIn_r _ [74, 17, 18, 75, 76, 77, 78, 79, 80, 81, 82, 15, 83, 84, 41, 42, 43, 27, 90, 91, 92] (by decide +kernel) (by decide +kernel)
set_option maxRecDepth 20000 in
theorem gX1_floorByGreatest_X3_growByOne : GoodIn wsX1_floorByGreatest (wsV RX1 49 RX3 yX3_growByOne wsX3_growByOne) := goodIn_app (goodIn_of _ (by decide +kernel)) ggX1_floorByGreatest_X3_growByOne
theorem dX1_floorByGreatest_0 : decode cX1_floorByGreatest 0 = .ok (.aload_n 0, 1) := by decide +kernel
theorem dX1_floorByGreatest_1 : decode cX1_floorByGreatest 1 = .ok (.aload_n 1, 1) := by decide +kernel
theorem dX1_floorByGreatest_2 : decode cX1_floorByGreatest 2 = .ok (.aload_n 0, 1) := by decide +kernel
theorem dX1_floorByGreatest_3 : decode cX1_floorByGreatest 3 = .ok (.getfield 14, 3) := by decide +kernel
theorem dX1_floorByGreatest_6 : decode cX1_floorByGreatest 6 = .ok (.invokevirtual 38, 3) := by decide +kernel
theorem dX1_floorByGreatest_9 : decode cX1_floorByGreatest 9 = .ok (.aload_n 2, 1) := by decide +kernel
theorem dX1_floorByGreatest_10 : decode cX1_floorByGreatest 10 = .ok (.aload_n 0, 1) := by decide +kernel
theorem dX1_floorByGreatest_11 : decode cX1_floorByGreatest 11 = .ok (.getfield 20, 3) := by decide +kernel
theorem dX1_floorByGreatest_14 : decode cX1_floorByGreatest 14 = .ok (.invokevirtual 42, 3) := by decide +kernel
theorem dX1_floorByGreatest_17 : decode cX1_floorByGreatest 17 = .ok (.aload_n 2, 1) := by decide +kernel
theorem dX1_floorByGreatest_18 : decode cX1_floorByGreatest 18 = .ok (.aload_n 2, 1) := by decide +kernel
theorem dX1_floorByGreatest_19 : decode cX1_floorByGreatest 19 = .ok (.getfield 34, 3) := by decide +kernel
theorem dX1_floorByGreatest_22 : decode cX1_floorByGreatest 22 = .ok (.ifCond .ne 7, 3) := by decide +kernel
theorem dX1_floorByGreatest_25 : decode cX1_floorByGreatest 25 = .ok (.iconst 0, 1) := by decide +kernel
theorem dX1_floorByGreatest_26 : decode cX1_floorByGreatest 26 = .ok (.goto 7, 3) := by decide +kernel
theorem dX1_floorByGreatest_29 : decode cX1_floorByGreatest 29 = .ok (.aload_n 1, 1) := by decide +kernel
theorem dX1_floorByGreatest_30 : decode cX1_floorByGreatest 30 = .ok (.getfield 46, 3) := by decide +kernel
theorem dX1_floorByGreatest_33 : decode cX1_floorByGreatest 33 = .ok (.putfield 46, 3) := by decide +kernel
theorem dX1_floorByGreatest_36 : decode cX1_floorByGreatest 36 = .ok (.aload_n 1, 1) := by decide +kernel
theorem dX1_floorByGreatest_37 : decode cX1_floorByGreatest 37 = .ok (.getfield 46, 3) := by decide +kernel
theorem dX1_floorByGreatest_40 : decode cX1_floorByGreatest 40 = .ok (.ifCond .ge 21, 3) := by decide +kernel
theorem dX1_floorByGreatest_43 : decode cX1_floorByGreatest 43 = .ok (.aload_n 0, 1) := by decide +kernel
theorem dX1_floorByGreatest_44 : decode cX1_floorByGreatest 44 = .ok (.getfield 23, 3) := by decide +kernel
theorem dX1_floorByGreatest_47 : decode cX1_floorByGreatest 47 = .ok (.getfield 34, 3) := by decide +kernel
theorem dX1_floorByGreatest_50 : decode cX1_floorByGreatest 50 = .ok (.ifCond .le 11, 3) := by decide +kernel
theorem dX1_floorByGreatest_53 : decode cX1_floorByGreatest 53 = .ok (.aload_n 2, 1) := by decide +kernel
theorem dX1_floorByGreatest_54 : decode cX1_floorByGreatest 54 = .ok (.aload_n 1, 1) := by decide +kernel
theorem dX1_floorByGreatest_55 : decode cX1_floorByGreatest 55 = .ok (.getfield 46, 3) := by decide +kernel
theorem dX1_floorByGreatest_58 : decode cX1_floorByGreatest 58 = .ok (.invokevirtual 49, 3) := by decide +kernel
theorem dX1_floorByGreatest_61 : decode cX1_floorByGreatest 61 = .ok (.return_, 1) := by decide +kernel
set_option maxRecDepth 20000 in
theorem ggX1_divide_X3_compareSize : GoodIn wsX1_divide wsX3_compareSize := goodIn_r _ [9, 10, 11, 12, 13, 14, 15, 65, 66, 67] (by decide +kernel) (by decide +kernel)
set_option maxRecDepth 20000 in
theorem gX1_divide_X3_compareSize : GoodIn wsX1_divide (wsV RX1 52 RX3 yX3_compareSize wsX3_compareSize) := goodIn_app (goodIn_of _ (by decide +kernel)) ggX1_divide_X3_compareSize
set_option maxRecDepth 20000 in
theorem ggX1_divide_X3_setZero : GoodIn wsX1_divide wsX3_setZero := goodIn_r _ [19, 10, 20, 65, 66, 67] (by decide +kernel) (by decide +kernel)
set_option maxRecDepth 20000 in
theorem gX1_divide_X3_setZero : GoodIn wsX1_divide (wsV RX1 56 RX3 yX3_setZero wsX3_setZero) := goodIn_app (goodIn_of _ (by decide +kernel)) ggX1_divide_X3_setZero
set_option maxRecDepth 20000 in
theorem ggX1_divide_X3_copyFrom : GoodIn wsX1_divide wsX3_copyFrom := goodIn_r _ [24, 11, 10, 25, 26, 27, 28, 20, 65, 66, 67] (by decide +kernel) (by decide +kernel)
set_option maxRecDepth 20000 in
theorem gX1_divide_X3_copyFrom : GoodIn wsX1_divide (wsV RX1 42 RX3 yX3_copyFrom wsX3_copyFrom) := goodIn_app (goodIn_of _ (by decide +kernel)) ggX1_divide_X3_copyFrom
set_option maxRecDepth 20000 in
theorem ggX1_divide_X1_divideByDigit : GoodIn wsX1_divide wsX1_divideByDigit := goodIn_r _ [33, 1, 4, 2, 3, 34, 35, 36, 8, 37, 10, 11, 20, 65, 66, 67, 68, 69, 70, 71, 72] (by decide +kernel) (by decide +kernel)
set_option maxRecDepth 20000 in
theorem gX1_divide_X1_divideByDigit : GoodIn wsX1_divide (wsV RX1 62 RX1 yX1_divideByDigit wsX1_divideByDigit) := goodIn_app (goodIn_of _ (by decide +kernel)) ggX1_divide_X1_divideByDigit
set_option maxRecDepth 20000 in
theorem ggX1_divide_X1_divideByMany : GoodIn wsX1_divide wsX1_divideByMany := goodIn_r _ [41, 1, 4, 42, 43, 2, 3, 44, 45, 46, 14, 47, 48, 49, 50, 32, 51, 52, 53, 54, 55, 56, 57, 58, 59, 60, 61, 62, 63, 64, 34, 35, 36, 8, 37, 10, 11, 20, 65, 66, 67, 68, 69, 70, 71, 72] (by decide +kernel) (by decide +kernel)
set_option maxRecDepth 20000 in
theorem gX1_divide_X1_divideByMany : GoodIn wsX1_divide (wsV RX1 66 RX1 yX1_divideByMany wsX1_divideByMany) := goodIn_app (goodIn_of _ (by decide +kernel)) ggX1_divide_X1_divideByMany
theorem dX1_divide_0 : decode cX1_divide 0 = .ok (.aload_n 2, 1) := by decide +kernel
theorem dX1_divide_1 : decode cX1_divide 1 = .ok (.getfield 34, 3) := by decide +kernel
theorem dX1_divide_4 : decode cX1_divide 4 = .ok (.ifCond .eq 11, 3) := by decide +kernel
theorem dX1_divide_7 : decode cX1_divide 7 = .ok (.aload_n 1, 1) := by decide +kernel
theorem dX1_divide_8 : decode cX1_divide 8 = .ok (.aload_n 2, 1) := by decide +kernel
theorem dX1_divide_9 : decode cX1_divide 9 = .ok (.invokevirtual 52, 3) := by decide +kernel
theorem dX1_divide_12 : decode cX1_divide 12 = .ok (.ifCond .ge 21, 3) := by decide +kernel
theorem dX1_divide_15 : decode cX1_divide 15 = .ok (.aload_n 0, 1) := by decide +kernel
theorem dX1_divide_16 : decode cX1_divide 16 = .ok (.getfield 20, 3) := by decide +kernel
theorem dX1_divide_19 : decode cX1_divide 19 = .ok (.invokevirtual 56, 3) := by decide +kernel
theorem dX1_divide_22 : decode cX1_divide 22 = .ok (.aload_n 0, 1) := by decide +kernel
theorem dX1_divide_23 : decode cX1_divide 23 = .ok (.getfield 23, 3) := by decide +kernel
theorem dX1_divide_26 : decode cX1_divide 26 = .ok (.aload_n 1, 1) := by decide +kernel
theorem dX1_divide_27 : decode cX1_divide 27 = .ok (.invokevirtual 42, 3) := by decide +kernel
theorem dX1_divide_30 : decode cX1_divide 30 = .ok (.goto 31, 3) := by decide +kernel
theorem dX1_divide_33 : decode cX1_divide 33 = .ok (.aload_n 2, 1) := by decide +kernel
theorem dX1_divide_34 : decode cX1_divide 34 = .ok (.getfield 34, 3) := by decide +kernel
theorem dX1_divide_37 : decode cX1_divide 37 = .ok (.iconst 1, 1) := by decide +kernel
theorem dX1_divide_38 : decode cX1_divide 38 = .ok (.if_icmp .ne 17, 3) := by decide +kernel
theorem dX1_divide_41 : decode cX1_divide 41 = .ok (.aload_n 0, 1) := by decide +kernel
theorem dX1_divide_42 : decode cX1_divide 42 = .ok (.aload_n 1, 1) := by decide +kernel
theorem dX1_divide_43 : decode cX1_divide 43 = .ok (.aload_n 2, 1) := by decide +kernel
theorem dX1_divide_44 : decode cX1_divide 44 = .ok (.getfield 59, 3) := by decide +kernel
theorem dX1_divide_47 : decode cX1_divide 47 = .ok (.iconst 0, 1) := by decide +kernel
theorem dX1_divide_48 : decode cX1_divide 48 = .ok (.iaload, 1) := by decide +kernel
theorem dX1_divide_49 : decode cX1_divide 49 = .ok (.invokevirtual 62, 3) := by decide +kernel
theorem dX1_divide_52 : decode cX1_divide 52 = .ok (.goto 9, 3) := by decide +kernel
theorem dX1_divide_55 : decode cX1_divide 55 = .ok (.aload_n 0, 1) := by decide +kernel
theorem dX1_divide_56 : decode cX1_divide 56 = .ok (.aload_n 1, 1) := by decide +kernel
theorem dX1_divide_57 : decode cX1_divide 57 = .ok (.aload_n 2, 1) := by decide +kernel
theorem dX1_divide_58 : decode cX1_divide 58 = .ok (.invokevirtual 66, 3) := by decide +kernel
theorem dX1_divide_61 : decode cX1_divide 61 = .ok (.return_, 1) := by decide +kernel
set_option maxRecDepth 20000 in
theorem ggX1_divideByDigit_X3_settle : GoodIn wsX1_divideByDigit wsX3_settle := goodIn_r _ [9, 10, 11, 12, 13, 14, 15] (by decide +kernel) (by decide +kernel)
set_option maxRecDepth 20000 in
theorem gX1_divideByDigit_X3_settle : GoodIn wsX1_divideByDigit (wsV RX1 69 RX3 yX3_settle wsX3_settle) := goodIn_app (goodIn_of _ (by decide +kernel)) ggX1_divideByDigit_X3_settle
theorem dX1_divideByDigit_0 : decode cX1_divideByDigit 0 = .ok (.lconst 0, 1) := by decide +kernel
theorem dX1_divideByDigit_1 : decode cX1_divideByDigit 1 = .ok (.lstore_n 3, 1) := by decide +kernel
theorem dX1_divideByDigit_2 : decode cX1_divideByDigit 2 = .ok (.aload_n 1, 1) := by decide +kernel
theorem dX1_divideByDigit_3 : decode cX1_divideByDigit 3 = .ok (.getfield 34, 3) := by decide +kernel
theorem dX1_divideByDigit_6 : decode cX1_divideByDigit 6 = .ok (.iconst 1, 1) := by decide +kernel
theorem dX1_divideByDigit_7 : decode cX1_divideByDigit 7 = .ok (.isub, 1) := by decide +kernel
theorem dX1_divideByDigit_8 : decode cX1_divideByDigit 8 = .ok (.istore 5, 2) := by decide +kernel
theorem dX1_divideByDigit_10 : decode cX1_divideByDigit 10 = .ok (.iload 5, 2) := by decide +kernel
theorem dX1_divideByDigit_12 : decode cX1_divideByDigit 12 = .ok (.ifCond .lt 43, 3) := by decide +kernel
theorem dX1_divideByDigit_15 : decode cX1_divideByDigit 15 = .ok (.lload_n 3, 1) := by decide +kernel
theorem dX1_divideByDigit_16 : decode cX1_divideByDigit 16 = .ok (.bipush 31, 2) := by decide +kernel
theorem dX1_divideByDigit_18 : decode cX1_divideByDigit 18 = .ok (.lshl, 1) := by decide +kernel
theorem dX1_divideByDigit_19 : decode cX1_divideByDigit 19 = .ok (.aload_n 1, 1) := by decide +kernel
theorem dX1_divideByDigit_20 : decode cX1_divideByDigit 20 = .ok (.getfield 59, 3) := by decide +kernel
theorem dX1_divideByDigit_23 : decode cX1_divideByDigit 23 = .ok (.iload 5, 2) := by decide +kernel
theorem dX1_divideByDigit_25 : decode cX1_divideByDigit 25 = .ok (.iaload, 1) := by decide +kernel
theorem dX1_divideByDigit_26 : decode cX1_divideByDigit 26 = .ok (.i2l, 1) := by decide +kernel
theorem dX1_divideByDigit_27 : decode cX1_divideByDigit 27 = .ok (.lor, 1) := by decide +kernel
theorem dX1_divideByDigit_28 : decode cX1_divideByDigit 28 = .ok (.lstore_n 3, 1) := by decide +kernel
theorem dX1_divideByDigit_29 : decode cX1_divideByDigit 29 = .ok (.aload_n 0, 1) := by decide +kernel
theorem dX1_divideByDigit_30 : decode cX1_divideByDigit 30 = .ok (.getfield 20, 3) := by decide +kernel
theorem dX1_divideByDigit_33 : decode cX1_divideByDigit 33 = .ok (.getfield 59, 3) := by decide +kernel
theorem dX1_divideByDigit_36 : decode cX1_divideByDigit 36 = .ok (.iload 5, 2) := by decide +kernel
theorem dX1_divideByDigit_38 : decode cX1_divideByDigit 38 = .ok (.lload_n 3, 1) := by decide +kernel
theorem dX1_divideByDigit_39 : decode cX1_divideByDigit 39 = .ok (.iload_n 2, 1) := by decide +kernel
theorem dX1_divideByDigit_40 : decode cX1_divideByDigit 40 = .ok (.i2l, 1) := by decide +kernel
theorem dX1_divideByDigit_41 : decode cX1_divideByDigit 41 = .ok (.ldiv, 1) := by decide +kernel
theorem dX1_divideByDigit_42 : decode cX1_divideByDigit 42 = .ok (.l2i, 1) := by decide +kernel
theorem dX1_divideByDigit_43 : decode cX1_divideByDigit 43 = .ok (.iastore, 1) := by decide +kernel
theorem dX1_divideByDigit_44 : decode cX1_divideByDigit 44 = .ok (.lload_n 3, 1) := by decide +kernel
theorem dX1_divideByDigit_45 : decode cX1_divideByDigit 45 = .ok (.iload_n 2, 1) := by decide +kernel
theorem dX1_divideByDigit_46 : decode cX1_divideByDigit 46 = .ok (.i2l, 1) := by decide +kernel
theorem dX1_divideByDigit_47 : decode cX1_divideByDigit 47 = .ok (.lrem, 1) := by decide +kernel
theorem dX1_divideByDigit_48 : decode cX1_divideByDigit 48 = .ok (.lstore_n 3, 1) := by decide +kernel
theorem dX1_divideByDigit_49 : decode cX1_divideByDigit 49 = .ok (.iinc 5 (-1), 3) := by decide +kernel
theorem dX1_divideByDigit_52 : decode cX1_divideByDigit 52 = .ok (.goto (-42), 3) := by decide +kernel
theorem dX1_divideByDigit_55 : decode cX1_divideByDigit 55 = .ok (.aload_n 0, 1) := by decide +kernel
theorem dX1_divideByDigit_56 : decode cX1_divideByDigit 56 = .ok (.getfield 20, 3) := by decide +kernel
theorem dX1_divideByDigit_59 : decode cX1_divideByDigit 59 = .ok (.aload_n 1, 1) := by decide +kernel
theorem dX1_divideByDigit_60 : decode cX1_divideByDigit 60 = .ok (.getfield 34, 3) := by decide +kernel
theorem dX1_divideByDigit_63 : decode cX1_divideByDigit 63 = .ok (.iconst 1, 1) := by decide +kernel
theorem dX1_divideByDigit_64 : decode cX1_divideByDigit 64 = .ok (.invokevirtual 69, 3) := by decide +kernel
theorem dX1_divideByDigit_67 : decode cX1_divideByDigit 67 = .ok (.aload_n 0, 1) := by decide +kernel
theorem dX1_divideByDigit_68 : decode cX1_divideByDigit 68 = .ok (.getfield 23, 3) := by decide +kernel
theorem dX1_divideByDigit_71 : decode cX1_divideByDigit 71 = .ok (.getfield 59, 3) := by decide +kernel
theorem dX1_divideByDigit_74 : decode cX1_divideByDigit 74 = .ok (.iconst 0, 1) := by decide +kernel
theorem dX1_divideByDigit_75 : decode cX1_divideByDigit 75 = .ok (.lload_n 3, 1) := by decide +kernel
theorem dX1_divideByDigit_76 : decode cX1_divideByDigit 76 = .ok (.l2i, 1) := by decide +kernel
theorem dX1_divideByDigit_77 : decode cX1_divideByDigit 77 = .ok (.iastore, 1) := by decide +kernel
theorem dX1_divideByDigit_78 : decode cX1_divideByDigit 78 = .ok (.aload_n 0, 1) := by decide +kernel
theorem dX1_divideByDigit_79 : decode cX1_divideByDigit 79 = .ok (.getfield 23, 3) := by decide +kernel
theorem dX1_divideByDigit_82 : decode cX1_divideByDigit 82 = .ok (.iconst 1, 1) := by decide +kernel
theorem dX1_divideByDigit_83 : decode cX1_divideByDigit 83 = .ok (.iconst 1, 1) := by decide +kernel
theorem dX1_divideByDigit_84 : decode cX1_divideByDigit 84 = .ok (.invokevirtual 69, 3) := by decide +kernel
theorem dX1_divideByDigit_87 : decode cX1_divideByDigit 87 = .ok (.return_, 1) := by decide +kernel
set_option maxRecDepth 20000 in
theorem ggX1_divideByMany_J6_numberOfLeadingZeros_0f7a4 : GoodIn wsX1_divideByMany wsJ6_numberOfLeadingZeros_0f7a4 := goodIn_r _ [11, 12] (by decide +kernel) (by decide +kernel)
set_option maxRecDepth 20000 in
theorem gX1_divideByMany_J6_numberOfLeadingZeros_0f7a4 : GoodIn wsX1_divideByMany (va_wsS RX1 73 yJ6_numberOfLeadingZeros_0f7a4 wsJ6_numberOfLeadingZeros_0f7a4) := goodIn_app (goodIn_of _ (by decide +kernel)) ggX1_divideByMany_J6_numberOfLeadingZeros_0f7a4
set_option maxRecDepth 20000 in
theorem ggX1_divideByMany_X1_shiftUp : GoodIn wsX1_divideByMany wsX1_shiftUp := goodIn_r _ [16, 1, 2, 7, 38, 39, 40] (by decide +kernel) (by decide +kernel)
set_option maxRecDepth 20000 in
theorem gX1_divideByMany_X1_shiftUp : GoodIn wsX1_divideByMany (va_wsS RX1 79 yX1_shiftUp wsX1_shiftUp) := goodIn_app (goodIn_of _ (by decide +kernel)) ggX1_divideByMany_X1_shiftUp
set_option maxRecDepth 20000 in
theorem ggX1_divideByMany_X1_guessDigit : GoodIn wsX1_divideByMany wsX1_guessDigit := goodIn_r _ [20, 4, 3, 21, 41, 42, 43, 44, 45] (by decide +kernel) (by decide +kernel)
set_option maxRecDepth 20000 in
theorem gX1_divideByMany_X1_guessDigit : GoodIn wsX1_divideByMany (wsV RX1 83 RX1 yX1_guessDigit wsX1_guessDigit) := goodIn_app (goodIn_of _ (by decide +kernel)) ggX1_divideByMany_X1_guessDigit
set_option maxRecDepth 20000 in
theorem ggX1_divideByMany_X1_takeOut : GoodIn wsX1_divideByMany wsX1_takeOut := goodIn_r _ [25, 3, 4, 7, 26, 27, 28, 15, 29, 41, 42, 43, 44, 45] (by decide +kernel) (by decide +kernel)
set_option maxRecDepth 20000 in
theorem gX1_divideByMany_X1_takeOut : GoodIn wsX1_divideByMany (wsV RX1 87 RX1 yX1_takeOut wsX1_takeOut) := goodIn_app (goodIn_of _ (by decide +kernel)) ggX1_divideByMany_X1_takeOut
set_option maxRecDepth 20000 in
theorem ggX1_divideByMany_X3_settle : GoodIn wsX1_divideByMany wsX3_settle := goodIn_r _ [34, 35, 36, 37, 38, 39, 40] (by decide +kernel) (by decide +kernel)
set_option maxRecDepth 20000 in
theorem gX1_divideByMany_X3_settle : GoodIn wsX1_divideByMany (wsV RX1 69 RX3 yX3_settle wsX3_settle) := goodIn_app (goodIn_of _ (by decide +kernel)) ggX1_divideByMany_X3_settle
theorem dX1_divideByMany_0 : decode cX1_divideByMany 0 = .ok (.aload_n 2, 1) := by decide +kernel
theorem dX1_divideByMany_1 : decode cX1_divideByMany 1 = .ok (.getfield 34, 3) := by decide +kernel
theorem dX1_divideByMany_4 : decode cX1_divideByMany 4 = .ok (.istore_n 3, 1) := by decide +kernel
theorem dX1_divideByMany_5 : decode cX1_divideByMany 5 = .ok (.aload_n 2, 1) := by decide +kernel
theorem dX1_divideByMany_6 : decode cX1_divideByMany 6 = .ok (.getfield 59, 3) := by decide +kernel
theorem dX1_divideByMany_9 : decode cX1_divideByMany 9 = .ok (.iload_n 3, 1) := by decide +kernel
theorem dX1_divideByMany_10 : decode cX1_divideByMany 10 = .ok (.iconst 1, 1) := by decide +kernel
theorem dX1_divideByMany_11 : decode cX1_divideByMany 11 = .ok (.isub, 1) := by decide +kernel
theorem dX1_divideByMany_12 : decode cX1_divideByMany 12 = .ok (.iaload, 1) := by decide +kernel
theorem dX1_divideByMany_13 : decode cX1_divideByMany 13 = .ok (.invokestatic 73, 3) := by decide +kernel
theorem dX1_divideByMany_16 : decode cX1_divideByMany 16 = .ok (.iconst 1, 1) := by decide +kernel
theorem dX1_divideByMany_17 : decode cX1_divideByMany 17 = .ok (.isub, 1) := by decide +kernel
theorem dX1_divideByMany_18 : decode cX1_divideByMany 18 = .ok (.istore 4, 2) := by decide +kernel
theorem dX1_divideByMany_20 : decode cX1_divideByMany 20 = .ok (.aload_n 2, 1) := by decide +kernel
theorem dX1_divideByMany_21 : decode cX1_divideByMany 21 = .ok (.iload 4, 2) := by decide +kernel
theorem dX1_divideByMany_23 : decode cX1_divideByMany 23 = .ok (.aload_n 0, 1) := by decide +kernel
theorem dX1_divideByMany_24 : decode cX1_divideByMany 24 = .ok (.getfield 30, 3) := by decide +kernel
theorem dX1_divideByMany_27 : decode cX1_divideByMany 27 = .ok (.invokestatic 79, 3) := by decide +kernel
theorem dX1_divideByMany_30 : decode cX1_divideByMany 30 = .ok (.pop, 1) := by decide +kernel
theorem dX1_divideByMany_31 : decode cX1_divideByMany 31 = .ok (.aload_n 0, 1) := by decide +kernel
theorem dX1_divideByMany_32 : decode cX1_divideByMany 32 = .ok (.getfield 26, 3) := by decide +kernel
theorem dX1_divideByMany_35 : decode cX1_divideByMany 35 = .ok (.aload_n 1, 1) := by decide +kernel
theorem dX1_divideByMany_36 : decode cX1_divideByMany 36 = .ok (.getfield 34, 3) := by decide +kernel
theorem dX1_divideByMany_39 : decode cX1_divideByMany 39 = .ok (.aload_n 1, 1) := by decide +kernel
theorem dX1_divideByMany_40 : decode cX1_divideByMany 40 = .ok (.iload 4, 2) := by decide +kernel
theorem dX1_divideByMany_42 : decode cX1_divideByMany 42 = .ok (.aload_n 0, 1) := by decide +kernel
theorem dX1_divideByMany_43 : decode cX1_divideByMany 43 = .ok (.getfield 26, 3) := by decide +kernel
theorem dX1_divideByMany_46 : decode cX1_divideByMany 46 = .ok (.invokestatic 79, 3) := by decide +kernel
theorem dX1_divideByMany_49 : decode cX1_divideByMany 49 = .ok (.iastore, 1) := by decide +kernel
theorem dX1_divideByMany_50 : decode cX1_divideByMany 50 = .ok (.aload_n 1, 1) := by decide +kernel
theorem dX1_divideByMany_51 : decode cX1_divideByMany 51 = .ok (.getfield 34, 3) := by decide +kernel
theorem dX1_divideByMany_54 : decode cX1_divideByMany 54 = .ok (.iload_n 3, 1) := by decide +kernel
theorem dX1_divideByMany_55 : decode cX1_divideByMany 55 = .ok (.isub, 1) := by decide +kernel
theorem dX1_divideByMany_56 : decode cX1_divideByMany 56 = .ok (.istore 5, 2) := by decide +kernel
theorem dX1_divideByMany_58 : decode cX1_divideByMany 58 = .ok (.iload 5, 2) := by decide +kernel
theorem dX1_divideByMany_60 : decode cX1_divideByMany 60 = .ok (.ifCond .lt 33, 3) := by decide +kernel
theorem dX1_divideByMany_63 : decode cX1_divideByMany 63 = .ok (.aload_n 0, 1) := by decide +kernel
theorem dX1_divideByMany_64 : decode cX1_divideByMany 64 = .ok (.getfield 20, 3) := by decide +kernel
theorem dX1_divideByMany_67 : decode cX1_divideByMany 67 = .ok (.getfield 59, 3) := by decide +kernel
theorem dX1_divideByMany_70 : decode cX1_divideByMany 70 = .ok (.iload 5, 2) := by decide +kernel
theorem dX1_divideByMany_72 : decode cX1_divideByMany 72 = .ok (.aload_n 0, 1) := by decide +kernel
theorem dX1_divideByMany_73 : decode cX1_divideByMany 73 = .ok (.aload_n 0, 1) := by decide +kernel
theorem dX1_divideByMany_74 : decode cX1_divideByMany 74 = .ok (.iload 5, 2) := by decide +kernel
theorem dX1_divideByMany_76 : decode cX1_divideByMany 76 = .ok (.iload_n 3, 1) := by decide +kernel
theorem dX1_divideByMany_77 : decode cX1_divideByMany 77 = .ok (.invokevirtual 83, 3) := by decide +kernel
theorem dX1_divideByMany_80 : decode cX1_divideByMany 80 = .ok (.iload 5, 2) := by decide +kernel
theorem dX1_divideByMany_82 : decode cX1_divideByMany 82 = .ok (.iload_n 3, 1) := by decide +kernel
theorem dX1_divideByMany_83 : decode cX1_divideByMany 83 = .ok (.invokevirtual 87, 3) := by decide +kernel
theorem dX1_divideByMany_86 : decode cX1_divideByMany 86 = .ok (.iastore, 1) := by decide +kernel
theorem dX1_divideByMany_87 : decode cX1_divideByMany 87 = .ok (.iinc 5 (-1), 3) := by decide +kernel
theorem dX1_divideByMany_90 : decode cX1_divideByMany 90 = .ok (.goto (-32), 3) := by decide +kernel
theorem dX1_divideByMany_93 : decode cX1_divideByMany 93 = .ok (.aload_n 0, 1) := by decide +kernel
theorem dX1_divideByMany_94 : decode cX1_divideByMany 94 = .ok (.getfield 20, 3) := by decide +kernel
theorem dX1_divideByMany_97 : decode cX1_divideByMany 97 = .ok (.aload_n 1, 1) := by decide +kernel
theorem dX1_divideByMany_98 : decode cX1_divideByMany 98 = .ok (.getfield 34, 3) := by decide +kernel
theorem dX1_divideByMany_101 : decode cX1_divideByMany 101 = .ok (.iload_n 3, 1) := by decide +kernel
theorem dX1_divideByMany_102 : decode cX1_divideByMany 102 = .ok (.isub, 1) := by decide +kernel
theorem dX1_divideByMany_103 : decode cX1_divideByMany 103 = .ok (.iconst 1, 1) := by decide +kernel
theorem dX1_divideByMany_104 : decode cX1_divideByMany 104 = .ok (.iadd, 1) := by decide +kernel
theorem dX1_divideByMany_105 : decode cX1_divideByMany 105 = .ok (.iconst 1, 1) := by decide +kernel
theorem dX1_divideByMany_106 : decode cX1_divideByMany 106 = .ok (.invokevirtual 69, 3) := by decide +kernel
theorem dX1_divideByMany_109 : decode cX1_divideByMany 109 = .ok (.iconst 0, 1) := by decide +kernel
theorem dX1_divideByMany_110 : decode cX1_divideByMany 110 = .ok (.istore 5, 2) := by decide +kernel
theorem dX1_divideByMany_112 : decode cX1_divideByMany 112 = .ok (.iload 5, 2) := by decide +kernel
theorem dX1_divideByMany_114 : decode cX1_divideByMany 114 = .ok (.iload_n 3, 1) := by decide +kernel
theorem dX1_divideByMany_115 : decode cX1_divideByMany 115 = .ok (.if_icmp .ge 52, 3) := by decide +kernel
theorem dX1_divideByMany_118 : decode cX1_divideByMany 118 = .ok (.aload_n 0, 1) := by decide +kernel
theorem dX1_divideByMany_119 : decode cX1_divideByMany 119 = .ok (.getfield 26, 3) := by decide +kernel
theorem dX1_divideByMany_122 : decode cX1_divideByMany 122 = .ok (.iload 5, 2) := by decide +kernel
theorem dX1_divideByMany_124 : decode cX1_divideByMany 124 = .ok (.iconst 1, 1) := by decide +kernel
theorem dX1_divideByMany_125 : decode cX1_divideByMany 125 = .ok (.iadd, 1) := by decide +kernel
theorem dX1_divideByMany_126 : decode cX1_divideByMany 126 = .ok (.iaload, 1) := by decide +kernel
theorem dX1_divideByMany_127 : decode cX1_divideByMany 127 = .ok (.i2l, 1) := by decide +kernel
theorem dX1_divideByMany_128 : decode cX1_divideByMany 128 = .ok (.bipush 31, 2) := by decide +kernel
theorem dX1_divideByMany_130 : decode cX1_divideByMany 130 = .ok (.lshl, 1) := by decide +kernel
theorem dX1_divideByMany_131 : decode cX1_divideByMany 131 = .ok (.aload_n 0, 1) := by decide +kernel
theorem dX1_divideByMany_132 : decode cX1_divideByMany 132 = .ok (.getfield 26, 3) := by decide +kernel
theorem dX1_divideByMany_135 : decode cX1_divideByMany 135 = .ok (.iload 5, 2) := by decide +kernel
theorem dX1_divideByMany_137 : decode cX1_divideByMany 137 = .ok (.iaload, 1) := by decide +kernel
theorem dX1_divideByMany_138 : decode cX1_divideByMany 138 = .ok (.i2l, 1) := by decide +kernel
theorem dX1_divideByMany_139 : decode cX1_divideByMany 139 = .ok (.lor, 1) := by decide +kernel
theorem dX1_divideByMany_140 : decode cX1_divideByMany 140 = .ok (.lstore 6, 2) := by decide +kernel
theorem dX1_divideByMany_142 : decode cX1_divideByMany 142 = .ok (.aload_n 0, 1) := by decide +kernel
theorem dX1_divideByMany_143 : decode cX1_divideByMany 143 = .ok (.getfield 23, 3) := by decide +kernel
theorem dX1_divideByMany_146 : decode cX1_divideByMany 146 = .ok (.getfield 59, 3) := by decide +kernel
theorem dX1_divideByMany_149 : decode cX1_divideByMany 149 = .ok (.iload 5, 2) := by decide +kernel
theorem dX1_divideByMany_151 : decode cX1_divideByMany 151 = .ok (.lload 6, 2) := by decide +kernel
theorem dX1_divideByMany_153 : decode cX1_divideByMany 153 = .ok (.iload 4, 2) := by decide +kernel
theorem dX1_divideByMany_155 : decode cX1_divideByMany 155 = .ok (.lushr, 1) := by decide +kernel
theorem dX1_divideByMany_156 : decode cX1_divideByMany 156 = .ok (.l2i, 1) := by decide +kernel
theorem dX1_divideByMany_157 : decode cX1_divideByMany 157 = .ok (.ldc 91, 2) := by decide +kernel
theorem dX1_divideByMany_159 : decode cX1_divideByMany 159 = .ok (.iand, 1) := by decide +kernel
theorem dX1_divideByMany_160 : decode cX1_divideByMany 160 = .ok (.iastore, 1) := by decide +kernel
theorem dX1_divideByMany_161 : decode cX1_divideByMany 161 = .ok (.iinc 5 1, 3) := by decide +kernel
theorem dX1_divideByMany_164 : decode cX1_divideByMany 164 = .ok (.goto (-52), 3) := by decide +kernel
theorem dX1_divideByMany_167 : decode cX1_divideByMany 167 = .ok (.aload_n 0, 1) := by decide +kernel
theorem dX1_divideByMany_168 : decode cX1_divideByMany 168 = .ok (.getfield 23, 3) := by decide +kernel
theorem dX1_divideByMany_171 : decode cX1_divideByMany 171 = .ok (.iload_n 3, 1) := by decide +kernel
theorem dX1_divideByMany_172 : decode cX1_divideByMany 172 = .ok (.iconst 1, 1) := by decide +kernel
theorem dX1_divideByMany_173 : decode cX1_divideByMany 173 = .ok (.invokevirtual 69, 3) := by decide +kernel
theorem dX1_divideByMany_176 : decode cX1_divideByMany 176 = .ok (.return_, 1) := by decide +kernel
theorem dX1_shiftUp_0 : decode cX1_shiftUp 0 = .ok (.lconst 0, 1) := by decide +kernel
theorem dX1_shiftUp_1 : decode cX1_shiftUp 1 = .ok (.lstore_n 3, 1) := by decide +kernel
theorem dX1_shiftUp_2 : decode cX1_shiftUp 2 = .ok (.iconst 0, 1) := by decide +kernel
theorem dX1_shiftUp_3 : decode cX1_shiftUp 3 = .ok (.istore 5, 2) := by decide +kernel
theorem dX1_shiftUp_5 : decode cX1_shiftUp 5 = .ok (.iload 5, 2) := by decide +kernel
theorem dX1_shiftUp_7 : decode cX1_shiftUp 7 = .ok (.aload_n 0, 1) := by decide +kernel
theorem dX1_shiftUp_8 : decode cX1_shiftUp 8 = .ok (.getfield 34, 3) := by decide +kernel
theorem dX1_shiftUp_11 : decode cX1_shiftUp 11 = .ok (.if_icmp .ge 36, 3) := by decide +kernel
theorem dX1_shiftUp_14 : decode cX1_shiftUp 14 = .ok (.lload_n 3, 1) := by decide +kernel
theorem dX1_shiftUp_15 : decode cX1_shiftUp 15 = .ok (.aload_n 0, 1) := by decide +kernel
theorem dX1_shiftUp_16 : decode cX1_shiftUp 16 = .ok (.getfield 59, 3) := by decide +kernel
theorem dX1_shiftUp_19 : decode cX1_shiftUp 19 = .ok (.iload 5, 2) := by decide +kernel
theorem dX1_shiftUp_21 : decode cX1_shiftUp 21 = .ok (.iaload, 1) := by decide +kernel
theorem dX1_shiftUp_22 : decode cX1_shiftUp 22 = .ok (.i2l, 1) := by decide +kernel
theorem dX1_shiftUp_23 : decode cX1_shiftUp 23 = .ok (.iload_n 1, 1) := by decide +kernel
theorem dX1_shiftUp_24 : decode cX1_shiftUp 24 = .ok (.lshl, 1) := by decide +kernel
theorem dX1_shiftUp_25 : decode cX1_shiftUp 25 = .ok (.lor, 1) := by decide +kernel
theorem dX1_shiftUp_26 : decode cX1_shiftUp 26 = .ok (.lstore_n 3, 1) := by decide +kernel
theorem dX1_shiftUp_27 : decode cX1_shiftUp 27 = .ok (.aload_n 2, 1) := by decide +kernel
theorem dX1_shiftUp_28 : decode cX1_shiftUp 28 = .ok (.iload 5, 2) := by decide +kernel
theorem dX1_shiftUp_30 : decode cX1_shiftUp 30 = .ok (.lload_n 3, 1) := by decide +kernel
theorem dX1_shiftUp_31 : decode cX1_shiftUp 31 = .ok (.l2i, 1) := by decide +kernel
theorem dX1_shiftUp_32 : decode cX1_shiftUp 32 = .ok (.ldc 91, 2) := by decide +kernel
theorem dX1_shiftUp_34 : decode cX1_shiftUp 34 = .ok (.iand, 1) := by decide +kernel
theorem dX1_shiftUp_35 : decode cX1_shiftUp 35 = .ok (.iastore, 1) := by decide +kernel
theorem dX1_shiftUp_36 : decode cX1_shiftUp 36 = .ok (.lload_n 3, 1) := by decide +kernel
theorem dX1_shiftUp_37 : decode cX1_shiftUp 37 = .ok (.bipush 31, 2) := by decide +kernel
theorem dX1_shiftUp_39 : decode cX1_shiftUp 39 = .ok (.lushr, 1) := by decide +kernel
theorem dX1_shiftUp_40 : decode cX1_shiftUp 40 = .ok (.lstore_n 3, 1) := by decide +kernel
theorem dX1_shiftUp_41 : decode cX1_shiftUp 41 = .ok (.iinc 5 1, 3) := by decide +kernel
theorem dX1_shiftUp_44 : decode cX1_shiftUp 44 = .ok (.goto (-39), 3) := by decide +kernel
theorem dX1_shiftUp_47 : decode cX1_shiftUp 47 = .ok (.lload_n 3, 1) := by decide +kernel
theorem dX1_shiftUp_48 : decode cX1_shiftUp 48 = .ok (.l2i, 1) := by decide +kernel
theorem dX1_shiftUp_49 : decode cX1_shiftUp 49 = .ok (.ireturn, 1) := by decide +kernel
theorem dX1_guessDigit_0 : decode cX1_guessDigit 0 = .ok (.aload_n 0, 1) := by decide +kernel
theorem dX1_guessDigit_1 : decode cX1_guessDigit 1 = .ok (.getfield 26, 3) := by decide +kernel
theorem dX1_guessDigit_4 : decode cX1_guessDigit 4 = .ok (.iload_n 1, 1) := by decide +kernel
theorem dX1_guessDigit_5 : decode cX1_guessDigit 5 = .ok (.iload_n 2, 1) := by decide +kernel
theorem dX1_guessDigit_6 : decode cX1_guessDigit 6 = .ok (.iadd, 1) := by decide +kernel
theorem dX1_guessDigit_7 : decode cX1_guessDigit 7 = .ok (.iaload, 1) := by decide +kernel
theorem dX1_guessDigit_8 : decode cX1_guessDigit 8 = .ok (.i2l, 1) := by decide +kernel
theorem dX1_guessDigit_9 : decode cX1_guessDigit 9 = .ok (.bipush 31, 2) := by decide +kernel
theorem dX1_guessDigit_11 : decode cX1_guessDigit 11 = .ok (.lshl, 1) := by decide +kernel
theorem dX1_guessDigit_12 : decode cX1_guessDigit 12 = .ok (.aload_n 0, 1) := by decide +kernel
theorem dX1_guessDigit_13 : decode cX1_guessDigit 13 = .ok (.getfield 26, 3) := by decide +kernel
theorem dX1_guessDigit_16 : decode cX1_guessDigit 16 = .ok (.iload_n 1, 1) := by decide +kernel
theorem dX1_guessDigit_17 : decode cX1_guessDigit 17 = .ok (.iload_n 2, 1) := by decide +kernel
theorem dX1_guessDigit_18 : decode cX1_guessDigit 18 = .ok (.iadd, 1) := by decide +kernel
theorem dX1_guessDigit_19 : decode cX1_guessDigit 19 = .ok (.iconst 1, 1) := by decide +kernel
theorem dX1_guessDigit_20 : decode cX1_guessDigit 20 = .ok (.isub, 1) := by decide +kernel
theorem dX1_guessDigit_21 : decode cX1_guessDigit 21 = .ok (.iaload, 1) := by decide +kernel
theorem dX1_guessDigit_22 : decode cX1_guessDigit 22 = .ok (.i2l, 1) := by decide +kernel
theorem dX1_guessDigit_23 : decode cX1_guessDigit 23 = .ok (.lor, 1) := by decide +kernel
theorem dX1_guessDigit_24 : decode cX1_guessDigit 24 = .ok (.lstore_n 3, 1) := by decide +kernel
theorem dX1_guessDigit_25 : decode cX1_guessDigit 25 = .ok (.aload_n 0, 1) := by decide +kernel
theorem dX1_guessDigit_26 : decode cX1_guessDigit 26 = .ok (.getfield 30, 3) := by decide +kernel
theorem dX1_guessDigit_29 : decode cX1_guessDigit 29 = .ok (.iload_n 2, 1) := by decide +kernel
theorem dX1_guessDigit_30 : decode cX1_guessDigit 30 = .ok (.iconst 1, 1) := by decide +kernel
theorem dX1_guessDigit_31 : decode cX1_guessDigit 31 = .ok (.isub, 1) := by decide +kernel
theorem dX1_guessDigit_32 : decode cX1_guessDigit 32 = .ok (.iaload, 1) := by decide +kernel
theorem dX1_guessDigit_33 : decode cX1_guessDigit 33 = .ok (.i2l, 1) := by decide +kernel
theorem dX1_guessDigit_34 : decode cX1_guessDigit 34 = .ok (.lstore 5, 2) := by decide +kernel
theorem dX1_guessDigit_36 : decode cX1_guessDigit 36 = .ok (.aload_n 0, 1) := by decide +kernel
theorem dX1_guessDigit_37 : decode cX1_guessDigit 37 = .ok (.getfield 30, 3) := by decide +kernel
theorem dX1_guessDigit_40 : decode cX1_guessDigit 40 = .ok (.iload_n 2, 1) := by decide +kernel
theorem dX1_guessDigit_41 : decode cX1_guessDigit 41 = .ok (.iconst 2, 1) := by decide +kernel
theorem dX1_guessDigit_42 : decode cX1_guessDigit 42 = .ok (.isub, 1) := by decide +kernel
theorem dX1_guessDigit_43 : decode cX1_guessDigit 43 = .ok (.iaload, 1) := by decide +kernel
theorem dX1_guessDigit_44 : decode cX1_guessDigit 44 = .ok (.i2l, 1) := by decide +kernel
theorem dX1_guessDigit_45 : decode cX1_guessDigit 45 = .ok (.lstore 7, 2) := by decide +kernel
theorem dX1_guessDigit_47 : decode cX1_guessDigit 47 = .ok (.lload_n 3, 1) := by decide +kernel
theorem dX1_guessDigit_48 : decode cX1_guessDigit 48 = .ok (.lload 5, 2) := by decide +kernel
theorem dX1_guessDigit_50 : decode cX1_guessDigit 50 = .ok (.ldiv, 1) := by decide +kernel
theorem dX1_guessDigit_51 : decode cX1_guessDigit 51 = .ok (.lstore 9, 2) := by decide +kernel
theorem dX1_guessDigit_53 : decode cX1_guessDigit 53 = .ok (.lload_n 3, 1) := by decide +kernel
theorem dX1_guessDigit_54 : decode cX1_guessDigit 54 = .ok (.lload 5, 2) := by decide +kernel
theorem dX1_guessDigit_56 : decode cX1_guessDigit 56 = .ok (.lrem, 1) := by decide +kernel
theorem dX1_guessDigit_57 : decode cX1_guessDigit 57 = .ok (.lstore 11, 2) := by decide +kernel
theorem dX1_guessDigit_59 : decode cX1_guessDigit 59 = .ok (.iconst 0, 1) := by decide +kernel
theorem dX1_guessDigit_60 : decode cX1_guessDigit 60 = .ok (.istore 13, 2) := by decide +kernel
theorem dX1_guessDigit_62 : decode cX1_guessDigit 62 = .ok (.iload 13, 2) := by decide +kernel
theorem dX1_guessDigit_64 : decode cX1_guessDigit 64 = .ok (.iconst 2, 1) := by decide +kernel
theorem dX1_guessDigit_65 : decode cX1_guessDigit 65 = .ok (.if_icmp .ge 73, 3) := by decide +kernel
theorem dX1_guessDigit_68 : decode cX1_guessDigit 68 = .ok (.lload 11, 2) := by decide +kernel
theorem dX1_guessDigit_70 : decode cX1_guessDigit 70 = .ok (.ldc2_w 92, 3) := by decide +kernel
theorem dX1_guessDigit_73 : decode cX1_guessDigit 73 = .ok (.lcmp, 1) := by decide +kernel
theorem dX1_guessDigit_74 : decode cX1_guessDigit 74 = .ok (.ifCond .gt 64, 3) := by decide +kernel
theorem dX1_guessDigit_77 : decode cX1_guessDigit 77 = .ok (.lload 11, 2) := by decide +kernel
theorem dX1_guessDigit_79 : decode cX1_guessDigit 79 = .ok (.bipush 31, 2) := by decide +kernel
theorem dX1_guessDigit_81 : decode cX1_guessDigit 81 = .ok (.lshl, 1) := by decide +kernel
theorem dX1_guessDigit_82 : decode cX1_guessDigit 82 = .ok (.aload_n 0, 1) := by decide +kernel
theorem dX1_guessDigit_83 : decode cX1_guessDigit 83 = .ok (.getfield 26, 3) := by decide +kernel
theorem dX1_guessDigit_86 : decode cX1_guessDigit 86 = .ok (.iload_n 1, 1) := by decide +kernel
theorem dX1_guessDigit_87 : decode cX1_guessDigit 87 = .ok (.iload_n 2, 1) := by decide +kernel
theorem dX1_guessDigit_88 : decode cX1_guessDigit 88 = .ok (.iadd, 1) := by decide +kernel
theorem dX1_guessDigit_89 : decode cX1_guessDigit 89 = .ok (.iconst 2, 1) := by decide +kernel
theorem dX1_guessDigit_90 : decode cX1_guessDigit 90 = .ok (.isub, 1) := by decide +kernel
theorem dX1_guessDigit_91 : decode cX1_guessDigit 91 = .ok (.iaload, 1) := by decide +kernel
theorem dX1_guessDigit_92 : decode cX1_guessDigit 92 = .ok (.i2l, 1) := by decide +kernel
theorem dX1_guessDigit_93 : decode cX1_guessDigit 93 = .ok (.lor, 1) := by decide +kernel
theorem dX1_guessDigit_94 : decode cX1_guessDigit 94 = .ok (.lstore 14, 2) := by decide +kernel
theorem dX1_guessDigit_96 : decode cX1_guessDigit 96 = .ok (.lload 9, 2) := by decide +kernel
theorem dX1_guessDigit_98 : decode cX1_guessDigit 98 = .ok (.ldc2_w 92, 3) := by decide +kernel
theorem dX1_guessDigit_101 : decode cX1_guessDigit 101 = .ok (.lcmp, 1) := by decide +kernel
theorem dX1_guessDigit_102 : decode cX1_guessDigit 102 = .ok (.ifCond .gt 17, 3) := by decide +kernel
theorem dX1_guessDigit_105 : decode cX1_guessDigit 105 = .ok (.lload 9, 2) := by decide +kernel
theorem dX1_guessDigit_107 : decode cX1_guessDigit 107 = .ok (.lload 7, 2) := by decide +kernel
theorem dX1_guessDigit_109 : decode cX1_guessDigit 109 = .ok (.lmul, 1) := by decide +kernel
theorem dX1_guessDigit_110 : decode cX1_guessDigit 110 = .ok (.lload 14, 2) := by decide +kernel
theorem dX1_guessDigit_112 : decode cX1_guessDigit 112 = .ok (.lcmp, 1) := by decide +kernel
theorem dX1_guessDigit_113 : decode cX1_guessDigit 113 = .ok (.ifCond .gt 6, 3) := by decide +kernel
theorem dX1_guessDigit_116 : decode cX1_guessDigit 116 = .ok (.goto 22, 3) := by decide +kernel
theorem dX1_guessDigit_119 : decode cX1_guessDigit 119 = .ok (.lload 9, 2) := by decide +kernel
theorem dX1_guessDigit_121 : decode cX1_guessDigit 121 = .ok (.lconst 1, 1) := by decide +kernel
theorem dX1_guessDigit_122 : decode cX1_guessDigit 122 = .ok (.lsub, 1) := by decide +kernel
theorem dX1_guessDigit_123 : decode cX1_guessDigit 123 = .ok (.lstore 9, 2) := by decide +kernel
theorem dX1_guessDigit_125 : decode cX1_guessDigit 125 = .ok (.lload 11, 2) := by decide +kernel
theorem dX1_guessDigit_127 : decode cX1_guessDigit 127 = .ok (.lload 5, 2) := by decide +kernel
theorem dX1_guessDigit_129 : decode cX1_guessDigit 129 = .ok (.ladd, 1) := by decide +kernel
theorem dX1_guessDigit_130 : decode cX1_guessDigit 130 = .ok (.lstore 11, 2) := by decide +kernel
theorem dX1_guessDigit_132 : decode cX1_guessDigit 132 = .ok (.iinc 13 1, 3) := by decide +kernel
theorem dX1_guessDigit_135 : decode cX1_guessDigit 135 = .ok (.goto (-73), 3) := by decide +kernel
theorem dX1_guessDigit_138 : decode cX1_guessDigit 138 = .ok (.lload 9, 2) := by decide +kernel
theorem dX1_guessDigit_140 : decode cX1_guessDigit 140 = .ok (.lreturn, 1) := by decide +kernel
set_option maxRecDepth 20000 in
theorem ggX1_takeOut_X1_putBack : GoodIn wsX1_takeOut wsX1_putBack := goodIn_r _ [8, 2, 1, 3, 9, 10, 11, 12, 13] (by decide +kernel) (by decide +kernel)
set_option maxRecDepth 20000 in
theorem gX1_takeOut_X1_putBack : GoodIn wsX1_takeOut (wsV RX1 94 RX1 yX1_putBack wsX1_putBack) := goodIn_app (goodIn_of _ (by decide +kernel)) ggX1_takeOut_X1_putBack
theorem dX1_takeOut_0 : decode cX1_takeOut 0 = .ok (.lconst 0, 1) := by decide +kernel
theorem dX1_takeOut_1 : decode cX1_takeOut 1 = .ok (.lstore 5, 2) := by decide +kernel
theorem dX1_takeOut_3 : decode cX1_takeOut 3 = .ok (.iconst 0, 1) := by decide +kernel
theorem dX1_takeOut_4 : decode cX1_takeOut 4 = .ok (.istore 7, 2) := by decide +kernel
theorem dX1_takeOut_6 : decode cX1_takeOut 6 = .ok (.iload 7, 2) := by decide +kernel
theorem dX1_takeOut_8 : decode cX1_takeOut 8 = .ok (.iload 4, 2) := by decide +kernel
theorem dX1_takeOut_10 : decode cX1_takeOut 10 = .ok (.if_icmp .ge 70, 3) := by decide +kernel
theorem dX1_takeOut_13 : decode cX1_takeOut 13 = .ok (.lload 5, 2) := by decide +kernel
theorem dX1_takeOut_15 : decode cX1_takeOut 15 = .ok (.lload_n 1, 1) := by decide +kernel
theorem dX1_takeOut_16 : decode cX1_takeOut 16 = .ok (.aload_n 0, 1) := by decide +kernel
theorem dX1_takeOut_17 : decode cX1_takeOut 17 = .ok (.getfield 30, 3) := by decide +kernel
theorem dX1_takeOut_20 : decode cX1_takeOut 20 = .ok (.iload 7, 2) := by decide +kernel
theorem dX1_takeOut_22 : decode cX1_takeOut 22 = .ok (.iaload, 1) := by decide +kernel
theorem dX1_takeOut_23 : decode cX1_takeOut 23 = .ok (.i2l, 1) := by decide +kernel
theorem dX1_takeOut_24 : decode cX1_takeOut 24 = .ok (.lmul, 1) := by decide +kernel
theorem dX1_takeOut_25 : decode cX1_takeOut 25 = .ok (.ladd, 1) := by decide +kernel
theorem dX1_takeOut_26 : decode cX1_takeOut 26 = .ok (.lstore 5, 2) := by decide +kernel
theorem dX1_takeOut_28 : decode cX1_takeOut 28 = .ok (.aload_n 0, 1) := by decide +kernel
theorem dX1_takeOut_29 : decode cX1_takeOut 29 = .ok (.getfield 26, 3) := by decide +kernel
theorem dX1_takeOut_32 : decode cX1_takeOut 32 = .ok (.iload_n 3, 1) := by decide +kernel
theorem dX1_takeOut_33 : decode cX1_takeOut 33 = .ok (.iload 7, 2) := by decide +kernel
theorem dX1_takeOut_35 : decode cX1_takeOut 35 = .ok (.iadd, 1) := by decide +kernel
theorem dX1_takeOut_36 : decode cX1_takeOut 36 = .ok (.iaload, 1) := by decide +kernel
theorem dX1_takeOut_37 : decode cX1_takeOut 37 = .ok (.lload 5, 2) := by decide +kernel
theorem dX1_takeOut_39 : decode cX1_takeOut 39 = .ok (.l2i, 1) := by decide +kernel
theorem dX1_takeOut_40 : decode cX1_takeOut 40 = .ok (.ldc 91, 2) := by decide +kernel
theorem dX1_takeOut_42 : decode cX1_takeOut 42 = .ok (.iand, 1) := by decide +kernel
theorem dX1_takeOut_43 : decode cX1_takeOut 43 = .ok (.isub, 1) := by decide +kernel
theorem dX1_takeOut_44 : decode cX1_takeOut 44 = .ok (.istore 8, 2) := by decide +kernel
theorem dX1_takeOut_46 : decode cX1_takeOut 46 = .ok (.aload_n 0, 1) := by decide +kernel
theorem dX1_takeOut_47 : decode cX1_takeOut 47 = .ok (.getfield 26, 3) := by decide +kernel
theorem dX1_takeOut_50 : decode cX1_takeOut 50 = .ok (.iload_n 3, 1) := by decide +kernel
theorem dX1_takeOut_51 : decode cX1_takeOut 51 = .ok (.iload 7, 2) := by decide +kernel
theorem dX1_takeOut_53 : decode cX1_takeOut 53 = .ok (.iadd, 1) := by decide +kernel
theorem dX1_takeOut_54 : decode cX1_takeOut 54 = .ok (.iload 8, 2) := by decide +kernel
theorem dX1_takeOut_56 : decode cX1_takeOut 56 = .ok (.ldc 91, 2) := by decide +kernel
theorem dX1_takeOut_58 : decode cX1_takeOut 58 = .ok (.iand, 1) := by decide +kernel
theorem dX1_takeOut_59 : decode cX1_takeOut 59 = .ok (.iastore, 1) := by decide +kernel
theorem dX1_takeOut_60 : decode cX1_takeOut 60 = .ok (.lload 5, 2) := by decide +kernel
theorem dX1_takeOut_62 : decode cX1_takeOut 62 = .ok (.bipush 31, 2) := by decide +kernel
theorem dX1_takeOut_64 : decode cX1_takeOut 64 = .ok (.lushr, 1) := by decide +kernel
theorem dX1_takeOut_65 : decode cX1_takeOut 65 = .ok (.iload 8, 2) := by decide +kernel
theorem dX1_takeOut_67 : decode cX1_takeOut 67 = .ok (.bipush 31, 2) := by decide +kernel
theorem dX1_takeOut_69 : decode cX1_takeOut 69 = .ok (.iushr, 1) := by decide +kernel
theorem dX1_takeOut_70 : decode cX1_takeOut 70 = .ok (.i2l, 1) := by decide +kernel
theorem dX1_takeOut_71 : decode cX1_takeOut 71 = .ok (.ladd, 1) := by decide +kernel
theorem dX1_takeOut_72 : decode cX1_takeOut 72 = .ok (.lstore 5, 2) := by decide +kernel
theorem dX1_takeOut_74 : decode cX1_takeOut 74 = .ok (.iinc 7 1, 3) := by decide +kernel
theorem dX1_takeOut_77 : decode cX1_takeOut 77 = .ok (.goto (-71), 3) := by decide +kernel
theorem dX1_takeOut_80 : decode cX1_takeOut 80 = .ok (.aload_n 0, 1) := by decide +kernel
theorem dX1_takeOut_81 : decode cX1_takeOut 81 = .ok (.getfield 26, 3) := by decide +kernel
theorem dX1_takeOut_84 : decode cX1_takeOut 84 = .ok (.iload_n 3, 1) := by decide +kernel
theorem dX1_takeOut_85 : decode cX1_takeOut 85 = .ok (.iload 4, 2) := by decide +kernel
theorem dX1_takeOut_87 : decode cX1_takeOut 87 = .ok (.iadd, 1) := by decide +kernel
theorem dX1_takeOut_88 : decode cX1_takeOut 88 = .ok (.iaload, 1) := by decide +kernel
theorem dX1_takeOut_89 : decode cX1_takeOut 89 = .ok (.i2l, 1) := by decide +kernel
theorem dX1_takeOut_90 : decode cX1_takeOut 90 = .ok (.lload 5, 2) := by decide +kernel
theorem dX1_takeOut_92 : decode cX1_takeOut 92 = .ok (.lcmp, 1) := by decide +kernel
theorem dX1_takeOut_93 : decode cX1_takeOut 93 = .ok (.ifCond .ge 7, 3) := by decide +kernel
theorem dX1_takeOut_96 : decode cX1_takeOut 96 = .ok (.iconst 1, 1) := by decide +kernel
theorem dX1_takeOut_97 : decode cX1_takeOut 97 = .ok (.goto 4, 3) := by decide +kernel
theorem dX1_takeOut_100 : decode cX1_takeOut 100 = .ok (.iconst 0, 1) := by decide +kernel
theorem dX1_takeOut_101 : decode cX1_takeOut 101 = .ok (.istore 7, 2) := by decide +kernel
theorem dX1_takeOut_103 : decode cX1_takeOut 103 = .ok (.aload_n 0, 1) := by decide +kernel
theorem dX1_takeOut_104 : decode cX1_takeOut 104 = .ok (.getfield 26, 3) := by decide +kernel
theorem dX1_takeOut_107 : decode cX1_takeOut 107 = .ok (.iload_n 3, 1) := by decide +kernel
theorem dX1_takeOut_108 : decode cX1_takeOut 108 = .ok (.iload 4, 2) := by decide +kernel
theorem dX1_takeOut_110 : decode cX1_takeOut 110 = .ok (.iadd, 1) := by decide +kernel
theorem dX1_takeOut_111 : decode cX1_takeOut 111 = .ok (.iconst 0, 1) := by decide +kernel
theorem dX1_takeOut_112 : decode cX1_takeOut 112 = .ok (.iastore, 1) := by decide +kernel
theorem dX1_takeOut_113 : decode cX1_takeOut 113 = .ok (.iload 7, 2) := by decide +kernel
theorem dX1_takeOut_115 : decode cX1_takeOut 115 = .ok (.ifCond .eq 15, 3) := by decide +kernel
theorem dX1_takeOut_118 : decode cX1_takeOut 118 = .ok (.aload_n 0, 1) := by decide +kernel
theorem dX1_takeOut_119 : decode cX1_takeOut 119 = .ok (.iload_n 3, 1) := by decide +kernel
theorem dX1_takeOut_120 : decode cX1_takeOut 120 = .ok (.iload 4, 2) := by decide +kernel
theorem dX1_takeOut_122 : decode cX1_takeOut 122 = .ok (.invokevirtual 94, 3) := by decide +kernel
theorem dX1_takeOut_125 : decode cX1_takeOut 125 = .ok (.lload_n 1, 1) := by decide +kernel
theorem dX1_takeOut_126 : decode cX1_takeOut 126 = .ok (.l2i, 1) := by decide +kernel
theorem dX1_takeOut_127 : decode cX1_takeOut 127 = .ok (.iconst 1, 1) := by decide +kernel
theorem dX1_takeOut_128 : decode cX1_takeOut 128 = .ok (.isub, 1) := by decide +kernel
theorem dX1_takeOut_129 : decode cX1_takeOut 129 = .ok (.ireturn, 1) := by decide +kernel
theorem dX1_takeOut_130 : decode cX1_takeOut 130 = .ok (.lload_n 1, 1) := by decide +kernel
theorem dX1_takeOut_131 : decode cX1_takeOut 131 = .ok (.l2i, 1) := by decide +kernel
theorem dX1_takeOut_132 : decode cX1_takeOut 132 = .ok (.ireturn, 1) := by decide +kernel
theorem dX1_putBack_0 : decode cX1_putBack 0 = .ok (.lconst 0, 1) := by decide +kernel
theorem dX1_putBack_1 : decode cX1_putBack 1 = .ok (.lstore_n 3, 1) := by decide +kernel
theorem dX1_putBack_2 : decode cX1_putBack 2 = .ok (.iconst 0, 1) := by decide +kernel
theorem dX1_putBack_3 : decode cX1_putBack 3 = .ok (.istore 5, 2) := by decide +kernel
theorem dX1_putBack_5 : decode cX1_putBack 5 = .ok (.iload 5, 2) := by decide +kernel
theorem dX1_putBack_7 : decode cX1_putBack 7 = .ok (.iload_n 2, 1) := by decide +kernel
theorem dX1_putBack_8 : decode cX1_putBack 8 = .ok (.if_icmp .ge 50, 3) := by decide +kernel
theorem dX1_putBack_11 : decode cX1_putBack 11 = .ok (.lload_n 3, 1) := by decide +kernel
theorem dX1_putBack_12 : decode cX1_putBack 12 = .ok (.aload_n 0, 1) := by decide +kernel
theorem dX1_putBack_13 : decode cX1_putBack 13 = .ok (.getfield 26, 3) := by decide +kernel
theorem dX1_putBack_16 : decode cX1_putBack 16 = .ok (.iload_n 1, 1) := by decide +kernel
theorem dX1_putBack_17 : decode cX1_putBack 17 = .ok (.iload 5, 2) := by decide +kernel
theorem dX1_putBack_19 : decode cX1_putBack 19 = .ok (.iadd, 1) := by decide +kernel
theorem dX1_putBack_20 : decode cX1_putBack 20 = .ok (.iaload, 1) := by decide +kernel
theorem dX1_putBack_21 : decode cX1_putBack 21 = .ok (.i2l, 1) := by decide +kernel
theorem dX1_putBack_22 : decode cX1_putBack 22 = .ok (.aload_n 0, 1) := by decide +kernel
theorem dX1_putBack_23 : decode cX1_putBack 23 = .ok (.getfield 30, 3) := by decide +kernel
theorem dX1_putBack_26 : decode cX1_putBack 26 = .ok (.iload 5, 2) := by decide +kernel
theorem dX1_putBack_28 : decode cX1_putBack 28 = .ok (.iaload, 1) := by decide +kernel
theorem dX1_putBack_29 : decode cX1_putBack 29 = .ok (.i2l, 1) := by decide +kernel
theorem dX1_putBack_30 : decode cX1_putBack 30 = .ok (.ladd, 1) := by decide +kernel
theorem dX1_putBack_31 : decode cX1_putBack 31 = .ok (.ladd, 1) := by decide +kernel
theorem dX1_putBack_32 : decode cX1_putBack 32 = .ok (.lstore_n 3, 1) := by decide +kernel
theorem dX1_putBack_33 : decode cX1_putBack 33 = .ok (.aload_n 0, 1) := by decide +kernel
theorem dX1_putBack_34 : decode cX1_putBack 34 = .ok (.getfield 26, 3) := by decide +kernel
theorem dX1_putBack_37 : decode cX1_putBack 37 = .ok (.iload_n 1, 1) := by decide +kernel
theorem dX1_putBack_38 : decode cX1_putBack 38 = .ok (.iload 5, 2) := by decide +kernel
theorem dX1_putBack_40 : decode cX1_putBack 40 = .ok (.iadd, 1) := by decide +kernel
theorem dX1_putBack_41 : decode cX1_putBack 41 = .ok (.lload_n 3, 1) := by decide +kernel
theorem dX1_putBack_42 : decode cX1_putBack 42 = .ok (.l2i, 1) := by decide +kernel
theorem dX1_putBack_43 : decode cX1_putBack 43 = .ok (.ldc 91, 2) := by decide +kernel
theorem dX1_putBack_45 : decode cX1_putBack 45 = .ok (.iand, 1) := by decide +kernel
theorem dX1_putBack_46 : decode cX1_putBack 46 = .ok (.iastore, 1) := by decide +kernel
theorem dX1_putBack_47 : decode cX1_putBack 47 = .ok (.lload_n 3, 1) := by decide +kernel
theorem dX1_putBack_48 : decode cX1_putBack 48 = .ok (.bipush 31, 2) := by decide +kernel
theorem dX1_putBack_50 : decode cX1_putBack 50 = .ok (.lushr, 1) := by decide +kernel
theorem dX1_putBack_51 : decode cX1_putBack 51 = .ok (.lstore_n 3, 1) := by decide +kernel
theorem dX1_putBack_52 : decode cX1_putBack 52 = .ok (.iinc 5 1, 3) := by decide +kernel
theorem dX1_putBack_55 : decode cX1_putBack 55 = .ok (.goto (-50), 3) := by decide +kernel
theorem dX1_putBack_58 : decode cX1_putBack 58 = .ok (.return_, 1) := by decide +kernel
set_option maxRecDepth 20000 in
theorem ggX2_init_X3_init : GoodIn wsX2_init wsX3_init := goodIn_r _ [11, 12, 2, 3, 13, 14, 15, 16, 17] (by decide +kernel) (by decide +kernel)
set_option maxRecDepth 20000 in
theorem gX2_init_X3_init : GoodIn wsX2_init (wsX3_init) := ggX2_init_X3_init
theorem dX2_init_0 : decode cX2_init 0 = .ok (.aload_n 0, 1) := by decide +kernel
theorem dX2_init_1 : decode cX2_init 1 = .ok (.invokespecial 3, 3) := by decide +kernel
theorem dX2_init_4 : decode cX2_init 4 = .ok (.aload_n 0, 1) := by decide +kernel
theorem dX2_init_5 : decode cX2_init 5 = .ok (.new 9, 3) := by decide +kernel
theorem dX2_init_8 : decode cX2_init 8 = .ok (.dup, 1) := by decide +kernel
theorem dX2_init_9 : decode cX2_init 9 = .ok (.bipush 20, 2) := by decide +kernel
theorem dX2_init_11 : decode cX2_init 11 = .ok (.invokespecial 11, 3) := by decide +kernel
theorem dX2_init_14 : decode cX2_init 14 = .ok (.putfield 14, 3) := by decide +kernel
theorem dX2_init_17 : decode cX2_init 17 = .ok (.aload_n 0, 1) := by decide +kernel
theorem dX2_init_18 : decode cX2_init 18 = .ok (.iconst 0, 1) := by decide +kernel
theorem dX2_init_19 : decode cX2_init 19 = .ok (.putfield 20, 3) := by decide +kernel
theorem dX2_init_22 : decode cX2_init 22 = .ok (.return_, 1) := by decide +kernel
set_option maxRecDepth 20000 in
theorem ggX2_open_X3_setZero : GoodIn wsX2_open wsX3_setZero := goodIn_r _ [9, 10, 11, 16, 17, 18] (by decide +kernel) (by decide +kernel)
set_option maxRecDepth 20000 in
theorem gX2_open_X3_setZero : GoodIn wsX2_open (wsV RX2 24 RX3 yX3_setZero wsX3_setZero) := goodIn_app (goodIn_of _ (by decide +kernel)) ggX2_open_X3_setZero
theorem dX2_open_0 : decode cX2_open 0 = .ok (.aload_n 0, 1) := by decide +kernel
theorem dX2_open_1 : decode cX2_open 1 = .ok (.getfield 14, 3) := by decide +kernel
theorem dX2_open_4 : decode cX2_open 4 = .ok (.invokevirtual 24, 3) := by decide +kernel
theorem dX2_open_7 : decode cX2_open 7 = .ok (.aload_n 0, 1) := by decide +kernel
theorem dX2_open_8 : decode cX2_open 8 = .ok (.iload_n 1, 1) := by decide +kernel
theorem dX2_open_9 : decode cX2_open 9 = .ok (.putfield 27, 3) := by decide +kernel
theorem dX2_open_12 : decode cX2_open 12 = .ok (.aload_n 0, 1) := by decide +kernel
theorem dX2_open_13 : decode cX2_open 13 = .ok (.iconst 0, 1) := by decide +kernel
theorem dX2_open_14 : decode cX2_open 14 = .ok (.putfield 30, 3) := by decide +kernel
theorem dX2_open_17 : decode cX2_open 17 = .ok (.aload_n 0, 1) := by decide +kernel
theorem dX2_open_18 : decode cX2_open 18 = .ok (.iconst 1, 1) := by decide +kernel
theorem dX2_open_19 : decode cX2_open 19 = .ok (.putfield 20, 3) := by decide +kernel
theorem dX2_open_22 : decode cX2_open 22 = .ok (.return_, 1) := by decide +kernel
theorem dX2_takesMore_0 : decode cX2_takesMore 0 = .ok (.aload_n 0, 1) := by decide +kernel
theorem dX2_takesMore_1 : decode cX2_takesMore 1 = .ok (.getfield 20, 3) := by decide +kernel
theorem dX2_takesMore_4 : decode cX2_takesMore 4 = .ok (.iconst 1, 1) := by decide +kernel
theorem dX2_takesMore_5 : decode cX2_takesMore 5 = .ok (.if_icmp .ne 16, 3) := by decide +kernel
theorem dX2_takesMore_8 : decode cX2_takesMore 8 = .ok (.aload_n 0, 1) := by decide +kernel
theorem dX2_takesMore_9 : decode cX2_takesMore 9 = .ok (.getfield 30, 3) := by decide +kernel
theorem dX2_takesMore_12 : decode cX2_takesMore 12 = .ok (.bipush 20, 2) := by decide +kernel
theorem dX2_takesMore_14 : decode cX2_takesMore 14 = .ok (.if_icmp .ge 7, 3) := by decide +kernel
theorem dX2_takesMore_17 : decode cX2_takesMore 17 = .ok (.iconst 1, 1) := by decide +kernel
theorem dX2_takesMore_18 : decode cX2_takesMore 18 = .ok (.goto 4, 3) := by decide +kernel
theorem dX2_takesMore_21 : decode cX2_takesMore 21 = .ok (.iconst 0, 1) := by decide +kernel
theorem dX2_takesMore_22 : decode cX2_takesMore 22 = .ok (.ireturn, 1) := by decide +kernel
theorem dX2_append_0 : decode cX2_append 0 = .ok (.aload_n 0, 1) := by decide +kernel
theorem dX2_append_1 : decode cX2_append 1 = .ok (.getfield 14, 3) := by decide +kernel
theorem dX2_append_4 : decode cX2_append 4 = .ok (.getfield 33, 3) := by decide +kernel
theorem dX2_append_7 : decode cX2_append 7 = .ok (.aload_n 0, 1) := by decide +kernel
theorem dX2_append_8 : decode cX2_append 8 = .ok (.getfield 30, 3) := by decide +kernel
theorem dX2_append_11 : decode cX2_append 11 = .ok (.iload_n 1, 1) := by decide +kernel
theorem dX2_append_12 : decode cX2_append 12 = .ok (.iastore, 1) := by decide +kernel
theorem dX2_append_13 : decode cX2_append 13 = .ok (.aload_n 0, 1) := by decide +kernel
theorem dX2_append_14 : decode cX2_append 14 = .ok (.dup, 1) := by decide +kernel
theorem dX2_append_15 : decode cX2_append 15 = .ok (.getfield 30, 3) := by decide +kernel
theorem dX2_append_18 : decode cX2_append 18 = .ok (.iconst 1, 1) := by decide +kernel
theorem dX2_append_19 : decode cX2_append 19 = .ok (.iadd, 1) := by decide +kernel
theorem dX2_append_20 : decode cX2_append 20 = .ok (.putfield 30, 3) := by decide +kernel
theorem dX2_append_23 : decode cX2_append 23 = .ok (.iload_n 1, 1) := by decide +kernel
theorem dX2_append_24 : decode cX2_append 24 = .ok (.ifCond .eq 32, 3) := by decide +kernel
theorem dX2_append_27 : decode cX2_append 27 = .ok (.aload_n 0, 1) := by decide +kernel
theorem dX2_append_28 : decode cX2_append 28 = .ok (.getfield 27, 3) := by decide +kernel
theorem dX2_append_31 : decode cX2_append 31 = .ok (.ifCond .eq 25, 3) := by decide +kernel
theorem dX2_append_34 : decode cX2_append 34 = .ok (.aload_n 0, 1) := by decide +kernel
theorem dX2_append_35 : decode cX2_append 35 = .ok (.getfield 14, 3) := by decide +kernel
theorem dX2_append_38 : decode cX2_append 38 = .ok (.aload_n 0, 1) := by decide +kernel
theorem dX2_append_39 : decode cX2_append 39 = .ok (.getfield 30, 3) := by decide +kernel
theorem dX2_append_42 : decode cX2_append 42 = .ok (.putfield 37, 3) := by decide +kernel
theorem dX2_append_45 : decode cX2_append 45 = .ok (.aload_n 0, 1) := by decide +kernel
theorem dX2_append_46 : decode cX2_append 46 = .ok (.getfield 14, 3) := by decide +kernel
theorem dX2_append_49 : decode cX2_append 49 = .ok (.aload_n 0, 1) := by decide +kernel
theorem dX2_append_50 : decode cX2_append 50 = .ok (.getfield 27, 3) := by decide +kernel
theorem dX2_append_53 : decode cX2_append 53 = .ok (.putfield 40, 3) := by decide +kernel
theorem dX2_append_56 : decode cX2_append 56 = .ok (.return_, 1) := by decide +kernel
theorem dX2_hasNumber_0 : decode cX2_hasNumber 0 = .ok (.aload_n 0, 1) := by decide +kernel
theorem dX2_hasNumber_1 : decode cX2_hasNumber 1 = .ok (.getfield 20, 3) := by decide +kernel
theorem dX2_hasNumber_4 : decode cX2_hasNumber 4 = .ok (.ifCond .eq 7, 3) := by decide +kernel
theorem dX2_hasNumber_7 : decode cX2_hasNumber 7 = .ok (.iconst 1, 1) := by decide +kernel
theorem dX2_hasNumber_8 : decode cX2_hasNumber 8 = .ok (.goto 4, 3) := by decide +kernel
theorem dX2_hasNumber_11 : decode cX2_hasNumber 11 = .ok (.iconst 0, 1) := by decide +kernel
theorem dX2_hasNumber_12 : decode cX2_hasNumber 12 = .ok (.ireturn, 1) := by decide +kernel
theorem dX2_finish_0 : decode cX2_finish 0 = .ok (.aload_n 0, 1) := by decide +kernel
theorem dX2_finish_1 : decode cX2_finish 1 = .ok (.iconst 2, 1) := by decide +kernel
theorem dX2_finish_2 : decode cX2_finish 2 = .ok (.putfield 20, 3) := by decide +kernel
theorem dX2_finish_5 : decode cX2_finish 5 = .ok (.return_, 1) := by decide +kernel
theorem dJ6_compare_7cf53_0 : decode cJ6_compare_7cf53 0 = .ok (.iload_n 0, 1) := by decide +kernel
theorem dJ6_compare_7cf53_1 : decode cJ6_compare_7cf53 1 = .ok (.iload_n 1, 1) := by decide +kernel
theorem dJ6_compare_7cf53_2 : decode cJ6_compare_7cf53 2 = .ok (.if_icmp .ge 7, 3) := by decide +kernel
theorem dJ6_compare_7cf53_5 : decode cJ6_compare_7cf53 5 = .ok (.iconst (-1), 1) := by decide +kernel
theorem dJ6_compare_7cf53_6 : decode cJ6_compare_7cf53 6 = .ok (.goto 13, 3) := by decide +kernel
theorem dJ6_compare_7cf53_9 : decode cJ6_compare_7cf53 9 = .ok (.iload_n 0, 1) := by decide +kernel
theorem dJ6_compare_7cf53_10 : decode cJ6_compare_7cf53 10 = .ok (.iload_n 1, 1) := by decide +kernel
theorem dJ6_compare_7cf53_11 : decode cJ6_compare_7cf53 11 = .ok (.if_icmp .ne 7, 3) := by decide +kernel
theorem dJ6_compare_7cf53_14 : decode cJ6_compare_7cf53 14 = .ok (.iconst 0, 1) := by decide +kernel
theorem dJ6_compare_7cf53_15 : decode cJ6_compare_7cf53 15 = .ok (.goto 4, 3) := by decide +kernel
theorem dJ6_compare_7cf53_18 : decode cJ6_compare_7cf53 18 = .ok (.iconst 1, 1) := by decide +kernel
theorem dJ6_compare_7cf53_19 : decode cJ6_compare_7cf53 19 = .ok (.ireturn, 1) := by decide +kernel
theorem dJ6_numberOfLeadingZeros_0f7a4_0 : decode cJ6_numberOfLeadingZeros_0f7a4 0 = .ok (.iload_n 0, 1) := by decide +kernel
theorem dJ6_numberOfLeadingZeros_0f7a4_1 : decode cJ6_numberOfLeadingZeros_0f7a4 1 = .ok (.ifCond .gt 14, 3) := by decide +kernel
theorem dJ6_numberOfLeadingZeros_0f7a4_4 : decode cJ6_numberOfLeadingZeros_0f7a4 4 = .ok (.iload_n 0, 1) := by decide +kernel
theorem dJ6_numberOfLeadingZeros_0f7a4_5 : decode cJ6_numberOfLeadingZeros_0f7a4 5 = .ok (.ifCond .ne 8, 3) := by decide +kernel
theorem dJ6_numberOfLeadingZeros_0f7a4_8 : decode cJ6_numberOfLeadingZeros_0f7a4 8 = .ok (.bipush 32, 2) := by decide +kernel
theorem dJ6_numberOfLeadingZeros_0f7a4_10 : decode cJ6_numberOfLeadingZeros_0f7a4 10 = .ok (.goto 4, 3) := by decide +kernel
theorem dJ6_numberOfLeadingZeros_0f7a4_13 : decode cJ6_numberOfLeadingZeros_0f7a4 13 = .ok (.iconst 0, 1) := by decide +kernel
theorem dJ6_numberOfLeadingZeros_0f7a4_14 : decode cJ6_numberOfLeadingZeros_0f7a4 14 = .ok (.ireturn, 1) := by decide +kernel
theorem dJ6_numberOfLeadingZeros_0f7a4_15 : decode cJ6_numberOfLeadingZeros_0f7a4 15 = .ok (.bipush 31, 2) := by decide +kernel
theorem dJ6_numberOfLeadingZeros_0f7a4_17 : decode cJ6_numberOfLeadingZeros_0f7a4 17 = .ok (.istore_n 1, 1) := by decide +kernel
theorem dJ6_numberOfLeadingZeros_0f7a4_18 : decode cJ6_numberOfLeadingZeros_0f7a4 18 = .ok (.iload_n 0, 1) := by decide +kernel
theorem dJ6_numberOfLeadingZeros_0f7a4_19 : decode cJ6_numberOfLeadingZeros_0f7a4 19 = .ok (.ldc_w 264, 3) := by decide +kernel
theorem dJ6_numberOfLeadingZeros_0f7a4_22 : decode cJ6_numberOfLeadingZeros_0f7a4 22 = .ok (.if_icmp .lt 11, 3) := by decide +kernel
theorem dJ6_numberOfLeadingZeros_0f7a4_25 : decode cJ6_numberOfLeadingZeros_0f7a4 25 = .ok (.iinc 1 (-16), 3) := by decide +kernel
theorem dJ6_numberOfLeadingZeros_0f7a4_28 : decode cJ6_numberOfLeadingZeros_0f7a4 28 = .ok (.iload_n 0, 1) := by decide +kernel
theorem dJ6_numberOfLeadingZeros_0f7a4_29 : decode cJ6_numberOfLeadingZeros_0f7a4 29 = .ok (.bipush 16, 2) := by decide +kernel
theorem dJ6_numberOfLeadingZeros_0f7a4_31 : decode cJ6_numberOfLeadingZeros_0f7a4 31 = .ok (.iushr, 1) := by decide +kernel
theorem dJ6_numberOfLeadingZeros_0f7a4_32 : decode cJ6_numberOfLeadingZeros_0f7a4 32 = .ok (.istore_n 0, 1) := by decide +kernel
theorem dJ6_numberOfLeadingZeros_0f7a4_33 : decode cJ6_numberOfLeadingZeros_0f7a4 33 = .ok (.iload_n 0, 1) := by decide +kernel
theorem dJ6_numberOfLeadingZeros_0f7a4_34 : decode cJ6_numberOfLeadingZeros_0f7a4 34 = .ok (.sipush 256, 3) := by decide +kernel
theorem dJ6_numberOfLeadingZeros_0f7a4_37 : decode cJ6_numberOfLeadingZeros_0f7a4 37 = .ok (.if_icmp .lt 11, 3) := by decide +kernel
theorem dJ6_numberOfLeadingZeros_0f7a4_40 : decode cJ6_numberOfLeadingZeros_0f7a4 40 = .ok (.iinc 1 (-8), 3) := by decide +kernel
theorem dJ6_numberOfLeadingZeros_0f7a4_43 : decode cJ6_numberOfLeadingZeros_0f7a4 43 = .ok (.iload_n 0, 1) := by decide +kernel
theorem dJ6_numberOfLeadingZeros_0f7a4_44 : decode cJ6_numberOfLeadingZeros_0f7a4 44 = .ok (.bipush 8, 2) := by decide +kernel
theorem dJ6_numberOfLeadingZeros_0f7a4_46 : decode cJ6_numberOfLeadingZeros_0f7a4 46 = .ok (.iushr, 1) := by decide +kernel
theorem dJ6_numberOfLeadingZeros_0f7a4_47 : decode cJ6_numberOfLeadingZeros_0f7a4 47 = .ok (.istore_n 0, 1) := by decide +kernel
theorem dJ6_numberOfLeadingZeros_0f7a4_48 : decode cJ6_numberOfLeadingZeros_0f7a4 48 = .ok (.iload_n 0, 1) := by decide +kernel
theorem dJ6_numberOfLeadingZeros_0f7a4_49 : decode cJ6_numberOfLeadingZeros_0f7a4 49 = .ok (.bipush 16, 2) := by decide +kernel
theorem dJ6_numberOfLeadingZeros_0f7a4_51 : decode cJ6_numberOfLeadingZeros_0f7a4 51 = .ok (.if_icmp .lt 10, 3) := by decide +kernel
theorem dJ6_numberOfLeadingZeros_0f7a4_54 : decode cJ6_numberOfLeadingZeros_0f7a4 54 = .ok (.iinc 1 (-4), 3) := by decide +kernel
theorem dJ6_numberOfLeadingZeros_0f7a4_57 : decode cJ6_numberOfLeadingZeros_0f7a4 57 = .ok (.iload_n 0, 1) := by decide +kernel
theorem dJ6_numberOfLeadingZeros_0f7a4_58 : decode cJ6_numberOfLeadingZeros_0f7a4 58 = .ok (.iconst 4, 1) := by decide +kernel
theorem dJ6_numberOfLeadingZeros_0f7a4_59 : decode cJ6_numberOfLeadingZeros_0f7a4 59 = .ok (.iushr, 1) := by decide +kernel
theorem dJ6_numberOfLeadingZeros_0f7a4_60 : decode cJ6_numberOfLeadingZeros_0f7a4 60 = .ok (.istore_n 0, 1) := by decide +kernel
theorem dJ6_numberOfLeadingZeros_0f7a4_61 : decode cJ6_numberOfLeadingZeros_0f7a4 61 = .ok (.iload_n 0, 1) := by decide +kernel
theorem dJ6_numberOfLeadingZeros_0f7a4_62 : decode cJ6_numberOfLeadingZeros_0f7a4 62 = .ok (.iconst 4, 1) := by decide +kernel
theorem dJ6_numberOfLeadingZeros_0f7a4_63 : decode cJ6_numberOfLeadingZeros_0f7a4 63 = .ok (.if_icmp .lt 10, 3) := by decide +kernel
theorem dJ6_numberOfLeadingZeros_0f7a4_66 : decode cJ6_numberOfLeadingZeros_0f7a4 66 = .ok (.iinc 1 (-2), 3) := by decide +kernel
theorem dJ6_numberOfLeadingZeros_0f7a4_69 : decode cJ6_numberOfLeadingZeros_0f7a4 69 = .ok (.iload_n 0, 1) := by decide +kernel
theorem dJ6_numberOfLeadingZeros_0f7a4_70 : decode cJ6_numberOfLeadingZeros_0f7a4 70 = .ok (.iconst 2, 1) := by decide +kernel
theorem dJ6_numberOfLeadingZeros_0f7a4_71 : decode cJ6_numberOfLeadingZeros_0f7a4 71 = .ok (.iushr, 1) := by decide +kernel
theorem dJ6_numberOfLeadingZeros_0f7a4_72 : decode cJ6_numberOfLeadingZeros_0f7a4 72 = .ok (.istore_n 0, 1) := by decide +kernel
theorem dJ6_numberOfLeadingZeros_0f7a4_73 : decode cJ6_numberOfLeadingZeros_0f7a4 73 = .ok (.iload_n 1, 1) := by decide +kernel
theorem dJ6_numberOfLeadingZeros_0f7a4_74 : decode cJ6_numberOfLeadingZeros_0f7a4 74 = .ok (.iload_n 0, 1) := by decide +kernel
theorem dJ6_numberOfLeadingZeros_0f7a4_75 : decode cJ6_numberOfLeadingZeros_0f7a4 75 = .ok (.iconst 1, 1) := by decide +kernel
theorem dJ6_numberOfLeadingZeros_0f7a4_76 : decode cJ6_numberOfLeadingZeros_0f7a4 76 = .ok (.iushr, 1) := by decide +kernel
theorem dJ6_numberOfLeadingZeros_0f7a4_77 : decode cJ6_numberOfLeadingZeros_0f7a4 77 = .ok (.isub, 1) := by decide +kernel
theorem dJ6_numberOfLeadingZeros_0f7a4_78 : decode cJ6_numberOfLeadingZeros_0f7a4 78 = .ok (.ireturn, 1) := by decide +kernel
theorem dJ6_signum_0f7a4_0 : decode cJ6_signum_0f7a4 0 = .ok (.iload_n 0, 1) := by decide +kernel
theorem dJ6_signum_0f7a4_1 : decode cJ6_signum_0f7a4 1 = .ok (.bipush 31, 2) := by decide +kernel
theorem dJ6_signum_0f7a4_3 : decode cJ6_signum_0f7a4 3 = .ok (.ishr, 1) := by decide +kernel
theorem dJ6_signum_0f7a4_4 : decode cJ6_signum_0f7a4 4 = .ok (.iload_n 0, 1) := by decide +kernel
theorem dJ6_signum_0f7a4_5 : decode cJ6_signum_0f7a4 5 = .ok (.ineg, 1) := by decide +kernel
theorem dJ6_signum_0f7a4_6 : decode cJ6_signum_0f7a4 6 = .ok (.bipush 31, 2) := by decide +kernel
theorem dJ6_signum_0f7a4_8 : decode cJ6_signum_0f7a4 8 = .ok (.iushr, 1) := by decide +kernel
theorem dJ6_signum_0f7a4_9 : decode cJ6_signum_0f7a4 9 = .ok (.ior, 1) := by decide +kernel
theorem dJ6_signum_0f7a4_10 : decode cJ6_signum_0f7a4 10 = .ok (.ireturn, 1) := by decide +kernel
theorem dJ7_rangeCheck_23922_0 : decode cJ7_rangeCheck_23922 0 = .ok (.iload_n 1, 1) := by decide +kernel
theorem dJ7_rangeCheck_23922_1 : decode cJ7_rangeCheck_23922 1 = .ok (.iload_n 2, 1) := by decide +kernel
theorem dJ7_rangeCheck_23922_2 : decode cJ7_rangeCheck_23922 2 = .ok (.if_icmp .le 44, 3) := by decide +kernel
theorem dJ7_rangeCheck_23922_5 : decode cJ7_rangeCheck_23922 5 = .ok (.new 43, 3) := by decide +kernel
theorem dJ7_rangeCheck_23922_8 : decode cJ7_rangeCheck_23922 8 = .ok (.dup, 1) := by decide +kernel
theorem dJ7_rangeCheck_23922_9 : decode cJ7_rangeCheck_23922 9 = .ok (.new 45, 3) := by decide +kernel
theorem dJ7_rangeCheck_23922_12 : decode cJ7_rangeCheck_23922 12 = .ok (.dup, 1) := by decide +kernel
theorem dJ7_rangeCheck_23922_13 : decode cJ7_rangeCheck_23922 13 = .ok (.invokespecial 47, 3) := by decide +kernel
theorem dJ7_rangeCheck_23922_16 : decode cJ7_rangeCheck_23922 16 = .ok (.ldc 48, 2) := by decide +kernel
theorem dJ7_rangeCheck_23922_18 : decode cJ7_rangeCheck_23922 18 = .ok (.invokevirtual 50, 3) := by decide +kernel
theorem dJ7_rangeCheck_23922_21 : decode cJ7_rangeCheck_23922 21 = .ok (.iload_n 1, 1) := by decide +kernel
theorem dJ7_rangeCheck_23922_22 : decode cJ7_rangeCheck_23922 22 = .ok (.invokevirtual 54, 3) := by decide +kernel
theorem dJ7_rangeCheck_23922_25 : decode cJ7_rangeCheck_23922 25 = .ok (.ldc 57, 2) := by decide +kernel
theorem dJ7_rangeCheck_23922_27 : decode cJ7_rangeCheck_23922 27 = .ok (.invokevirtual 50, 3) := by decide +kernel
theorem dJ7_rangeCheck_23922_30 : decode cJ7_rangeCheck_23922 30 = .ok (.iload_n 2, 1) := by decide +kernel
theorem dJ7_rangeCheck_23922_31 : decode cJ7_rangeCheck_23922 31 = .ok (.invokevirtual 54, 3) := by decide +kernel
theorem dJ7_rangeCheck_23922_34 : decode cJ7_rangeCheck_23922 34 = .ok (.ldc 59, 2) := by decide +kernel
theorem dJ7_rangeCheck_23922_36 : decode cJ7_rangeCheck_23922 36 = .ok (.invokevirtual 50, 3) := by decide +kernel
theorem dJ7_rangeCheck_23922_39 : decode cJ7_rangeCheck_23922 39 = .ok (.invokevirtual 61, 3) := by decide +kernel
theorem dJ7_rangeCheck_23922_42 : decode cJ7_rangeCheck_23922 42 = .ok (.invokespecial 65, 3) := by decide +kernel
theorem dJ7_rangeCheck_23922_45 : decode cJ7_rangeCheck_23922 45 = .ok (.athrow, 1) := by decide +kernel
theorem dJ7_rangeCheck_23922_46 : decode cJ7_rangeCheck_23922 46 = .ok (.iload_n 1, 1) := by decide +kernel
theorem dJ7_rangeCheck_23922_47 : decode cJ7_rangeCheck_23922 47 = .ok (.ifCond .ge 12, 3) := by decide +kernel
theorem dJ7_rangeCheck_23922_50 : decode cJ7_rangeCheck_23922 50 = .ok (.new 68, 3) := by decide +kernel
theorem dJ7_rangeCheck_23922_53 : decode cJ7_rangeCheck_23922 53 = .ok (.dup, 1) := by decide +kernel
theorem dJ7_rangeCheck_23922_54 : decode cJ7_rangeCheck_23922 54 = .ok (.iload_n 1, 1) := by decide +kernel
theorem dJ7_rangeCheck_23922_55 : decode cJ7_rangeCheck_23922 55 = .ok (.invokespecial 70, 3) := by decide +kernel
theorem dJ7_rangeCheck_23922_58 : decode cJ7_rangeCheck_23922 58 = .ok (.athrow, 1) := by decide +kernel
theorem dJ7_rangeCheck_23922_59 : decode cJ7_rangeCheck_23922 59 = .ok (.iload_n 2, 1) := by decide +kernel
theorem dJ7_rangeCheck_23922_60 : decode cJ7_rangeCheck_23922 60 = .ok (.iload_n 0, 1) := by decide +kernel
theorem dJ7_rangeCheck_23922_61 : decode cJ7_rangeCheck_23922 61 = .ok (.if_icmp .le 12, 3) := by decide +kernel
theorem dJ7_rangeCheck_23922_64 : decode cJ7_rangeCheck_23922 64 = .ok (.new 68, 3) := by decide +kernel
theorem dJ7_rangeCheck_23922_67 : decode cJ7_rangeCheck_23922 67 = .ok (.dup, 1) := by decide +kernel
theorem dJ7_rangeCheck_23922_68 : decode cJ7_rangeCheck_23922 68 = .ok (.iload_n 2, 1) := by decide +kernel
theorem dJ7_rangeCheck_23922_69 : decode cJ7_rangeCheck_23922 69 = .ok (.invokespecial 70, 3) := by decide +kernel
theorem dJ7_rangeCheck_23922_72 : decode cJ7_rangeCheck_23922 72 = .ok (.athrow, 1) := by decide +kernel
theorem dJ7_rangeCheck_23922_73 : decode cJ7_rangeCheck_23922 73 = .ok (.return_, 1) := by decide +kernel
set_option maxRecDepth 20000 in
theorem ggJ7_fill_fda19_J7_rangeCheck_23922 : GoodIn wsJ7_fill_fda19 wsJ7_rangeCheck_23922 := goodIn_r _ [4, 5, 6, 7, 8, 9, 10, 11] (by decide +kernel) (by decide +kernel)
set_option maxRecDepth 20000 in
theorem gJ7_fill_fda19_J7_rangeCheck_23922 : GoodIn wsJ7_fill_fda19 (va_wsS RJ7 13 yJ7_rangeCheck_23922 wsJ7_rangeCheck_23922) := goodIn_app (goodIn_of _ (by decide +kernel)) ggJ7_fill_fda19_J7_rangeCheck_23922
theorem dJ7_fill_fda19_0 : decode cJ7_fill_fda19 0 = .ok (.aload_n 0, 1) := by decide +kernel
theorem dJ7_fill_fda19_1 : decode cJ7_fill_fda19 1 = .ok (.arraylength, 1) := by decide +kernel
theorem dJ7_fill_fda19_2 : decode cJ7_fill_fda19 2 = .ok (.iload_n 1, 1) := by decide +kernel
theorem dJ7_fill_fda19_3 : decode cJ7_fill_fda19 3 = .ok (.iload_n 2, 1) := by decide +kernel
theorem dJ7_fill_fda19_4 : decode cJ7_fill_fda19 4 = .ok (.invokestatic 13, 3) := by decide +kernel
theorem dJ7_fill_fda19_7 : decode cJ7_fill_fda19 7 = .ok (.iload_n 1, 1) := by decide +kernel
theorem dJ7_fill_fda19_8 : decode cJ7_fill_fda19 8 = .ok (.istore 4, 2) := by decide +kernel
theorem dJ7_fill_fda19_10 : decode cJ7_fill_fda19 10 = .ok (.iload 4, 2) := by decide +kernel
theorem dJ7_fill_fda19_12 : decode cJ7_fill_fda19 12 = .ok (.iload_n 2, 1) := by decide +kernel
theorem dJ7_fill_fda19_13 : decode cJ7_fill_fda19 13 = .ok (.if_icmp .ge 14, 3) := by decide +kernel
theorem dJ7_fill_fda19_16 : decode cJ7_fill_fda19 16 = .ok (.aload_n 0, 1) := by decide +kernel
theorem dJ7_fill_fda19_17 : decode cJ7_fill_fda19 17 = .ok (.iload 4, 2) := by decide +kernel
theorem dJ7_fill_fda19_19 : decode cJ7_fill_fda19 19 = .ok (.iload_n 3, 1) := by decide +kernel
theorem dJ7_fill_fda19_20 : decode cJ7_fill_fda19 20 = .ok (.iastore, 1) := by decide +kernel
theorem dJ7_fill_fda19_21 : decode cJ7_fill_fda19 21 = .ok (.iinc 4 1, 3) := by decide +kernel
theorem dJ7_fill_fda19_24 : decode cJ7_fill_fda19 24 = .ok (.goto (-14), 3) := by decide +kernel
theorem dJ7_fill_fda19_27 : decode cJ7_fill_fda19 27 = .ok (.return_, 1) := by decide +kernel
end
section
theorem dX3_init_0 : decode cX3_init 0 = .ok (.aload_n 0, 1) := by decide +kernel
theorem dX3_init_1 : decode cX3_init 1 = .ok (.invokespecial 3, 3) := by decide +kernel
theorem dX3_init_4 : decode cX3_init 4 = .ok (.aload_n 0, 1) := by decide +kernel
theorem dX3_init_5 : decode cX3_init 5 = .ok (.iload_n 1, 1) := by decide +kernel
theorem dX3_init_6 : decode cX3_init 6 = .ok (.newarray .int, 2) := by decide +kernel
theorem dX3_init_8 : decode cX3_init 8 = .ok (.putfield 9, 3) := by decide +kernel
theorem dX3_init_11 : decode cX3_init 11 = .ok (.return_, 1) := by decide +kernel
theorem dX3_setZero_0 : decode cX3_setZero 0 = .ok (.aload_n 0, 1) := by decide +kernel
theorem dX3_setZero_1 : decode cX3_setZero 1 = .ok (.iconst 0, 1) := by decide +kernel
theorem dX3_setZero_2 : decode cX3_setZero 2 = .ok (.putfield 15, 3) := by decide +kernel
theorem dX3_setZero_5 : decode cX3_setZero 5 = .ok (.aload_n 0, 1) := by decide +kernel
theorem dX3_setZero_6 : decode cX3_setZero 6 = .ok (.iconst 0, 1) := by decide +kernel
theorem dX3_setZero_7 : decode cX3_setZero 7 = .ok (.putfield 19, 3) := by decide +kernel
theorem dX3_setZero_10 : decode cX3_setZero 10 = .ok (.return_, 1) := by decide +kernel
theorem dX3_copyFrom_0 : decode cX3_copyFrom 0 = .ok (.aload_n 1, 1) := by decide +kernel
theorem dX3_copyFrom_1 : decode cX3_copyFrom 1 = .ok (.getfield 9, 3) := by decide +kernel
theorem dX3_copyFrom_4 : decode cX3_copyFrom 4 = .ok (.iconst 0, 1) := by decide +kernel
theorem dX3_copyFrom_5 : decode cX3_copyFrom 5 = .ok (.aload_n 0, 1) := by decide +kernel
theorem dX3_copyFrom_6 : decode cX3_copyFrom 6 = .ok (.getfield 9, 3) := by decide +kernel
theorem dX3_copyFrom_9 : decode cX3_copyFrom 9 = .ok (.iconst 0, 1) := by decide +kernel
theorem dX3_copyFrom_10 : decode cX3_copyFrom 10 = .ok (.aload_n 1, 1) := by decide +kernel
theorem dX3_copyFrom_11 : decode cX3_copyFrom 11 = .ok (.getfield 15, 3) := by decide +kernel
theorem dX3_copyFrom_14 : decode cX3_copyFrom 14 = .ok (.invokestatic 22, 3) := by decide +kernel
theorem dX3_copyFrom_17 : decode cX3_copyFrom 17 = .ok (.aload_n 0, 1) := by decide +kernel
theorem dX3_copyFrom_18 : decode cX3_copyFrom 18 = .ok (.aload_n 1, 1) := by decide +kernel
theorem dX3_copyFrom_19 : decode cX3_copyFrom 19 = .ok (.getfield 15, 3) := by decide +kernel
theorem dX3_copyFrom_22 : decode cX3_copyFrom 22 = .ok (.putfield 15, 3) := by decide +kernel
theorem dX3_copyFrom_25 : decode cX3_copyFrom 25 = .ok (.aload_n 0, 1) := by decide +kernel
theorem dX3_copyFrom_26 : decode cX3_copyFrom 26 = .ok (.aload_n 1, 1) := by decide +kernel
theorem dX3_copyFrom_27 : decode cX3_copyFrom 27 = .ok (.getfield 19, 3) := by decide +kernel
theorem dX3_copyFrom_30 : decode cX3_copyFrom 30 = .ok (.putfield 19, 3) := by decide +kernel
theorem dX3_copyFrom_33 : decode cX3_copyFrom 33 = .ok (.return_, 1) := by decide +kernel
theorem dX3_settle_0 : decode cX3_settle 0 = .ok (.aload_n 0, 1) := by decide +kernel
theorem dX3_settle_1 : decode cX3_settle 1 = .ok (.iload_n 1, 1) := by decide +kernel
theorem dX3_settle_2 : decode cX3_settle 2 = .ok (.putfield 15, 3) := by decide +kernel
theorem dX3_settle_5 : decode cX3_settle 5 = .ok (.aload_n 0, 1) := by decide +kernel
theorem dX3_settle_6 : decode cX3_settle 6 = .ok (.getfield 15, 3) := by decide +kernel
theorem dX3_settle_9 : decode cX3_settle 9 = .ok (.ifCond .le 30, 3) := by decide +kernel
theorem dX3_settle_12 : decode cX3_settle 12 = .ok (.aload_n 0, 1) := by decide +kernel
theorem dX3_settle_13 : decode cX3_settle 13 = .ok (.getfield 9, 3) := by decide +kernel
theorem dX3_settle_16 : decode cX3_settle 16 = .ok (.aload_n 0, 1) := by decide +kernel
theorem dX3_settle_17 : decode cX3_settle 17 = .ok (.getfield 15, 3) := by decide +kernel
theorem dX3_settle_20 : decode cX3_settle 20 = .ok (.iconst 1, 1) := by decide +kernel
theorem dX3_settle_21 : decode cX3_settle 21 = .ok (.isub, 1) := by decide +kernel
theorem dX3_settle_22 : decode cX3_settle 22 = .ok (.iaload, 1) := by decide +kernel
theorem dX3_settle_23 : decode cX3_settle 23 = .ok (.ifCond .ne 16, 3) := by decide +kernel
theorem dX3_settle_26 : decode cX3_settle 26 = .ok (.aload_n 0, 1) := by decide +kernel
theorem dX3_settle_27 : decode cX3_settle 27 = .ok (.dup, 1) := by decide +kernel
theorem dX3_settle_28 : decode cX3_settle 28 = .ok (.getfield 15, 3) := by decide +kernel
theorem dX3_settle_31 : decode cX3_settle 31 = .ok (.iconst 1, 1) := by decide +kernel
theorem dX3_settle_32 : decode cX3_settle 32 = .ok (.isub, 1) := by decide +kernel
theorem dX3_settle_33 : decode cX3_settle 33 = .ok (.putfield 15, 3) := by decide +kernel
theorem dX3_settle_36 : decode cX3_settle 36 = .ok (.goto (-31), 3) := by decide +kernel
theorem dX3_settle_39 : decode cX3_settle 39 = .ok (.aload_n 0, 1) := by decide +kernel
theorem dX3_settle_40 : decode cX3_settle 40 = .ok (.aload_n 0, 1) := by decide +kernel
theorem dX3_settle_41 : decode cX3_settle 41 = .ok (.getfield 15, 3) := by decide +kernel
theorem dX3_settle_44 : decode cX3_settle 44 = .ok (.ifCond .ne 7, 3) := by decide +kernel
theorem dX3_settle_47 : decode cX3_settle 47 = .ok (.iconst 0, 1) := by decide +kernel
theorem dX3_settle_48 : decode cX3_settle 48 = .ok (.goto 4, 3) := by decide +kernel
theorem dX3_settle_51 : decode cX3_settle 51 = .ok (.iload_n 2, 1) := by decide +kernel
theorem dX3_settle_52 : decode cX3_settle 52 = .ok (.putfield 19, 3) := by decide +kernel
theorem dX3_settle_55 : decode cX3_settle 55 = .ok (.return_, 1) := by decide +kernel
theorem dX3_digit_0 : decode cX3_digit 0 = .ok (.iload_n 1, 1) := by decide +kernel
theorem dX3_digit_1 : decode cX3_digit 1 = .ok (.aload_n 0, 1) := by decide +kernel
theorem dX3_digit_2 : decode cX3_digit 2 = .ok (.getfield 15, 3) := by decide +kernel
theorem dX3_digit_5 : decode cX3_digit 5 = .ok (.if_icmp .ge 12, 3) := by decide +kernel
theorem dX3_digit_8 : decode cX3_digit 8 = .ok (.aload_n 0, 1) := by decide +kernel
theorem dX3_digit_9 : decode cX3_digit 9 = .ok (.getfield 9, 3) := by decide +kernel
theorem dX3_digit_12 : decode cX3_digit 12 = .ok (.iload_n 1, 1) := by decide +kernel
theorem dX3_digit_13 : decode cX3_digit 13 = .ok (.iaload, 1) := by decide +kernel
theorem dX3_digit_14 : decode cX3_digit 14 = .ok (.goto 4, 3) := by decide +kernel
theorem dX3_digit_17 : decode cX3_digit 17 = .ok (.iconst 0, 1) := by decide +kernel
theorem dX3_digit_18 : decode cX3_digit 18 = .ok (.ireturn, 1) := by decide +kernel
set_option maxRecDepth 20000 in
theorem ggX3_compareSize_J6_compare_7cf53 : GoodIn wsX3_compareSize wsJ6_compare_7cf53 := goodIn_r _ [6] (by decide +kernel) (by decide +kernel)
set_option maxRecDepth 20000 in
theorem gX3_compareSize_J6_compare_7cf53 : GoodIn wsX3_compareSize (va_wsS RX3 28 yJ6_compare_7cf53 wsJ6_compare_7cf53) := goodIn_app (goodIn_of _ (by decide +kernel)) ggX3_compareSize_J6_compare_7cf53
theorem dX3_compareSize_0 : decode cX3_compareSize 0 = .ok (.aload_n 0, 1) := by decide +kernel
theorem dX3_compareSize_1 : decode cX3_compareSize 1 = .ok (.getfield 15, 3) := by decide +kernel
theorem dX3_compareSize_4 : decode cX3_compareSize 4 = .ok (.aload_n 1, 1) := by decide +kernel
theorem dX3_compareSize_5 : decode cX3_compareSize 5 = .ok (.getfield 15, 3) := by decide +kernel
theorem dX3_compareSize_8 : decode cX3_compareSize 8 = .ok (.if_icmp .eq 15, 3) := by decide +kernel
theorem dX3_compareSize_11 : decode cX3_compareSize 11 = .ok (.aload_n 0, 1) := by decide +kernel
theorem dX3_compareSize_12 : decode cX3_compareSize 12 = .ok (.getfield 15, 3) := by decide +kernel
theorem dX3_compareSize_15 : decode cX3_compareSize 15 = .ok (.aload_n 1, 1) := by decide +kernel
theorem dX3_compareSize_16 : decode cX3_compareSize 16 = .ok (.getfield 15, 3) := by decide +kernel
theorem dX3_compareSize_19 : decode cX3_compareSize 19 = .ok (.invokestatic 28, 3) := by decide +kernel
theorem dX3_compareSize_22 : decode cX3_compareSize 22 = .ok (.ireturn, 1) := by decide +kernel
theorem dX3_compareSize_23 : decode cX3_compareSize 23 = .ok (.aload_n 0, 1) := by decide +kernel
theorem dX3_compareSize_24 : decode cX3_compareSize 24 = .ok (.getfield 15, 3) := by decide +kernel
theorem dX3_compareSize_27 : decode cX3_compareSize 27 = .ok (.iconst 1, 1) := by decide +kernel
theorem dX3_compareSize_28 : decode cX3_compareSize 28 = .ok (.isub, 1) := by decide +kernel
theorem dX3_compareSize_29 : decode cX3_compareSize 29 = .ok (.istore_n 2, 1) := by decide +kernel
theorem dX3_compareSize_30 : decode cX3_compareSize 30 = .ok (.iload_n 2, 1) := by decide +kernel
theorem dX3_compareSize_31 : decode cX3_compareSize 31 = .ok (.ifCond .lt 40, 3) := by decide +kernel
theorem dX3_compareSize_34 : decode cX3_compareSize 34 = .ok (.aload_n 0, 1) := by decide +kernel
theorem dX3_compareSize_35 : decode cX3_compareSize 35 = .ok (.getfield 9, 3) := by decide +kernel
theorem dX3_compareSize_38 : decode cX3_compareSize 38 = .ok (.iload_n 2, 1) := by decide +kernel
theorem dX3_compareSize_39 : decode cX3_compareSize 39 = .ok (.iaload, 1) := by decide +kernel
theorem dX3_compareSize_40 : decode cX3_compareSize 40 = .ok (.aload_n 1, 1) := by decide +kernel
theorem dX3_compareSize_41 : decode cX3_compareSize 41 = .ok (.getfield 9, 3) := by decide +kernel
theorem dX3_compareSize_44 : decode cX3_compareSize 44 = .ok (.iload_n 2, 1) := by decide +kernel
theorem dX3_compareSize_45 : decode cX3_compareSize 45 = .ok (.iaload, 1) := by decide +kernel
theorem dX3_compareSize_46 : decode cX3_compareSize 46 = .ok (.if_icmp .eq 19, 3) := by decide +kernel
theorem dX3_compareSize_49 : decode cX3_compareSize 49 = .ok (.aload_n 0, 1) := by decide +kernel
theorem dX3_compareSize_50 : decode cX3_compareSize 50 = .ok (.getfield 9, 3) := by decide +kernel
theorem dX3_compareSize_53 : decode cX3_compareSize 53 = .ok (.iload_n 2, 1) := by decide +kernel
theorem dX3_compareSize_54 : decode cX3_compareSize 54 = .ok (.iaload, 1) := by decide +kernel
theorem dX3_compareSize_55 : decode cX3_compareSize 55 = .ok (.aload_n 1, 1) := by decide +kernel
theorem dX3_compareSize_56 : decode cX3_compareSize 56 = .ok (.getfield 9, 3) := by decide +kernel
theorem dX3_compareSize_59 : decode cX3_compareSize 59 = .ok (.iload_n 2, 1) := by decide +kernel
theorem dX3_compareSize_60 : decode cX3_compareSize 60 = .ok (.iaload, 1) := by decide +kernel
theorem dX3_compareSize_61 : decode cX3_compareSize 61 = .ok (.invokestatic 28, 3) := by decide +kernel
theorem dX3_compareSize_64 : decode cX3_compareSize 64 = .ok (.ireturn, 1) := by decide +kernel
theorem dX3_compareSize_65 : decode cX3_compareSize 65 = .ok (.iinc 2 (-1), 3) := by decide +kernel
theorem dX3_compareSize_68 : decode cX3_compareSize 68 = .ok (.goto (-38), 3) := by decide +kernel
theorem dX3_compareSize_71 : decode cX3_compareSize 71 = .ok (.iconst 0, 1) := by decide +kernel
theorem dX3_compareSize_72 : decode cX3_compareSize 72 = .ok (.ireturn, 1) := by decide +kernel
set_option maxRecDepth 20000 in
theorem ggX3_setProduct_J7_fill_fda19 : GoodIn wsX3_setProduct wsJ7_fill_fda19 := goodIn_r _ [7, 8, 9, 6, 10, 11, 12, 13, 27, 28, 29, 30] (by decide +kernel) (by decide +kernel)
set_option maxRecDepth 20000 in
theorem gX3_setProduct_J7_fill_fda19 : GoodIn wsX3_setProduct (va_wsS RX3 34 yJ7_fill_fda19 wsJ7_fill_fda19) := goodIn_app (goodIn_of _ (by decide +kernel)) ggX3_setProduct_J7_fill_fda19
set_option maxRecDepth 20000 in
theorem ggX3_setProduct_X3_addTimes : GoodIn wsX3_setProduct wsX3_addTimes := goodIn_r _ [18, 2, 1, 19, 24, 25, 26] (by decide +kernel) (by decide +kernel)
set_option maxRecDepth 20000 in
theorem gX3_setProduct_X3_addTimes : GoodIn wsX3_setProduct (wsV RX3 40 RX3 yX3_addTimes wsX3_addTimes) := goodIn_app (goodIn_of _ (by decide +kernel)) ggX3_setProduct_X3_addTimes
set_option maxRecDepth 20000 in
theorem ggX3_setProduct_X3_settle : GoodIn wsX3_setProduct wsX3_settle := goodIn_r _ [23, 2, 1, 3, 24, 25, 26] (by decide +kernel) (by decide +kernel)
set_option maxRecDepth 20000 in
theorem gX3_setProduct_X3_settle : GoodIn wsX3_setProduct (wsV RX3 44 RX3 yX3_settle wsX3_settle) := goodIn_app (goodIn_of _ (by decide +kernel)) ggX3_setProduct_X3_settle
theorem dX3_setProduct_0 : decode cX3_setProduct 0 = .ok (.aload_n 0, 1) := by decide +kernel
theorem dX3_setProduct_1 : decode cX3_setProduct 1 = .ok (.getfield 9, 3) := by decide +kernel
theorem dX3_setProduct_4 : decode cX3_setProduct 4 = .ok (.iconst 0, 1) := by decide +kernel
theorem dX3_setProduct_5 : decode cX3_setProduct 5 = .ok (.aload_n 1, 1) := by decide +kernel
theorem dX3_setProduct_6 : decode cX3_setProduct 6 = .ok (.getfield 15, 3) := by decide +kernel
theorem dX3_setProduct_9 : decode cX3_setProduct 9 = .ok (.aload_n 2, 1) := by decide +kernel
theorem dX3_setProduct_10 : decode cX3_setProduct 10 = .ok (.getfield 15, 3) := by decide +kernel
theorem dX3_setProduct_13 : decode cX3_setProduct 13 = .ok (.iadd, 1) := by decide +kernel
theorem dX3_setProduct_14 : decode cX3_setProduct 14 = .ok (.iconst 0, 1) := by decide +kernel
theorem dX3_setProduct_15 : decode cX3_setProduct 15 = .ok (.invokestatic 34, 3) := by decide +kernel
theorem dX3_setProduct_18 : decode cX3_setProduct 18 = .ok (.iconst 0, 1) := by decide +kernel
theorem dX3_setProduct_19 : decode cX3_setProduct 19 = .ok (.istore_n 3, 1) := by decide +kernel
theorem dX3_setProduct_20 : decode cX3_setProduct 20 = .ok (.iload_n 3, 1) := by decide +kernel
theorem dX3_setProduct_21 : decode cX3_setProduct 21 = .ok (.aload_n 1, 1) := by decide +kernel
theorem dX3_setProduct_22 : decode cX3_setProduct 22 = .ok (.getfield 15, 3) := by decide +kernel
theorem dX3_setProduct_25 : decode cX3_setProduct 25 = .ok (.if_icmp .ge 22, 3) := by decide +kernel
theorem dX3_setProduct_28 : decode cX3_setProduct 28 = .ok (.aload_n 0, 1) := by decide +kernel
theorem dX3_setProduct_29 : decode cX3_setProduct 29 = .ok (.aload_n 1, 1) := by decide +kernel
theorem dX3_setProduct_30 : decode cX3_setProduct 30 = .ok (.getfield 9, 3) := by decide +kernel
theorem dX3_setProduct_33 : decode cX3_setProduct 33 = .ok (.iload_n 3, 1) := by decide +kernel
theorem dX3_setProduct_34 : decode cX3_setProduct 34 = .ok (.iaload, 1) := by decide +kernel
theorem dX3_setProduct_35 : decode cX3_setProduct 35 = .ok (.i2l, 1) := by decide +kernel
theorem dX3_setProduct_36 : decode cX3_setProduct 36 = .ok (.aload_n 2, 1) := by decide +kernel
theorem dX3_setProduct_37 : decode cX3_setProduct 37 = .ok (.iload_n 3, 1) := by decide +kernel
theorem dX3_setProduct_38 : decode cX3_setProduct 38 = .ok (.invokevirtual 40, 3) := by decide +kernel
theorem dX3_setProduct_41 : decode cX3_setProduct 41 = .ok (.iinc 3 1, 3) := by decide +kernel
theorem dX3_setProduct_44 : decode cX3_setProduct 44 = .ok (.goto (-24), 3) := by decide +kernel
theorem dX3_setProduct_47 : decode cX3_setProduct 47 = .ok (.aload_n 0, 1) := by decide +kernel
theorem dX3_setProduct_48 : decode cX3_setProduct 48 = .ok (.aload_n 1, 1) := by decide +kernel
theorem dX3_setProduct_49 : decode cX3_setProduct 49 = .ok (.getfield 15, 3) := by decide +kernel
theorem dX3_setProduct_52 : decode cX3_setProduct 52 = .ok (.aload_n 2, 1) := by decide +kernel
theorem dX3_setProduct_53 : decode cX3_setProduct 53 = .ok (.getfield 15, 3) := by decide +kernel
theorem dX3_setProduct_56 : decode cX3_setProduct 56 = .ok (.iadd, 1) := by decide +kernel
theorem dX3_setProduct_57 : decode cX3_setProduct 57 = .ok (.aload_n 1, 1) := by decide +kernel
theorem dX3_setProduct_58 : decode cX3_setProduct 58 = .ok (.getfield 19, 3) := by decide +kernel
theorem dX3_setProduct_61 : decode cX3_setProduct 61 = .ok (.aload_n 2, 1) := by decide +kernel
theorem dX3_setProduct_62 : decode cX3_setProduct 62 = .ok (.getfield 19, 3) := by decide +kernel
theorem dX3_setProduct_65 : decode cX3_setProduct 65 = .ok (.imul, 1) := by decide +kernel
theorem dX3_setProduct_66 : decode cX3_setProduct 66 = .ok (.invokevirtual 44, 3) := by decide +kernel
theorem dX3_setProduct_69 : decode cX3_setProduct 69 = .ok (.return_, 1) := by decide +kernel
theorem dX3_addTimes_0 : decode cX3_addTimes 0 = .ok (.lconst 0, 1) := by decide +kernel
theorem dX3_addTimes_1 : decode cX3_addTimes 1 = .ok (.lstore 5, 2) := by decide +kernel
theorem dX3_addTimes_3 : decode cX3_addTimes 3 = .ok (.iconst 0, 1) := by decide +kernel
theorem dX3_addTimes_4 : decode cX3_addTimes 4 = .ok (.istore 7, 2) := by decide +kernel
theorem dX3_addTimes_6 : decode cX3_addTimes 6 = .ok (.iload 7, 2) := by decide +kernel
theorem dX3_addTimes_8 : decode cX3_addTimes 8 = .ok (.aload_n 3, 1) := by decide +kernel
theorem dX3_addTimes_9 : decode cX3_addTimes 9 = .ok (.getfield 15, 3) := by decide +kernel
theorem dX3_addTimes_12 : decode cX3_addTimes 12 = .ok (.if_icmp .ge 59, 3) := by decide +kernel
theorem dX3_addTimes_15 : decode cX3_addTimes 15 = .ok (.lload 5, 2) := by decide +kernel
theorem dX3_addTimes_17 : decode cX3_addTimes 17 = .ok (.lload_n 1, 1) := by decide +kernel
theorem dX3_addTimes_18 : decode cX3_addTimes 18 = .ok (.aload_n 3, 1) := by decide +kernel
theorem dX3_addTimes_19 : decode cX3_addTimes 19 = .ok (.getfield 9, 3) := by decide +kernel
theorem dX3_addTimes_22 : decode cX3_addTimes 22 = .ok (.iload 7, 2) := by decide +kernel
theorem dX3_addTimes_24 : decode cX3_addTimes 24 = .ok (.iaload, 1) := by decide +kernel
theorem dX3_addTimes_25 : decode cX3_addTimes 25 = .ok (.i2l, 1) := by decide +kernel
theorem dX3_addTimes_26 : decode cX3_addTimes 26 = .ok (.lmul, 1) := by decide +kernel
theorem dX3_addTimes_27 : decode cX3_addTimes 27 = .ok (.aload_n 0, 1) := by decide +kernel
theorem dX3_addTimes_28 : decode cX3_addTimes 28 = .ok (.getfield 9, 3) := by decide +kernel
theorem dX3_addTimes_31 : decode cX3_addTimes 31 = .ok (.iload 4, 2) := by decide +kernel
theorem dX3_addTimes_33 : decode cX3_addTimes 33 = .ok (.iload 7, 2) := by decide +kernel
theorem dX3_addTimes_35 : decode cX3_addTimes 35 = .ok (.iadd, 1) := by decide +kernel
theorem dX3_addTimes_36 : decode cX3_addTimes 36 = .ok (.iaload, 1) := by decide +kernel
theorem dX3_addTimes_37 : decode cX3_addTimes 37 = .ok (.i2l, 1) := by decide +kernel
theorem dX3_addTimes_38 : decode cX3_addTimes 38 = .ok (.ladd, 1) := by decide +kernel
theorem dX3_addTimes_39 : decode cX3_addTimes 39 = .ok (.ladd, 1) := by decide +kernel
theorem dX3_addTimes_40 : decode cX3_addTimes 40 = .ok (.lstore 5, 2) := by decide +kernel
theorem dX3_addTimes_42 : decode cX3_addTimes 42 = .ok (.aload_n 0, 1) := by decide +kernel
theorem dX3_addTimes_43 : decode cX3_addTimes 43 = .ok (.getfield 9, 3) := by decide +kernel
theorem dX3_addTimes_46 : decode cX3_addTimes 46 = .ok (.iload 4, 2) := by decide +kernel
theorem dX3_addTimes_48 : decode cX3_addTimes 48 = .ok (.iload 7, 2) := by decide +kernel
theorem dX3_addTimes_50 : decode cX3_addTimes 50 = .ok (.iadd, 1) := by decide +kernel
theorem dX3_addTimes_51 : decode cX3_addTimes 51 = .ok (.lload 5, 2) := by decide +kernel
theorem dX3_addTimes_53 : decode cX3_addTimes 53 = .ok (.l2i, 1) := by decide +kernel
theorem dX3_addTimes_54 : decode cX3_addTimes 54 = .ok (.ldc 48, 2) := by decide +kernel
theorem dX3_addTimes_56 : decode cX3_addTimes 56 = .ok (.iand, 1) := by decide +kernel
theorem dX3_addTimes_57 : decode cX3_addTimes 57 = .ok (.iastore, 1) := by decide +kernel
theorem dX3_addTimes_58 : decode cX3_addTimes 58 = .ok (.lload 5, 2) := by decide +kernel
theorem dX3_addTimes_60 : decode cX3_addTimes 60 = .ok (.bipush 31, 2) := by decide +kernel
theorem dX3_addTimes_62 : decode cX3_addTimes 62 = .ok (.lushr, 1) := by decide +kernel
theorem dX3_addTimes_63 : decode cX3_addTimes 63 = .ok (.lstore 5, 2) := by decide +kernel
theorem dX3_addTimes_65 : decode cX3_addTimes 65 = .ok (.iinc 7 1, 3) := by decide +kernel
theorem dX3_addTimes_68 : decode cX3_addTimes 68 = .ok (.goto (-62), 3) := by decide +kernel
theorem dX3_addTimes_71 : decode cX3_addTimes 71 = .ok (.aload_n 0, 1) := by decide +kernel
theorem dX3_addTimes_72 : decode cX3_addTimes 72 = .ok (.getfield 9, 3) := by decide +kernel
theorem dX3_addTimes_75 : decode cX3_addTimes 75 = .ok (.iload 4, 2) := by decide +kernel
theorem dX3_addTimes_77 : decode cX3_addTimes 77 = .ok (.aload_n 3, 1) := by decide +kernel
theorem dX3_addTimes_78 : decode cX3_addTimes 78 = .ok (.getfield 15, 3) := by decide +kernel
theorem dX3_addTimes_81 : decode cX3_addTimes 81 = .ok (.iadd, 1) := by decide +kernel
theorem dX3_addTimes_82 : decode cX3_addTimes 82 = .ok (.lload 5, 2) := by decide +kernel
theorem dX3_addTimes_84 : decode cX3_addTimes 84 = .ok (.l2i, 1) := by decide +kernel
theorem dX3_addTimes_85 : decode cX3_addTimes 85 = .ok (.iastore, 1) := by decide +kernel
theorem dX3_addTimes_86 : decode cX3_addTimes 86 = .ok (.return_, 1) := by decide +kernel
set_option maxRecDepth 20000 in
theorem ggX3_add_X3_addLimbs : GoodIn wsX3_add wsX3_addLimbs := goodIn_r _ [6, 7, 8, 9, 10, 11, 12, 13, 14, 15, 16, 5, 17, 18, 19, 20, 21, 1, 34, 35, 36] (by decide +kernel) (by decide +kernel)
set_option maxRecDepth 20000 in
theorem gX3_add_X3_addLimbs : GoodIn wsX3_add (wsV RX3 49 RX3 yX3_addLimbs wsX3_addLimbs) := goodIn_app (goodIn_of _ (by decide +kernel)) ggX3_add_X3_addLimbs
set_option maxRecDepth 20000 in
theorem ggX3_add_X3_compareSize : GoodIn wsX3_add wsX3_compareSize := goodIn_r _ [25, 7, 12, 26, 27, 28, 29, 34, 35, 36] (by decide +kernel) (by decide +kernel)
set_option maxRecDepth 20000 in
theorem gX3_add_X3_compareSize : GoodIn wsX3_add (wsV RX3 53 RX3 yX3_compareSize wsX3_compareSize) := goodIn_app (goodIn_of _ (by decide +kernel)) ggX3_add_X3_compareSize
set_option maxRecDepth 20000 in
theorem ggX3_add_X3_setDifference : GoodIn wsX3_add wsX3_setDifference := goodIn_r _ [33, 7, 12, 13, 14, 15, 16, 5, 17, 18, 19, 20, 21, 1, 34, 35, 36] (by decide +kernel) (by decide +kernel)
set_option maxRecDepth 20000 in
theorem gX3_add_X3_setDifference : GoodIn wsX3_add (wsV RX3 57 RX3 yX3_setDifference wsX3_setDifference) := goodIn_app (goodIn_of _ (by decide +kernel)) ggX3_add_X3_setDifference
theorem dX3_add_0 : decode cX3_add 0 = .ok (.aload_n 0, 1) := by decide +kernel
theorem dX3_add_1 : decode cX3_add 1 = .ok (.getfield 19, 3) := by decide +kernel
theorem dX3_add_4 : decode cX3_add 4 = .ok (.aload_n 1, 1) := by decide +kernel
theorem dX3_add_5 : decode cX3_add 5 = .ok (.getfield 19, 3) := by decide +kernel
theorem dX3_add_8 : decode cX3_add 8 = .ok (.imul, 1) := by decide +kernel
theorem dX3_add_9 : decode cX3_add 9 = .ok (.ifCond .lt 29, 3) := by decide +kernel
theorem dX3_add_12 : decode cX3_add 12 = .ok (.aload_n 0, 1) := by decide +kernel
theorem dX3_add_13 : decode cX3_add 13 = .ok (.aload_n 1, 1) := by decide +kernel
theorem dX3_add_14 : decode cX3_add 14 = .ok (.aload_n 0, 1) := by decide +kernel
theorem dX3_add_15 : decode cX3_add 15 = .ok (.getfield 19, 3) := by decide +kernel
theorem dX3_add_18 : decode cX3_add 18 = .ok (.ifCond .eq 10, 3) := by decide +kernel
theorem dX3_add_21 : decode cX3_add 21 = .ok (.aload_n 0, 1) := by decide +kernel
theorem dX3_add_22 : decode cX3_add 22 = .ok (.getfield 19, 3) := by decide +kernel
theorem dX3_add_25 : decode cX3_add 25 = .ok (.goto 7, 3) := by decide +kernel
theorem dX3_add_28 : decode cX3_add 28 = .ok (.aload_n 1, 1) := by decide +kernel
theorem dX3_add_29 : decode cX3_add 29 = .ok (.getfield 19, 3) := by decide +kernel
theorem dX3_add_32 : decode cX3_add 32 = .ok (.invokevirtual 49, 3) := by decide +kernel
theorem dX3_add_35 : decode cX3_add 35 = .ok (.goto 34, 3) := by decide +kernel
theorem dX3_add_38 : decode cX3_add 38 = .ok (.aload_n 0, 1) := by decide +kernel
theorem dX3_add_39 : decode cX3_add 39 = .ok (.aload_n 1, 1) := by decide +kernel
theorem dX3_add_40 : decode cX3_add 40 = .ok (.invokevirtual 53, 3) := by decide +kernel
theorem dX3_add_43 : decode cX3_add 43 = .ok (.ifCond .lt 16, 3) := by decide +kernel
theorem dX3_add_46 : decode cX3_add 46 = .ok (.aload_n 0, 1) := by decide +kernel
theorem dX3_add_47 : decode cX3_add 47 = .ok (.aload_n 0, 1) := by decide +kernel
theorem dX3_add_48 : decode cX3_add 48 = .ok (.aload_n 1, 1) := by decide +kernel
theorem dX3_add_49 : decode cX3_add 49 = .ok (.aload_n 0, 1) := by decide +kernel
theorem dX3_add_50 : decode cX3_add 50 = .ok (.getfield 19, 3) := by decide +kernel
theorem dX3_add_53 : decode cX3_add 53 = .ok (.invokevirtual 57, 3) := by decide +kernel
theorem dX3_add_56 : decode cX3_add 56 = .ok (.goto 13, 3) := by decide +kernel
theorem dX3_add_59 : decode cX3_add 59 = .ok (.aload_n 0, 1) := by decide +kernel
theorem dX3_add_60 : decode cX3_add 60 = .ok (.aload_n 1, 1) := by decide +kernel
theorem dX3_add_61 : decode cX3_add 61 = .ok (.aload_n 0, 1) := by decide +kernel
theorem dX3_add_62 : decode cX3_add 62 = .ok (.aload_n 1, 1) := by decide +kernel
theorem dX3_add_63 : decode cX3_add 63 = .ok (.getfield 19, 3) := by decide +kernel
theorem dX3_add_66 : decode cX3_add 66 = .ok (.invokevirtual 57, 3) := by decide +kernel
theorem dX3_add_69 : decode cX3_add 69 = .ok (.return_, 1) := by decide +kernel
set_option maxRecDepth 20000 in
theorem ggX3_addLimbs_X3_digit : GoodIn wsX3_addLimbs wsX3_digit := goodIn_r _ [12, 1, 6, 18, 19, 20] (by decide +kernel) (by decide +kernel)
set_option maxRecDepth 20000 in
theorem gX3_addLimbs_X3_digit : GoodIn wsX3_addLimbs (wsV RX3 66 RX3 yX3_digit wsX3_digit) := goodIn_app (goodIn_of _ (by decide +kernel)) ggX3_addLimbs_X3_digit
set_option maxRecDepth 20000 in
theorem ggX3_addLimbs_X3_settle : GoodIn wsX3_addLimbs wsX3_settle := goodIn_r _ [16, 1, 6, 17, 18, 19, 20] (by decide +kernel) (by decide +kernel)
set_option maxRecDepth 20000 in
theorem gX3_addLimbs_X3_settle : GoodIn wsX3_addLimbs (wsV RX3 44 RX3 yX3_settle wsX3_settle) := goodIn_app (goodIn_of _ (by decide +kernel)) ggX3_addLimbs_X3_settle
theorem dX3_addLimbs_0 : decode cX3_addLimbs 0 = .ok (.aload_n 0, 1) := by decide +kernel
theorem dX3_addLimbs_1 : decode cX3_addLimbs 1 = .ok (.getfield 15, 3) := by decide +kernel
theorem dX3_addLimbs_4 : decode cX3_addLimbs 4 = .ok (.aload_n 1, 1) := by decide +kernel
theorem dX3_addLimbs_5 : decode cX3_addLimbs 5 = .ok (.getfield 15, 3) := by decide +kernel
theorem dX3_addLimbs_8 : decode cX3_addLimbs 8 = .ok (.invokestatic 61, 3) := by decide +kernel
theorem dX3_addLimbs_11 : decode cX3_addLimbs 11 = .ok (.istore_n 3, 1) := by decide +kernel
theorem dX3_addLimbs_12 : decode cX3_addLimbs 12 = .ok (.lconst 0, 1) := by decide +kernel
theorem dX3_addLimbs_13 : decode cX3_addLimbs 13 = .ok (.lstore 4, 2) := by decide +kernel
theorem dX3_addLimbs_15 : decode cX3_addLimbs 15 = .ok (.iconst 0, 1) := by decide +kernel
theorem dX3_addLimbs_16 : decode cX3_addLimbs 16 = .ok (.istore 6, 2) := by decide +kernel
theorem dX3_addLimbs_18 : decode cX3_addLimbs 18 = .ok (.iload 6, 2) := by decide +kernel
theorem dX3_addLimbs_20 : decode cX3_addLimbs 20 = .ok (.iload_n 3, 1) := by decide +kernel
theorem dX3_addLimbs_21 : decode cX3_addLimbs 21 = .ok (.if_icmp .ge 49, 3) := by decide +kernel
theorem dX3_addLimbs_24 : decode cX3_addLimbs 24 = .ok (.lload 4, 2) := by decide +kernel
theorem dX3_addLimbs_26 : decode cX3_addLimbs 26 = .ok (.aload_n 0, 1) := by decide +kernel
theorem dX3_addLimbs_27 : decode cX3_addLimbs 27 = .ok (.iload 6, 2) := by decide +kernel
theorem dX3_addLimbs_29 : decode cX3_addLimbs 29 = .ok (.invokevirtual 66, 3) := by decide +kernel
theorem dX3_addLimbs_32 : decode cX3_addLimbs 32 = .ok (.i2l, 1) := by decide +kernel
theorem dX3_addLimbs_33 : decode cX3_addLimbs 33 = .ok (.aload_n 1, 1) := by decide +kernel
theorem dX3_addLimbs_34 : decode cX3_addLimbs 34 = .ok (.iload 6, 2) := by decide +kernel
theorem dX3_addLimbs_36 : decode cX3_addLimbs 36 = .ok (.invokevirtual 66, 3) := by decide +kernel
theorem dX3_addLimbs_39 : decode cX3_addLimbs 39 = .ok (.i2l, 1) := by decide +kernel
theorem dX3_addLimbs_40 : decode cX3_addLimbs 40 = .ok (.ladd, 1) := by decide +kernel
theorem dX3_addLimbs_41 : decode cX3_addLimbs 41 = .ok (.ladd, 1) := by decide +kernel
theorem dX3_addLimbs_42 : decode cX3_addLimbs 42 = .ok (.lstore 4, 2) := by decide +kernel
theorem dX3_addLimbs_44 : decode cX3_addLimbs 44 = .ok (.aload_n 0, 1) := by decide +kernel
theorem dX3_addLimbs_45 : decode cX3_addLimbs 45 = .ok (.getfield 9, 3) := by decide +kernel
theorem dX3_addLimbs_48 : decode cX3_addLimbs 48 = .ok (.iload 6, 2) := by decide +kernel
theorem dX3_addLimbs_50 : decode cX3_addLimbs 50 = .ok (.lload 4, 2) := by decide +kernel
theorem dX3_addLimbs_52 : decode cX3_addLimbs 52 = .ok (.l2i, 1) := by decide +kernel
theorem dX3_addLimbs_53 : decode cX3_addLimbs 53 = .ok (.ldc 48, 2) := by decide +kernel
theorem dX3_addLimbs_55 : decode cX3_addLimbs 55 = .ok (.iand, 1) := by decide +kernel
theorem dX3_addLimbs_56 : decode cX3_addLimbs 56 = .ok (.iastore, 1) := by decide +kernel
theorem dX3_addLimbs_57 : decode cX3_addLimbs 57 = .ok (.lload 4, 2) := by decide +kernel
theorem dX3_addLimbs_59 : decode cX3_addLimbs 59 = .ok (.bipush 31, 2) := by decide +kernel
theorem dX3_addLimbs_61 : decode cX3_addLimbs 61 = .ok (.lushr, 1) := by decide +kernel
theorem dX3_addLimbs_62 : decode cX3_addLimbs 62 = .ok (.lstore 4, 2) := by decide +kernel
theorem dX3_addLimbs_64 : decode cX3_addLimbs 64 = .ok (.iinc 6 1, 3) := by decide +kernel
theorem dX3_addLimbs_67 : decode cX3_addLimbs 67 = .ok (.goto (-49), 3) := by decide +kernel
theorem dX3_addLimbs_70 : decode cX3_addLimbs 70 = .ok (.lload 4, 2) := by decide +kernel
theorem dX3_addLimbs_72 : decode cX3_addLimbs 72 = .ok (.lconst 0, 1) := by decide +kernel
theorem dX3_addLimbs_73 : decode cX3_addLimbs 73 = .ok (.lcmp, 1) := by decide +kernel
theorem dX3_addLimbs_74 : decode cX3_addLimbs 74 = .ok (.ifCond .eq 15, 3) := by decide +kernel
theorem dX3_addLimbs_77 : decode cX3_addLimbs 77 = .ok (.aload_n 0, 1) := by decide +kernel
theorem dX3_addLimbs_78 : decode cX3_addLimbs 78 = .ok (.getfield 9, 3) := by decide +kernel
theorem dX3_addLimbs_81 : decode cX3_addLimbs 81 = .ok (.iload_n 3, 1) := by decide +kernel
theorem dX3_addLimbs_82 : decode cX3_addLimbs 82 = .ok (.lload 4, 2) := by decide +kernel
theorem dX3_addLimbs_84 : decode cX3_addLimbs 84 = .ok (.l2i, 1) := by decide +kernel
theorem dX3_addLimbs_85 : decode cX3_addLimbs 85 = .ok (.iastore, 1) := by decide +kernel
theorem dX3_addLimbs_86 : decode cX3_addLimbs 86 = .ok (.iinc 3 1, 3) := by decide +kernel
theorem dX3_addLimbs_89 : decode cX3_addLimbs 89 = .ok (.aload_n 0, 1) := by decide +kernel
theorem dX3_addLimbs_90 : decode cX3_addLimbs 90 = .ok (.iload_n 3, 1) := by decide +kernel
theorem dX3_addLimbs_91 : decode cX3_addLimbs 91 = .ok (.iload_n 2, 1) := by decide +kernel
theorem dX3_addLimbs_92 : decode cX3_addLimbs 92 = .ok (.invokevirtual 44, 3) := by decide +kernel
theorem dX3_addLimbs_95 : decode cX3_addLimbs 95 = .ok (.return_, 1) := by decide +kernel
set_option maxRecDepth 20000 in
theorem ggX3_setDifference_X3_digit : GoodIn wsX3_setDifference wsX3_digit := goodIn_r _ [8, 1, 2, 14, 15, 16] (by decide +kernel) (by decide +kernel)
set_option maxRecDepth 20000 in
theorem gX3_setDifference_X3_digit : GoodIn wsX3_setDifference (wsV RX3 66 RX3 yX3_digit wsX3_digit) := goodIn_app (goodIn_of _ (by decide +kernel)) ggX3_setDifference_X3_digit
set_option maxRecDepth 20000 in
theorem ggX3_setDifference_X3_settle : GoodIn wsX3_setDifference wsX3_settle := goodIn_r _ [12, 1, 2, 13, 14, 15, 16] (by decide +kernel) (by decide +kernel)
set_option maxRecDepth 20000 in
theorem gX3_setDifference_X3_settle : GoodIn wsX3_setDifference (wsV RX3 44 RX3 yX3_settle wsX3_settle) := goodIn_app (goodIn_of _ (by decide +kernel)) ggX3_setDifference_X3_settle
theorem dX3_setDifference_0 : decode cX3_setDifference 0 = .ok (.aload_n 1, 1) := by decide +kernel
theorem dX3_setDifference_1 : decode cX3_setDifference 1 = .ok (.getfield 15, 3) := by decide +kernel
theorem dX3_setDifference_4 : decode cX3_setDifference 4 = .ok (.istore 4, 2) := by decide +kernel
theorem dX3_setDifference_6 : decode cX3_setDifference 6 = .ok (.iconst 0, 1) := by decide +kernel
theorem dX3_setDifference_7 : decode cX3_setDifference 7 = .ok (.istore 5, 2) := by decide +kernel
theorem dX3_setDifference_9 : decode cX3_setDifference 9 = .ok (.iconst 0, 1) := by decide +kernel
theorem dX3_setDifference_10 : decode cX3_setDifference 10 = .ok (.istore 6, 2) := by decide +kernel
theorem dX3_setDifference_12 : decode cX3_setDifference 12 = .ok (.iload 6, 2) := by decide +kernel
theorem dX3_setDifference_14 : decode cX3_setDifference 14 = .ok (.iload 4, 2) := by decide +kernel
theorem dX3_setDifference_16 : decode cX3_setDifference 16 = .ok (.if_icmp .ge 47, 3) := by decide +kernel
theorem dX3_setDifference_19 : decode cX3_setDifference 19 = .ok (.aload_n 1, 1) := by decide +kernel
theorem dX3_setDifference_20 : decode cX3_setDifference 20 = .ok (.getfield 9, 3) := by decide +kernel
theorem dX3_setDifference_23 : decode cX3_setDifference 23 = .ok (.iload 6, 2) := by decide +kernel
theorem dX3_setDifference_25 : decode cX3_setDifference 25 = .ok (.iaload, 1) := by decide +kernel
theorem dX3_setDifference_26 : decode cX3_setDifference 26 = .ok (.aload_n 2, 1) := by decide +kernel
theorem dX3_setDifference_27 : decode cX3_setDifference 27 = .ok (.iload 6, 2) := by decide +kernel
theorem dX3_setDifference_29 : decode cX3_setDifference 29 = .ok (.invokevirtual 66, 3) := by decide +kernel
theorem dX3_setDifference_32 : decode cX3_setDifference 32 = .ok (.isub, 1) := by decide +kernel
theorem dX3_setDifference_33 : decode cX3_setDifference 33 = .ok (.iload 5, 2) := by decide +kernel
theorem dX3_setDifference_35 : decode cX3_setDifference 35 = .ok (.isub, 1) := by decide +kernel
theorem dX3_setDifference_36 : decode cX3_setDifference 36 = .ok (.istore 7, 2) := by decide +kernel
theorem dX3_setDifference_38 : decode cX3_setDifference 38 = .ok (.aload_n 0, 1) := by decide +kernel
theorem dX3_setDifference_39 : decode cX3_setDifference 39 = .ok (.getfield 9, 3) := by decide +kernel
theorem dX3_setDifference_42 : decode cX3_setDifference 42 = .ok (.iload 6, 2) := by decide +kernel
theorem dX3_setDifference_44 : decode cX3_setDifference 44 = .ok (.iload 7, 2) := by decide +kernel
theorem dX3_setDifference_46 : decode cX3_setDifference 46 = .ok (.ldc 48, 2) := by decide +kernel
theorem dX3_setDifference_48 : decode cX3_setDifference 48 = .ok (.iand, 1) := by decide +kernel
theorem dX3_setDifference_49 : decode cX3_setDifference 49 = .ok (.iastore, 1) := by decide +kernel
theorem dX3_setDifference_50 : decode cX3_setDifference 50 = .ok (.iload 7, 2) := by decide +kernel
theorem dX3_setDifference_52 : decode cX3_setDifference 52 = .ok (.bipush 31, 2) := by decide +kernel
theorem dX3_setDifference_54 : decode cX3_setDifference 54 = .ok (.iushr, 1) := by decide +kernel
theorem dX3_setDifference_55 : decode cX3_setDifference 55 = .ok (.istore 5, 2) := by decide +kernel
theorem dX3_setDifference_57 : decode cX3_setDifference 57 = .ok (.iinc 6 1, 3) := by decide +kernel
theorem dX3_setDifference_60 : decode cX3_setDifference 60 = .ok (.goto (-48), 3) := by decide +kernel
theorem dX3_setDifference_63 : decode cX3_setDifference 63 = .ok (.aload_n 0, 1) := by decide +kernel
theorem dX3_setDifference_64 : decode cX3_setDifference 64 = .ok (.iload 4, 2) := by decide +kernel
theorem dX3_setDifference_66 : decode cX3_setDifference 66 = .ok (.iload_n 3, 1) := by decide +kernel
theorem dX3_setDifference_67 : decode cX3_setDifference 67 = .ok (.invokevirtual 44, 3) := by decide +kernel
theorem dX3_setDifference_70 : decode cX3_setDifference 70 = .ok (.return_, 1) := by decide +kernel
set_option maxRecDepth 20000 in
theorem ggX3_growByOne_X3_digit : GoodIn wsX3_growByOne wsX3_digit := goodIn_r _ [12, 1, 2, 18, 19, 20] (by decide +kernel) (by decide +kernel)
set_option maxRecDepth 20000 in
theorem gX3_growByOne_X3_digit : GoodIn wsX3_growByOne (wsV RX3 66 RX3 yX3_digit wsX3_digit) := goodIn_app (goodIn_of _ (by decide +kernel)) ggX3_growByOne_X3_digit
set_option maxRecDepth 20000 in
theorem ggX3_growByOne_X3_settle : GoodIn wsX3_growByOne wsX3_settle := goodIn_r _ [16, 1, 2, 17, 18, 19, 20] (by decide +kernel) (by decide +kernel)
set_option maxRecDepth 20000 in
theorem gX3_growByOne_X3_settle : GoodIn wsX3_growByOne (wsV RX3 44 RX3 yX3_settle wsX3_settle) := goodIn_app (goodIn_of _ (by decide +kernel)) ggX3_growByOne_X3_settle
theorem dX3_growByOne_0 : decode cX3_growByOne 0 = .ok (.iconst 0, 1) := by decide +kernel
theorem dX3_growByOne_1 : decode cX3_growByOne 1 = .ok (.istore_n 2, 1) := by decide +kernel
theorem dX3_growByOne_2 : decode cX3_growByOne 2 = .ok (.iload_n 2, 1) := by decide +kernel
theorem dX3_growByOne_3 : decode cX3_growByOne 3 = .ok (.aload_n 0, 1) := by decide +kernel
theorem dX3_growByOne_4 : decode cX3_growByOne 4 = .ok (.getfield 15, 3) := by decide +kernel
theorem dX3_growByOne_7 : decode cX3_growByOne 7 = .ok (.if_icmp .ge 27, 3) := by decide +kernel
theorem dX3_growByOne_10 : decode cX3_growByOne 10 = .ok (.aload_n 0, 1) := by decide +kernel
theorem dX3_growByOne_11 : decode cX3_growByOne 11 = .ok (.getfield 9, 3) := by decide +kernel
theorem dX3_growByOne_14 : decode cX3_growByOne 14 = .ok (.iload_n 2, 1) := by decide +kernel
theorem dX3_growByOne_15 : decode cX3_growByOne 15 = .ok (.iaload, 1) := by decide +kernel
theorem dX3_growByOne_16 : decode cX3_growByOne 16 = .ok (.ldc 48, 2) := by decide +kernel
theorem dX3_growByOne_18 : decode cX3_growByOne 18 = .ok (.if_icmp .ne 16, 3) := by decide +kernel
theorem dX3_growByOne_21 : decode cX3_growByOne 21 = .ok (.aload_n 0, 1) := by decide +kernel
theorem dX3_growByOne_22 : decode cX3_growByOne 22 = .ok (.getfield 9, 3) := by decide +kernel
theorem dX3_growByOne_25 : decode cX3_growByOne 25 = .ok (.iload_n 2, 1) := by decide +kernel
theorem dX3_growByOne_26 : decode cX3_growByOne 26 = .ok (.iconst 0, 1) := by decide +kernel
theorem dX3_growByOne_27 : decode cX3_growByOne 27 = .ok (.iastore, 1) := by decide +kernel
theorem dX3_growByOne_28 : decode cX3_growByOne 28 = .ok (.iinc 2 1, 3) := by decide +kernel
theorem dX3_growByOne_31 : decode cX3_growByOne 31 = .ok (.goto (-29), 3) := by decide +kernel
theorem dX3_growByOne_34 : decode cX3_growByOne 34 = .ok (.aload_n 0, 1) := by decide +kernel
theorem dX3_growByOne_35 : decode cX3_growByOne 35 = .ok (.getfield 9, 3) := by decide +kernel
theorem dX3_growByOne_38 : decode cX3_growByOne 38 = .ok (.iload_n 2, 1) := by decide +kernel
theorem dX3_growByOne_39 : decode cX3_growByOne 39 = .ok (.aload_n 0, 1) := by decide +kernel
theorem dX3_growByOne_40 : decode cX3_growByOne 40 = .ok (.iload_n 2, 1) := by decide +kernel
theorem dX3_growByOne_41 : decode cX3_growByOne 41 = .ok (.invokevirtual 66, 3) := by decide +kernel
theorem dX3_growByOne_44 : decode cX3_growByOne 44 = .ok (.iconst 1, 1) := by decide +kernel
theorem dX3_growByOne_45 : decode cX3_growByOne 45 = .ok (.iadd, 1) := by decide +kernel
theorem dX3_growByOne_46 : decode cX3_growByOne 46 = .ok (.iastore, 1) := by decide +kernel
theorem dX3_growByOne_47 : decode cX3_growByOne 47 = .ok (.aload_n 0, 1) := by decide +kernel
theorem dX3_growByOne_48 : decode cX3_growByOne 48 = .ok (.aload_n 0, 1) := by decide +kernel
theorem dX3_growByOne_49 : decode cX3_growByOne 49 = .ok (.getfield 15, 3) := by decide +kernel
theorem dX3_growByOne_52 : decode cX3_growByOne 52 = .ok (.iload_n 2, 1) := by decide +kernel
theorem dX3_growByOne_53 : decode cX3_growByOne 53 = .ok (.iconst 1, 1) := by decide +kernel
theorem dX3_growByOne_54 : decode cX3_growByOne 54 = .ok (.iadd, 1) := by decide +kernel
theorem dX3_growByOne_55 : decode cX3_growByOne 55 = .ok (.invokestatic 61, 3) := by decide +kernel
theorem dX3_growByOne_58 : decode cX3_growByOne 58 = .ok (.iload_n 1, 1) := by decide +kernel
theorem dX3_growByOne_59 : decode cX3_growByOne 59 = .ok (.invokevirtual 44, 3) := by decide +kernel
theorem dX3_growByOne_62 : decode cX3_growByOne 62 = .ok (.return_, 1) := by decide +kernel
end
section
set_option maxRecDepth 20000 in
theorem ggX4_init_X4_nearest : GoodIn wsX4_init wsX4_nearest := goodIn_r _ [30, 31, 32, 33, 34, 35, 36, 37] (by decide +kernel) (by decide +kernel)
set_option maxRecDepth 20000 in
theorem gX4_init_X4_nearest : GoodIn wsX4_init (va_wsS RX4 9 yX4_nearest wsX4_nearest) := goodIn_app (goodIn_of _ (by decide +kernel)) ggX4_init_X4_nearest
set_option maxRecDepth 20000 in
theorem ggX4_init_X0_init : GoodIn wsX4_init wsX0_init := goodIn_r _ [40, 41, 2, 3, 42, 43, 44, 45, 46, 88, 89, 90, 91, 92, 93] (by decide +kernel) (by decide +kernel)
set_option maxRecDepth 20000 in
theorem gX4_init_X0_init : GoodIn wsX4_init (wsX0_init) := ggX4_init_X0_init
set_option maxRecDepth 20000 in
theorem ggX4_init_X2_init : GoodIn wsX4_init wsX2_init := goodIn_r _ [48, 49, 2, 3, 50, 22, 23, 51, 52, 53, 54, 55, 56, 44, 57, 103, 104, 105, 94, 95, 96, 97] (by decide +kernel) (by decide +kernel)
set_option maxRecDepth 20000 in
theorem gX4_init_X2_init_n28 : GoodIn wsX4_init (wsX2_init) := ggX4_init_X2_init
set_option maxRecDepth 20000 in
theorem ggX4_init_X4_zeros : GoodIn wsX4_init wsX4_zeros := goodIn_r _ [60, 21, 22, 23, 61, 54, 55, 56, 2, 3, 44, 57, 103, 104, 105] (by decide +kernel) (by decide +kernel)
set_option maxRecDepth 20000 in
theorem gX4_init_X4_zeros : GoodIn wsX4_init (va_wsS RX4 33 yX4_zeros wsX4_zeros) := goodIn_app (goodIn_of _ (by decide +kernel)) ggX4_init_X4_zeros
set_option maxRecDepth 20000 in
theorem ggX4_init_X1_init : GoodIn wsX4_init wsX1_init := goodIn_r _ [63, 64, 2, 3, 65, 22, 23, 66, 67, 68, 44, 69, 70, 71, 54, 55, 56, 57, 103, 104, 105, 98, 99, 100, 101, 102] (by decide +kernel) (by decide +kernel)
set_option maxRecDepth 20000 in
theorem gX4_init_X1_init_n46 : GoodIn wsX4_init (wsX1_init) := ggX4_init_X1_init
set_option maxRecDepth 20000 in
theorem ggX4_init_X3_init : GoodIn wsX4_init wsX3_init := goodIn_r _ [55, 56, 2, 3, 44, 57, 103, 104, 105] (by decide +kernel) (by decide +kernel)
set_option maxRecDepth 20000 in
theorem gX4_init_X3_init : GoodIn wsX4_init (wsX3_init) := ggX4_init_X3_init
theorem dX4_init_0 : decode cX4_init 0 = .ok (.aload_n 0, 1) := by decide +kernel
theorem dX4_init_1 : decode cX4_init 1 = .ok (.invokespecial 3, 3) := by decide +kernel
theorem dX4_init_4 : decode cX4_init 4 = .ok (.aload_n 0, 1) := by decide +kernel
theorem dX4_init_5 : decode cX4_init 5 = .ok (.iload_n 1, 1) := by decide +kernel
theorem dX4_init_6 : decode cX4_init 6 = .ok (.bipush 6, 2) := by decide +kernel
theorem dX4_init_8 : decode cX4_init 8 = .ok (.invokestatic 9, 3) := by decide +kernel
theorem dX4_init_11 : decode cX4_init 11 = .ok (.putfield 13, 3) := by decide +kernel
theorem dX4_init_14 : decode cX4_init 14 = .ok (.aload_n 0, 1) := by decide +kernel
theorem dX4_init_15 : decode cX4_init 15 = .ok (.getfield 13, 3) := by decide +kernel
theorem dX4_init_18 : decode cX4_init 18 = .ok (.iconst 1, 1) := by decide +kernel
theorem dX4_init_19 : decode cX4_init 19 = .ok (.iadd, 1) := by decide +kernel
theorem dX4_init_20 : decode cX4_init 20 = .ok (.istore 4, 2) := by decide +kernel
theorem dX4_init_22 : decode cX4_init 22 = .ok (.aload_n 0, 1) := by decide +kernel
theorem dX4_init_23 : decode cX4_init 23 = .ok (.new 17, 3) := by decide +kernel
theorem dX4_init_26 : decode cX4_init 26 = .ok (.dup, 1) := by decide +kernel
theorem dX4_init_27 : decode cX4_init 27 = .ok (.iload 4, 2) := by decide +kernel
theorem dX4_init_29 : decode cX4_init 29 = .ok (.iload_n 2, 1) := by decide +kernel
theorem dX4_init_30 : decode cX4_init 30 = .ok (.bipush 60, 2) := by decide +kernel
theorem dX4_init_32 : decode cX4_init 32 = .ok (.invokestatic 9, 3) := by decide +kernel
theorem dX4_init_35 : decode cX4_init 35 = .ok (.iload_n 3, 1) := by decide +kernel
theorem dX4_init_36 : decode cX4_init 36 = .ok (.sipush 4000, 3) := by decide +kernel
theorem dX4_init_39 : decode cX4_init 39 = .ok (.invokestatic 9, 3) := by decide +kernel
theorem dX4_init_42 : decode cX4_init 42 = .ok (.invokespecial 19, 3) := by decide +kernel
theorem dX4_init_45 : decode cX4_init 45 = .ok (.putfield 22, 3) := by decide +kernel
theorem dX4_init_48 : decode cX4_init 48 = .ok (.aload_n 0, 1) := by decide +kernel
theorem dX4_init_49 : decode cX4_init 49 = .ok (.new 26, 3) := by decide +kernel
theorem dX4_init_52 : decode cX4_init 52 = .ok (.dup, 1) := by decide +kernel
theorem dX4_init_53 : decode cX4_init 53 = .ok (.invokespecial 28, 3) := by decide +kernel
theorem dX4_init_56 : decode cX4_init 56 = .ok (.putfield 29, 3) := by decide +kernel
theorem dX4_init_59 : decode cX4_init 59 = .ok (.aload_n 0, 1) := by decide +kernel
theorem dX4_init_60 : decode cX4_init 60 = .ok (.iload 4, 2) := by decide +kernel
theorem dX4_init_62 : decode cX4_init 62 = .ok (.bipush 20, 2) := by decide +kernel
theorem dX4_init_64 : decode cX4_init 64 = .ok (.invokestatic 33, 3) := by decide +kernel
theorem dX4_init_67 : decode cX4_init 67 = .ok (.putfield 37, 3) := by decide +kernel
theorem dX4_init_70 : decode cX4_init 70 = .ok (.aload_n 0, 1) := by decide +kernel
theorem dX4_init_71 : decode cX4_init 71 = .ok (.aload_n 0, 1) := by decide +kernel
theorem dX4_init_72 : decode cX4_init 72 = .ok (.getfield 13, 3) := by decide +kernel
theorem dX4_init_75 : decode cX4_init 75 = .ok (.bipush 20, 2) := by decide +kernel
theorem dX4_init_77 : decode cX4_init 77 = .ok (.invokestatic 33, 3) := by decide +kernel
theorem dX4_init_80 : decode cX4_init 80 = .ok (.putfield 41, 3) := by decide +kernel
theorem dX4_init_83 : decode cX4_init 83 = .ok (.aload_n 0, 1) := by decide +kernel
theorem dX4_init_84 : decode cX4_init 84 = .ok (.new 44, 3) := by decide +kernel
theorem dX4_init_87 : decode cX4_init 87 = .ok (.dup, 1) := by decide +kernel
theorem dX4_init_88 : decode cX4_init 88 = .ok (.invokespecial 46, 3) := by decide +kernel
theorem dX4_init_91 : decode cX4_init 91 = .ok (.putfield 47, 3) := by decide +kernel
theorem dX4_init_94 : decode cX4_init 94 = .ok (.aload_n 0, 1) := by decide +kernel
theorem dX4_init_95 : decode cX4_init 95 = .ok (.iload 4, 2) := by decide +kernel
theorem dX4_init_97 : decode cX4_init 97 = .ok (.bipush 69, 2) := by decide +kernel
theorem dX4_init_99 : decode cX4_init 99 = .ok (.invokestatic 33, 3) := by decide +kernel
theorem dX4_init_102 : decode cX4_init 102 = .ok (.putfield 51, 3) := by decide +kernel
theorem dX4_init_105 : decode cX4_init 105 = .ok (.aload_n 0, 1) := by decide +kernel
theorem dX4_init_106 : decode cX4_init 106 = .ok (.iload 4, 2) := by decide +kernel
theorem dX4_init_108 : decode cX4_init 108 = .ok (.bipush 69, 2) := by decide +kernel
theorem dX4_init_110 : decode cX4_init 110 = .ok (.invokestatic 33, 3) := by decide +kernel
theorem dX4_init_113 : decode cX4_init 113 = .ok (.putfield 54, 3) := by decide +kernel
theorem dX4_init_116 : decode cX4_init 116 = .ok (.aload_n 0, 1) := by decide +kernel
theorem dX4_init_117 : decode cX4_init 117 = .ok (.new 57, 3) := by decide +kernel
theorem dX4_init_120 : decode cX4_init 120 = .ok (.dup, 1) := by decide +kernel
theorem dX4_init_121 : decode cX4_init 121 = .ok (.bipush 48, 2) := by decide +kernel
theorem dX4_init_123 : decode cX4_init 123 = .ok (.invokespecial 59, 3) := by decide +kernel
theorem dX4_init_126 : decode cX4_init 126 = .ok (.putfield 62, 3) := by decide +kernel
theorem dX4_init_129 : decode cX4_init 129 = .ok (.aload_n 0, 1) := by decide +kernel
theorem dX4_init_130 : decode cX4_init 130 = .ok (.new 57, 3) := by decide +kernel
theorem dX4_init_133 : decode cX4_init 133 = .ok (.dup, 1) := by decide +kernel
theorem dX4_init_134 : decode cX4_init 134 = .ok (.bipush 69, 2) := by decide +kernel
theorem dX4_init_136 : decode cX4_init 136 = .ok (.invokespecial 59, 3) := by decide +kernel
theorem dX4_init_139 : decode cX4_init 139 = .ok (.putfield 66, 3) := by decide +kernel
theorem dX4_init_142 : decode cX4_init 142 = .ok (.aload_n 0, 1) := by decide +kernel
theorem dX4_init_143 : decode cX4_init 143 = .ok (.new 57, 3) := by decide +kernel
theorem dX4_init_146 : decode cX4_init 146 = .ok (.dup, 1) := by decide +kernel
theorem dX4_init_147 : decode cX4_init 147 = .ok (.bipush 69, 2) := by decide +kernel
theorem dX4_init_149 : decode cX4_init 149 = .ok (.invokespecial 59, 3) := by decide +kernel
theorem dX4_init_152 : decode cX4_init 152 = .ok (.putfield 69, 3) := by decide +kernel
theorem dX4_init_155 : decode cX4_init 155 = .ok (.return_, 1) := by decide +kernel
set_option maxRecDepth 20000 in
theorem ggX4_beginNumber_X2_open : GoodIn wsX4_beginNumber wsX2_open := goodIn_r _ [6, 7, 8, 9, 10, 11, 12, 13, 14, 15, 16, 17, 34, 35, 36, 37, 38, 39, 40] (by decide +kernel) (by decide +kernel)
set_option maxRecDepth 20000 in
theorem gX4_beginNumber_X2_open : GoodIn wsX4_beginNumber (wsV RX4 72 RX2 yX2_open wsX2_open) := goodIn_app (goodIn_of _ (by decide +kernel)) ggX4_beginNumber_X2_open
theorem dX4_beginNumber_0 : decode cX4_beginNumber 0 = .ok (.iload_n 1, 1) := by decide +kernel
theorem dX4_beginNumber_1 : decode cX4_beginNumber 1 = .ok (.iconst (-1), 1) := by decide +kernel
theorem dX4_beginNumber_2 : decode cX4_beginNumber 2 = .ok (.if_icmp .lt 8, 3) := by decide +kernel
theorem dX4_beginNumber_5 : decode cX4_beginNumber 5 = .ok (.iload_n 1, 1) := by decide +kernel
theorem dX4_beginNumber_6 : decode cX4_beginNumber 6 = .ok (.iconst 1, 1) := by decide +kernel
theorem dX4_beginNumber_7 : decode cX4_beginNumber 7 = .ok (.if_icmp .le 5, 3) := by decide +kernel
theorem dX4_beginNumber_10 : decode cX4_beginNumber 10 = .ok (.iconst 0, 1) := by decide +kernel
theorem dX4_beginNumber_11 : decode cX4_beginNumber 11 = .ok (.ireturn, 1) := by decide +kernel
theorem dX4_beginNumber_12 : decode cX4_beginNumber 12 = .ok (.aload_n 0, 1) := by decide +kernel
theorem dX4_beginNumber_13 : decode cX4_beginNumber 13 = .ok (.getfield 29, 3) := by decide +kernel
theorem dX4_beginNumber_16 : decode cX4_beginNumber 16 = .ok (.iload_n 1, 1) := by decide +kernel
theorem dX4_beginNumber_17 : decode cX4_beginNumber 17 = .ok (.invokevirtual 72, 3) := by decide +kernel
theorem dX4_beginNumber_20 : decode cX4_beginNumber 20 = .ok (.iconst 1, 1) := by decide +kernel
theorem dX4_beginNumber_21 : decode cX4_beginNumber 21 = .ok (.ireturn, 1) := by decide +kernel
set_option maxRecDepth 20000 in
theorem ggX4_limb_X2_takesMore : GoodIn wsX4_limb wsX2_takesMore := goodIn_r _ [6, 7, 8, 34, 35, 36, 37] (by decide +kernel) (by decide +kernel)
set_option maxRecDepth 20000 in
theorem gX4_limb_X2_takesMore : GoodIn wsX4_limb (wsV RX4 75 RX2 yX2_takesMore wsX2_takesMore) := goodIn_app (goodIn_of _ (by decide +kernel)) ggX4_limb_X2_takesMore
set_option maxRecDepth 20000 in
theorem ggX4_limb_X2_append : GoodIn wsX4_limb wsX2_append := goodIn_r _ [12, 13, 14, 8, 15, 16, 17, 34, 35, 36, 37, 38, 39, 40] (by decide +kernel) (by decide +kernel)
set_option maxRecDepth 20000 in
theorem gX4_limb_X2_append : GoodIn wsX4_limb (wsV RX4 79 RX2 yX2_append wsX2_append) := goodIn_app (goodIn_of _ (by decide +kernel)) ggX4_limb_X2_append
theorem dX4_limb_0 : decode cX4_limb 0 = .ok (.iload_n 1, 1) := by decide +kernel
theorem dX4_limb_1 : decode cX4_limb 1 = .ok (.ifCond .lt 13, 3) := by decide +kernel
theorem dX4_limb_4 : decode cX4_limb 4 = .ok (.aload_n 0, 1) := by decide +kernel
theorem dX4_limb_5 : decode cX4_limb 5 = .ok (.getfield 29, 3) := by decide +kernel
theorem dX4_limb_8 : decode cX4_limb 8 = .ok (.invokevirtual 75, 3) := by decide +kernel
theorem dX4_limb_11 : decode cX4_limb 11 = .ok (.ifCond .ne 5, 3) := by decide +kernel
theorem dX4_limb_14 : decode cX4_limb 14 = .ok (.iconst 0, 1) := by decide +kernel
theorem dX4_limb_15 : decode cX4_limb 15 = .ok (.ireturn, 1) := by decide +kernel
theorem dX4_limb_16 : decode cX4_limb 16 = .ok (.aload_n 0, 1) := by decide +kernel
theorem dX4_limb_17 : decode cX4_limb 17 = .ok (.getfield 29, 3) := by decide +kernel
theorem dX4_limb_20 : decode cX4_limb 20 = .ok (.iload_n 1, 1) := by decide +kernel
theorem dX4_limb_21 : decode cX4_limb 21 = .ok (.invokevirtual 79, 3) := by decide +kernel
theorem dX4_limb_24 : decode cX4_limb 24 = .ok (.iconst 1, 1) := by decide +kernel
theorem dX4_limb_25 : decode cX4_limb 25 = .ok (.ireturn, 1) := by decide +kernel
set_option maxRecDepth 20000 in
theorem ggX4_endCoefficient_X3_copyFrom : GoodIn wsX4_endCoefficient wsX3_copyFrom := goodIn_r _ [10, 11, 12, 13, 14, 15, 16, 17, 44, 45, 46] (by decide +kernel) (by decide +kernel)
set_option maxRecDepth 20000 in
theorem gX4_endCoefficient_X3_copyFrom : GoodIn wsX4_endCoefficient (wsV RX4 91 RX3 yX3_copyFrom wsX3_copyFrom) := goodIn_app (goodIn_of _ (by decide +kernel)) ggX4_endCoefficient_X3_copyFrom
set_option maxRecDepth 20000 in
theorem ggX4_endCoefficient_X2_finish : GoodIn wsX4_endCoefficient wsX2_finish := goodIn_r _ [22, 23, 40, 41, 42, 43] (by decide +kernel) (by decide +kernel)
set_option maxRecDepth 20000 in
theorem gX4_endCoefficient_X2_finish : GoodIn wsX4_endCoefficient (wsV RX4 95 RX2 yX2_finish wsX2_finish) := goodIn_app (goodIn_of _ (by decide +kernel)) ggX4_endCoefficient_X2_finish
theorem dX4_endCoefficient_0 : decode cX4_endCoefficient 0 = .ok (.aload_n 0, 1) := by decide +kernel
theorem dX4_endCoefficient_1 : decode cX4_endCoefficient 1 = .ok (.getfield 29, 3) := by decide +kernel
theorem dX4_endCoefficient_4 : decode cX4_endCoefficient 4 = .ok (.getfield 82, 3) := by decide +kernel
theorem dX4_endCoefficient_7 : decode cX4_endCoefficient 7 = .ok (.iconst 1, 1) := by decide +kernel
theorem dX4_endCoefficient_8 : decode cX4_endCoefficient 8 = .ok (.if_icmp .ne 15, 3) := by decide +kernel
theorem dX4_endCoefficient_11 : decode cX4_endCoefficient 11 = .ok (.aload_n 0, 1) := by decide +kernel
theorem dX4_endCoefficient_12 : decode cX4_endCoefficient 12 = .ok (.getfield 85, 3) := by decide +kernel
theorem dX4_endCoefficient_15 : decode cX4_endCoefficient 15 = .ok (.aload_n 0, 1) := by decide +kernel
theorem dX4_endCoefficient_16 : decode cX4_endCoefficient 16 = .ok (.getfield 37, 3) := by decide +kernel
theorem dX4_endCoefficient_19 : decode cX4_endCoefficient 19 = .ok (.arraylength, 1) := by decide +kernel
theorem dX4_endCoefficient_20 : decode cX4_endCoefficient 20 = .ok (.if_icmp .lt 5, 3) := by decide +kernel
theorem dX4_endCoefficient_23 : decode cX4_endCoefficient 23 = .ok (.iconst 0, 1) := by decide +kernel
theorem dX4_endCoefficient_24 : decode cX4_endCoefficient 24 = .ok (.ireturn, 1) := by decide +kernel
theorem dX4_endCoefficient_25 : decode cX4_endCoefficient 25 = .ok (.aload_n 0, 1) := by decide +kernel
theorem dX4_endCoefficient_26 : decode cX4_endCoefficient 26 = .ok (.getfield 37, 3) := by decide +kernel
theorem dX4_endCoefficient_29 : decode cX4_endCoefficient 29 = .ok (.aload_n 0, 1) := by decide +kernel
theorem dX4_endCoefficient_30 : decode cX4_endCoefficient 30 = .ok (.getfield 85, 3) := by decide +kernel
theorem dX4_endCoefficient_33 : decode cX4_endCoefficient 33 = .ok (.aaload, 1) := by decide +kernel
theorem dX4_endCoefficient_34 : decode cX4_endCoefficient 34 = .ok (.aload_n 0, 1) := by decide +kernel
theorem dX4_endCoefficient_35 : decode cX4_endCoefficient 35 = .ok (.getfield 29, 3) := by decide +kernel
theorem dX4_endCoefficient_38 : decode cX4_endCoefficient 38 = .ok (.getfield 88, 3) := by decide +kernel
theorem dX4_endCoefficient_41 : decode cX4_endCoefficient 41 = .ok (.invokevirtual 91, 3) := by decide +kernel
theorem dX4_endCoefficient_44 : decode cX4_endCoefficient 44 = .ok (.aload_n 0, 1) := by decide +kernel
theorem dX4_endCoefficient_45 : decode cX4_endCoefficient 45 = .ok (.dup, 1) := by decide +kernel
theorem dX4_endCoefficient_46 : decode cX4_endCoefficient 46 = .ok (.getfield 85, 3) := by decide +kernel
theorem dX4_endCoefficient_49 : decode cX4_endCoefficient 49 = .ok (.iconst 1, 1) := by decide +kernel
theorem dX4_endCoefficient_50 : decode cX4_endCoefficient 50 = .ok (.iadd, 1) := by decide +kernel
theorem dX4_endCoefficient_51 : decode cX4_endCoefficient 51 = .ok (.putfield 85, 3) := by decide +kernel
theorem dX4_endCoefficient_54 : decode cX4_endCoefficient 54 = .ok (.aload_n 0, 1) := by decide +kernel
theorem dX4_endCoefficient_55 : decode cX4_endCoefficient 55 = .ok (.getfield 29, 3) := by decide +kernel
theorem dX4_endCoefficient_58 : decode cX4_endCoefficient 58 = .ok (.invokevirtual 95, 3) := by decide +kernel
theorem dX4_endCoefficient_61 : decode cX4_endCoefficient 61 = .ok (.iconst 1, 1) := by decide +kernel
theorem dX4_endCoefficient_62 : decode cX4_endCoefficient 62 = .ok (.ireturn, 1) := by decide +kernel
set_option maxRecDepth 20000 in
theorem ggX4_endConstraint_X0_keep : GoodIn wsX4_endConstraint wsX0_keep := goodIn_r _ [10, 11, 12, 13, 14, 15, 16, 17, 9, 18, 19, 20, 21, 22, 23, 24, 25, 26, 27, 28, 29, 30, 31, 32, 33, 34, 35, 36, 37, 38, 39, 56, 57, 58, 59, 60, 61, 62, 63, 64] (by decide +kernel) (by decide +kernel)
set_option maxRecDepth 20000 in
theorem gX4_endConstraint_X0_keep : GoodIn wsX4_endConstraint (wsV RX4 102 RX0 yX0_keep wsX0_keep) := goodIn_app (goodIn_of _ (by decide +kernel)) ggX4_endConstraint_X0_keep
theorem dX4_endConstraint_0 : decode cX4_endConstraint 0 = .ok (.aload_n 0, 1) := by decide +kernel
theorem dX4_endConstraint_1 : decode cX4_endConstraint 1 = .ok (.getfield 85, 3) := by decide +kernel
theorem dX4_endConstraint_4 : decode cX4_endConstraint 4 = .ok (.aload_n 0, 1) := by decide +kernel
theorem dX4_endConstraint_5 : decode cX4_endConstraint 5 = .ok (.getfield 37, 3) := by decide +kernel
theorem dX4_endConstraint_8 : decode cX4_endConstraint 8 = .ok (.arraylength, 1) := by decide +kernel
theorem dX4_endConstraint_9 : decode cX4_endConstraint 9 = .ok (.if_icmp .ne 7, 3) := by decide +kernel
theorem dX4_endConstraint_12 : decode cX4_endConstraint 12 = .ok (.iconst 1, 1) := by decide +kernel
theorem dX4_endConstraint_13 : decode cX4_endConstraint 13 = .ok (.goto 4, 3) := by decide +kernel
theorem dX4_endConstraint_16 : decode cX4_endConstraint 16 = .ok (.iconst 0, 1) := by decide +kernel
theorem dX4_endConstraint_17 : decode cX4_endConstraint 17 = .ok (.istore_n 1, 1) := by decide +kernel
theorem dX4_endConstraint_18 : decode cX4_endConstraint 18 = .ok (.aload_n 0, 1) := by decide +kernel
theorem dX4_endConstraint_19 : decode cX4_endConstraint 19 = .ok (.iconst 0, 1) := by decide +kernel
theorem dX4_endConstraint_20 : decode cX4_endConstraint 20 = .ok (.putfield 85, 3) := by decide +kernel
theorem dX4_endConstraint_23 : decode cX4_endConstraint 23 = .ok (.aload_n 0, 1) := by decide +kernel
theorem dX4_endConstraint_24 : decode cX4_endConstraint 24 = .ok (.getfield 98, 3) := by decide +kernel
theorem dX4_endConstraint_27 : decode cX4_endConstraint 27 = .ok (.ifCond .eq 6, 3) := by decide +kernel
theorem dX4_endConstraint_30 : decode cX4_endConstraint 30 = .ok (.bipush (-3), 2) := by decide +kernel
theorem dX4_endConstraint_32 : decode cX4_endConstraint 32 = .ok (.ireturn, 1) := by decide +kernel
theorem dX4_endConstraint_33 : decode cX4_endConstraint 33 = .ok (.iload_n 1, 1) := by decide +kernel
theorem dX4_endConstraint_34 : decode cX4_endConstraint 34 = .ok (.ifCond .ne 6, 3) := by decide +kernel
theorem dX4_endConstraint_37 : decode cX4_endConstraint 37 = .ok (.bipush (-2), 2) := by decide +kernel
theorem dX4_endConstraint_39 : decode cX4_endConstraint 39 = .ok (.ireturn, 1) := by decide +kernel
theorem dX4_endConstraint_40 : decode cX4_endConstraint 40 = .ok (.aload_n 0, 1) := by decide +kernel
theorem dX4_endConstraint_41 : decode cX4_endConstraint 41 = .ok (.getfield 22, 3) := by decide +kernel
theorem dX4_endConstraint_44 : decode cX4_endConstraint 44 = .ok (.aload_n 0, 1) := by decide +kernel
theorem dX4_endConstraint_45 : decode cX4_endConstraint 45 = .ok (.getfield 37, 3) := by decide +kernel
theorem dX4_endConstraint_48 : decode cX4_endConstraint 48 = .ok (.invokevirtual 102, 3) := by decide +kernel
theorem dX4_endConstraint_51 : decode cX4_endConstraint 51 = .ok (.istore_n 2, 1) := by decide +kernel
theorem dX4_endConstraint_52 : decode cX4_endConstraint 52 = .ok (.iload_n 2, 1) := by decide +kernel
theorem dX4_endConstraint_53 : decode cX4_endConstraint 53 = .ok (.ifCond .lt 13, 3) := by decide +kernel
theorem dX4_endConstraint_56 : decode cX4_endConstraint 56 = .ok (.aload_n 0, 1) := by decide +kernel
theorem dX4_endConstraint_57 : decode cX4_endConstraint 57 = .ok (.dup, 1) := by decide +kernel
theorem dX4_endConstraint_58 : decode cX4_endConstraint 58 = .ok (.getfield 106, 3) := by decide +kernel
theorem dX4_endConstraint_61 : decode cX4_endConstraint 61 = .ok (.iconst 1, 1) := by decide +kernel
theorem dX4_endConstraint_62 : decode cX4_endConstraint 62 = .ok (.iadd, 1) := by decide +kernel
theorem dX4_endConstraint_63 : decode cX4_endConstraint 63 = .ok (.putfield 106, 3) := by decide +kernel
theorem dX4_endConstraint_66 : decode cX4_endConstraint 66 = .ok (.iload_n 2, 1) := by decide +kernel
theorem dX4_endConstraint_67 : decode cX4_endConstraint 67 = .ok (.ireturn, 1) := by decide +kernel
theorem dX4_sealInput_0 : decode cX4_sealInput 0 = .ok (.aload_n 0, 1) := by decide +kernel
theorem dX4_sealInput_1 : decode cX4_sealInput 1 = .ok (.getfield 98, 3) := by decide +kernel
theorem dX4_sealInput_4 : decode cX4_sealInput 4 = .ok (.ifCond .ne 7, 3) := by decide +kernel
theorem dX4_sealInput_7 : decode cX4_sealInput 7 = .ok (.iconst 1, 1) := by decide +kernel
theorem dX4_sealInput_8 : decode cX4_sealInput 8 = .ok (.goto 4, 3) := by decide +kernel
theorem dX4_sealInput_11 : decode cX4_sealInput 11 = .ok (.iconst 0, 1) := by decide +kernel
theorem dX4_sealInput_12 : decode cX4_sealInput 12 = .ok (.istore_n 1, 1) := by decide +kernel
theorem dX4_sealInput_13 : decode cX4_sealInput 13 = .ok (.aload_n 0, 1) := by decide +kernel
theorem dX4_sealInput_14 : decode cX4_sealInput 14 = .ok (.iconst 1, 1) := by decide +kernel
theorem dX4_sealInput_15 : decode cX4_sealInput 15 = .ok (.putfield 98, 3) := by decide +kernel
theorem dX4_sealInput_18 : decode cX4_sealInput 18 = .ok (.iload_n 1, 1) := by decide +kernel
theorem dX4_sealInput_19 : decode cX4_sealInput 19 = .ok (.ireturn, 1) := by decide +kernel
set_option maxRecDepth 20000 in
theorem ggX4_combineStart_X4_setAllZero : GoodIn wsX4_combineStart wsX4_setAllZero := goodIn_r _ [7, 8, 9, 10, 11, 12, 13, 14, 31, 32, 33] (by decide +kernel) (by decide +kernel)
set_option maxRecDepth 20000 in
theorem gX4_combineStart_X4_setAllZero : GoodIn wsX4_combineStart (va_wsS RX4 109 yX4_setAllZero wsX4_setAllZero) := goodIn_app (goodIn_of _ (by decide +kernel)) ggX4_combineStart_X4_setAllZero
theorem dX4_combineStart_0 : decode cX4_combineStart 0 = .ok (.aload_n 0, 1) := by decide +kernel
theorem dX4_combineStart_1 : decode cX4_combineStart 1 = .ok (.getfield 98, 3) := by decide +kernel
theorem dX4_combineStart_4 : decode cX4_combineStart 4 = .ok (.ifCond .ne 5, 3) := by decide +kernel
theorem dX4_combineStart_7 : decode cX4_combineStart 7 = .ok (.iconst 0, 1) := by decide +kernel
theorem dX4_combineStart_8 : decode cX4_combineStart 8 = .ok (.ireturn, 1) := by decide +kernel
theorem dX4_combineStart_9 : decode cX4_combineStart 9 = .ok (.aload_n 0, 1) := by decide +kernel
theorem dX4_combineStart_10 : decode cX4_combineStart 10 = .ok (.getfield 51, 3) := by decide +kernel
theorem dX4_combineStart_13 : decode cX4_combineStart 13 = .ok (.invokestatic 109, 3) := by decide +kernel
theorem dX4_combineStart_16 : decode cX4_combineStart 16 = .ok (.aload_n 0, 1) := by decide +kernel
theorem dX4_combineStart_17 : decode cX4_combineStart 17 = .ok (.iconst 1, 1) := by decide +kernel
theorem dX4_combineStart_18 : decode cX4_combineStart 18 = .ok (.putfield 113, 3) := by decide +kernel
theorem dX4_combineStart_21 : decode cX4_combineStart 21 = .ok (.iconst 1, 1) := by decide +kernel
theorem dX4_combineStart_22 : decode cX4_combineStart 22 = .ok (.ireturn, 1) := by decide +kernel
set_option maxRecDepth 20000 in
theorem ggX4_combineAdd_X0_has : GoodIn wsX4_combineAdd wsX0_has := goodIn_r _ [12, 13, 138, 139, 140, 141, 142, 143] (by decide +kernel) (by decide +kernel)
set_option maxRecDepth 20000 in
theorem gX4_combineAdd_X0_has : GoodIn wsX4_combineAdd (wsV RX4 116 RX0 yX0_has wsX0_has) := goodIn_app (goodIn_of _ (by decide +kernel)) ggX4_combineAdd_X0_has
set_option maxRecDepth 20000 in
theorem ggX4_combineAdd_X2_hasNumber : GoodIn wsX4_combineAdd wsX2_hasNumber := goodIn_r _ [18, 19, 131, 132, 133, 134] (by decide +kernel) (by decide +kernel)
set_option maxRecDepth 20000 in
theorem gX4_combineAdd_X2_hasNumber : GoodIn wsX4_combineAdd (wsV RX4 120 RX2 yX2_hasNumber wsX2_hasNumber) := goodIn_app (goodIn_of _ (by decide +kernel)) ggX4_combineAdd_X2_hasNumber
set_option maxRecDepth 20000 in
theorem ggX4_combineAdd_X4_draftSumWith : GoodIn wsX4_combineAdd wsX4_draftSumWith := goodIn_r _ [24, 25, 2, 26, 7, 3, 4, 6, 27, 28, 29, 30, 11, 31, 32, 33, 34, 35, 36, 37, 38, 39, 40, 41, 42, 43, 44, 45, 46, 47, 48, 49, 50, 51, 52, 53, 54, 55, 56, 57, 58, 59, 60, 61, 62, 63, 64, 65, 66, 67, 68, 69, 70, 71, 72, 73, 74, 75, 76, 77, 78, 79, 80, 81, 82, 83, 84, 85, 86, 87, 88, 89, 90, 91, 92, 93, 94, 95, 96, 97, 98, 99, 100, 101, 102, 103, 104, 105, 106, 107, 108, 109, 110, 115, 116, 117, 118, 119, 120, 121, 122, 123, 124, 125, 126, 127, 128, 129, 130, 131, 132, 133, 134, 135, 136, 137, 138, 139, 140, 141, 142, 143, 144, 145, 146, 147] (by decide +kernel) (by decide +kernel)
set_option maxRecDepth 20000 in
theorem gX4_combineAdd_X4_draftSumWith : GoodIn wsX4_combineAdd (wsV RX4 126 RX4 yX4_draftSumWith wsX4_draftSumWith) := goodIn_app (goodIn_of _ (by decide +kernel)) ggX4_combineAdd_X4_draftSumWith
set_option maxRecDepth 20000 in
theorem ggX4_combineAdd_X2_finish : GoodIn wsX4_combineAdd wsX2_finish := goodIn_r _ [114, 19, 131, 132, 133, 134] (by decide +kernel) (by decide +kernel)
set_option maxRecDepth 20000 in
theorem gX4_combineAdd_X2_finish : GoodIn wsX4_combineAdd (wsV RX4 95 RX2 yX2_finish wsX2_finish) := goodIn_app (goodIn_of _ (by decide +kernel)) ggX4_combineAdd_X2_finish
theorem dX4_combineAdd_0 : decode cX4_combineAdd 0 = .ok (.aload_n 0, 1) := by decide +kernel
theorem dX4_combineAdd_1 : decode cX4_combineAdd 1 = .ok (.getfield 113, 3) := by decide +kernel
theorem dX4_combineAdd_4 : decode cX4_combineAdd 4 = .ok (.ifCond .ne 6, 3) := by decide +kernel
theorem dX4_combineAdd_7 : decode cX4_combineAdd 7 = .ok (.bipush (-7), 2) := by decide +kernel
theorem dX4_combineAdd_9 : decode cX4_combineAdd 9 = .ok (.ireturn, 1) := by decide +kernel
theorem dX4_combineAdd_10 : decode cX4_combineAdd 10 = .ok (.aload_n 0, 1) := by decide +kernel
theorem dX4_combineAdd_11 : decode cX4_combineAdd 11 = .ok (.getfield 22, 3) := by decide +kernel
theorem dX4_combineAdd_14 : decode cX4_combineAdd 14 = .ok (.iload_n 1, 1) := by decide +kernel
theorem dX4_combineAdd_15 : decode cX4_combineAdd 15 = .ok (.invokevirtual 116, 3) := by decide +kernel
theorem dX4_combineAdd_18 : decode cX4_combineAdd 18 = .ok (.ifCond .ne 6, 3) := by decide +kernel
theorem dX4_combineAdd_21 : decode cX4_combineAdd 21 = .ok (.bipush (-5), 2) := by decide +kernel
theorem dX4_combineAdd_23 : decode cX4_combineAdd 23 = .ok (.ireturn, 1) := by decide +kernel
theorem dX4_combineAdd_24 : decode cX4_combineAdd 24 = .ok (.aload_n 0, 1) := by decide +kernel
theorem dX4_combineAdd_25 : decode cX4_combineAdd 25 = .ok (.getfield 29, 3) := by decide +kernel
theorem dX4_combineAdd_28 : decode cX4_combineAdd 28 = .ok (.invokevirtual 120, 3) := by decide +kernel
theorem dX4_combineAdd_31 : decode cX4_combineAdd 31 = .ok (.ifCond .eq 16, 3) := by decide +kernel
theorem dX4_combineAdd_34 : decode cX4_combineAdd 34 = .ok (.aload_n 0, 1) := by decide +kernel
theorem dX4_combineAdd_35 : decode cX4_combineAdd 35 = .ok (.getfield 29, 3) := by decide +kernel
theorem dX4_combineAdd_38 : decode cX4_combineAdd 38 = .ok (.getfield 88, 3) := by decide +kernel
theorem dX4_combineAdd_41 : decode cX4_combineAdd 41 = .ok (.getfield 123, 3) := by decide +kernel
theorem dX4_combineAdd_44 : decode cX4_combineAdd 44 = .ok (.ifCond .ge 6, 3) := by decide +kernel
theorem dX4_combineAdd_47 : decode cX4_combineAdd 47 = .ok (.bipush (-6), 2) := by decide +kernel
theorem dX4_combineAdd_49 : decode cX4_combineAdd 49 = .ok (.ireturn, 1) := by decide +kernel
theorem dX4_combineAdd_50 : decode cX4_combineAdd 50 = .ok (.aload_n 0, 1) := by decide +kernel
theorem dX4_combineAdd_51 : decode cX4_combineAdd 51 = .ok (.iload_n 1, 1) := by decide +kernel
theorem dX4_combineAdd_52 : decode cX4_combineAdd 52 = .ok (.invokevirtual 126, 3) := by decide +kernel
theorem dX4_combineAdd_55 : decode cX4_combineAdd 55 = .ok (.ifCond .ne 6, 3) := by decide +kernel
theorem dX4_combineAdd_58 : decode cX4_combineAdd 58 = .ok (.bipush (-4), 2) := by decide +kernel
theorem dX4_combineAdd_60 : decode cX4_combineAdd 60 = .ok (.ireturn, 1) := by decide +kernel
theorem dX4_combineAdd_61 : decode cX4_combineAdd 61 = .ok (.aload_n 0, 1) := by decide +kernel
theorem dX4_combineAdd_62 : decode cX4_combineAdd 62 = .ok (.getfield 51, 3) := by decide +kernel
theorem dX4_combineAdd_65 : decode cX4_combineAdd 65 = .ok (.astore_n 2, 1) := by decide +kernel
theorem dX4_combineAdd_66 : decode cX4_combineAdd 66 = .ok (.aload_n 0, 1) := by decide +kernel
theorem dX4_combineAdd_67 : decode cX4_combineAdd 67 = .ok (.aload_n 0, 1) := by decide +kernel
theorem dX4_combineAdd_68 : decode cX4_combineAdd 68 = .ok (.getfield 54, 3) := by decide +kernel
theorem dX4_combineAdd_71 : decode cX4_combineAdd 71 = .ok (.putfield 51, 3) := by decide +kernel
theorem dX4_combineAdd_74 : decode cX4_combineAdd 74 = .ok (.aload_n 0, 1) := by decide +kernel
theorem dX4_combineAdd_75 : decode cX4_combineAdd 75 = .ok (.aload_n 2, 1) := by decide +kernel
theorem dX4_combineAdd_76 : decode cX4_combineAdd 76 = .ok (.putfield 54, 3) := by decide +kernel
theorem dX4_combineAdd_79 : decode cX4_combineAdd 79 = .ok (.aload_n 0, 1) := by decide +kernel
theorem dX4_combineAdd_80 : decode cX4_combineAdd 80 = .ok (.getfield 29, 3) := by decide +kernel
theorem dX4_combineAdd_83 : decode cX4_combineAdd 83 = .ok (.invokevirtual 95, 3) := by decide +kernel
theorem dX4_combineAdd_86 : decode cX4_combineAdd 86 = .ok (.iconst 0, 1) := by decide +kernel
theorem dX4_combineAdd_87 : decode cX4_combineAdd 87 = .ok (.ireturn, 1) := by decide +kernel
set_option maxRecDepth 20000 in
theorem ggX4_combineEnd_X4_keepMade : GoodIn wsX4_combineEnd wsX4_keepMade := goodIn_r _ [7, 8, 9, 10, 11, 12, 13, 14, 15, 16, 17, 18, 19, 20, 21, 22, 23, 24, 25, 26, 27, 28, 29, 30, 31, 32, 33, 34, 35, 36, 37, 38, 39, 40, 41, 42, 43, 44, 45, 46, 47, 48, 6, 49, 50, 51, 52, 53, 54, 55, 56, 57, 58, 59, 60, 61, 62, 63, 64, 65, 66, 67, 68, 69, 70, 71, 72, 73, 74, 75, 76, 77, 78, 79, 80, 81, 82] (by decide +kernel) (by decide +kernel)
set_option maxRecDepth 20000 in
theorem gX4_combineEnd_X4_keepMade : GoodIn wsX4_combineEnd (wsV RX4 129 RX4 yX4_keepMade wsX4_keepMade) := goodIn_app (goodIn_of _ (by decide +kernel)) ggX4_combineEnd_X4_keepMade
theorem dX4_combineEnd_0 : decode cX4_combineEnd 0 = .ok (.aload_n 0, 1) := by decide +kernel
theorem dX4_combineEnd_1 : decode cX4_combineEnd 1 = .ok (.getfield 113, 3) := by decide +kernel
theorem dX4_combineEnd_4 : decode cX4_combineEnd 4 = .ok (.ifCond .ne 6, 3) := by decide +kernel
theorem dX4_combineEnd_7 : decode cX4_combineEnd 7 = .ok (.bipush (-7), 2) := by decide +kernel
theorem dX4_combineEnd_9 : decode cX4_combineEnd 9 = .ok (.ireturn, 1) := by decide +kernel
theorem dX4_combineEnd_10 : decode cX4_combineEnd 10 = .ok (.aload_n 0, 1) := by decide +kernel
theorem dX4_combineEnd_11 : decode cX4_combineEnd 11 = .ok (.aload_n 0, 1) := by decide +kernel
theorem dX4_combineEnd_12 : decode cX4_combineEnd 12 = .ok (.getfield 51, 3) := by decide +kernel
theorem dX4_combineEnd_15 : decode cX4_combineEnd 15 = .ok (.invokevirtual 129, 3) := by decide +kernel
theorem dX4_combineEnd_18 : decode cX4_combineEnd 18 = .ok (.istore_n 1, 1) := by decide +kernel
theorem dX4_combineEnd_19 : decode cX4_combineEnd 19 = .ok (.iload_n 1, 1) := by decide +kernel
theorem dX4_combineEnd_20 : decode cX4_combineEnd 20 = .ok (.ifCond .lt 8, 3) := by decide +kernel
theorem dX4_combineEnd_23 : decode cX4_combineEnd 23 = .ok (.aload_n 0, 1) := by decide +kernel
theorem dX4_combineEnd_24 : decode cX4_combineEnd 24 = .ok (.iconst 0, 1) := by decide +kernel
theorem dX4_combineEnd_25 : decode cX4_combineEnd 25 = .ok (.putfield 113, 3) := by decide +kernel
theorem dX4_combineEnd_28 : decode cX4_combineEnd 28 = .ok (.iload_n 1, 1) := by decide +kernel
theorem dX4_combineEnd_29 : decode cX4_combineEnd 29 = .ok (.ireturn, 1) := by decide +kernel
set_option maxRecDepth 20000 in
theorem ggX4_divideRound_X0_has : GoodIn wsX4_divideRound wsX0_has := goodIn_r _ [11, 12, 188, 189, 190, 191, 192, 193] (by decide +kernel) (by decide +kernel)
set_option maxRecDepth 20000 in
theorem gX4_divideRound_X0_has : GoodIn wsX4_divideRound (wsV RX4 116 RX0 yX0_has wsX0_has) := goodIn_app (goodIn_of _ (by decide +kernel)) ggX4_divideRound_X0_has
set_option maxRecDepth 20000 in
theorem ggX4_divideRound_X4_hasCoefficient : GoodIn wsX4_divideRound wsX4_hasCoefficient := goodIn_r _ [17, 3, 2, 18, 19, 20, 10, 21, 22, 23, 24, 25, 26, 27, 28, 172, 173, 174, 175, 176, 177, 178, 179, 180, 181, 182, 183, 184, 185, 186, 187, 188, 189, 190, 191, 192, 193] (by decide +kernel) (by decide +kernel)
set_option maxRecDepth 20000 in
theorem gX4_divideRound_X4_hasCoefficient : GoodIn wsX4_divideRound (wsV RX4 132 RX4 yX4_hasCoefficient wsX4_hasCoefficient) := goodIn_app (goodIn_of _ (by decide +kernel)) ggX4_divideRound_X4_hasCoefficient
set_option maxRecDepth 20000 in
theorem ggX4_divideRound_X0_isFull : GoodIn wsX4_divideRound wsX0_isFull := goodIn_r _ [32, 12, 33, 188, 189, 190, 191, 192, 193] (by decide +kernel) (by decide +kernel)
set_option maxRecDepth 20000 in
theorem gX4_divideRound_X0_isFull : GoodIn wsX4_divideRound (wsV RX4 135 RX0 yX0_isFull wsX0_isFull) := goodIn_app (goodIn_of _ (by decide +kernel)) ggX4_divideRound_X0_isFull
set_option maxRecDepth 20000 in
theorem ggX4_divideRound_X4_findGreatestDivisor : GoodIn wsX4_divideRound wsX4_findGreatestDivisor := goodIn_r _ [37, 5, 38, 3, 2, 4, 39, 40, 41, 42, 43, 44, 45, 46, 47, 48, 10, 49, 22, 23, 24, 50, 51, 52, 53, 54, 55, 56, 57, 58, 59, 60, 61, 62, 63, 64, 65, 19, 20, 21, 25, 26, 27, 28, 66, 67, 68, 69, 70, 71, 72, 73, 74, 75, 76, 77, 78, 79, 80, 81, 82, 83, 84, 85, 86, 87, 88, 89, 90, 91, 92, 93, 94, 95, 96, 97, 98, 99, 100, 101, 102, 103, 104, 105, 106, 107, 108, 109, 110, 111, 112, 113, 114, 115, 116, 117, 118, 119, 120, 121, 122, 123, 124, 125, 126, 127, 128, 129, 172, 173, 174, 175, 176, 177, 178, 179, 180, 181, 182, 183, 184, 185, 186, 187, 194, 195, 196, 197, 198, 199, 200, 201, 188, 189, 190, 191, 192, 193] (by decide +kernel) (by decide +kernel)
set_option maxRecDepth 20000 in
theorem gX4_divideRound_X4_findGreatestDivisor : GoodIn wsX4_divideRound (wsV RX4 138 RX4 yX4_findGreatestDivisor wsX4_findGreatestDivisor) := goodIn_app (goodIn_of _ (by decide +kernel)) ggX4_divideRound_X4_findGreatestDivisor
set_option maxRecDepth 20000 in
theorem ggX4_divideRound_X0_load : GoodIn wsX4_divideRound wsX0_load := goodIn_r _ [49, 22, 23, 24, 50, 51, 52, 53, 54, 55, 56, 57, 58, 59, 10, 60, 61, 62, 63, 64, 65, 19, 20, 21, 25, 26, 27, 28, 188, 189, 190, 191, 192, 193, 199, 200, 201] (by decide +kernel) (by decide +kernel)
set_option maxRecDepth 20000 in
theorem gX4_divideRound_X0_load : GoodIn wsX4_divideRound (wsV RX4 141 RX0 yX0_load wsX0_load) := goodIn_app (goodIn_of _ (by decide +kernel)) ggX4_divideRound_X0_load
set_option maxRecDepth 20000 in
theorem ggX4_divideRound_X1_floorByGreatest : GoodIn wsX4_divideRound wsX1_floorByGreatest := goodIn_r _ [133, 73, 79, 72, 134, 74, 75, 76, 77, 69, 78, 80, 81, 82, 83, 42, 84, 44, 85, 86, 87, 27, 88, 89, 40, 41, 43, 45, 90, 91, 92, 93, 94, 52, 53, 54, 95, 96, 97, 98, 99, 100, 101, 102, 103, 104, 105, 106, 107, 108, 109, 110, 111, 112, 113, 114, 115, 116, 117, 118, 119, 120, 121, 122, 123, 124, 125, 126, 127, 128, 129, 135, 136, 137, 138, 139, 140, 141, 63, 142, 143, 144, 145, 146, 147, 194, 195, 196, 197, 198, 199, 200, 201] (by decide +kernel) (by decide +kernel)
set_option maxRecDepth 20000 in
theorem gX4_divideRound_X1_floorByGreatest : GoodIn wsX4_divideRound (wsV RX4 145 RX1 yX1_floorByGreatest wsX1_floorByGreatest) := goodIn_app (goodIn_of _ (by decide +kernel)) ggX4_divideRound_X1_floorByGreatest
set_option maxRecDepth 20000 in
theorem ggX4_divideRound_X4_keepMade : GoodIn wsX4_divideRound wsX4_keepMade := goodIn_r _ [151, 2, 3, 152, 153, 154, 155, 156, 10, 157, 24, 23, 12, 158, 159, 30, 31, 32, 33, 160, 161, 162, 163, 55, 164, 165, 166, 167, 22, 168, 169, 170, 171, 56, 50, 51, 52, 53, 54, 13, 14, 15, 16, 17, 18, 19, 20, 21, 25, 26, 27, 28, 172, 173, 174, 175, 176, 177, 178, 179, 180, 181, 182, 183, 184, 185, 186, 187, 199, 200, 201, 188, 189, 190, 191, 192, 193] (by decide +kernel) (by decide +kernel)
set_option maxRecDepth 20000 in
theorem gX4_divideRound_X4_keepMade : GoodIn wsX4_divideRound (wsV RX4 129 RX4 yX4_keepMade wsX4_keepMade) := goodIn_app (goodIn_of _ (by decide +kernel)) ggX4_divideRound_X4_keepMade
theorem dX4_divideRound_0 : decode cX4_divideRound 0 = .ok (.aload_n 0, 1) := by decide +kernel
theorem dX4_divideRound_1 : decode cX4_divideRound 1 = .ok (.getfield 98, 3) := by decide +kernel
theorem dX4_divideRound_4 : decode cX4_divideRound 4 = .ok (.ifCond .eq 14, 3) := by decide +kernel
theorem dX4_divideRound_7 : decode cX4_divideRound 7 = .ok (.aload_n 0, 1) := by decide +kernel
theorem dX4_divideRound_8 : decode cX4_divideRound 8 = .ok (.getfield 22, 3) := by decide +kernel
theorem dX4_divideRound_11 : decode cX4_divideRound 11 = .ok (.iload_n 1, 1) := by decide +kernel
theorem dX4_divideRound_12 : decode cX4_divideRound 12 = .ok (.invokevirtual 116, 3) := by decide +kernel
theorem dX4_divideRound_15 : decode cX4_divideRound 15 = .ok (.ifCond .ne 6, 3) := by decide +kernel
theorem dX4_divideRound_18 : decode cX4_divideRound 18 = .ok (.bipush (-5), 2) := by decide +kernel
theorem dX4_divideRound_20 : decode cX4_divideRound 20 = .ok (.ireturn, 1) := by decide +kernel
theorem dX4_divideRound_21 : decode cX4_divideRound 21 = .ok (.aload_n 0, 1) := by decide +kernel
theorem dX4_divideRound_22 : decode cX4_divideRound 22 = .ok (.iload_n 1, 1) := by decide +kernel
theorem dX4_divideRound_23 : decode cX4_divideRound 23 = .ok (.invokevirtual 132, 3) := by decide +kernel
theorem dX4_divideRound_26 : decode cX4_divideRound 26 = .ok (.ifCond .ne 6, 3) := by decide +kernel
theorem dX4_divideRound_29 : decode cX4_divideRound 29 = .ok (.bipush (-8), 2) := by decide +kernel
theorem dX4_divideRound_31 : decode cX4_divideRound 31 = .ok (.ireturn, 1) := by decide +kernel
theorem dX4_divideRound_32 : decode cX4_divideRound 32 = .ok (.aload_n 0, 1) := by decide +kernel
theorem dX4_divideRound_33 : decode cX4_divideRound 33 = .ok (.getfield 22, 3) := by decide +kernel
theorem dX4_divideRound_36 : decode cX4_divideRound 36 = .ok (.invokevirtual 135, 3) := by decide +kernel
theorem dX4_divideRound_39 : decode cX4_divideRound 39 = .ok (.ifCond .eq 6, 3) := by decide +kernel
theorem dX4_divideRound_42 : decode cX4_divideRound 42 = .ok (.bipush (-4), 2) := by decide +kernel
theorem dX4_divideRound_44 : decode cX4_divideRound 44 = .ok (.ireturn, 1) := by decide +kernel
theorem dX4_divideRound_45 : decode cX4_divideRound 45 = .ok (.aload_n 0, 1) := by decide +kernel
theorem dX4_divideRound_46 : decode cX4_divideRound 46 = .ok (.iload_n 1, 1) := by decide +kernel
theorem dX4_divideRound_47 : decode cX4_divideRound 47 = .ok (.invokevirtual 138, 3) := by decide +kernel
theorem dX4_divideRound_50 : decode cX4_divideRound 50 = .ok (.iconst 0, 1) := by decide +kernel
theorem dX4_divideRound_51 : decode cX4_divideRound 51 = .ok (.istore_n 2, 1) := by decide +kernel
theorem dX4_divideRound_52 : decode cX4_divideRound 52 = .ok (.iload_n 2, 1) := by decide +kernel
theorem dX4_divideRound_53 : decode cX4_divideRound 53 = .ok (.aload_n 0, 1) := by decide +kernel
theorem dX4_divideRound_54 : decode cX4_divideRound 54 = .ok (.getfield 13, 3) := by decide +kernel
theorem dX4_divideRound_57 : decode cX4_divideRound 57 = .ok (.if_icmp .gt 39, 3) := by decide +kernel
theorem dX4_divideRound_60 : decode cX4_divideRound 60 = .ok (.aload_n 0, 1) := by decide +kernel
theorem dX4_divideRound_61 : decode cX4_divideRound 61 = .ok (.getfield 22, 3) := by decide +kernel
theorem dX4_divideRound_64 : decode cX4_divideRound 64 = .ok (.iload_n 1, 1) := by decide +kernel
theorem dX4_divideRound_65 : decode cX4_divideRound 65 = .ok (.iload_n 2, 1) := by decide +kernel
theorem dX4_divideRound_66 : decode cX4_divideRound 66 = .ok (.aload_n 0, 1) := by decide +kernel
theorem dX4_divideRound_67 : decode cX4_divideRound 67 = .ok (.getfield 62, 3) := by decide +kernel
theorem dX4_divideRound_70 : decode cX4_divideRound 70 = .ok (.invokevirtual 141, 3) := by decide +kernel
theorem dX4_divideRound_73 : decode cX4_divideRound 73 = .ok (.aload_n 0, 1) := by decide +kernel
theorem dX4_divideRound_74 : decode cX4_divideRound 74 = .ok (.getfield 47, 3) := by decide +kernel
theorem dX4_divideRound_77 : decode cX4_divideRound 77 = .ok (.aload_n 0, 1) := by decide +kernel
theorem dX4_divideRound_78 : decode cX4_divideRound 78 = .ok (.getfield 62, 3) := by decide +kernel
theorem dX4_divideRound_81 : decode cX4_divideRound 81 = .ok (.aload_n 0, 1) := by decide +kernel
theorem dX4_divideRound_82 : decode cX4_divideRound 82 = .ok (.getfield 54, 3) := by decide +kernel
theorem dX4_divideRound_85 : decode cX4_divideRound 85 = .ok (.iload_n 2, 1) := by decide +kernel
theorem dX4_divideRound_86 : decode cX4_divideRound 86 = .ok (.aaload, 1) := by decide +kernel
theorem dX4_divideRound_87 : decode cX4_divideRound 87 = .ok (.invokevirtual 145, 3) := by decide +kernel
theorem dX4_divideRound_90 : decode cX4_divideRound 90 = .ok (.iinc 2 1, 3) := by decide +kernel
theorem dX4_divideRound_93 : decode cX4_divideRound 93 = .ok (.goto (-41), 3) := by decide +kernel
theorem dX4_divideRound_96 : decode cX4_divideRound 96 = .ok (.aload_n 0, 1) := by decide +kernel
theorem dX4_divideRound_97 : decode cX4_divideRound 97 = .ok (.aload_n 0, 1) := by decide +kernel
theorem dX4_divideRound_98 : decode cX4_divideRound 98 = .ok (.getfield 54, 3) := by decide +kernel
theorem dX4_divideRound_101 : decode cX4_divideRound 101 = .ok (.invokevirtual 129, 3) := by decide +kernel
theorem dX4_divideRound_104 : decode cX4_divideRound 104 = .ok (.ireturn, 1) := by decide +kernel
theorem dX4_refuted_0 : decode cX4_refuted 0 = .ok (.aload_n 0, 1) := by decide +kernel
theorem dX4_refuted_1 : decode cX4_refuted 1 = .ok (.getfield 149, 3) := by decide +kernel
theorem dX4_refuted_4 : decode cX4_refuted 4 = .ok (.ireturn, 1) := by decide +kernel
theorem dX4_rowCount_0 : decode cX4_rowCount 0 = .ok (.aload_n 0, 1) := by decide +kernel
theorem dX4_rowCount_1 : decode cX4_rowCount 1 = .ok (.getfield 22, 3) := by decide +kernel
theorem dX4_rowCount_4 : decode cX4_rowCount 4 = .ok (.getfield 152, 3) := by decide +kernel
theorem dX4_rowCount_7 : decode cX4_rowCount 7 = .ok (.ireturn, 1) := by decide +kernel
set_option maxRecDepth 20000 in
theorem ggX4_evalStart_X4_setAllZero : GoodIn wsX4_evalStart wsX4_setAllZero := goodIn_r _ [5, 6, 7, 8, 9, 10, 11, 12, 29, 30, 31] (by decide +kernel) (by decide +kernel)
set_option maxRecDepth 20000 in
theorem gX4_evalStart_X4_setAllZero : GoodIn wsX4_evalStart (va_wsS RX4 109 yX4_setAllZero wsX4_setAllZero) := goodIn_app (goodIn_of _ (by decide +kernel)) ggX4_evalStart_X4_setAllZero
theorem dX4_evalStart_0 : decode cX4_evalStart 0 = .ok (.aload_n 0, 1) := by decide +kernel
theorem dX4_evalStart_1 : decode cX4_evalStart 1 = .ok (.getfield 41, 3) := by decide +kernel
theorem dX4_evalStart_4 : decode cX4_evalStart 4 = .ok (.invokestatic 109, 3) := by decide +kernel
theorem dX4_evalStart_7 : decode cX4_evalStart 7 = .ok (.iconst 1, 1) := by decide +kernel
theorem dX4_evalStart_8 : decode cX4_evalStart 8 = .ok (.ireturn, 1) := by decide +kernel
set_option maxRecDepth 20000 in
theorem ggX4_evalPoint_X2_hasNumber : GoodIn wsX4_evalPoint wsX2_hasNumber := goodIn_r _ [9, 10, 43, 44, 45, 46] (by decide +kernel) (by decide +kernel)
set_option maxRecDepth 20000 in
theorem gX4_evalPoint_X2_hasNumber : GoodIn wsX4_evalPoint (wsV RX4 120 RX2 yX2_hasNumber wsX2_hasNumber) := goodIn_app (goodIn_of _ (by decide +kernel)) ggX4_evalPoint_X2_hasNumber
set_option maxRecDepth 20000 in
theorem ggX4_evalPoint_X3_copyFrom : GoodIn wsX4_evalPoint wsX3_copyFrom := goodIn_r _ [15, 16, 17, 18, 19, 20, 21, 22, 47, 48, 49] (by decide +kernel) (by decide +kernel)
set_option maxRecDepth 20000 in
theorem gX4_evalPoint_X3_copyFrom : GoodIn wsX4_evalPoint (wsV RX4 91 RX3 yX3_copyFrom wsX3_copyFrom) := goodIn_app (goodIn_of _ (by decide +kernel)) ggX4_evalPoint_X3_copyFrom
set_option maxRecDepth 20000 in
theorem ggX4_evalPoint_X2_finish : GoodIn wsX4_evalPoint wsX2_finish := goodIn_r _ [26, 10, 43, 44, 45, 46] (by decide +kernel) (by decide +kernel)
set_option maxRecDepth 20000 in
theorem gX4_evalPoint_X2_finish : GoodIn wsX4_evalPoint (wsV RX4 95 RX2 yX2_finish wsX2_finish) := goodIn_app (goodIn_of _ (by decide +kernel)) ggX4_evalPoint_X2_finish
theorem dX4_evalPoint_0 : decode cX4_evalPoint 0 = .ok (.iload_n 1, 1) := by decide +kernel
theorem dX4_evalPoint_1 : decode cX4_evalPoint 1 = .ok (.ifCond .lt 21, 3) := by decide +kernel
theorem dX4_evalPoint_4 : decode cX4_evalPoint 4 = .ok (.iload_n 1, 1) := by decide +kernel
theorem dX4_evalPoint_5 : decode cX4_evalPoint 5 = .ok (.aload_n 0, 1) := by decide +kernel
theorem dX4_evalPoint_6 : decode cX4_evalPoint 6 = .ok (.getfield 13, 3) := by decide +kernel
theorem dX4_evalPoint_9 : decode cX4_evalPoint 9 = .ok (.if_icmp .ge 13, 3) := by decide +kernel
theorem dX4_evalPoint_12 : decode cX4_evalPoint 12 = .ok (.aload_n 0, 1) := by decide +kernel
theorem dX4_evalPoint_13 : decode cX4_evalPoint 13 = .ok (.getfield 29, 3) := by decide +kernel
theorem dX4_evalPoint_16 : decode cX4_evalPoint 16 = .ok (.invokevirtual 120, 3) := by decide +kernel
theorem dX4_evalPoint_19 : decode cX4_evalPoint 19 = .ok (.ifCond .ne 5, 3) := by decide +kernel
theorem dX4_evalPoint_22 : decode cX4_evalPoint 22 = .ok (.iconst 0, 1) := by decide +kernel
theorem dX4_evalPoint_23 : decode cX4_evalPoint 23 = .ok (.ireturn, 1) := by decide +kernel
theorem dX4_evalPoint_24 : decode cX4_evalPoint 24 = .ok (.aload_n 0, 1) := by decide +kernel
theorem dX4_evalPoint_25 : decode cX4_evalPoint 25 = .ok (.getfield 41, 3) := by decide +kernel
theorem dX4_evalPoint_28 : decode cX4_evalPoint 28 = .ok (.iload_n 1, 1) := by decide +kernel
theorem dX4_evalPoint_29 : decode cX4_evalPoint 29 = .ok (.aaload, 1) := by decide +kernel
theorem dX4_evalPoint_30 : decode cX4_evalPoint 30 = .ok (.aload_n 0, 1) := by decide +kernel
theorem dX4_evalPoint_31 : decode cX4_evalPoint 31 = .ok (.getfield 29, 3) := by decide +kernel
theorem dX4_evalPoint_34 : decode cX4_evalPoint 34 = .ok (.getfield 88, 3) := by decide +kernel
theorem dX4_evalPoint_37 : decode cX4_evalPoint 37 = .ok (.invokevirtual 91, 3) := by decide +kernel
theorem dX4_evalPoint_40 : decode cX4_evalPoint 40 = .ok (.aload_n 0, 1) := by decide +kernel
theorem dX4_evalPoint_41 : decode cX4_evalPoint 41 = .ok (.getfield 29, 3) := by decide +kernel
theorem dX4_evalPoint_44 : decode cX4_evalPoint 44 = .ok (.invokevirtual 95, 3) := by decide +kernel
theorem dX4_evalPoint_47 : decode cX4_evalPoint 47 = .ok (.iconst 1, 1) := by decide +kernel
theorem dX4_evalPoint_48 : decode cX4_evalPoint 48 = .ok (.ireturn, 1) := by decide +kernel
set_option maxRecDepth 20000 in
theorem ggX4_evalSatisfied_X4_holdsAtPoint : GoodIn wsX4_evalSatisfied wsX4_holdsAtPoint := goodIn_r _ [6, 7, 8, 9, 10, 11, 12, 13, 14, 15, 16, 17, 18, 19, 20, 21, 22, 23, 24, 25, 26, 27, 28, 29, 30, 31, 32, 33, 34, 35, 36, 37, 38, 39, 40, 41, 42, 43, 44, 45, 46, 47, 48, 49, 50, 51, 52, 53, 54, 55, 56, 57, 58, 59, 60, 61, 62, 63, 64, 65, 66, 67, 68, 69, 70, 71, 72, 73, 74, 75, 76, 77, 78, 79, 80, 81, 82, 83, 84, 85, 86, 87, 88, 89, 90, 91, 92, 93, 94, 95, 96, 97, 98, 99, 100, 101, 102, 103, 104, 105, 106, 107, 108, 109, 110, 111, 112, 113, 114, 115, 116, 117, 118, 119, 120, 121, 122, 123, 124, 125, 126, 127, 128, 129, 130, 131] (by decide +kernel) (by decide +kernel)
set_option maxRecDepth 20000 in
theorem gX4_evalSatisfied_X4_holdsAtPoint : GoodIn wsX4_evalSatisfied (wsV RX4 155 RX4 yX4_holdsAtPoint wsX4_holdsAtPoint) := goodIn_app (goodIn_of _ (by decide +kernel)) ggX4_evalSatisfied_X4_holdsAtPoint
theorem dX4_evalSatisfied_0 : decode cX4_evalSatisfied 0 = .ok (.iconst 0, 1) := by decide +kernel
theorem dX4_evalSatisfied_1 : decode cX4_evalSatisfied 1 = .ok (.istore_n 1, 1) := by decide +kernel
theorem dX4_evalSatisfied_2 : decode cX4_evalSatisfied 2 = .ok (.iload_n 1, 1) := by decide +kernel
theorem dX4_evalSatisfied_3 : decode cX4_evalSatisfied 3 = .ok (.aload_n 0, 1) := by decide +kernel
theorem dX4_evalSatisfied_4 : decode cX4_evalSatisfied 4 = .ok (.getfield 106, 3) := by decide +kernel
theorem dX4_evalSatisfied_7 : decode cX4_evalSatisfied 7 = .ok (.if_icmp .ge 19, 3) := by decide +kernel
theorem dX4_evalSatisfied_10 : decode cX4_evalSatisfied 10 = .ok (.aload_n 0, 1) := by decide +kernel
theorem dX4_evalSatisfied_11 : decode cX4_evalSatisfied 11 = .ok (.iload_n 1, 1) := by decide +kernel
theorem dX4_evalSatisfied_12 : decode cX4_evalSatisfied 12 = .ok (.invokevirtual 155, 3) := by decide +kernel
theorem dX4_evalSatisfied_15 : decode cX4_evalSatisfied 15 = .ok (.ifCond .ne 5, 3) := by decide +kernel
theorem dX4_evalSatisfied_18 : decode cX4_evalSatisfied 18 = .ok (.iconst 0, 1) := by decide +kernel
theorem dX4_evalSatisfied_19 : decode cX4_evalSatisfied 19 = .ok (.ireturn, 1) := by decide +kernel
theorem dX4_evalSatisfied_20 : decode cX4_evalSatisfied 20 = .ok (.iinc 1 1, 3) := by decide +kernel
theorem dX4_evalSatisfied_23 : decode cX4_evalSatisfied 23 = .ok (.goto (-21), 3) := by decide +kernel
theorem dX4_evalSatisfied_26 : decode cX4_evalSatisfied 26 = .ok (.iconst 1, 1) := by decide +kernel
theorem dX4_evalSatisfied_27 : decode cX4_evalSatisfied 27 = .ok (.ireturn, 1) := by decide +kernel
theorem dX4_cell_0 : decode cX4_cell 0 = .ok (.aload_n 0, 1) := by decide +kernel
theorem dX4_cell_1 : decode cX4_cell 1 = .ok (.getfield 22, 3) := by decide +kernel
theorem dX4_cell_4 : decode cX4_cell 4 = .ok (.iload_n 1, 1) := by decide +kernel
theorem dX4_cell_5 : decode cX4_cell 5 = .ok (.invokevirtual 116, 3) := by decide +kernel
theorem dX4_cell_8 : decode cX4_cell 8 = .ok (.ifCond .eq 21, 3) := by decide +kernel
theorem dX4_cell_11 : decode cX4_cell 11 = .ok (.iload_n 2, 1) := by decide +kernel
theorem dX4_cell_12 : decode cX4_cell 12 = .ok (.ifCond .lt 17, 3) := by decide +kernel
theorem dX4_cell_15 : decode cX4_cell 15 = .ok (.iload_n 2, 1) := by decide +kernel
theorem dX4_cell_16 : decode cX4_cell 16 = .ok (.aload_n 0, 1) := by decide +kernel
theorem dX4_cell_17 : decode cX4_cell 17 = .ok (.getfield 13, 3) := by decide +kernel
theorem dX4_cell_20 : decode cX4_cell 20 = .ok (.if_icmp .gt 9, 3) := by decide +kernel
theorem dX4_cell_23 : decode cX4_cell 23 = .ok (.iload_n 3, 1) := by decide +kernel
theorem dX4_cell_24 : decode cX4_cell 24 = .ok (.bipush (-2), 2) := by decide +kernel
theorem dX4_cell_26 : decode cX4_cell 26 = .ok (.if_icmp .ge 13, 3) := by decide +kernel
theorem dX4_cell_29 : decode cX4_cell 29 = .ok (.new 158, 3) := by decide +kernel
theorem dX4_cell_32 : decode cX4_cell 32 = .ok (.dup, 1) := by decide +kernel
theorem dX4_cell_33 : decode cX4_cell 33 = .ok (.ldc 160, 2) := by decide +kernel
theorem dX4_cell_35 : decode cX4_cell 35 = .ok (.invokespecial 162, 3) := by decide +kernel
theorem dX4_cell_38 : decode cX4_cell 38 = .ok (.athrow, 1) := by decide +kernel
theorem dX4_cell_39 : decode cX4_cell 39 = .ok (.iload_n 3, 1) := by decide +kernel
theorem dX4_cell_40 : decode cX4_cell 40 = .ok (.iconst (-1), 1) := by decide +kernel
theorem dX4_cell_41 : decode cX4_cell 41 = .ok (.if_icmp .ne 13, 3) := by decide +kernel
theorem dX4_cell_44 : decode cX4_cell 44 = .ok (.aload_n 0, 1) := by decide +kernel
theorem dX4_cell_45 : decode cX4_cell 45 = .ok (.getfield 22, 3) := by decide +kernel
theorem dX4_cell_48 : decode cX4_cell 48 = .ok (.iload_n 1, 1) := by decide +kernel
theorem dX4_cell_49 : decode cX4_cell 49 = .ok (.iload_n 2, 1) := by decide +kernel
theorem dX4_cell_50 : decode cX4_cell 50 = .ok (.invokevirtual 165, 3) := by decide +kernel
theorem dX4_cell_53 : decode cX4_cell 53 = .ok (.ireturn, 1) := by decide +kernel
theorem dX4_cell_54 : decode cX4_cell 54 = .ok (.iload_n 3, 1) := by decide +kernel
theorem dX4_cell_55 : decode cX4_cell 55 = .ok (.bipush (-2), 2) := by decide +kernel
theorem dX4_cell_57 : decode cX4_cell 57 = .ok (.if_icmp .ne 13, 3) := by decide +kernel
theorem dX4_cell_60 : decode cX4_cell 60 = .ok (.aload_n 0, 1) := by decide +kernel
theorem dX4_cell_61 : decode cX4_cell 61 = .ok (.getfield 22, 3) := by decide +kernel
theorem dX4_cell_64 : decode cX4_cell 64 = .ok (.iload_n 1, 1) := by decide +kernel
theorem dX4_cell_65 : decode cX4_cell 65 = .ok (.iload_n 2, 1) := by decide +kernel
theorem dX4_cell_66 : decode cX4_cell 66 = .ok (.invokevirtual 168, 3) := by decide +kernel
theorem dX4_cell_69 : decode cX4_cell 69 = .ok (.ireturn, 1) := by decide +kernel
theorem dX4_cell_70 : decode cX4_cell 70 = .ok (.aload_n 0, 1) := by decide +kernel
theorem dX4_cell_71 : decode cX4_cell 71 = .ok (.getfield 22, 3) := by decide +kernel
theorem dX4_cell_74 : decode cX4_cell 74 = .ok (.iload_n 1, 1) := by decide +kernel
theorem dX4_cell_75 : decode cX4_cell 75 = .ok (.iload_n 2, 1) := by decide +kernel
theorem dX4_cell_76 : decode cX4_cell 76 = .ok (.iload_n 3, 1) := by decide +kernel
theorem dX4_cell_77 : decode cX4_cell 77 = .ok (.invokevirtual 171, 3) := by decide +kernel
theorem dX4_cell_80 : decode cX4_cell 80 = .ok (.ireturn, 1) := by decide +kernel
theorem dX4_count_0 : decode cX4_count 0 = .ok (.iload_n 1, 1) := by decide +kernel
theorem dX4_count_1 : decode cX4_count 1 = .ok (.tableswitch 91 0 5 #[39, 47, 52, 57, 70, 83], 39) := by decide +kernel
theorem dX4_count_40 : decode cX4_count 40 = .ok (.aload_n 0, 1) := by decide +kernel
theorem dX4_count_41 : decode cX4_count 41 = .ok (.getfield 22, 3) := by decide +kernel
theorem dX4_count_44 : decode cX4_count 44 = .ok (.invokevirtual 175, 3) := by decide +kernel
theorem dX4_count_47 : decode cX4_count 47 = .ok (.ireturn, 1) := by decide +kernel
theorem dX4_count_48 : decode cX4_count 48 = .ok (.aload_n 0, 1) := by decide +kernel
theorem dX4_count_49 : decode cX4_count 49 = .ok (.getfield 106, 3) := by decide +kernel
theorem dX4_count_52 : decode cX4_count 52 = .ok (.ireturn, 1) := by decide +kernel
theorem dX4_count_53 : decode cX4_count 53 = .ok (.aload_n 0, 1) := by decide +kernel
theorem dX4_count_54 : decode cX4_count 54 = .ok (.getfield 85, 3) := by decide +kernel
theorem dX4_count_57 : decode cX4_count 57 = .ok (.ireturn, 1) := by decide +kernel
theorem dX4_count_58 : decode cX4_count 58 = .ok (.aload_n 0, 1) := by decide +kernel
theorem dX4_count_59 : decode cX4_count 59 = .ok (.getfield 98, 3) := by decide +kernel
theorem dX4_count_62 : decode cX4_count 62 = .ok (.ifCond .eq 7, 3) := by decide +kernel
theorem dX4_count_65 : decode cX4_count 65 = .ok (.iconst 1, 1) := by decide +kernel
theorem dX4_count_66 : decode cX4_count 66 = .ok (.goto 4, 3) := by decide +kernel
theorem dX4_count_69 : decode cX4_count 69 = .ok (.iconst 0, 1) := by decide +kernel
theorem dX4_count_70 : decode cX4_count 70 = .ok (.ireturn, 1) := by decide +kernel
theorem dX4_count_71 : decode cX4_count 71 = .ok (.aload_n 0, 1) := by decide +kernel
theorem dX4_count_72 : decode cX4_count 72 = .ok (.getfield 113, 3) := by decide +kernel
theorem dX4_count_75 : decode cX4_count 75 = .ok (.ifCond .eq 7, 3) := by decide +kernel
theorem dX4_count_78 : decode cX4_count 78 = .ok (.iconst 1, 1) := by decide +kernel
theorem dX4_count_79 : decode cX4_count 79 = .ok (.goto 4, 3) := by decide +kernel
theorem dX4_count_82 : decode cX4_count 82 = .ok (.iconst 0, 1) := by decide +kernel
theorem dX4_count_83 : decode cX4_count 83 = .ok (.ireturn, 1) := by decide +kernel
theorem dX4_count_84 : decode cX4_count 84 = .ok (.aload_n 0, 1) := by decide +kernel
theorem dX4_count_85 : decode cX4_count 85 = .ok (.getfield 29, 3) := by decide +kernel
theorem dX4_count_88 : decode cX4_count 88 = .ok (.getfield 82, 3) := by decide +kernel
theorem dX4_count_91 : decode cX4_count 91 = .ok (.ireturn, 1) := by decide +kernel
theorem dX4_count_92 : decode cX4_count 92 = .ok (.new 158, 3) := by decide +kernel
theorem dX4_count_95 : decode cX4_count 95 = .ok (.dup, 1) := by decide +kernel
theorem dX4_count_96 : decode cX4_count 96 = .ok (.ldc 179, 2) := by decide +kernel
theorem dX4_count_98 : decode cX4_count 98 = .ok (.invokespecial 162, 3) := by decide +kernel
theorem dX4_count_101 : decode cX4_count 101 = .ok (.athrow, 1) := by decide +kernel
theorem dX4_nearest_0 : decode cX4_nearest 0 = .ok (.iconst 1, 1) := by decide +kernel
theorem dX4_nearest_1 : decode cX4_nearest 1 = .ok (.iload_n 1, 1) := by decide +kernel
theorem dX4_nearest_2 : decode cX4_nearest 2 = .ok (.iload_n 0, 1) := by decide +kernel
theorem dX4_nearest_3 : decode cX4_nearest 3 = .ok (.invokestatic 181, 3) := by decide +kernel
theorem dX4_nearest_6 : decode cX4_nearest 6 = .ok (.invokestatic 186, 3) := by decide +kernel
theorem dX4_nearest_9 : decode cX4_nearest 9 = .ok (.ireturn, 1) := by decide +kernel
set_option maxRecDepth 20000 in
theorem ggX4_zeros_X3_init : GoodIn wsX4_zeros wsX3_init := goodIn_r _ [6, 7, 8, 9, 10, 11, 12, 13, 14] (by decide +kernel) (by decide +kernel)
set_option maxRecDepth 20000 in
theorem gX4_zeros_X3_init : GoodIn wsX4_zeros (wsX3_init) := ggX4_zeros_X3_init
theorem dX4_zeros_0 : decode cX4_zeros 0 = .ok (.iload_n 0, 1) := by decide +kernel
theorem dX4_zeros_1 : decode cX4_zeros 1 = .ok (.anewarray 57, 3) := by decide +kernel
theorem dX4_zeros_4 : decode cX4_zeros 4 = .ok (.astore_n 2, 1) := by decide +kernel
theorem dX4_zeros_5 : decode cX4_zeros 5 = .ok (.iconst 0, 1) := by decide +kernel
theorem dX4_zeros_6 : decode cX4_zeros 6 = .ok (.istore_n 3, 1) := by decide +kernel
theorem dX4_zeros_7 : decode cX4_zeros 7 = .ok (.iload_n 3, 1) := by decide +kernel
theorem dX4_zeros_8 : decode cX4_zeros 8 = .ok (.iload_n 0, 1) := by decide +kernel
theorem dX4_zeros_9 : decode cX4_zeros 9 = .ok (.if_icmp .ge 20, 3) := by decide +kernel
theorem dX4_zeros_12 : decode cX4_zeros 12 = .ok (.aload_n 2, 1) := by decide +kernel
theorem dX4_zeros_13 : decode cX4_zeros 13 = .ok (.iload_n 3, 1) := by decide +kernel
theorem dX4_zeros_14 : decode cX4_zeros 14 = .ok (.new 57, 3) := by decide +kernel
theorem dX4_zeros_17 : decode cX4_zeros 17 = .ok (.dup, 1) := by decide +kernel
theorem dX4_zeros_18 : decode cX4_zeros 18 = .ok (.iload_n 1, 1) := by decide +kernel
theorem dX4_zeros_19 : decode cX4_zeros 19 = .ok (.invokespecial 59, 3) := by decide +kernel
theorem dX4_zeros_22 : decode cX4_zeros 22 = .ok (.aastore, 1) := by decide +kernel
theorem dX4_zeros_23 : decode cX4_zeros 23 = .ok (.iinc 3 1, 3) := by decide +kernel
theorem dX4_zeros_26 : decode cX4_zeros 26 = .ok (.goto (-19), 3) := by decide +kernel
theorem dX4_zeros_29 : decode cX4_zeros 29 = .ok (.aload_n 2, 1) := by decide +kernel
theorem dX4_zeros_30 : decode cX4_zeros 30 = .ok (.areturn, 1) := by decide +kernel
set_option maxRecDepth 20000 in
theorem ggX4_setAllZero_X3_setZero : GoodIn wsX4_setAllZero wsX3_setZero := goodIn_r _ [5, 6, 7, 8, 9, 10] (by decide +kernel) (by decide +kernel)
set_option maxRecDepth 20000 in
theorem gX4_setAllZero_X3_setZero : GoodIn wsX4_setAllZero (wsV RX4 189 RX3 yX3_setZero wsX3_setZero) := goodIn_app (goodIn_of _ (by decide +kernel)) ggX4_setAllZero_X3_setZero
theorem dX4_setAllZero_0 : decode cX4_setAllZero 0 = .ok (.iconst 0, 1) := by decide +kernel
theorem dX4_setAllZero_1 : decode cX4_setAllZero 1 = .ok (.istore_n 1, 1) := by decide +kernel
theorem dX4_setAllZero_2 : decode cX4_setAllZero 2 = .ok (.iload_n 1, 1) := by decide +kernel
theorem dX4_setAllZero_3 : decode cX4_setAllZero 3 = .ok (.aload_n 0, 1) := by decide +kernel
theorem dX4_setAllZero_4 : decode cX4_setAllZero 4 = .ok (.arraylength, 1) := by decide +kernel
theorem dX4_setAllZero_5 : decode cX4_setAllZero 5 = .ok (.if_icmp .ge 15, 3) := by decide +kernel
theorem dX4_setAllZero_8 : decode cX4_setAllZero 8 = .ok (.aload_n 0, 1) := by decide +kernel
theorem dX4_setAllZero_9 : decode cX4_setAllZero 9 = .ok (.iload_n 1, 1) := by decide +kernel
theorem dX4_setAllZero_10 : decode cX4_setAllZero 10 = .ok (.aaload, 1) := by decide +kernel
theorem dX4_setAllZero_11 : decode cX4_setAllZero 11 = .ok (.invokevirtual 189, 3) := by decide +kernel
theorem dX4_setAllZero_14 : decode cX4_setAllZero 14 = .ok (.iinc 1 1, 3) := by decide +kernel
theorem dX4_setAllZero_17 : decode cX4_setAllZero 17 = .ok (.goto (-15), 3) := by decide +kernel
theorem dX4_setAllZero_20 : decode cX4_setAllZero 20 = .ok (.return_, 1) := by decide +kernel
set_option maxRecDepth 20000 in
theorem ggX4_draftSumWith_X0_load : GoodIn wsX4_draftSumWith wsX0_load := goodIn_r _ [13, 14, 15, 16, 17, 18, 19, 20, 21, 22, 23, 24, 25, 26, 12, 27, 28, 29, 30, 31, 32, 33, 34, 35, 36, 37, 38, 39, 116, 117, 118, 119, 120, 121, 113, 114, 115] (by decide +kernel) (by decide +kernel)
set_option maxRecDepth 20000 in
theorem gX4_draftSumWith_X0_load : GoodIn wsX4_draftSumWith (wsV RX4 141 RX0 yX0_load wsX0_load) := goodIn_app (goodIn_of _ (by decide +kernel)) ggX4_draftSumWith_X0_load
set_option maxRecDepth 20000 in
theorem ggX4_draftSumWith_X3_setProduct : GoodIn wsX4_draftSumWith wsX3_setProduct := goodIn_r _ [44, 45, 46, 47, 48, 49, 50, 51, 52, 53, 54, 55, 56, 57, 58, 59, 60, 43, 61, 62, 63, 64, 65, 66, 113, 114, 115, 122, 123, 124, 125] (by decide +kernel) (by decide +kernel)
set_option maxRecDepth 20000 in
theorem gX4_draftSumWith_X3_setProduct : GoodIn wsX4_draftSumWith (wsV RX4 192 RX3 yX3_setProduct wsX3_setProduct) := goodIn_app (goodIn_of _ (by decide +kernel)) ggX4_draftSumWith_X3_setProduct
set_option maxRecDepth 20000 in
theorem ggX4_draftSumWith_X3_add : GoodIn wsX4_draftSumWith wsX3_add := goodIn_r _ [70, 47, 71, 72, 73, 43, 74, 46, 75, 76, 30, 77, 45, 62, 78, 79, 80, 81, 63, 64, 65, 66, 82, 83, 84, 85, 86, 87, 38, 88, 89, 90, 91, 92, 113, 114, 115] (by decide +kernel) (by decide +kernel)
set_option maxRecDepth 20000 in
theorem gX4_draftSumWith_X3_add : GoodIn wsX4_draftSumWith (wsV RX4 195 RX3 yX3_add wsX3_add) := goodIn_app (goodIn_of _ (by decide +kernel)) ggX4_draftSumWith_X3_add
theorem dX4_draftSumWith_0 : decode cX4_draftSumWith 0 = .ok (.iconst 0, 1) := by decide +kernel
theorem dX4_draftSumWith_1 : decode cX4_draftSumWith 1 = .ok (.istore_n 2, 1) := by decide +kernel
theorem dX4_draftSumWith_2 : decode cX4_draftSumWith 2 = .ok (.iload_n 2, 1) := by decide +kernel
theorem dX4_draftSumWith_3 : decode cX4_draftSumWith 3 = .ok (.aload_n 0, 1) := by decide +kernel
theorem dX4_draftSumWith_4 : decode cX4_draftSumWith 4 = .ok (.getfield 13, 3) := by decide +kernel
theorem dX4_draftSumWith_7 : decode cX4_draftSumWith 7 = .ok (.if_icmp .gt 73, 3) := by decide +kernel
theorem dX4_draftSumWith_10 : decode cX4_draftSumWith 10 = .ok (.aload_n 0, 1) := by decide +kernel
theorem dX4_draftSumWith_11 : decode cX4_draftSumWith 11 = .ok (.getfield 22, 3) := by decide +kernel
theorem dX4_draftSumWith_14 : decode cX4_draftSumWith 14 = .ok (.iload_n 1, 1) := by decide +kernel
theorem dX4_draftSumWith_15 : decode cX4_draftSumWith 15 = .ok (.iload_n 2, 1) := by decide +kernel
theorem dX4_draftSumWith_16 : decode cX4_draftSumWith 16 = .ok (.aload_n 0, 1) := by decide +kernel
theorem dX4_draftSumWith_17 : decode cX4_draftSumWith 17 = .ok (.getfield 62, 3) := by decide +kernel
theorem dX4_draftSumWith_20 : decode cX4_draftSumWith 20 = .ok (.invokevirtual 141, 3) := by decide +kernel
theorem dX4_draftSumWith_23 : decode cX4_draftSumWith 23 = .ok (.aload_n 0, 1) := by decide +kernel
theorem dX4_draftSumWith_24 : decode cX4_draftSumWith 24 = .ok (.getfield 54, 3) := by decide +kernel
theorem dX4_draftSumWith_27 : decode cX4_draftSumWith 27 = .ok (.iload_n 2, 1) := by decide +kernel
theorem dX4_draftSumWith_28 : decode cX4_draftSumWith 28 = .ok (.aaload, 1) := by decide +kernel
theorem dX4_draftSumWith_29 : decode cX4_draftSumWith 29 = .ok (.aload_n 0, 1) := by decide +kernel
theorem dX4_draftSumWith_30 : decode cX4_draftSumWith 30 = .ok (.getfield 29, 3) := by decide +kernel
theorem dX4_draftSumWith_33 : decode cX4_draftSumWith 33 = .ok (.getfield 88, 3) := by decide +kernel
theorem dX4_draftSumWith_36 : decode cX4_draftSumWith 36 = .ok (.aload_n 0, 1) := by decide +kernel
theorem dX4_draftSumWith_37 : decode cX4_draftSumWith 37 = .ok (.getfield 62, 3) := by decide +kernel
theorem dX4_draftSumWith_40 : decode cX4_draftSumWith 40 = .ok (.invokevirtual 192, 3) := by decide +kernel
theorem dX4_draftSumWith_43 : decode cX4_draftSumWith 43 = .ok (.aload_n 0, 1) := by decide +kernel
theorem dX4_draftSumWith_44 : decode cX4_draftSumWith 44 = .ok (.getfield 54, 3) := by decide +kernel
theorem dX4_draftSumWith_47 : decode cX4_draftSumWith 47 = .ok (.iload_n 2, 1) := by decide +kernel
theorem dX4_draftSumWith_48 : decode cX4_draftSumWith 48 = .ok (.aaload, 1) := by decide +kernel
theorem dX4_draftSumWith_49 : decode cX4_draftSumWith 49 = .ok (.aload_n 0, 1) := by decide +kernel
theorem dX4_draftSumWith_50 : decode cX4_draftSumWith 50 = .ok (.getfield 51, 3) := by decide +kernel
theorem dX4_draftSumWith_53 : decode cX4_draftSumWith 53 = .ok (.iload_n 2, 1) := by decide +kernel
theorem dX4_draftSumWith_54 : decode cX4_draftSumWith 54 = .ok (.aaload, 1) := by decide +kernel
theorem dX4_draftSumWith_55 : decode cX4_draftSumWith 55 = .ok (.invokevirtual 195, 3) := by decide +kernel
theorem dX4_draftSumWith_58 : decode cX4_draftSumWith 58 = .ok (.aload_n 0, 1) := by decide +kernel
theorem dX4_draftSumWith_59 : decode cX4_draftSumWith 59 = .ok (.getfield 54, 3) := by decide +kernel
theorem dX4_draftSumWith_62 : decode cX4_draftSumWith 62 = .ok (.iload_n 2, 1) := by decide +kernel
theorem dX4_draftSumWith_63 : decode cX4_draftSumWith 63 = .ok (.aaload, 1) := by decide +kernel
theorem dX4_draftSumWith_64 : decode cX4_draftSumWith 64 = .ok (.getfield 198, 3) := by decide +kernel
theorem dX4_draftSumWith_67 : decode cX4_draftSumWith 67 = .ok (.bipush 48, 2) := by decide +kernel
theorem dX4_draftSumWith_69 : decode cX4_draftSumWith 69 = .ok (.if_icmp .le 5, 3) := by decide +kernel
theorem dX4_draftSumWith_72 : decode cX4_draftSumWith 72 = .ok (.iconst 0, 1) := by decide +kernel
theorem dX4_draftSumWith_73 : decode cX4_draftSumWith 73 = .ok (.ireturn, 1) := by decide +kernel
theorem dX4_draftSumWith_74 : decode cX4_draftSumWith 74 = .ok (.iinc 2 1, 3) := by decide +kernel
theorem dX4_draftSumWith_77 : decode cX4_draftSumWith 77 = .ok (.goto (-75), 3) := by decide +kernel
theorem dX4_draftSumWith_80 : decode cX4_draftSumWith 80 = .ok (.iconst 1, 1) := by decide +kernel
theorem dX4_draftSumWith_81 : decode cX4_draftSumWith 81 = .ok (.ireturn, 1) := by decide +kernel
set_option maxRecDepth 20000 in
theorem ggX4_keepMade_X0_keep : GoodIn wsX4_keepMade wsX0_keep := goodIn_r _ [9, 10, 11, 12, 13, 14, 15, 16, 8, 17, 18, 19, 20, 21, 22, 23, 24, 25, 26, 27, 28, 29, 30, 31, 32, 33, 34, 35, 36, 37, 38, 71, 72, 73, 74, 75, 76, 68, 69, 70] (by decide +kernel) (by decide +kernel)
set_option maxRecDepth 20000 in
theorem gX4_keepMade_X0_keep : GoodIn wsX4_keepMade (wsV RX4 102 RX0 yX0_keep wsX0_keep) := goodIn_app (goodIn_of _ (by decide +kernel)) ggX4_keepMade_X0_keep
set_option maxRecDepth 20000 in
theorem ggX4_keepMade_X4_hasCoefficient : GoodIn wsX4_keepMade wsX4_hasCoefficient := goodIn_r _ [43, 2, 1, 44, 45, 46, 8, 47, 28, 11, 10, 48, 49, 50, 51, 52, 53, 54, 55, 56, 57, 58, 59, 60, 61, 62, 63, 64, 65, 66, 67, 71, 72, 73, 74, 75, 76] (by decide +kernel) (by decide +kernel)
set_option maxRecDepth 20000 in
theorem gX4_keepMade_X4_hasCoefficient : GoodIn wsX4_keepMade (wsV RX4 132 RX4 yX4_hasCoefficient wsX4_hasCoefficient) := goodIn_app (goodIn_of _ (by decide +kernel)) ggX4_keepMade_X4_hasCoefficient
theorem dX4_keepMade_0 : decode cX4_keepMade 0 = .ok (.aload_n 0, 1) := by decide +kernel
theorem dX4_keepMade_1 : decode cX4_keepMade 1 = .ok (.getfield 22, 3) := by decide +kernel
theorem dX4_keepMade_4 : decode cX4_keepMade 4 = .ok (.aload_n 1, 1) := by decide +kernel
theorem dX4_keepMade_5 : decode cX4_keepMade 5 = .ok (.invokevirtual 102, 3) := by decide +kernel
theorem dX4_keepMade_8 : decode cX4_keepMade 8 = .ok (.istore_n 2, 1) := by decide +kernel
theorem dX4_keepMade_9 : decode cX4_keepMade 9 = .ok (.iload_n 2, 1) := by decide +kernel
theorem dX4_keepMade_10 : decode cX4_keepMade 10 = .ok (.ifCond .lt 28, 3) := by decide +kernel
theorem dX4_keepMade_13 : decode cX4_keepMade 13 = .ok (.aload_n 1, 1) := by decide +kernel
theorem dX4_keepMade_14 : decode cX4_keepMade 14 = .ok (.aload_n 0, 1) := by decide +kernel
theorem dX4_keepMade_15 : decode cX4_keepMade 15 = .ok (.getfield 13, 3) := by decide +kernel
theorem dX4_keepMade_18 : decode cX4_keepMade 18 = .ok (.aaload, 1) := by decide +kernel
theorem dX4_keepMade_19 : decode cX4_keepMade 19 = .ok (.getfield 123, 3) := by decide +kernel
theorem dX4_keepMade_22 : decode cX4_keepMade 22 = .ok (.ifCond .ge 16, 3) := by decide +kernel
theorem dX4_keepMade_25 : decode cX4_keepMade 25 = .ok (.aload_n 0, 1) := by decide +kernel
theorem dX4_keepMade_26 : decode cX4_keepMade 26 = .ok (.iload_n 2, 1) := by decide +kernel
theorem dX4_keepMade_27 : decode cX4_keepMade 27 = .ok (.invokevirtual 132, 3) := by decide +kernel
theorem dX4_keepMade_30 : decode cX4_keepMade 30 = .ok (.ifCond .ne 8, 3) := by decide +kernel
theorem dX4_keepMade_33 : decode cX4_keepMade 33 = .ok (.aload_n 0, 1) := by decide +kernel
theorem dX4_keepMade_34 : decode cX4_keepMade 34 = .ok (.iconst 1, 1) := by decide +kernel
theorem dX4_keepMade_35 : decode cX4_keepMade 35 = .ok (.putfield 149, 3) := by decide +kernel
theorem dX4_keepMade_38 : decode cX4_keepMade 38 = .ok (.iload_n 2, 1) := by decide +kernel
theorem dX4_keepMade_39 : decode cX4_keepMade 39 = .ok (.ireturn, 1) := by decide +kernel
set_option maxRecDepth 20000 in
theorem ggX4_hasCoefficient_X0_signOf : GoodIn wsX4_hasCoefficient wsX0_signOf := goodIn_r _ [7, 8, 9, 10, 11, 12, 13, 14, 31, 32, 33, 34, 35, 36] (by decide +kernel) (by decide +kernel)
set_option maxRecDepth 20000 in
theorem gX4_hasCoefficient_X0_signOf : GoodIn wsX4_hasCoefficient (wsV RX4 165 RX0 yX0_signOf wsX0_signOf) := goodIn_app (goodIn_of _ (by decide +kernel)) ggX4_hasCoefficient_X0_signOf
theorem dX4_hasCoefficient_0 : decode cX4_hasCoefficient 0 = .ok (.iconst 0, 1) := by decide +kernel
theorem dX4_hasCoefficient_1 : decode cX4_hasCoefficient 1 = .ok (.istore_n 2, 1) := by decide +kernel
theorem dX4_hasCoefficient_2 : decode cX4_hasCoefficient 2 = .ok (.iload_n 2, 1) := by decide +kernel
theorem dX4_hasCoefficient_3 : decode cX4_hasCoefficient 3 = .ok (.aload_n 0, 1) := by decide +kernel
theorem dX4_hasCoefficient_4 : decode cX4_hasCoefficient 4 = .ok (.getfield 13, 3) := by decide +kernel
theorem dX4_hasCoefficient_7 : decode cX4_hasCoefficient 7 = .ok (.if_icmp .ge 23, 3) := by decide +kernel
theorem dX4_hasCoefficient_10 : decode cX4_hasCoefficient 10 = .ok (.aload_n 0, 1) := by decide +kernel
theorem dX4_hasCoefficient_11 : decode cX4_hasCoefficient 11 = .ok (.getfield 22, 3) := by decide +kernel
theorem dX4_hasCoefficient_14 : decode cX4_hasCoefficient 14 = .ok (.iload_n 1, 1) := by decide +kernel
theorem dX4_hasCoefficient_15 : decode cX4_hasCoefficient 15 = .ok (.iload_n 2, 1) := by decide +kernel
theorem dX4_hasCoefficient_16 : decode cX4_hasCoefficient 16 = .ok (.invokevirtual 165, 3) := by decide +kernel
theorem dX4_hasCoefficient_19 : decode cX4_hasCoefficient 19 = .ok (.ifCond .eq 5, 3) := by decide +kernel
theorem dX4_hasCoefficient_22 : decode cX4_hasCoefficient 22 = .ok (.iconst 1, 1) := by decide +kernel
theorem dX4_hasCoefficient_23 : decode cX4_hasCoefficient 23 = .ok (.ireturn, 1) := by decide +kernel
theorem dX4_hasCoefficient_24 : decode cX4_hasCoefficient 24 = .ok (.iinc 2 1, 3) := by decide +kernel
theorem dX4_hasCoefficient_27 : decode cX4_hasCoefficient 27 = .ok (.goto (-25), 3) := by decide +kernel
theorem dX4_hasCoefficient_30 : decode cX4_hasCoefficient 30 = .ok (.iconst 0, 1) := by decide +kernel
theorem dX4_hasCoefficient_31 : decode cX4_hasCoefficient 31 = .ok (.ireturn, 1) := by decide +kernel
set_option maxRecDepth 20000 in
theorem ggX4_findGreatestDivisor_X3_setZero : GoodIn wsX4_findGreatestDivisor wsX3_setZero := goodIn_r _ [10, 11, 12, 129, 130, 131] (by decide +kernel) (by decide +kernel)
set_option maxRecDepth 20000 in
theorem gX4_findGreatestDivisor_X3_setZero : GoodIn wsX4_findGreatestDivisor (wsV RX4 189 RX3 yX3_setZero wsX3_setZero) := goodIn_app (goodIn_of _ (by decide +kernel)) ggX4_findGreatestDivisor_X3_setZero
set_option maxRecDepth 20000 in
theorem ggX4_findGreatestDivisor_X0_load : GoodIn wsX4_findGreatestDivisor wsX0_load := goodIn_r _ [17, 18, 19, 20, 21, 22, 23, 24, 25, 26, 27, 28, 29, 30, 16, 31, 32, 33, 34, 35, 36, 37, 38, 39, 40, 41, 42, 43, 132, 133, 134, 135, 136, 137, 129, 130, 131] (by decide +kernel) (by decide +kernel)
set_option maxRecDepth 20000 in
theorem gX4_findGreatestDivisor_X0_load : GoodIn wsX4_findGreatestDivisor (wsV RX4 141 RX0 yX0_load wsX0_load) := goodIn_app (goodIn_of _ (by decide +kernel)) ggX4_findGreatestDivisor_X0_load
set_option maxRecDepth 20000 in
theorem ggX4_findGreatestDivisor_X1_narrowGreatest : GoodIn wsX4_findGreatestDivisor wsX1_narrowGreatest := goodIn_r _ [48, 49, 50, 51, 52, 53, 54, 55, 47, 56, 57, 58, 59, 60, 61, 9, 62, 11, 63, 64, 65, 42, 66, 67, 7, 8, 10, 12, 68, 69, 70, 71, 72, 23, 24, 25, 73, 74, 75, 76, 77, 78, 79, 80, 81, 82, 83, 84, 85, 86, 87, 88, 89, 90, 91, 92, 93, 94, 95, 96, 97, 98, 99, 100, 101, 102, 103, 104, 105, 106, 107, 129, 130, 131, 124, 125, 126, 127, 128] (by decide +kernel) (by decide +kernel)
set_option maxRecDepth 20000 in
theorem gX4_findGreatestDivisor_X1_narrowGreatest : GoodIn wsX4_findGreatestDivisor (wsV RX4 204 RX1 yX1_narrowGreatest wsX1_narrowGreatest) := goodIn_app (goodIn_of _ (by decide +kernel)) ggX4_findGreatestDivisor_X1_narrowGreatest
theorem dX4_findGreatestDivisor_0 : decode cX4_findGreatestDivisor 0 = .ok (.aload_n 0, 1) := by decide +kernel
theorem dX4_findGreatestDivisor_1 : decode cX4_findGreatestDivisor 1 = .ok (.getfield 47, 3) := by decide +kernel
theorem dX4_findGreatestDivisor_4 : decode cX4_findGreatestDivisor 4 = .ok (.getfield 201, 3) := by decide +kernel
theorem dX4_findGreatestDivisor_7 : decode cX4_findGreatestDivisor 7 = .ok (.invokevirtual 189, 3) := by decide +kernel
theorem dX4_findGreatestDivisor_10 : decode cX4_findGreatestDivisor 10 = .ok (.iconst 0, 1) := by decide +kernel
theorem dX4_findGreatestDivisor_11 : decode cX4_findGreatestDivisor 11 = .ok (.istore_n 2, 1) := by decide +kernel
theorem dX4_findGreatestDivisor_12 : decode cX4_findGreatestDivisor 12 = .ok (.iload_n 2, 1) := by decide +kernel
theorem dX4_findGreatestDivisor_13 : decode cX4_findGreatestDivisor 13 = .ok (.aload_n 0, 1) := by decide +kernel
theorem dX4_findGreatestDivisor_14 : decode cX4_findGreatestDivisor 14 = .ok (.getfield 13, 3) := by decide +kernel
theorem dX4_findGreatestDivisor_17 : decode cX4_findGreatestDivisor 17 = .ok (.if_icmp .ge 33, 3) := by decide +kernel
theorem dX4_findGreatestDivisor_20 : decode cX4_findGreatestDivisor 20 = .ok (.aload_n 0, 1) := by decide +kernel
theorem dX4_findGreatestDivisor_21 : decode cX4_findGreatestDivisor 21 = .ok (.getfield 22, 3) := by decide +kernel
theorem dX4_findGreatestDivisor_24 : decode cX4_findGreatestDivisor 24 = .ok (.iload_n 1, 1) := by decide +kernel
theorem dX4_findGreatestDivisor_25 : decode cX4_findGreatestDivisor 25 = .ok (.iload_n 2, 1) := by decide +kernel
theorem dX4_findGreatestDivisor_26 : decode cX4_findGreatestDivisor 26 = .ok (.aload_n 0, 1) := by decide +kernel
theorem dX4_findGreatestDivisor_27 : decode cX4_findGreatestDivisor 27 = .ok (.getfield 62, 3) := by decide +kernel
theorem dX4_findGreatestDivisor_30 : decode cX4_findGreatestDivisor 30 = .ok (.invokevirtual 141, 3) := by decide +kernel
theorem dX4_findGreatestDivisor_33 : decode cX4_findGreatestDivisor 33 = .ok (.aload_n 0, 1) := by decide +kernel
theorem dX4_findGreatestDivisor_34 : decode cX4_findGreatestDivisor 34 = .ok (.getfield 47, 3) := by decide +kernel
theorem dX4_findGreatestDivisor_37 : decode cX4_findGreatestDivisor 37 = .ok (.aload_n 0, 1) := by decide +kernel
theorem dX4_findGreatestDivisor_38 : decode cX4_findGreatestDivisor 38 = .ok (.getfield 62, 3) := by decide +kernel
theorem dX4_findGreatestDivisor_41 : decode cX4_findGreatestDivisor 41 = .ok (.invokevirtual 204, 3) := by decide +kernel
theorem dX4_findGreatestDivisor_44 : decode cX4_findGreatestDivisor 44 = .ok (.iinc 2 1, 3) := by decide +kernel
theorem dX4_findGreatestDivisor_47 : decode cX4_findGreatestDivisor 47 = .ok (.goto (-35), 3) := by decide +kernel
theorem dX4_findGreatestDivisor_50 : decode cX4_findGreatestDivisor 50 = .ok (.return_, 1) := by decide +kernel
set_option maxRecDepth 20000 in
theorem ggX4_holdsAtPoint_X0_load : GoodIn wsX4_holdsAtPoint wsX0_load := goodIn_r _ [12, 13, 14, 15, 16, 17, 18, 19, 20, 21, 22, 23, 24, 25, 11, 26, 27, 28, 29, 30, 31, 32, 33, 34, 35, 36, 37, 38, 116, 117, 118, 119, 120, 121, 113, 114, 115] (by decide +kernel) (by decide +kernel)
set_option maxRecDepth 20000 in
theorem gX4_holdsAtPoint_X0_load : GoodIn wsX4_holdsAtPoint (wsV RX4 141 RX0 yX0_load wsX0_load) := goodIn_app (goodIn_of _ (by decide +kernel)) ggX4_holdsAtPoint_X0_load
set_option maxRecDepth 20000 in
theorem ggX4_holdsAtPoint_X3_copyFrom : GoodIn wsX4_holdsAtPoint wsX3_copyFrom := goodIn_r _ [43, 44, 45, 46, 18, 19, 20, 47, 113, 114, 115] (by decide +kernel) (by decide +kernel)
set_option maxRecDepth 20000 in
theorem gX4_holdsAtPoint_X3_copyFrom : GoodIn wsX4_holdsAtPoint (wsV RX4 91 RX3 yX3_copyFrom wsX3_copyFrom) := goodIn_app (goodIn_of _ (by decide +kernel)) ggX4_holdsAtPoint_X3_copyFrom
set_option maxRecDepth 20000 in
theorem ggX4_holdsAtPoint_X3_setProduct : GoodIn wsX4_holdsAtPoint wsX3_setProduct := goodIn_r _ [51, 44, 45, 47, 52, 53, 54, 55, 56, 57, 58, 59, 60, 61, 62, 63, 64, 42, 65, 66, 67, 68, 69, 70, 113, 114, 115, 122, 123, 124, 125] (by decide +kernel) (by decide +kernel)
set_option maxRecDepth 20000 in
theorem gX4_holdsAtPoint_X3_setProduct : GoodIn wsX4_holdsAtPoint (wsV RX4 192 RX3 yX3_setProduct wsX3_setProduct) := goodIn_app (goodIn_of _ (by decide +kernel)) ggX4_holdsAtPoint_X3_setProduct
set_option maxRecDepth 20000 in
theorem ggX4_holdsAtPoint_X3_add : GoodIn wsX4_holdsAtPoint wsX3_add := goodIn_r _ [74, 47, 75, 76, 77, 42, 78, 45, 79, 80, 29, 81, 44, 66, 82, 83, 84, 85, 67, 68, 69, 70, 86, 87, 88, 89, 90, 91, 37, 92, 93, 94, 95, 96, 113, 114, 115] (by decide +kernel) (by decide +kernel)
set_option maxRecDepth 20000 in
theorem gX4_holdsAtPoint_X3_add : GoodIn wsX4_holdsAtPoint (wsV RX4 195 RX3 yX3_add wsX3_add) := goodIn_app (goodIn_of _ (by decide +kernel)) ggX4_holdsAtPoint_X3_add
theorem dX4_holdsAtPoint_0 : decode cX4_holdsAtPoint 0 = .ok (.aload_n 0, 1) := by decide +kernel
theorem dX4_holdsAtPoint_1 : decode cX4_holdsAtPoint 1 = .ok (.getfield 22, 3) := by decide +kernel
theorem dX4_holdsAtPoint_4 : decode cX4_holdsAtPoint 4 = .ok (.iload_n 1, 1) := by decide +kernel
theorem dX4_holdsAtPoint_5 : decode cX4_holdsAtPoint 5 = .ok (.aload_n 0, 1) := by decide +kernel
theorem dX4_holdsAtPoint_6 : decode cX4_holdsAtPoint 6 = .ok (.getfield 13, 3) := by decide +kernel
theorem dX4_holdsAtPoint_9 : decode cX4_holdsAtPoint 9 = .ok (.aload_n 0, 1) := by decide +kernel
theorem dX4_holdsAtPoint_10 : decode cX4_holdsAtPoint 10 = .ok (.getfield 62, 3) := by decide +kernel
theorem dX4_holdsAtPoint_13 : decode cX4_holdsAtPoint 13 = .ok (.invokevirtual 141, 3) := by decide +kernel
theorem dX4_holdsAtPoint_16 : decode cX4_holdsAtPoint 16 = .ok (.aload_n 0, 1) := by decide +kernel
theorem dX4_holdsAtPoint_17 : decode cX4_holdsAtPoint 17 = .ok (.getfield 69, 3) := by decide +kernel
theorem dX4_holdsAtPoint_20 : decode cX4_holdsAtPoint 20 = .ok (.aload_n 0, 1) := by decide +kernel
theorem dX4_holdsAtPoint_21 : decode cX4_holdsAtPoint 21 = .ok (.getfield 62, 3) := by decide +kernel
theorem dX4_holdsAtPoint_24 : decode cX4_holdsAtPoint 24 = .ok (.invokevirtual 91, 3) := by decide +kernel
theorem dX4_holdsAtPoint_27 : decode cX4_holdsAtPoint 27 = .ok (.aload_n 0, 1) := by decide +kernel
theorem dX4_holdsAtPoint_28 : decode cX4_holdsAtPoint 28 = .ok (.getfield 69, 3) := by decide +kernel
theorem dX4_holdsAtPoint_31 : decode cX4_holdsAtPoint 31 = .ok (.aload_n 0, 1) := by decide +kernel
theorem dX4_holdsAtPoint_32 : decode cX4_holdsAtPoint 32 = .ok (.getfield 69, 3) := by decide +kernel
theorem dX4_holdsAtPoint_35 : decode cX4_holdsAtPoint 35 = .ok (.getfield 123, 3) := by decide +kernel
theorem dX4_holdsAtPoint_38 : decode cX4_holdsAtPoint 38 = .ok (.ineg, 1) := by decide +kernel
theorem dX4_holdsAtPoint_39 : decode cX4_holdsAtPoint 39 = .ok (.putfield 123, 3) := by decide +kernel
theorem dX4_holdsAtPoint_42 : decode cX4_holdsAtPoint 42 = .ok (.iconst 0, 1) := by decide +kernel
theorem dX4_holdsAtPoint_43 : decode cX4_holdsAtPoint 43 = .ok (.istore_n 2, 1) := by decide +kernel
theorem dX4_holdsAtPoint_44 : decode cX4_holdsAtPoint 44 = .ok (.iload_n 2, 1) := by decide +kernel
theorem dX4_holdsAtPoint_45 : decode cX4_holdsAtPoint 45 = .ok (.aload_n 0, 1) := by decide +kernel
theorem dX4_holdsAtPoint_46 : decode cX4_holdsAtPoint 46 = .ok (.getfield 13, 3) := by decide +kernel
theorem dX4_holdsAtPoint_49 : decode cX4_holdsAtPoint 49 = .ok (.if_icmp .ge 50, 3) := by decide +kernel
theorem dX4_holdsAtPoint_52 : decode cX4_holdsAtPoint 52 = .ok (.aload_n 0, 1) := by decide +kernel
theorem dX4_holdsAtPoint_53 : decode cX4_holdsAtPoint 53 = .ok (.getfield 22, 3) := by decide +kernel
theorem dX4_holdsAtPoint_56 : decode cX4_holdsAtPoint 56 = .ok (.iload_n 1, 1) := by decide +kernel
theorem dX4_holdsAtPoint_57 : decode cX4_holdsAtPoint 57 = .ok (.iload_n 2, 1) := by decide +kernel
theorem dX4_holdsAtPoint_58 : decode cX4_holdsAtPoint 58 = .ok (.aload_n 0, 1) := by decide +kernel
theorem dX4_holdsAtPoint_59 : decode cX4_holdsAtPoint 59 = .ok (.getfield 62, 3) := by decide +kernel
theorem dX4_holdsAtPoint_62 : decode cX4_holdsAtPoint 62 = .ok (.invokevirtual 141, 3) := by decide +kernel
theorem dX4_holdsAtPoint_65 : decode cX4_holdsAtPoint 65 = .ok (.aload_n 0, 1) := by decide +kernel
theorem dX4_holdsAtPoint_66 : decode cX4_holdsAtPoint 66 = .ok (.getfield 66, 3) := by decide +kernel
theorem dX4_holdsAtPoint_69 : decode cX4_holdsAtPoint 69 = .ok (.aload_n 0, 1) := by decide +kernel
theorem dX4_holdsAtPoint_70 : decode cX4_holdsAtPoint 70 = .ok (.getfield 62, 3) := by decide +kernel
theorem dX4_holdsAtPoint_73 : decode cX4_holdsAtPoint 73 = .ok (.aload_n 0, 1) := by decide +kernel
theorem dX4_holdsAtPoint_74 : decode cX4_holdsAtPoint 74 = .ok (.getfield 41, 3) := by decide +kernel
theorem dX4_holdsAtPoint_77 : decode cX4_holdsAtPoint 77 = .ok (.iload_n 2, 1) := by decide +kernel
theorem dX4_holdsAtPoint_78 : decode cX4_holdsAtPoint 78 = .ok (.aaload, 1) := by decide +kernel
theorem dX4_holdsAtPoint_79 : decode cX4_holdsAtPoint 79 = .ok (.invokevirtual 192, 3) := by decide +kernel
theorem dX4_holdsAtPoint_82 : decode cX4_holdsAtPoint 82 = .ok (.aload_n 0, 1) := by decide +kernel
theorem dX4_holdsAtPoint_83 : decode cX4_holdsAtPoint 83 = .ok (.getfield 69, 3) := by decide +kernel
theorem dX4_holdsAtPoint_86 : decode cX4_holdsAtPoint 86 = .ok (.aload_n 0, 1) := by decide +kernel
theorem dX4_holdsAtPoint_87 : decode cX4_holdsAtPoint 87 = .ok (.getfield 66, 3) := by decide +kernel
theorem dX4_holdsAtPoint_90 : decode cX4_holdsAtPoint 90 = .ok (.invokevirtual 195, 3) := by decide +kernel
theorem dX4_holdsAtPoint_93 : decode cX4_holdsAtPoint 93 = .ok (.iinc 2 1, 3) := by decide +kernel
theorem dX4_holdsAtPoint_96 : decode cX4_holdsAtPoint 96 = .ok (.goto (-52), 3) := by decide +kernel
theorem dX4_holdsAtPoint_99 : decode cX4_holdsAtPoint 99 = .ok (.aload_n 0, 1) := by decide +kernel
theorem dX4_holdsAtPoint_100 : decode cX4_holdsAtPoint 100 = .ok (.getfield 69, 3) := by decide +kernel
theorem dX4_holdsAtPoint_103 : decode cX4_holdsAtPoint 103 = .ok (.getfield 123, 3) := by decide +kernel
theorem dX4_holdsAtPoint_106 : decode cX4_holdsAtPoint 106 = .ok (.ifCond .gt 7, 3) := by decide +kernel
theorem dX4_holdsAtPoint_109 : decode cX4_holdsAtPoint 109 = .ok (.iconst 1, 1) := by decide +kernel
theorem dX4_holdsAtPoint_110 : decode cX4_holdsAtPoint 110 = .ok (.goto 4, 3) := by decide +kernel
theorem dX4_holdsAtPoint_113 : decode cX4_holdsAtPoint 113 = .ok (.iconst 0, 1) := by decide +kernel
theorem dX4_holdsAtPoint_114 : decode cX4_holdsAtPoint 114 = .ok (.ireturn, 1) := by decide +kernel
end
section
set_option maxRecDepth 20000 in
theorem ggX5_init_X5_between : GoodIn wsX5_init wsX5_between := goodIn_r _ [15] (by decide +kernel) (by decide +kernel)
set_option maxRecDepth 20000 in
theorem gX5_init_X5_between : GoodIn wsX5_init (va_wsS RX5 20 yX5_between wsX5_between) := goodIn_app (goodIn_of _ (by decide +kernel)) ggX5_init_X5_between
theorem dX5_init_0 : decode cX5_init 0 = .ok (.aload_n 0, 1) := by decide +kernel
theorem dX5_init_1 : decode cX5_init 1 = .ok (.invokespecial 1, 3) := by decide +kernel
theorem dX5_init_4 : decode cX5_init 4 = .ok (.aload_n 0, 1) := by decide +kernel
theorem dX5_init_5 : decode cX5_init 5 = .ok (.sipush 32760, 3) := by decide +kernel
theorem dX5_init_8 : decode cX5_init 8 = .ok (.newarray .int, 2) := by decide +kernel
theorem dX5_init_10 : decode cX5_init 10 = .ok (.putfield 7, 3) := by decide +kernel
theorem dX5_init_13 : decode cX5_init 13 = .ok (.aload_n 0, 1) := by decide +kernel
theorem dX5_init_14 : decode cX5_init 14 = .ok (.sipush 455, 3) := by decide +kernel
theorem dX5_init_17 : decode cX5_init 17 = .ok (.newarray .int, 2) := by decide +kernel
theorem dX5_init_19 : decode cX5_init 19 = .ok (.putfield 13, 3) := by decide +kernel
theorem dX5_init_22 : decode cX5_init 22 = .ok (.aload_n 0, 1) := by decide +kernel
theorem dX5_init_23 : decode cX5_init 23 = .ok (.sipush 455, 3) := by decide +kernel
theorem dX5_init_26 : decode cX5_init 26 = .ok (.newarray .boolean, 2) := by decide +kernel
theorem dX5_init_28 : decode cX5_init 28 = .ok (.putfield 16, 3) := by decide +kernel
theorem dX5_init_31 : decode cX5_init 31 = .ok (.aload_n 0, 1) := by decide +kernel
theorem dX5_init_32 : decode cX5_init 32 = .ok (.iload_n 1, 1) := by decide +kernel
theorem dX5_init_33 : decode cX5_init 33 = .ok (.bipush 6, 2) := by decide +kernel
theorem dX5_init_35 : decode cX5_init 35 = .ok (.invokestatic 20, 3) := by decide +kernel
theorem dX5_init_38 : decode cX5_init 38 = .ok (.putfield 24, 3) := by decide +kernel
theorem dX5_init_41 : decode cX5_init 41 = .ok (.aload_n 0, 1) := by decide +kernel
theorem dX5_init_42 : decode cX5_init 42 = .ok (.iload_n 2, 1) := by decide +kernel
theorem dX5_init_43 : decode cX5_init 43 = .ok (.bipush 60, 2) := by decide +kernel
theorem dX5_init_45 : decode cX5_init 45 = .ok (.invokestatic 20, 3) := by decide +kernel
theorem dX5_init_48 : decode cX5_init 48 = .ok (.putfield 28, 3) := by decide +kernel
theorem dX5_init_51 : decode cX5_init 51 = .ok (.aload_n 0, 1) := by decide +kernel
theorem dX5_init_52 : decode cX5_init 52 = .ok (.iload_n 3, 1) := by decide +kernel
theorem dX5_init_53 : decode cX5_init 53 = .ok (.sipush 4000, 3) := by decide +kernel
theorem dX5_init_56 : decode cX5_init 56 = .ok (.invokestatic 20, 3) := by decide +kernel
theorem dX5_init_59 : decode cX5_init 59 = .ok (.putfield 31, 3) := by decide +kernel
theorem dX5_init_62 : decode cX5_init 62 = .ok (.aload_n 0, 1) := by decide +kernel
theorem dX5_init_63 : decode cX5_init 63 = .ok (.getfield 13, 3) := by decide +kernel
theorem dX5_init_66 : decode cX5_init 66 = .ok (.sipush 447, 3) := by decide +kernel
theorem dX5_init_69 : decode cX5_init 69 = .ok (.iconst 1, 1) := by decide +kernel
theorem dX5_init_70 : decode cX5_init 70 = .ok (.iastore, 1) := by decide +kernel
theorem dX5_init_71 : decode cX5_init 71 = .ok (.aload_n 0, 1) := by decide +kernel
theorem dX5_init_72 : decode cX5_init 72 = .ok (.getfield 7, 3) := by decide +kernel
theorem dX5_init_75 : decode cX5_init 75 = .ok (.sipush 32184, 3) := by decide +kernel
theorem dX5_init_78 : decode cX5_init 78 = .ok (.iconst 1, 1) := by decide +kernel
theorem dX5_init_79 : decode cX5_init 79 = .ok (.iastore, 1) := by decide +kernel
theorem dX5_init_80 : decode cX5_init 80 = .ok (.return_, 1) := by decide +kernel
theorem dX5_between_0 : decode cX5_between 0 = .ok (.iload_n 0, 1) := by decide +kernel
theorem dX5_between_1 : decode cX5_between 1 = .ok (.iconst 1, 1) := by decide +kernel
theorem dX5_between_2 : decode cX5_between 2 = .ok (.if_icmp .ge 7, 3) := by decide +kernel
theorem dX5_between_5 : decode cX5_between 5 = .ok (.iconst 1, 1) := by decide +kernel
theorem dX5_between_6 : decode cX5_between 6 = .ok (.goto 13, 3) := by decide +kernel
theorem dX5_between_9 : decode cX5_between 9 = .ok (.iload_n 0, 1) := by decide +kernel
theorem dX5_between_10 : decode cX5_between 10 = .ok (.iload_n 1, 1) := by decide +kernel
theorem dX5_between_11 : decode cX5_between 11 = .ok (.if_icmp .le 7, 3) := by decide +kernel
theorem dX5_between_14 : decode cX5_between 14 = .ok (.iload_n 1, 1) := by decide +kernel
theorem dX5_between_15 : decode cX5_between 15 = .ok (.goto 4, 3) := by decide +kernel
theorem dX5_between_18 : decode cX5_between 18 = .ok (.iload_n 0, 1) := by decide +kernel
theorem dX5_between_19 : decode cX5_between 19 = .ok (.ireturn, 1) := by decide +kernel
theorem dX5_thrown_0 : decode cX5_thrown 0 = .ok (.aload_n 0, 1) := by decide +kernel
theorem dX5_thrown_1 : decode cX5_thrown 1 = .ok (.getfield 34, 3) := by decide +kernel
theorem dX5_thrown_4 : decode cX5_thrown 4 = .ok (.ireturn, 1) := by decide +kernel
theorem dX5_refused_0 : decode cX5_refused 0 = .ok (.aload_n 0, 1) := by decide +kernel
theorem dX5_refused_1 : decode cX5_refused 1 = .ok (.iload_n 1, 1) := by decide +kernel
theorem dX5_refused_2 : decode cX5_refused 2 = .ok (.putfield 34, 3) := by decide +kernel
theorem dX5_refused_5 : decode cX5_refused 5 = .ok (.iload_n 1, 1) := by decide +kernel
theorem dX5_refused_6 : decode cX5_refused 6 = .ok (.ifCond .le 7, 3) := by decide +kernel
theorem dX5_refused_9 : decode cX5_refused 9 = .ok (.iconst 1, 1) := by decide +kernel
theorem dX5_refused_10 : decode cX5_refused 10 = .ok (.goto 4, 3) := by decide +kernel
theorem dX5_refused_13 : decode cX5_refused 13 = .ok (.iconst 0, 1) := by decide +kernel
theorem dX5_refused_14 : decode cX5_refused 14 = .ok (.ireturn, 1) := by decide +kernel
theorem dX5_trim_0 : decode cX5_trim 0 = .ok (.aload_n 0, 1) := by decide +kernel
theorem dX5_trim_1 : decode cX5_trim 1 = .ok (.getfield 13, 3) := by decide +kernel
theorem dX5_trim_4 : decode cX5_trim 4 = .ok (.iload_n 1, 1) := by decide +kernel
theorem dX5_trim_5 : decode cX5_trim 5 = .ok (.iaload, 1) := by decide +kernel
theorem dX5_trim_6 : decode cX5_trim 6 = .ok (.ifCond .le 37, 3) := by decide +kernel
theorem dX5_trim_9 : decode cX5_trim 9 = .ok (.aload_n 0, 1) := by decide +kernel
theorem dX5_trim_10 : decode cX5_trim 10 = .ok (.getfield 7, 3) := by decide +kernel
theorem dX5_trim_13 : decode cX5_trim 13 = .ok (.bipush 72, 2) := by decide +kernel
theorem dX5_trim_15 : decode cX5_trim 15 = .ok (.iload_n 1, 1) := by decide +kernel
theorem dX5_trim_16 : decode cX5_trim 16 = .ok (.imul, 1) := by decide +kernel
theorem dX5_trim_17 : decode cX5_trim 17 = .ok (.aload_n 0, 1) := by decide +kernel
theorem dX5_trim_18 : decode cX5_trim 18 = .ok (.getfield 13, 3) := by decide +kernel
theorem dX5_trim_21 : decode cX5_trim 21 = .ok (.iload_n 1, 1) := by decide +kernel
theorem dX5_trim_22 : decode cX5_trim 22 = .ok (.iaload, 1) := by decide +kernel
theorem dX5_trim_23 : decode cX5_trim 23 = .ok (.iadd, 1) := by decide +kernel
theorem dX5_trim_24 : decode cX5_trim 24 = .ok (.iconst 1, 1) := by decide +kernel
theorem dX5_trim_25 : decode cX5_trim 25 = .ok (.isub, 1) := by decide +kernel
theorem dX5_trim_26 : decode cX5_trim 26 = .ok (.iaload, 1) := by decide +kernel
theorem dX5_trim_27 : decode cX5_trim 27 = .ok (.ifCond .ne 16, 3) := by decide +kernel
theorem dX5_trim_30 : decode cX5_trim 30 = .ok (.aload_n 0, 1) := by decide +kernel
theorem dX5_trim_31 : decode cX5_trim 31 = .ok (.getfield 13, 3) := by decide +kernel
theorem dX5_trim_34 : decode cX5_trim 34 = .ok (.iload_n 1, 1) := by decide +kernel
theorem dX5_trim_35 : decode cX5_trim 35 = .ok (.dup2, 1) := by decide +kernel
theorem dX5_trim_36 : decode cX5_trim 36 = .ok (.iaload, 1) := by decide +kernel
theorem dX5_trim_37 : decode cX5_trim 37 = .ok (.iconst 1, 1) := by decide +kernel
theorem dX5_trim_38 : decode cX5_trim 38 = .ok (.isub, 1) := by decide +kernel
theorem dX5_trim_39 : decode cX5_trim 39 = .ok (.iastore, 1) := by decide +kernel
theorem dX5_trim_40 : decode cX5_trim 40 = .ok (.goto (-40), 3) := by decide +kernel
theorem dX5_trim_43 : decode cX5_trim 43 = .ok (.aload_n 0, 1) := by decide +kernel
theorem dX5_trim_44 : decode cX5_trim 44 = .ok (.getfield 13, 3) := by decide +kernel
theorem dX5_trim_47 : decode cX5_trim 47 = .ok (.iload_n 1, 1) := by decide +kernel
theorem dX5_trim_48 : decode cX5_trim 48 = .ok (.iaload, 1) := by decide +kernel
theorem dX5_trim_49 : decode cX5_trim 49 = .ok (.ifCond .ne 10, 3) := by decide +kernel
theorem dX5_trim_52 : decode cX5_trim 52 = .ok (.aload_n 0, 1) := by decide +kernel
theorem dX5_trim_53 : decode cX5_trim 53 = .ok (.getfield 16, 3) := by decide +kernel
theorem dX5_trim_56 : decode cX5_trim 56 = .ok (.iload_n 1, 1) := by decide +kernel
theorem dX5_trim_57 : decode cX5_trim 57 = .ok (.iconst 0, 1) := by decide +kernel
theorem dX5_trim_58 : decode cX5_trim 58 = .ok (.bastore, 1) := by decide +kernel
theorem dX5_trim_59 : decode cX5_trim 59 = .ok (.return_, 1) := by decide +kernel
theorem dX5_copy_0 : decode cX5_copy 0 = .ok (.aload_n 0, 1) := by decide +kernel
theorem dX5_copy_1 : decode cX5_copy 1 = .ok (.getfield 13, 3) := by decide +kernel
theorem dX5_copy_4 : decode cX5_copy 4 = .ok (.iload_n 1, 1) := by decide +kernel
theorem dX5_copy_5 : decode cX5_copy 5 = .ok (.aload_n 0, 1) := by decide +kernel
theorem dX5_copy_6 : decode cX5_copy 6 = .ok (.getfield 13, 3) := by decide +kernel
theorem dX5_copy_9 : decode cX5_copy 9 = .ok (.iload_n 2, 1) := by decide +kernel
theorem dX5_copy_10 : decode cX5_copy 10 = .ok (.iaload, 1) := by decide +kernel
theorem dX5_copy_11 : decode cX5_copy 11 = .ok (.iastore, 1) := by decide +kernel
theorem dX5_copy_12 : decode cX5_copy 12 = .ok (.aload_n 0, 1) := by decide +kernel
theorem dX5_copy_13 : decode cX5_copy 13 = .ok (.getfield 16, 3) := by decide +kernel
theorem dX5_copy_16 : decode cX5_copy 16 = .ok (.iload_n 1, 1) := by decide +kernel
theorem dX5_copy_17 : decode cX5_copy 17 = .ok (.aload_n 0, 1) := by decide +kernel
theorem dX5_copy_18 : decode cX5_copy 18 = .ok (.getfield 16, 3) := by decide +kernel
theorem dX5_copy_21 : decode cX5_copy 21 = .ok (.iload_n 2, 1) := by decide +kernel
theorem dX5_copy_22 : decode cX5_copy 22 = .ok (.baload, 1) := by decide +kernel
theorem dX5_copy_23 : decode cX5_copy 23 = .ok (.bastore, 1) := by decide +kernel
theorem dX5_copy_24 : decode cX5_copy 24 = .ok (.iconst 0, 1) := by decide +kernel
theorem dX5_copy_25 : decode cX5_copy 25 = .ok (.istore_n 3, 1) := by decide +kernel
theorem dX5_copy_26 : decode cX5_copy 26 = .ok (.iload_n 3, 1) := by decide +kernel
theorem dX5_copy_27 : decode cX5_copy 27 = .ok (.aload_n 0, 1) := by decide +kernel
theorem dX5_copy_28 : decode cX5_copy 28 = .ok (.getfield 13, 3) := by decide +kernel
theorem dX5_copy_31 : decode cX5_copy 31 = .ok (.iload_n 2, 1) := by decide +kernel
theorem dX5_copy_32 : decode cX5_copy 32 = .ok (.iaload, 1) := by decide +kernel
theorem dX5_copy_33 : decode cX5_copy 33 = .ok (.if_icmp .ge 31, 3) := by decide +kernel
theorem dX5_copy_36 : decode cX5_copy 36 = .ok (.aload_n 0, 1) := by decide +kernel
theorem dX5_copy_37 : decode cX5_copy 37 = .ok (.getfield 7, 3) := by decide +kernel
theorem dX5_copy_40 : decode cX5_copy 40 = .ok (.bipush 72, 2) := by decide +kernel
theorem dX5_copy_42 : decode cX5_copy 42 = .ok (.iload_n 1, 1) := by decide +kernel
theorem dX5_copy_43 : decode cX5_copy 43 = .ok (.imul, 1) := by decide +kernel
theorem dX5_copy_44 : decode cX5_copy 44 = .ok (.iload_n 3, 1) := by decide +kernel
theorem dX5_copy_45 : decode cX5_copy 45 = .ok (.iadd, 1) := by decide +kernel
theorem dX5_copy_46 : decode cX5_copy 46 = .ok (.aload_n 0, 1) := by decide +kernel
theorem dX5_copy_47 : decode cX5_copy 47 = .ok (.getfield 7, 3) := by decide +kernel
theorem dX5_copy_50 : decode cX5_copy 50 = .ok (.bipush 72, 2) := by decide +kernel
theorem dX5_copy_52 : decode cX5_copy 52 = .ok (.iload_n 2, 1) := by decide +kernel
theorem dX5_copy_53 : decode cX5_copy 53 = .ok (.imul, 1) := by decide +kernel
theorem dX5_copy_54 : decode cX5_copy 54 = .ok (.iload_n 3, 1) := by decide +kernel
theorem dX5_copy_55 : decode cX5_copy 55 = .ok (.iadd, 1) := by decide +kernel
theorem dX5_copy_56 : decode cX5_copy 56 = .ok (.iaload, 1) := by decide +kernel
theorem dX5_copy_57 : decode cX5_copy 57 = .ok (.iastore, 1) := by decide +kernel
theorem dX5_copy_58 : decode cX5_copy 58 = .ok (.iinc 3 1, 3) := by decide +kernel
theorem dX5_copy_61 : decode cX5_copy 61 = .ok (.goto (-35), 3) := by decide +kernel
theorem dX5_copy_64 : decode cX5_copy 64 = .ok (.return_, 1) := by decide +kernel
theorem dX5_clear_0 : decode cX5_clear 0 = .ok (.aload_n 0, 1) := by decide +kernel
theorem dX5_clear_1 : decode cX5_clear 1 = .ok (.getfield 13, 3) := by decide +kernel
theorem dX5_clear_4 : decode cX5_clear 4 = .ok (.iload_n 1, 1) := by decide +kernel
theorem dX5_clear_5 : decode cX5_clear 5 = .ok (.iconst 0, 1) := by decide +kernel
theorem dX5_clear_6 : decode cX5_clear 6 = .ok (.iastore, 1) := by decide +kernel
theorem dX5_clear_7 : decode cX5_clear 7 = .ok (.aload_n 0, 1) := by decide +kernel
theorem dX5_clear_8 : decode cX5_clear 8 = .ok (.getfield 16, 3) := by decide +kernel
theorem dX5_clear_11 : decode cX5_clear 11 = .ok (.iload_n 1, 1) := by decide +kernel
theorem dX5_clear_12 : decode cX5_clear 12 = .ok (.iconst 0, 1) := by decide +kernel
theorem dX5_clear_13 : decode cX5_clear 13 = .ok (.bastore, 1) := by decide +kernel
theorem dX5_clear_14 : decode cX5_clear 14 = .ok (.return_, 1) := by decide +kernel
theorem dX5_limbOf_0 : decode cX5_limbOf 0 = .ok (.iload_n 2, 1) := by decide +kernel
theorem dX5_limbOf_1 : decode cX5_limbOf 1 = .ok (.aload_n 0, 1) := by decide +kernel
theorem dX5_limbOf_2 : decode cX5_limbOf 2 = .ok (.getfield 13, 3) := by decide +kernel
theorem dX5_limbOf_5 : decode cX5_limbOf 5 = .ok (.iload_n 1, 1) := by decide +kernel
theorem dX5_limbOf_6 : decode cX5_limbOf 6 = .ok (.iaload, 1) := by decide +kernel
theorem dX5_limbOf_7 : decode cX5_limbOf 7 = .ok (.if_icmp .ge 18, 3) := by decide +kernel
theorem dX5_limbOf_10 : decode cX5_limbOf 10 = .ok (.aload_n 0, 1) := by decide +kernel
theorem dX5_limbOf_11 : decode cX5_limbOf 11 = .ok (.getfield 7, 3) := by decide +kernel
theorem dX5_limbOf_14 : decode cX5_limbOf 14 = .ok (.bipush 72, 2) := by decide +kernel
theorem dX5_limbOf_16 : decode cX5_limbOf 16 = .ok (.iload_n 1, 1) := by decide +kernel
theorem dX5_limbOf_17 : decode cX5_limbOf 17 = .ok (.imul, 1) := by decide +kernel
theorem dX5_limbOf_18 : decode cX5_limbOf 18 = .ok (.iload_n 2, 1) := by decide +kernel
theorem dX5_limbOf_19 : decode cX5_limbOf 19 = .ok (.iadd, 1) := by decide +kernel
theorem dX5_limbOf_20 : decode cX5_limbOf 20 = .ok (.iaload, 1) := by decide +kernel
theorem dX5_limbOf_21 : decode cX5_limbOf 21 = .ok (.i2l, 1) := by decide +kernel
theorem dX5_limbOf_22 : decode cX5_limbOf 22 = .ok (.goto 4, 3) := by decide +kernel
theorem dX5_limbOf_25 : decode cX5_limbOf 25 = .ok (.lconst 0, 1) := by decide +kernel
theorem dX5_limbOf_26 : decode cX5_limbOf 26 = .ok (.lreturn, 1) := by decide +kernel
theorem dX5_compareSizes_0 : decode cX5_compareSizes 0 = .ok (.aload_n 0, 1) := by decide +kernel
theorem dX5_compareSizes_1 : decode cX5_compareSizes 1 = .ok (.getfield 13, 3) := by decide +kernel
theorem dX5_compareSizes_4 : decode cX5_compareSizes 4 = .ok (.iload_n 1, 1) := by decide +kernel
theorem dX5_compareSizes_5 : decode cX5_compareSizes 5 = .ok (.iaload, 1) := by decide +kernel
theorem dX5_compareSizes_6 : decode cX5_compareSizes 6 = .ok (.aload_n 0, 1) := by decide +kernel
theorem dX5_compareSizes_7 : decode cX5_compareSizes 7 = .ok (.getfield 13, 3) := by decide +kernel
theorem dX5_compareSizes_10 : decode cX5_compareSizes 10 = .ok (.iload_n 2, 1) := by decide +kernel
theorem dX5_compareSizes_11 : decode cX5_compareSizes 11 = .ok (.iaload, 1) := by decide +kernel
theorem dX5_compareSizes_12 : decode cX5_compareSizes 12 = .ok (.if_icmp .eq 24, 3) := by decide +kernel
theorem dX5_compareSizes_15 : decode cX5_compareSizes 15 = .ok (.aload_n 0, 1) := by decide +kernel
theorem dX5_compareSizes_16 : decode cX5_compareSizes 16 = .ok (.getfield 13, 3) := by decide +kernel
theorem dX5_compareSizes_19 : decode cX5_compareSizes 19 = .ok (.iload_n 1, 1) := by decide +kernel
theorem dX5_compareSizes_20 : decode cX5_compareSizes 20 = .ok (.iaload, 1) := by decide +kernel
theorem dX5_compareSizes_21 : decode cX5_compareSizes 21 = .ok (.aload_n 0, 1) := by decide +kernel
theorem dX5_compareSizes_22 : decode cX5_compareSizes 22 = .ok (.getfield 13, 3) := by decide +kernel
theorem dX5_compareSizes_25 : decode cX5_compareSizes 25 = .ok (.iload_n 2, 1) := by decide +kernel
theorem dX5_compareSizes_26 : decode cX5_compareSizes 26 = .ok (.iaload, 1) := by decide +kernel
theorem dX5_compareSizes_27 : decode cX5_compareSizes 27 = .ok (.if_icmp .ge 7, 3) := by decide +kernel
theorem dX5_compareSizes_30 : decode cX5_compareSizes 30 = .ok (.iconst (-1), 1) := by decide +kernel
theorem dX5_compareSizes_31 : decode cX5_compareSizes 31 = .ok (.goto 4, 3) := by decide +kernel
theorem dX5_compareSizes_34 : decode cX5_compareSizes 34 = .ok (.iconst 1, 1) := by decide +kernel
theorem dX5_compareSizes_35 : decode cX5_compareSizes 35 = .ok (.ireturn, 1) := by decide +kernel
theorem dX5_compareSizes_36 : decode cX5_compareSizes 36 = .ok (.aload_n 0, 1) := by decide +kernel
theorem dX5_compareSizes_37 : decode cX5_compareSizes 37 = .ok (.getfield 13, 3) := by decide +kernel
theorem dX5_compareSizes_40 : decode cX5_compareSizes 40 = .ok (.iload_n 1, 1) := by decide +kernel
theorem dX5_compareSizes_41 : decode cX5_compareSizes 41 = .ok (.iaload, 1) := by decide +kernel
theorem dX5_compareSizes_42 : decode cX5_compareSizes 42 = .ok (.iconst 1, 1) := by decide +kernel
theorem dX5_compareSizes_43 : decode cX5_compareSizes 43 = .ok (.isub, 1) := by decide +kernel
theorem dX5_compareSizes_44 : decode cX5_compareSizes 44 = .ok (.istore_n 3, 1) := by decide +kernel
theorem dX5_compareSizes_45 : decode cX5_compareSizes 45 = .ok (.iload_n 3, 1) := by decide +kernel
theorem dX5_compareSizes_46 : decode cX5_compareSizes 46 = .ok (.ifCond .lt 65, 3) := by decide +kernel
theorem dX5_compareSizes_49 : decode cX5_compareSizes 49 = .ok (.aload_n 0, 1) := by decide +kernel
theorem dX5_compareSizes_50 : decode cX5_compareSizes 50 = .ok (.getfield 7, 3) := by decide +kernel
theorem dX5_compareSizes_53 : decode cX5_compareSizes 53 = .ok (.bipush 72, 2) := by decide +kernel
theorem dX5_compareSizes_55 : decode cX5_compareSizes 55 = .ok (.iload_n 1, 1) := by decide +kernel
theorem dX5_compareSizes_56 : decode cX5_compareSizes 56 = .ok (.imul, 1) := by decide +kernel
theorem dX5_compareSizes_57 : decode cX5_compareSizes 57 = .ok (.iload_n 3, 1) := by decide +kernel
theorem dX5_compareSizes_58 : decode cX5_compareSizes 58 = .ok (.iadd, 1) := by decide +kernel
theorem dX5_compareSizes_59 : decode cX5_compareSizes 59 = .ok (.iaload, 1) := by decide +kernel
theorem dX5_compareSizes_60 : decode cX5_compareSizes 60 = .ok (.aload_n 0, 1) := by decide +kernel
theorem dX5_compareSizes_61 : decode cX5_compareSizes 61 = .ok (.getfield 7, 3) := by decide +kernel
theorem dX5_compareSizes_64 : decode cX5_compareSizes 64 = .ok (.bipush 72, 2) := by decide +kernel
theorem dX5_compareSizes_66 : decode cX5_compareSizes 66 = .ok (.iload_n 2, 1) := by decide +kernel
theorem dX5_compareSizes_67 : decode cX5_compareSizes 67 = .ok (.imul, 1) := by decide +kernel
theorem dX5_compareSizes_68 : decode cX5_compareSizes 68 = .ok (.iload_n 3, 1) := by decide +kernel
theorem dX5_compareSizes_69 : decode cX5_compareSizes 69 = .ok (.iadd, 1) := by decide +kernel
theorem dX5_compareSizes_70 : decode cX5_compareSizes 70 = .ok (.iaload, 1) := by decide +kernel
theorem dX5_compareSizes_71 : decode cX5_compareSizes 71 = .ok (.if_icmp .eq 34, 3) := by decide +kernel
theorem dX5_compareSizes_74 : decode cX5_compareSizes 74 = .ok (.aload_n 0, 1) := by decide +kernel
theorem dX5_compareSizes_75 : decode cX5_compareSizes 75 = .ok (.getfield 7, 3) := by decide +kernel
theorem dX5_compareSizes_78 : decode cX5_compareSizes 78 = .ok (.bipush 72, 2) := by decide +kernel
theorem dX5_compareSizes_80 : decode cX5_compareSizes 80 = .ok (.iload_n 1, 1) := by decide +kernel
theorem dX5_compareSizes_81 : decode cX5_compareSizes 81 = .ok (.imul, 1) := by decide +kernel
theorem dX5_compareSizes_82 : decode cX5_compareSizes 82 = .ok (.iload_n 3, 1) := by decide +kernel
theorem dX5_compareSizes_83 : decode cX5_compareSizes 83 = .ok (.iadd, 1) := by decide +kernel
theorem dX5_compareSizes_84 : decode cX5_compareSizes 84 = .ok (.iaload, 1) := by decide +kernel
theorem dX5_compareSizes_85 : decode cX5_compareSizes 85 = .ok (.aload_n 0, 1) := by decide +kernel
theorem dX5_compareSizes_86 : decode cX5_compareSizes 86 = .ok (.getfield 7, 3) := by decide +kernel
theorem dX5_compareSizes_89 : decode cX5_compareSizes 89 = .ok (.bipush 72, 2) := by decide +kernel
theorem dX5_compareSizes_91 : decode cX5_compareSizes 91 = .ok (.iload_n 2, 1) := by decide +kernel
theorem dX5_compareSizes_92 : decode cX5_compareSizes 92 = .ok (.imul, 1) := by decide +kernel
theorem dX5_compareSizes_93 : decode cX5_compareSizes 93 = .ok (.iload_n 3, 1) := by decide +kernel
theorem dX5_compareSizes_94 : decode cX5_compareSizes 94 = .ok (.iadd, 1) := by decide +kernel
theorem dX5_compareSizes_95 : decode cX5_compareSizes 95 = .ok (.iaload, 1) := by decide +kernel
theorem dX5_compareSizes_96 : decode cX5_compareSizes 96 = .ok (.if_icmp .ge 7, 3) := by decide +kernel
theorem dX5_compareSizes_99 : decode cX5_compareSizes 99 = .ok (.iconst (-1), 1) := by decide +kernel
theorem dX5_compareSizes_100 : decode cX5_compareSizes 100 = .ok (.goto 4, 3) := by decide +kernel
theorem dX5_compareSizes_103 : decode cX5_compareSizes 103 = .ok (.iconst 1, 1) := by decide +kernel
theorem dX5_compareSizes_104 : decode cX5_compareSizes 104 = .ok (.ireturn, 1) := by decide +kernel
theorem dX5_compareSizes_105 : decode cX5_compareSizes 105 = .ok (.iinc 3 (-1), 3) := by decide +kernel
theorem dX5_compareSizes_108 : decode cX5_compareSizes 108 = .ok (.goto (-63), 3) := by decide +kernel
theorem dX5_compareSizes_111 : decode cX5_compareSizes 111 = .ok (.iconst 0, 1) := by decide +kernel
theorem dX5_compareSizes_112 : decode cX5_compareSizes 112 = .ok (.ireturn, 1) := by decide +kernel
set_option maxRecDepth 20000 in
theorem ggX5_addSizes_X5_limbOf : GoodIn wsX5_addSizes wsX5_limbOf := goodIn_r _ [8, 1, 2, 14, 15, 16, 17, 18, 19, 20, 21, 22, 23, 24, 25, 26, 27, 28] (by decide +kernel) (by decide +kernel)
set_option maxRecDepth 20000 in
theorem gX5_addSizes_X5_limbOf : GoodIn wsX5_addSizes (wsV RX5 37 RX5 yX5_limbOf wsX5_limbOf) := goodIn_app (goodIn_of _ (by decide +kernel)) ggX5_addSizes_X5_limbOf
set_option maxRecDepth 20000 in
theorem ggX5_addSizes_X5_trim : GoodIn wsX5_addSizes wsX5_trim := goodIn_r _ [12, 1, 2, 13, 14, 15, 16, 17, 18, 19, 20, 21, 22, 23, 24, 25, 26, 27, 28] (by decide +kernel) (by decide +kernel)
set_option maxRecDepth 20000 in
theorem gX5_addSizes_X5_trim : GoodIn wsX5_addSizes (wsV RX5 43 RX5 yX5_trim wsX5_trim) := goodIn_app (goodIn_of _ (by decide +kernel)) ggX5_addSizes_X5_trim
theorem dX5_addSizes_0 : decode cX5_addSizes 0 = .ok (.aload_n 0, 1) := by decide +kernel
theorem dX5_addSizes_1 : decode cX5_addSizes 1 = .ok (.getfield 13, 3) := by decide +kernel
theorem dX5_addSizes_4 : decode cX5_addSizes 4 = .ok (.iload_n 2, 1) := by decide +kernel
theorem dX5_addSizes_5 : decode cX5_addSizes 5 = .ok (.iaload, 1) := by decide +kernel
theorem dX5_addSizes_6 : decode cX5_addSizes 6 = .ok (.aload_n 0, 1) := by decide +kernel
theorem dX5_addSizes_7 : decode cX5_addSizes 7 = .ok (.getfield 13, 3) := by decide +kernel
theorem dX5_addSizes_10 : decode cX5_addSizes 10 = .ok (.iload_n 3, 1) := by decide +kernel
theorem dX5_addSizes_11 : decode cX5_addSizes 11 = .ok (.iaload, 1) := by decide +kernel
theorem dX5_addSizes_12 : decode cX5_addSizes 12 = .ok (.if_icmp .le 12, 3) := by decide +kernel
theorem dX5_addSizes_15 : decode cX5_addSizes 15 = .ok (.aload_n 0, 1) := by decide +kernel
theorem dX5_addSizes_16 : decode cX5_addSizes 16 = .ok (.getfield 13, 3) := by decide +kernel
theorem dX5_addSizes_19 : decode cX5_addSizes 19 = .ok (.iload_n 2, 1) := by decide +kernel
theorem dX5_addSizes_20 : decode cX5_addSizes 20 = .ok (.iaload, 1) := by decide +kernel
theorem dX5_addSizes_21 : decode cX5_addSizes 21 = .ok (.goto 9, 3) := by decide +kernel
theorem dX5_addSizes_24 : decode cX5_addSizes 24 = .ok (.aload_n 0, 1) := by decide +kernel
theorem dX5_addSizes_25 : decode cX5_addSizes 25 = .ok (.getfield 13, 3) := by decide +kernel
theorem dX5_addSizes_28 : decode cX5_addSizes 28 = .ok (.iload_n 3, 1) := by decide +kernel
theorem dX5_addSizes_29 : decode cX5_addSizes 29 = .ok (.iaload, 1) := by decide +kernel
theorem dX5_addSizes_30 : decode cX5_addSizes 30 = .ok (.iconst 1, 1) := by decide +kernel
theorem dX5_addSizes_31 : decode cX5_addSizes 31 = .ok (.iadd, 1) := by decide +kernel
theorem dX5_addSizes_32 : decode cX5_addSizes 32 = .ok (.istore 4, 2) := by decide +kernel
theorem dX5_addSizes_34 : decode cX5_addSizes 34 = .ok (.lconst 0, 1) := by decide +kernel
theorem dX5_addSizes_35 : decode cX5_addSizes 35 = .ok (.lstore 5, 2) := by decide +kernel
theorem dX5_addSizes_37 : decode cX5_addSizes 37 = .ok (.iconst 0, 1) := by decide +kernel
theorem dX5_addSizes_38 : decode cX5_addSizes 38 = .ok (.istore 7, 2) := by decide +kernel
theorem dX5_addSizes_40 : decode cX5_addSizes 40 = .ok (.iload 7, 2) := by decide +kernel
theorem dX5_addSizes_42 : decode cX5_addSizes 42 = .ok (.iload 4, 2) := by decide +kernel
theorem dX5_addSizes_44 : decode cX5_addSizes 44 = .ok (.if_icmp .ge 55, 3) := by decide +kernel
theorem dX5_addSizes_47 : decode cX5_addSizes 47 = .ok (.aload_n 0, 1) := by decide +kernel
theorem dX5_addSizes_48 : decode cX5_addSizes 48 = .ok (.iload_n 2, 1) := by decide +kernel
theorem dX5_addSizes_49 : decode cX5_addSizes 49 = .ok (.iload 7, 2) := by decide +kernel
theorem dX5_addSizes_51 : decode cX5_addSizes 51 = .ok (.invokevirtual 37, 3) := by decide +kernel
theorem dX5_addSizes_54 : decode cX5_addSizes 54 = .ok (.aload_n 0, 1) := by decide +kernel
theorem dX5_addSizes_55 : decode cX5_addSizes 55 = .ok (.iload_n 3, 1) := by decide +kernel
theorem dX5_addSizes_56 : decode cX5_addSizes 56 = .ok (.iload 7, 2) := by decide +kernel
theorem dX5_addSizes_58 : decode cX5_addSizes 58 = .ok (.invokevirtual 37, 3) := by decide +kernel
theorem dX5_addSizes_61 : decode cX5_addSizes 61 = .ok (.ladd, 1) := by decide +kernel
theorem dX5_addSizes_62 : decode cX5_addSizes 62 = .ok (.lload 5, 2) := by decide +kernel
theorem dX5_addSizes_64 : decode cX5_addSizes 64 = .ok (.ladd, 1) := by decide +kernel
theorem dX5_addSizes_65 : decode cX5_addSizes 65 = .ok (.lstore 8, 2) := by decide +kernel
theorem dX5_addSizes_67 : decode cX5_addSizes 67 = .ok (.aload_n 0, 1) := by decide +kernel
theorem dX5_addSizes_68 : decode cX5_addSizes 68 = .ok (.getfield 7, 3) := by decide +kernel
theorem dX5_addSizes_71 : decode cX5_addSizes 71 = .ok (.bipush 72, 2) := by decide +kernel
theorem dX5_addSizes_73 : decode cX5_addSizes 73 = .ok (.iload_n 1, 1) := by decide +kernel
theorem dX5_addSizes_74 : decode cX5_addSizes 74 = .ok (.imul, 1) := by decide +kernel
theorem dX5_addSizes_75 : decode cX5_addSizes 75 = .ok (.iload 7, 2) := by decide +kernel
theorem dX5_addSizes_77 : decode cX5_addSizes 77 = .ok (.iadd, 1) := by decide +kernel
theorem dX5_addSizes_78 : decode cX5_addSizes 78 = .ok (.lload 8, 2) := by decide +kernel
theorem dX5_addSizes_80 : decode cX5_addSizes 80 = .ok (.ldc2_w 41, 3) := by decide +kernel
theorem dX5_addSizes_83 : decode cX5_addSizes 83 = .ok (.land, 1) := by decide +kernel
theorem dX5_addSizes_84 : decode cX5_addSizes 84 = .ok (.l2i, 1) := by decide +kernel
theorem dX5_addSizes_85 : decode cX5_addSizes 85 = .ok (.iastore, 1) := by decide +kernel
theorem dX5_addSizes_86 : decode cX5_addSizes 86 = .ok (.lload 8, 2) := by decide +kernel
theorem dX5_addSizes_88 : decode cX5_addSizes 88 = .ok (.bipush 31, 2) := by decide +kernel
theorem dX5_addSizes_90 : decode cX5_addSizes 90 = .ok (.lshr, 1) := by decide +kernel
theorem dX5_addSizes_91 : decode cX5_addSizes 91 = .ok (.lstore 5, 2) := by decide +kernel
theorem dX5_addSizes_93 : decode cX5_addSizes 93 = .ok (.iinc 7 1, 3) := by decide +kernel
theorem dX5_addSizes_96 : decode cX5_addSizes 96 = .ok (.goto (-56), 3) := by decide +kernel
theorem dX5_addSizes_99 : decode cX5_addSizes 99 = .ok (.aload_n 0, 1) := by decide +kernel
theorem dX5_addSizes_100 : decode cX5_addSizes 100 = .ok (.getfield 13, 3) := by decide +kernel
theorem dX5_addSizes_103 : decode cX5_addSizes 103 = .ok (.iload_n 1, 1) := by decide +kernel
theorem dX5_addSizes_104 : decode cX5_addSizes 104 = .ok (.iload 4, 2) := by decide +kernel
theorem dX5_addSizes_106 : decode cX5_addSizes 106 = .ok (.iastore, 1) := by decide +kernel
theorem dX5_addSizes_107 : decode cX5_addSizes 107 = .ok (.aload_n 0, 1) := by decide +kernel
theorem dX5_addSizes_108 : decode cX5_addSizes 108 = .ok (.iload_n 1, 1) := by decide +kernel
theorem dX5_addSizes_109 : decode cX5_addSizes 109 = .ok (.invokevirtual 43, 3) := by decide +kernel
theorem dX5_addSizes_112 : decode cX5_addSizes 112 = .ok (.return_, 1) := by decide +kernel
set_option maxRecDepth 20000 in
theorem ggX5_subtractSizes_X5_limbOf : GoodIn wsX5_subtractSizes wsX5_limbOf := goodIn_r _ [8, 1, 2, 14, 15, 16, 17, 18, 19, 20, 21, 22, 23, 24, 25, 26, 27, 28] (by decide +kernel) (by decide +kernel)
set_option maxRecDepth 20000 in
theorem gX5_subtractSizes_X5_limbOf : GoodIn wsX5_subtractSizes (wsV RX5 37 RX5 yX5_limbOf wsX5_limbOf) := goodIn_app (goodIn_of _ (by decide +kernel)) ggX5_subtractSizes_X5_limbOf
set_option maxRecDepth 20000 in
theorem ggX5_subtractSizes_X5_trim : GoodIn wsX5_subtractSizes wsX5_trim := goodIn_r _ [12, 1, 2, 13, 14, 15, 16, 17, 18, 19, 20, 21, 22, 23, 24, 25, 26, 27, 28] (by decide +kernel) (by decide +kernel)
set_option maxRecDepth 20000 in
theorem gX5_subtractSizes_X5_trim : GoodIn wsX5_subtractSizes (wsV RX5 43 RX5 yX5_trim wsX5_trim) := goodIn_app (goodIn_of _ (by decide +kernel)) ggX5_subtractSizes_X5_trim
theorem dX5_subtractSizes_0 : decode cX5_subtractSizes 0 = .ok (.aload_n 0, 1) := by decide +kernel
theorem dX5_subtractSizes_1 : decode cX5_subtractSizes 1 = .ok (.getfield 13, 3) := by decide +kernel
theorem dX5_subtractSizes_4 : decode cX5_subtractSizes 4 = .ok (.iload_n 2, 1) := by decide +kernel
theorem dX5_subtractSizes_5 : decode cX5_subtractSizes 5 = .ok (.iaload, 1) := by decide +kernel
theorem dX5_subtractSizes_6 : decode cX5_subtractSizes 6 = .ok (.istore 4, 2) := by decide +kernel
theorem dX5_subtractSizes_8 : decode cX5_subtractSizes 8 = .ok (.lconst 0, 1) := by decide +kernel
theorem dX5_subtractSizes_9 : decode cX5_subtractSizes 9 = .ok (.lstore 5, 2) := by decide +kernel
theorem dX5_subtractSizes_11 : decode cX5_subtractSizes 11 = .ok (.iconst 0, 1) := by decide +kernel
theorem dX5_subtractSizes_12 : decode cX5_subtractSizes 12 = .ok (.istore 7, 2) := by decide +kernel
theorem dX5_subtractSizes_14 : decode cX5_subtractSizes 14 = .ok (.iload 7, 2) := by decide +kernel
theorem dX5_subtractSizes_16 : decode cX5_subtractSizes 16 = .ok (.iload 4, 2) := by decide +kernel
theorem dX5_subtractSizes_18 : decode cX5_subtractSizes 18 = .ok (.if_icmp .ge 55, 3) := by decide +kernel
theorem dX5_subtractSizes_21 : decode cX5_subtractSizes 21 = .ok (.aload_n 0, 1) := by decide +kernel
theorem dX5_subtractSizes_22 : decode cX5_subtractSizes 22 = .ok (.iload_n 2, 1) := by decide +kernel
theorem dX5_subtractSizes_23 : decode cX5_subtractSizes 23 = .ok (.iload 7, 2) := by decide +kernel
theorem dX5_subtractSizes_25 : decode cX5_subtractSizes 25 = .ok (.invokevirtual 37, 3) := by decide +kernel
theorem dX5_subtractSizes_28 : decode cX5_subtractSizes 28 = .ok (.aload_n 0, 1) := by decide +kernel
theorem dX5_subtractSizes_29 : decode cX5_subtractSizes 29 = .ok (.iload_n 3, 1) := by decide +kernel
theorem dX5_subtractSizes_30 : decode cX5_subtractSizes 30 = .ok (.iload 7, 2) := by decide +kernel
theorem dX5_subtractSizes_32 : decode cX5_subtractSizes 32 = .ok (.invokevirtual 37, 3) := by decide +kernel
theorem dX5_subtractSizes_35 : decode cX5_subtractSizes 35 = .ok (.lsub, 1) := by decide +kernel
theorem dX5_subtractSizes_36 : decode cX5_subtractSizes 36 = .ok (.lload 5, 2) := by decide +kernel
theorem dX5_subtractSizes_38 : decode cX5_subtractSizes 38 = .ok (.ladd, 1) := by decide +kernel
theorem dX5_subtractSizes_39 : decode cX5_subtractSizes 39 = .ok (.lstore 8, 2) := by decide +kernel
theorem dX5_subtractSizes_41 : decode cX5_subtractSizes 41 = .ok (.aload_n 0, 1) := by decide +kernel
theorem dX5_subtractSizes_42 : decode cX5_subtractSizes 42 = .ok (.getfield 7, 3) := by decide +kernel
theorem dX5_subtractSizes_45 : decode cX5_subtractSizes 45 = .ok (.bipush 72, 2) := by decide +kernel
theorem dX5_subtractSizes_47 : decode cX5_subtractSizes 47 = .ok (.iload_n 1, 1) := by decide +kernel
theorem dX5_subtractSizes_48 : decode cX5_subtractSizes 48 = .ok (.imul, 1) := by decide +kernel
theorem dX5_subtractSizes_49 : decode cX5_subtractSizes 49 = .ok (.iload 7, 2) := by decide +kernel
theorem dX5_subtractSizes_51 : decode cX5_subtractSizes 51 = .ok (.iadd, 1) := by decide +kernel
theorem dX5_subtractSizes_52 : decode cX5_subtractSizes 52 = .ok (.lload 8, 2) := by decide +kernel
theorem dX5_subtractSizes_54 : decode cX5_subtractSizes 54 = .ok (.ldc2_w 41, 3) := by decide +kernel
theorem dX5_subtractSizes_57 : decode cX5_subtractSizes 57 = .ok (.land, 1) := by decide +kernel
theorem dX5_subtractSizes_58 : decode cX5_subtractSizes 58 = .ok (.l2i, 1) := by decide +kernel
theorem dX5_subtractSizes_59 : decode cX5_subtractSizes 59 = .ok (.iastore, 1) := by decide +kernel
theorem dX5_subtractSizes_60 : decode cX5_subtractSizes 60 = .ok (.lload 8, 2) := by decide +kernel
theorem dX5_subtractSizes_62 : decode cX5_subtractSizes 62 = .ok (.bipush 31, 2) := by decide +kernel
theorem dX5_subtractSizes_64 : decode cX5_subtractSizes 64 = .ok (.lshr, 1) := by decide +kernel
theorem dX5_subtractSizes_65 : decode cX5_subtractSizes 65 = .ok (.lstore 5, 2) := by decide +kernel
theorem dX5_subtractSizes_67 : decode cX5_subtractSizes 67 = .ok (.iinc 7 1, 3) := by decide +kernel
theorem dX5_subtractSizes_70 : decode cX5_subtractSizes 70 = .ok (.goto (-56), 3) := by decide +kernel
theorem dX5_subtractSizes_73 : decode cX5_subtractSizes 73 = .ok (.aload_n 0, 1) := by decide +kernel
theorem dX5_subtractSizes_74 : decode cX5_subtractSizes 74 = .ok (.getfield 13, 3) := by decide +kernel
theorem dX5_subtractSizes_77 : decode cX5_subtractSizes 77 = .ok (.iload_n 1, 1) := by decide +kernel
theorem dX5_subtractSizes_78 : decode cX5_subtractSizes 78 = .ok (.iload 4, 2) := by decide +kernel
theorem dX5_subtractSizes_80 : decode cX5_subtractSizes 80 = .ok (.iastore, 1) := by decide +kernel
theorem dX5_subtractSizes_81 : decode cX5_subtractSizes 81 = .ok (.aload_n 0, 1) := by decide +kernel
theorem dX5_subtractSizes_82 : decode cX5_subtractSizes 82 = .ok (.iload_n 1, 1) := by decide +kernel
theorem dX5_subtractSizes_83 : decode cX5_subtractSizes 83 = .ok (.invokevirtual 43, 3) := by decide +kernel
theorem dX5_subtractSizes_86 : decode cX5_subtractSizes 86 = .ok (.return_, 1) := by decide +kernel
set_option maxRecDepth 20000 in
theorem ggX5_add_X5_addSizes : GoodIn wsX5_add wsX5_addSizes := goodIn_r _ [7, 2, 8, 9, 10, 11, 12, 6, 13, 14, 15, 16, 17, 1, 26, 27, 28, 29, 30, 31, 32, 33, 34, 35, 36, 37, 38, 39, 40] (by decide +kernel) (by decide +kernel)
set_option maxRecDepth 20000 in
theorem gX5_add_X5_addSizes : GoodIn wsX5_add (wsV RX5 47 RX5 yX5_addSizes wsX5_addSizes) := goodIn_app (goodIn_of _ (by decide +kernel)) ggX5_add_X5_addSizes
set_option maxRecDepth 20000 in
theorem ggX5_add_X5_compareSizes : GoodIn wsX5_add wsX5_compareSizes := goodIn_r _ [21, 2, 8, 26, 27, 28, 29, 30, 31, 32, 33, 34, 35, 36, 37, 38, 39, 40] (by decide +kernel) (by decide +kernel)
set_option maxRecDepth 20000 in
theorem gX5_add_X5_compareSizes : GoodIn wsX5_add (wsV RX5 51 RX5 yX5_compareSizes wsX5_compareSizes) := goodIn_app (goodIn_of _ (by decide +kernel)) ggX5_add_X5_compareSizes
set_option maxRecDepth 20000 in
theorem ggX5_add_X5_subtractSizes : GoodIn wsX5_add wsX5_subtractSizes := goodIn_r _ [25, 2, 8, 9, 10, 11, 12, 6, 13, 14, 15, 16, 17, 1, 26, 27, 28, 29, 30, 31, 32, 33, 34, 35, 36, 37, 38, 39, 40] (by decide +kernel) (by decide +kernel)
set_option maxRecDepth 20000 in
theorem gX5_add_X5_subtractSizes : GoodIn wsX5_add (wsV RX5 54 RX5 yX5_subtractSizes wsX5_subtractSizes) := goodIn_app (goodIn_of _ (by decide +kernel)) ggX5_add_X5_subtractSizes
theorem dX5_add_0 : decode cX5_add 0 = .ok (.aload_n 0, 1) := by decide +kernel
theorem dX5_add_1 : decode cX5_add 1 = .ok (.getfield 16, 3) := by decide +kernel
theorem dX5_add_4 : decode cX5_add 4 = .ok (.iload_n 2, 1) := by decide +kernel
theorem dX5_add_5 : decode cX5_add 5 = .ok (.baload, 1) := by decide +kernel
theorem dX5_add_6 : decode cX5_add 6 = .ok (.istore 4, 2) := by decide +kernel
theorem dX5_add_8 : decode cX5_add 8 = .ok (.aload_n 0, 1) := by decide +kernel
theorem dX5_add_9 : decode cX5_add 9 = .ok (.getfield 16, 3) := by decide +kernel
theorem dX5_add_12 : decode cX5_add 12 = .ok (.iload_n 3, 1) := by decide +kernel
theorem dX5_add_13 : decode cX5_add 13 = .ok (.baload, 1) := by decide +kernel
theorem dX5_add_14 : decode cX5_add 14 = .ok (.istore 5, 2) := by decide +kernel
theorem dX5_add_16 : decode cX5_add 16 = .ok (.iload 4, 2) := by decide +kernel
theorem dX5_add_18 : decode cX5_add 18 = .ok (.iload 5, 2) := by decide +kernel
theorem dX5_add_20 : decode cX5_add 20 = .ok (.if_icmp .ne 38, 3) := by decide +kernel
theorem dX5_add_23 : decode cX5_add 23 = .ok (.aload_n 0, 1) := by decide +kernel
theorem dX5_add_24 : decode cX5_add 24 = .ok (.iload_n 1, 1) := by decide +kernel
theorem dX5_add_25 : decode cX5_add 25 = .ok (.iload_n 2, 1) := by decide +kernel
theorem dX5_add_26 : decode cX5_add 26 = .ok (.iload_n 3, 1) := by decide +kernel
theorem dX5_add_27 : decode cX5_add 27 = .ok (.invokevirtual 47, 3) := by decide +kernel
theorem dX5_add_30 : decode cX5_add 30 = .ok (.aload_n 0, 1) := by decide +kernel
theorem dX5_add_31 : decode cX5_add 31 = .ok (.getfield 16, 3) := by decide +kernel
theorem dX5_add_34 : decode cX5_add 34 = .ok (.iload_n 1, 1) := by decide +kernel
theorem dX5_add_35 : decode cX5_add 35 = .ok (.iload 4, 2) := by decide +kernel
theorem dX5_add_37 : decode cX5_add 37 = .ok (.ifCond .eq 16, 3) := by decide +kernel
theorem dX5_add_40 : decode cX5_add 40 = .ok (.aload_n 0, 1) := by decide +kernel
theorem dX5_add_41 : decode cX5_add 41 = .ok (.getfield 13, 3) := by decide +kernel
theorem dX5_add_44 : decode cX5_add 44 = .ok (.iload_n 1, 1) := by decide +kernel
theorem dX5_add_45 : decode cX5_add 45 = .ok (.iaload, 1) := by decide +kernel
theorem dX5_add_46 : decode cX5_add 46 = .ok (.ifCond .le 7, 3) := by decide +kernel
theorem dX5_add_49 : decode cX5_add 49 = .ok (.iconst 1, 1) := by decide +kernel
theorem dX5_add_50 : decode cX5_add 50 = .ok (.goto 4, 3) := by decide +kernel
theorem dX5_add_53 : decode cX5_add 53 = .ok (.iconst 0, 1) := by decide +kernel
theorem dX5_add_54 : decode cX5_add 54 = .ok (.bastore, 1) := by decide +kernel
theorem dX5_add_55 : decode cX5_add 55 = .ok (.goto 62, 3) := by decide +kernel
theorem dX5_add_58 : decode cX5_add 58 = .ok (.aload_n 0, 1) := by decide +kernel
theorem dX5_add_59 : decode cX5_add 59 = .ok (.iload_n 2, 1) := by decide +kernel
theorem dX5_add_60 : decode cX5_add 60 = .ok (.iload_n 3, 1) := by decide +kernel
theorem dX5_add_61 : decode cX5_add 61 = .ok (.invokevirtual 51, 3) := by decide +kernel
theorem dX5_add_64 : decode cX5_add 64 = .ok (.ifCond .lt 38, 3) := by decide +kernel
theorem dX5_add_67 : decode cX5_add 67 = .ok (.aload_n 0, 1) := by decide +kernel
theorem dX5_add_68 : decode cX5_add 68 = .ok (.iload_n 1, 1) := by decide +kernel
theorem dX5_add_69 : decode cX5_add 69 = .ok (.iload_n 2, 1) := by decide +kernel
theorem dX5_add_70 : decode cX5_add 70 = .ok (.iload_n 3, 1) := by decide +kernel
theorem dX5_add_71 : decode cX5_add 71 = .ok (.invokevirtual 54, 3) := by decide +kernel
theorem dX5_add_74 : decode cX5_add 74 = .ok (.aload_n 0, 1) := by decide +kernel
theorem dX5_add_75 : decode cX5_add 75 = .ok (.getfield 16, 3) := by decide +kernel
theorem dX5_add_78 : decode cX5_add 78 = .ok (.iload_n 1, 1) := by decide +kernel
theorem dX5_add_79 : decode cX5_add 79 = .ok (.iload 4, 2) := by decide +kernel
theorem dX5_add_81 : decode cX5_add 81 = .ok (.ifCond .eq 16, 3) := by decide +kernel
theorem dX5_add_84 : decode cX5_add 84 = .ok (.aload_n 0, 1) := by decide +kernel
theorem dX5_add_85 : decode cX5_add 85 = .ok (.getfield 13, 3) := by decide +kernel
theorem dX5_add_88 : decode cX5_add 88 = .ok (.iload_n 1, 1) := by decide +kernel
theorem dX5_add_89 : decode cX5_add 89 = .ok (.iaload, 1) := by decide +kernel
theorem dX5_add_90 : decode cX5_add 90 = .ok (.ifCond .le 7, 3) := by decide +kernel
theorem dX5_add_93 : decode cX5_add 93 = .ok (.iconst 1, 1) := by decide +kernel
theorem dX5_add_94 : decode cX5_add 94 = .ok (.goto 4, 3) := by decide +kernel
theorem dX5_add_97 : decode cX5_add 97 = .ok (.iconst 0, 1) := by decide +kernel
theorem dX5_add_98 : decode cX5_add 98 = .ok (.bastore, 1) := by decide +kernel
theorem dX5_add_99 : decode cX5_add 99 = .ok (.goto 18, 3) := by decide +kernel
theorem dX5_add_102 : decode cX5_add 102 = .ok (.aload_n 0, 1) := by decide +kernel
theorem dX5_add_103 : decode cX5_add 103 = .ok (.iload_n 1, 1) := by decide +kernel
theorem dX5_add_104 : decode cX5_add 104 = .ok (.iload_n 3, 1) := by decide +kernel
theorem dX5_add_105 : decode cX5_add 105 = .ok (.iload_n 2, 1) := by decide +kernel
theorem dX5_add_106 : decode cX5_add 106 = .ok (.invokevirtual 54, 3) := by decide +kernel
theorem dX5_add_109 : decode cX5_add 109 = .ok (.aload_n 0, 1) := by decide +kernel
theorem dX5_add_110 : decode cX5_add 110 = .ok (.getfield 16, 3) := by decide +kernel
theorem dX5_add_113 : decode cX5_add 113 = .ok (.iload_n 1, 1) := by decide +kernel
theorem dX5_add_114 : decode cX5_add 114 = .ok (.iload 5, 2) := by decide +kernel
theorem dX5_add_116 : decode cX5_add 116 = .ok (.bastore, 1) := by decide +kernel
theorem dX5_add_117 : decode cX5_add 117 = .ok (.return_, 1) := by decide +kernel
set_option maxRecDepth 20000 in
theorem ggX5_multiply_X5_limbOf : GoodIn wsX5_multiply wsX5_limbOf := goodIn_r _ [9, 1, 2, 14, 15, 16, 17, 18, 19, 20, 21, 22, 23, 24, 25, 26, 27, 28] (by decide +kernel) (by decide +kernel)
set_option maxRecDepth 20000 in
theorem gX5_multiply_X5_limbOf : GoodIn wsX5_multiply (wsV RX5 37 RX5 yX5_limbOf wsX5_limbOf) := goodIn_app (goodIn_of _ (by decide +kernel)) ggX5_multiply_X5_limbOf
set_option maxRecDepth 20000 in
theorem ggX5_multiply_X5_trim : GoodIn wsX5_multiply wsX5_trim := goodIn_r _ [13, 1, 2, 4, 14, 15, 16, 17, 18, 19, 20, 21, 22, 23, 24, 25, 26, 27, 28] (by decide +kernel) (by decide +kernel)
set_option maxRecDepth 20000 in
theorem gX5_multiply_X5_trim : GoodIn wsX5_multiply (wsV RX5 43 RX5 yX5_trim wsX5_trim) := goodIn_app (goodIn_of _ (by decide +kernel)) ggX5_multiply_X5_trim
theorem dX5_multiply_0 : decode cX5_multiply 0 = .ok (.aload_n 0, 1) := by decide +kernel
theorem dX5_multiply_1 : decode cX5_multiply 1 = .ok (.getfield 13, 3) := by decide +kernel
theorem dX5_multiply_4 : decode cX5_multiply 4 = .ok (.iload_n 2, 1) := by decide +kernel
theorem dX5_multiply_5 : decode cX5_multiply 5 = .ok (.iaload, 1) := by decide +kernel
theorem dX5_multiply_6 : decode cX5_multiply 6 = .ok (.aload_n 0, 1) := by decide +kernel
theorem dX5_multiply_7 : decode cX5_multiply 7 = .ok (.getfield 13, 3) := by decide +kernel
theorem dX5_multiply_10 : decode cX5_multiply 10 = .ok (.iload_n 3, 1) := by decide +kernel
theorem dX5_multiply_11 : decode cX5_multiply 11 = .ok (.iaload, 1) := by decide +kernel
theorem dX5_multiply_12 : decode cX5_multiply 12 = .ok (.iadd, 1) := by decide +kernel
theorem dX5_multiply_13 : decode cX5_multiply 13 = .ok (.istore 4, 2) := by decide +kernel
theorem dX5_multiply_15 : decode cX5_multiply 15 = .ok (.iconst 0, 1) := by decide +kernel
theorem dX5_multiply_16 : decode cX5_multiply 16 = .ok (.istore 5, 2) := by decide +kernel
theorem dX5_multiply_18 : decode cX5_multiply 18 = .ok (.iload 5, 2) := by decide +kernel
theorem dX5_multiply_20 : decode cX5_multiply 20 = .ok (.iload 4, 2) := by decide +kernel
theorem dX5_multiply_22 : decode cX5_multiply 22 = .ok (.if_icmp .ge 22, 3) := by decide +kernel
theorem dX5_multiply_25 : decode cX5_multiply 25 = .ok (.aload_n 0, 1) := by decide +kernel
theorem dX5_multiply_26 : decode cX5_multiply 26 = .ok (.getfield 7, 3) := by decide +kernel
theorem dX5_multiply_29 : decode cX5_multiply 29 = .ok (.bipush 72, 2) := by decide +kernel
theorem dX5_multiply_31 : decode cX5_multiply 31 = .ok (.iload_n 1, 1) := by decide +kernel
theorem dX5_multiply_32 : decode cX5_multiply 32 = .ok (.imul, 1) := by decide +kernel
theorem dX5_multiply_33 : decode cX5_multiply 33 = .ok (.iload 5, 2) := by decide +kernel
theorem dX5_multiply_35 : decode cX5_multiply 35 = .ok (.iadd, 1) := by decide +kernel
theorem dX5_multiply_36 : decode cX5_multiply 36 = .ok (.iconst 0, 1) := by decide +kernel
theorem dX5_multiply_37 : decode cX5_multiply 37 = .ok (.iastore, 1) := by decide +kernel
theorem dX5_multiply_38 : decode cX5_multiply 38 = .ok (.iinc 5 1, 3) := by decide +kernel
theorem dX5_multiply_41 : decode cX5_multiply 41 = .ok (.goto (-23), 3) := by decide +kernel
theorem dX5_multiply_44 : decode cX5_multiply 44 = .ok (.iconst 0, 1) := by decide +kernel
theorem dX5_multiply_45 : decode cX5_multiply 45 = .ok (.istore 5, 2) := by decide +kernel
theorem dX5_multiply_47 : decode cX5_multiply 47 = .ok (.iload 5, 2) := by decide +kernel
theorem dX5_multiply_49 : decode cX5_multiply 49 = .ok (.aload_n 0, 1) := by decide +kernel
theorem dX5_multiply_50 : decode cX5_multiply 50 = .ok (.getfield 13, 3) := by decide +kernel
theorem dX5_multiply_53 : decode cX5_multiply 53 = .ok (.iload_n 2, 1) := by decide +kernel
theorem dX5_multiply_54 : decode cX5_multiply 54 = .ok (.iaload, 1) := by decide +kernel
theorem dX5_multiply_55 : decode cX5_multiply 55 = .ok (.if_icmp .ge 93, 3) := by decide +kernel
theorem dX5_multiply_58 : decode cX5_multiply 58 = .ok (.lconst 0, 1) := by decide +kernel
theorem dX5_multiply_59 : decode cX5_multiply 59 = .ok (.lstore 6, 2) := by decide +kernel
theorem dX5_multiply_61 : decode cX5_multiply 61 = .ok (.iconst 0, 1) := by decide +kernel
theorem dX5_multiply_62 : decode cX5_multiply 62 = .ok (.istore 8, 2) := by decide +kernel
theorem dX5_multiply_64 : decode cX5_multiply 64 = .ok (.iload 5, 2) := by decide +kernel
theorem dX5_multiply_66 : decode cX5_multiply 66 = .ok (.iload 8, 2) := by decide +kernel
theorem dX5_multiply_68 : decode cX5_multiply 68 = .ok (.iadd, 1) := by decide +kernel
theorem dX5_multiply_69 : decode cX5_multiply 69 = .ok (.iload 4, 2) := by decide +kernel
theorem dX5_multiply_71 : decode cX5_multiply 71 = .ok (.if_icmp .ge 71, 3) := by decide +kernel
theorem dX5_multiply_74 : decode cX5_multiply 74 = .ok (.bipush 72, 2) := by decide +kernel
theorem dX5_multiply_76 : decode cX5_multiply 76 = .ok (.iload_n 1, 1) := by decide +kernel
theorem dX5_multiply_77 : decode cX5_multiply 77 = .ok (.imul, 1) := by decide +kernel
theorem dX5_multiply_78 : decode cX5_multiply 78 = .ok (.iload 5, 2) := by decide +kernel
theorem dX5_multiply_80 : decode cX5_multiply 80 = .ok (.iadd, 1) := by decide +kernel
theorem dX5_multiply_81 : decode cX5_multiply 81 = .ok (.iload 8, 2) := by decide +kernel
theorem dX5_multiply_83 : decode cX5_multiply 83 = .ok (.iadd, 1) := by decide +kernel
theorem dX5_multiply_84 : decode cX5_multiply 84 = .ok (.istore 9, 2) := by decide +kernel
theorem dX5_multiply_86 : decode cX5_multiply 86 = .ok (.aload_n 0, 1) := by decide +kernel
theorem dX5_multiply_87 : decode cX5_multiply 87 = .ok (.iload_n 2, 1) := by decide +kernel
theorem dX5_multiply_88 : decode cX5_multiply 88 = .ok (.iload 5, 2) := by decide +kernel
theorem dX5_multiply_90 : decode cX5_multiply 90 = .ok (.invokevirtual 37, 3) := by decide +kernel
theorem dX5_multiply_93 : decode cX5_multiply 93 = .ok (.aload_n 0, 1) := by decide +kernel
theorem dX5_multiply_94 : decode cX5_multiply 94 = .ok (.iload_n 3, 1) := by decide +kernel
theorem dX5_multiply_95 : decode cX5_multiply 95 = .ok (.iload 8, 2) := by decide +kernel
theorem dX5_multiply_97 : decode cX5_multiply 97 = .ok (.invokevirtual 37, 3) := by decide +kernel
theorem dX5_multiply_100 : decode cX5_multiply 100 = .ok (.lmul, 1) := by decide +kernel
theorem dX5_multiply_101 : decode cX5_multiply 101 = .ok (.aload_n 0, 1) := by decide +kernel
theorem dX5_multiply_102 : decode cX5_multiply 102 = .ok (.getfield 7, 3) := by decide +kernel
theorem dX5_multiply_105 : decode cX5_multiply 105 = .ok (.iload 9, 2) := by decide +kernel
theorem dX5_multiply_107 : decode cX5_multiply 107 = .ok (.iaload, 1) := by decide +kernel
theorem dX5_multiply_108 : decode cX5_multiply 108 = .ok (.i2l, 1) := by decide +kernel
theorem dX5_multiply_109 : decode cX5_multiply 109 = .ok (.ladd, 1) := by decide +kernel
theorem dX5_multiply_110 : decode cX5_multiply 110 = .ok (.lload 6, 2) := by decide +kernel
theorem dX5_multiply_112 : decode cX5_multiply 112 = .ok (.ladd, 1) := by decide +kernel
theorem dX5_multiply_113 : decode cX5_multiply 113 = .ok (.lstore 10, 2) := by decide +kernel
theorem dX5_multiply_115 : decode cX5_multiply 115 = .ok (.aload_n 0, 1) := by decide +kernel
theorem dX5_multiply_116 : decode cX5_multiply 116 = .ok (.getfield 7, 3) := by decide +kernel
theorem dX5_multiply_119 : decode cX5_multiply 119 = .ok (.iload 9, 2) := by decide +kernel
theorem dX5_multiply_121 : decode cX5_multiply 121 = .ok (.lload 10, 2) := by decide +kernel
theorem dX5_multiply_123 : decode cX5_multiply 123 = .ok (.ldc2_w 41, 3) := by decide +kernel
theorem dX5_multiply_126 : decode cX5_multiply 126 = .ok (.land, 1) := by decide +kernel
theorem dX5_multiply_127 : decode cX5_multiply 127 = .ok (.l2i, 1) := by decide +kernel
theorem dX5_multiply_128 : decode cX5_multiply 128 = .ok (.iastore, 1) := by decide +kernel
theorem dX5_multiply_129 : decode cX5_multiply 129 = .ok (.lload 10, 2) := by decide +kernel
theorem dX5_multiply_131 : decode cX5_multiply 131 = .ok (.bipush 31, 2) := by decide +kernel
theorem dX5_multiply_133 : decode cX5_multiply 133 = .ok (.lshr, 1) := by decide +kernel
theorem dX5_multiply_134 : decode cX5_multiply 134 = .ok (.lstore 6, 2) := by decide +kernel
theorem dX5_multiply_136 : decode cX5_multiply 136 = .ok (.iinc 8 1, 3) := by decide +kernel
theorem dX5_multiply_139 : decode cX5_multiply 139 = .ok (.goto (-75), 3) := by decide +kernel
theorem dX5_multiply_142 : decode cX5_multiply 142 = .ok (.iinc 5 1, 3) := by decide +kernel
theorem dX5_multiply_145 : decode cX5_multiply 145 = .ok (.goto (-98), 3) := by decide +kernel
theorem dX5_multiply_148 : decode cX5_multiply 148 = .ok (.aload_n 0, 1) := by decide +kernel
theorem dX5_multiply_149 : decode cX5_multiply 149 = .ok (.getfield 13, 3) := by decide +kernel
theorem dX5_multiply_152 : decode cX5_multiply 152 = .ok (.iload_n 1, 1) := by decide +kernel
theorem dX5_multiply_153 : decode cX5_multiply 153 = .ok (.iload 4, 2) := by decide +kernel
theorem dX5_multiply_155 : decode cX5_multiply 155 = .ok (.iastore, 1) := by decide +kernel
theorem dX5_multiply_156 : decode cX5_multiply 156 = .ok (.aload_n 0, 1) := by decide +kernel
theorem dX5_multiply_157 : decode cX5_multiply 157 = .ok (.getfield 16, 3) := by decide +kernel
theorem dX5_multiply_160 : decode cX5_multiply 160 = .ok (.iload_n 1, 1) := by decide +kernel
theorem dX5_multiply_161 : decode cX5_multiply 161 = .ok (.aload_n 0, 1) := by decide +kernel
theorem dX5_multiply_162 : decode cX5_multiply 162 = .ok (.getfield 16, 3) := by decide +kernel
theorem dX5_multiply_165 : decode cX5_multiply 165 = .ok (.iload_n 2, 1) := by decide +kernel
theorem dX5_multiply_166 : decode cX5_multiply 166 = .ok (.baload, 1) := by decide +kernel
theorem dX5_multiply_167 : decode cX5_multiply 167 = .ok (.aload_n 0, 1) := by decide +kernel
theorem dX5_multiply_168 : decode cX5_multiply 168 = .ok (.getfield 16, 3) := by decide +kernel
theorem dX5_multiply_171 : decode cX5_multiply 171 = .ok (.iload_n 3, 1) := by decide +kernel
theorem dX5_multiply_172 : decode cX5_multiply 172 = .ok (.baload, 1) := by decide +kernel
theorem dX5_multiply_173 : decode cX5_multiply 173 = .ok (.if_icmp .eq 7, 3) := by decide +kernel
theorem dX5_multiply_176 : decode cX5_multiply 176 = .ok (.iconst 1, 1) := by decide +kernel
theorem dX5_multiply_177 : decode cX5_multiply 177 = .ok (.goto 4, 3) := by decide +kernel
theorem dX5_multiply_180 : decode cX5_multiply 180 = .ok (.iconst 0, 1) := by decide +kernel
theorem dX5_multiply_181 : decode cX5_multiply 181 = .ok (.bastore, 1) := by decide +kernel
theorem dX5_multiply_182 : decode cX5_multiply 182 = .ok (.aload_n 0, 1) := by decide +kernel
theorem dX5_multiply_183 : decode cX5_multiply 183 = .ok (.iload_n 1, 1) := by decide +kernel
theorem dX5_multiply_184 : decode cX5_multiply 184 = .ok (.invokevirtual 43, 3) := by decide +kernel
theorem dX5_multiply_187 : decode cX5_multiply 187 = .ok (.return_, 1) := by decide +kernel
theorem dX5_bitsOf_0 : decode cX5_bitsOf 0 = .ok (.bipush 31, 2) := by decide +kernel
theorem dX5_bitsOf_2 : decode cX5_bitsOf 2 = .ok (.aload_n 0, 1) := by decide +kernel
theorem dX5_bitsOf_3 : decode cX5_bitsOf 3 = .ok (.getfield 13, 3) := by decide +kernel
theorem dX5_bitsOf_6 : decode cX5_bitsOf 6 = .ok (.iload_n 1, 1) := by decide +kernel
theorem dX5_bitsOf_7 : decode cX5_bitsOf 7 = .ok (.iaload, 1) := by decide +kernel
theorem dX5_bitsOf_8 : decode cX5_bitsOf 8 = .ok (.imul, 1) := by decide +kernel
theorem dX5_bitsOf_9 : decode cX5_bitsOf 9 = .ok (.istore_n 2, 1) := by decide +kernel
theorem dX5_bitsOf_10 : decode cX5_bitsOf 10 = .ok (.aload_n 0, 1) := by decide +kernel
theorem dX5_bitsOf_11 : decode cX5_bitsOf 11 = .ok (.getfield 13, 3) := by decide +kernel
theorem dX5_bitsOf_14 : decode cX5_bitsOf 14 = .ok (.iload_n 1, 1) := by decide +kernel
theorem dX5_bitsOf_15 : decode cX5_bitsOf 15 = .ok (.iaload, 1) := by decide +kernel
theorem dX5_bitsOf_16 : decode cX5_bitsOf 16 = .ok (.ifCond .le 38, 3) := by decide +kernel
theorem dX5_bitsOf_19 : decode cX5_bitsOf 19 = .ok (.aload_n 0, 1) := by decide +kernel
theorem dX5_bitsOf_20 : decode cX5_bitsOf 20 = .ok (.getfield 7, 3) := by decide +kernel
theorem dX5_bitsOf_23 : decode cX5_bitsOf 23 = .ok (.bipush 72, 2) := by decide +kernel
theorem dX5_bitsOf_25 : decode cX5_bitsOf 25 = .ok (.iload_n 1, 1) := by decide +kernel
theorem dX5_bitsOf_26 : decode cX5_bitsOf 26 = .ok (.imul, 1) := by decide +kernel
theorem dX5_bitsOf_27 : decode cX5_bitsOf 27 = .ok (.aload_n 0, 1) := by decide +kernel
theorem dX5_bitsOf_28 : decode cX5_bitsOf 28 = .ok (.getfield 13, 3) := by decide +kernel
theorem dX5_bitsOf_31 : decode cX5_bitsOf 31 = .ok (.iload_n 1, 1) := by decide +kernel
theorem dX5_bitsOf_32 : decode cX5_bitsOf 32 = .ok (.iaload, 1) := by decide +kernel
theorem dX5_bitsOf_33 : decode cX5_bitsOf 33 = .ok (.iadd, 1) := by decide +kernel
theorem dX5_bitsOf_34 : decode cX5_bitsOf 34 = .ok (.iconst 1, 1) := by decide +kernel
theorem dX5_bitsOf_35 : decode cX5_bitsOf 35 = .ok (.isub, 1) := by decide +kernel
theorem dX5_bitsOf_36 : decode cX5_bitsOf 36 = .ok (.iaload, 1) := by decide +kernel
theorem dX5_bitsOf_37 : decode cX5_bitsOf 37 = .ok (.istore_n 3, 1) := by decide +kernel
theorem dX5_bitsOf_38 : decode cX5_bitsOf 38 = .ok (.iload_n 3, 1) := by decide +kernel
theorem dX5_bitsOf_39 : decode cX5_bitsOf 39 = .ok (.ldc 57, 2) := by decide +kernel
theorem dX5_bitsOf_41 : decode cX5_bitsOf 41 = .ok (.if_icmp .ge 13, 3) := by decide +kernel
theorem dX5_bitsOf_44 : decode cX5_bitsOf 44 = .ok (.iconst 2, 1) := by decide +kernel
theorem dX5_bitsOf_45 : decode cX5_bitsOf 45 = .ok (.iload_n 3, 1) := by decide +kernel
theorem dX5_bitsOf_46 : decode cX5_bitsOf 46 = .ok (.imul, 1) := by decide +kernel
theorem dX5_bitsOf_47 : decode cX5_bitsOf 47 = .ok (.istore_n 3, 1) := by decide +kernel
theorem dX5_bitsOf_48 : decode cX5_bitsOf 48 = .ok (.iinc 2 (-1), 3) := by decide +kernel
theorem dX5_bitsOf_51 : decode cX5_bitsOf 51 = .ok (.goto (-13), 3) := by decide +kernel
theorem dX5_bitsOf_54 : decode cX5_bitsOf 54 = .ok (.iload_n 2, 1) := by decide +kernel
theorem dX5_bitsOf_55 : decode cX5_bitsOf 55 = .ok (.ireturn, 1) := by decide +kernel
set_option maxRecDepth 20000 in
theorem ggX5_bitOf_X5_limbOf : GoodIn wsX5_bitOf wsX5_limbOf := goodIn_r _ [5, 6, 7, 8, 9, 10, 11, 12, 13, 14, 15, 16, 17, 18, 19, 20, 21, 22] (by decide +kernel) (by decide +kernel)
set_option maxRecDepth 20000 in
theorem gX5_bitOf_X5_limbOf : GoodIn wsX5_bitOf (wsV RX5 37 RX5 yX5_limbOf wsX5_limbOf) := goodIn_app (goodIn_of _ (by decide +kernel)) ggX5_bitOf_X5_limbOf
theorem dX5_bitOf_0 : decode cX5_bitOf 0 = .ok (.aload_n 0, 1) := by decide +kernel
theorem dX5_bitOf_1 : decode cX5_bitOf 1 = .ok (.iload_n 1, 1) := by decide +kernel
theorem dX5_bitOf_2 : decode cX5_bitOf 2 = .ok (.iload_n 2, 1) := by decide +kernel
theorem dX5_bitOf_3 : decode cX5_bitOf 3 = .ok (.bipush 31, 2) := by decide +kernel
theorem dX5_bitOf_5 : decode cX5_bitOf 5 = .ok (.idiv, 1) := by decide +kernel
theorem dX5_bitOf_6 : decode cX5_bitOf 6 = .ok (.invokevirtual 37, 3) := by decide +kernel
theorem dX5_bitOf_9 : decode cX5_bitOf 9 = .ok (.iload_n 2, 1) := by decide +kernel
theorem dX5_bitOf_10 : decode cX5_bitOf 10 = .ok (.bipush 31, 2) := by decide +kernel
theorem dX5_bitOf_12 : decode cX5_bitOf 12 = .ok (.irem, 1) := by decide +kernel
theorem dX5_bitOf_13 : decode cX5_bitOf 13 = .ok (.lshr, 1) := by decide +kernel
theorem dX5_bitOf_14 : decode cX5_bitOf 14 = .ok (.lconst 1, 1) := by decide +kernel
theorem dX5_bitOf_15 : decode cX5_bitOf 15 = .ok (.land, 1) := by decide +kernel
theorem dX5_bitOf_16 : decode cX5_bitOf 16 = .ok (.l2i, 1) := by decide +kernel
theorem dX5_bitOf_17 : decode cX5_bitOf 17 = .ok (.ireturn, 1) := by decide +kernel
set_option maxRecDepth 20000 in
theorem ggX5_halve_X5_trim : GoodIn wsX5_halve wsX5_trim := goodIn_r _ [7, 1, 2, 8, 9, 10, 11, 12, 13, 14, 15, 16, 17, 18, 19, 20, 21, 22, 23] (by decide +kernel) (by decide +kernel)
set_option maxRecDepth 20000 in
theorem gX5_halve_X5_trim : GoodIn wsX5_halve (wsV RX5 43 RX5 yX5_trim wsX5_trim) := goodIn_app (goodIn_of _ (by decide +kernel)) ggX5_halve_X5_trim
theorem dX5_halve_0 : decode cX5_halve 0 = .ok (.iconst 0, 1) := by decide +kernel
theorem dX5_halve_1 : decode cX5_halve 1 = .ok (.istore_n 2, 1) := by decide +kernel
theorem dX5_halve_2 : decode cX5_halve 2 = .ok (.aload_n 0, 1) := by decide +kernel
theorem dX5_halve_3 : decode cX5_halve 3 = .ok (.getfield 13, 3) := by decide +kernel
theorem dX5_halve_6 : decode cX5_halve 6 = .ok (.iload_n 1, 1) := by decide +kernel
theorem dX5_halve_7 : decode cX5_halve 7 = .ok (.iaload, 1) := by decide +kernel
theorem dX5_halve_8 : decode cX5_halve 8 = .ok (.iconst 1, 1) := by decide +kernel
theorem dX5_halve_9 : decode cX5_halve 9 = .ok (.isub, 1) := by decide +kernel
theorem dX5_halve_10 : decode cX5_halve 10 = .ok (.istore_n 3, 1) := by decide +kernel
theorem dX5_halve_11 : decode cX5_halve 11 = .ok (.iload_n 3, 1) := by decide +kernel
theorem dX5_halve_12 : decode cX5_halve 12 = .ok (.ifCond .lt 51, 3) := by decide +kernel
theorem dX5_halve_15 : decode cX5_halve 15 = .ok (.iload_n 2, 1) := by decide +kernel
theorem dX5_halve_16 : decode cX5_halve 16 = .ok (.i2l, 1) := by decide +kernel
theorem dX5_halve_17 : decode cX5_halve 17 = .ok (.bipush 31, 2) := by decide +kernel
theorem dX5_halve_19 : decode cX5_halve 19 = .ok (.lshl, 1) := by decide +kernel
theorem dX5_halve_20 : decode cX5_halve 20 = .ok (.aload_n 0, 1) := by decide +kernel
theorem dX5_halve_21 : decode cX5_halve 21 = .ok (.getfield 7, 3) := by decide +kernel
theorem dX5_halve_24 : decode cX5_halve 24 = .ok (.bipush 72, 2) := by decide +kernel
theorem dX5_halve_26 : decode cX5_halve 26 = .ok (.iload_n 1, 1) := by decide +kernel
theorem dX5_halve_27 : decode cX5_halve 27 = .ok (.imul, 1) := by decide +kernel
theorem dX5_halve_28 : decode cX5_halve 28 = .ok (.iload_n 3, 1) := by decide +kernel
theorem dX5_halve_29 : decode cX5_halve 29 = .ok (.iadd, 1) := by decide +kernel
theorem dX5_halve_30 : decode cX5_halve 30 = .ok (.iaload, 1) := by decide +kernel
theorem dX5_halve_31 : decode cX5_halve 31 = .ok (.i2l, 1) := by decide +kernel
theorem dX5_halve_32 : decode cX5_halve 32 = .ok (.lor, 1) := by decide +kernel
theorem dX5_halve_33 : decode cX5_halve 33 = .ok (.lstore 4, 2) := by decide +kernel
theorem dX5_halve_35 : decode cX5_halve 35 = .ok (.aload_n 0, 1) := by decide +kernel
theorem dX5_halve_36 : decode cX5_halve 36 = .ok (.getfield 7, 3) := by decide +kernel
theorem dX5_halve_39 : decode cX5_halve 39 = .ok (.bipush 72, 2) := by decide +kernel
theorem dX5_halve_41 : decode cX5_halve 41 = .ok (.iload_n 1, 1) := by decide +kernel
theorem dX5_halve_42 : decode cX5_halve 42 = .ok (.imul, 1) := by decide +kernel
theorem dX5_halve_43 : decode cX5_halve 43 = .ok (.iload_n 3, 1) := by decide +kernel
theorem dX5_halve_44 : decode cX5_halve 44 = .ok (.iadd, 1) := by decide +kernel
theorem dX5_halve_45 : decode cX5_halve 45 = .ok (.lload 4, 2) := by decide +kernel
theorem dX5_halve_47 : decode cX5_halve 47 = .ok (.iconst 1, 1) := by decide +kernel
theorem dX5_halve_48 : decode cX5_halve 48 = .ok (.lshr, 1) := by decide +kernel
theorem dX5_halve_49 : decode cX5_halve 49 = .ok (.l2i, 1) := by decide +kernel
theorem dX5_halve_50 : decode cX5_halve 50 = .ok (.iastore, 1) := by decide +kernel
theorem dX5_halve_51 : decode cX5_halve 51 = .ok (.lload 4, 2) := by decide +kernel
theorem dX5_halve_53 : decode cX5_halve 53 = .ok (.lconst 1, 1) := by decide +kernel
theorem dX5_halve_54 : decode cX5_halve 54 = .ok (.land, 1) := by decide +kernel
theorem dX5_halve_55 : decode cX5_halve 55 = .ok (.l2i, 1) := by decide +kernel
theorem dX5_halve_56 : decode cX5_halve 56 = .ok (.istore_n 2, 1) := by decide +kernel
theorem dX5_halve_57 : decode cX5_halve 57 = .ok (.iinc 3 (-1), 3) := by decide +kernel
theorem dX5_halve_60 : decode cX5_halve 60 = .ok (.goto (-49), 3) := by decide +kernel
theorem dX5_halve_63 : decode cX5_halve 63 = .ok (.aload_n 0, 1) := by decide +kernel
theorem dX5_halve_64 : decode cX5_halve 64 = .ok (.iload_n 1, 1) := by decide +kernel
theorem dX5_halve_65 : decode cX5_halve 65 = .ok (.invokevirtual 43, 3) := by decide +kernel
theorem dX5_halve_68 : decode cX5_halve 68 = .ok (.return_, 1) := by decide +kernel
set_option maxRecDepth 20000 in
theorem ggX5_divide_X5_copy : GoodIn wsX5_divide wsX5_copy := goodIn_r _ [8, 2, 1, 3, 43, 44, 45, 46, 47, 48, 49, 50, 51, 52, 53, 54, 55, 56, 57] (by decide +kernel) (by decide +kernel)
set_option maxRecDepth 20000 in
theorem gX5_divide_X5_copy : GoodIn wsX5_divide (wsV RX5 58 RX5 yX5_copy wsX5_copy) := goodIn_app (goodIn_of _ (by decide +kernel)) ggX5_divide_X5_copy
set_option maxRecDepth 20000 in
theorem ggX5_divide_X5_clear : GoodIn wsX5_divide wsX5_clear := goodIn_r _ [12, 2, 1, 43, 44, 45, 46, 47, 48, 49, 50, 51, 52, 53, 54, 55, 56, 57] (by decide +kernel) (by decide +kernel)
set_option maxRecDepth 20000 in
theorem gX5_divide_X5_clear : GoodIn wsX5_divide (wsV RX5 62 RX5 yX5_clear wsX5_clear) := goodIn_app (goodIn_of _ (by decide +kernel)) ggX5_divide_X5_clear
set_option maxRecDepth 20000 in
theorem ggX5_divide_X5_trim : GoodIn wsX5_divide wsX5_trim := goodIn_r _ [16, 2, 3, 1, 43, 44, 45, 46, 47, 48, 49, 50, 51, 52, 53, 54, 55, 56, 57] (by decide +kernel) (by decide +kernel)
set_option maxRecDepth 20000 in
theorem gX5_divide_X5_trim : GoodIn wsX5_divide (wsV RX5 43 RX5 yX5_trim wsX5_trim) := goodIn_app (goodIn_of _ (by decide +kernel)) ggX5_divide_X5_trim
set_option maxRecDepth 20000 in
theorem ggX5_divide_X5_bitsOf : GoodIn wsX5_divide wsX5_bitsOf := goodIn_r _ [20, 2, 3, 21, 43, 44, 45, 46, 47, 48, 49, 50, 51, 52, 53, 54, 55, 56, 57] (by decide +kernel) (by decide +kernel)
set_option maxRecDepth 20000 in
theorem gX5_divide_X5_bitsOf : GoodIn wsX5_divide (wsV RX5 65 RX5 yX5_bitsOf wsX5_bitsOf) := goodIn_app (goodIn_of _ (by decide +kernel)) ggX5_divide_X5_bitsOf
set_option maxRecDepth 20000 in
theorem ggX5_divide_X5_addSizes : GoodIn wsX5_divide wsX5_addSizes := goodIn_r _ [25, 2, 3, 26, 27, 28, 29, 7, 30, 13, 14, 15, 16, 1, 43, 44, 45, 46, 47, 48, 49, 50, 51, 52, 53, 54, 55, 56, 57] (by decide +kernel) (by decide +kernel)
set_option maxRecDepth 20000 in
theorem gX5_divide_X5_addSizes : GoodIn wsX5_divide (wsV RX5 47 RX5 yX5_addSizes wsX5_addSizes) := goodIn_app (goodIn_of _ (by decide +kernel)) ggX5_divide_X5_addSizes
set_option maxRecDepth 20000 in
theorem ggX5_divide_X5_bitOf : GoodIn wsX5_divide wsX5_bitOf := goodIn_r _ [34, 27, 28, 29, 7, 30, 2, 3, 43, 44, 45, 46, 47, 48, 49, 50, 51, 52, 53, 54, 55, 56, 57] (by decide +kernel) (by decide +kernel)
set_option maxRecDepth 20000 in
theorem gX5_divide_X5_bitOf : GoodIn wsX5_divide (wsV RX5 69 RX5 yX5_bitOf wsX5_bitOf) := goodIn_app (goodIn_of _ (by decide +kernel)) ggX5_divide_X5_bitOf
set_option maxRecDepth 20000 in
theorem ggX5_divide_X5_compareSizes : GoodIn wsX5_divide wsX5_compareSizes := goodIn_r _ [38, 2, 3, 43, 44, 45, 46, 47, 48, 49, 50, 51, 52, 53, 54, 55, 56, 57] (by decide +kernel) (by decide +kernel)
set_option maxRecDepth 20000 in
theorem gX5_divide_X5_compareSizes : GoodIn wsX5_divide (wsV RX5 51 RX5 yX5_compareSizes wsX5_compareSizes) := goodIn_app (goodIn_of _ (by decide +kernel)) ggX5_divide_X5_compareSizes
set_option maxRecDepth 20000 in
theorem ggX5_divide_X5_subtractSizes : GoodIn wsX5_divide wsX5_subtractSizes := goodIn_r _ [42, 2, 3, 26, 27, 28, 29, 7, 30, 13, 14, 15, 16, 1, 43, 44, 45, 46, 47, 48, 49, 50, 51, 52, 53, 54, 55, 56, 57] (by decide +kernel) (by decide +kernel)
set_option maxRecDepth 20000 in
theorem gX5_divide_X5_subtractSizes : GoodIn wsX5_divide (wsV RX5 54 RX5 yX5_subtractSizes wsX5_subtractSizes) := goodIn_app (goodIn_of _ (by decide +kernel)) ggX5_divide_X5_subtractSizes
theorem dX5_divide_0 : decode cX5_divide 0 = .ok (.aload_n 0, 1) := by decide +kernel
theorem dX5_divide_1 : decode cX5_divide 1 = .ok (.sipush 445, 3) := by decide +kernel
theorem dX5_divide_4 : decode cX5_divide 4 = .ok (.iload_n 1, 1) := by decide +kernel
theorem dX5_divide_5 : decode cX5_divide 5 = .ok (.invokevirtual 58, 3) := by decide +kernel
theorem dX5_divide_8 : decode cX5_divide 8 = .ok (.aload_n 0, 1) := by decide +kernel
theorem dX5_divide_9 : decode cX5_divide 9 = .ok (.getfield 16, 3) := by decide +kernel
theorem dX5_divide_12 : decode cX5_divide 12 = .ok (.sipush 445, 3) := by decide +kernel
theorem dX5_divide_15 : decode cX5_divide 15 = .ok (.iconst 0, 1) := by decide +kernel
theorem dX5_divide_16 : decode cX5_divide 16 = .ok (.bastore, 1) := by decide +kernel
theorem dX5_divide_17 : decode cX5_divide 17 = .ok (.aload_n 0, 1) := by decide +kernel
theorem dX5_divide_18 : decode cX5_divide 18 = .ok (.sipush 446, 3) := by decide +kernel
theorem dX5_divide_21 : decode cX5_divide 21 = .ok (.invokevirtual 62, 3) := by decide +kernel
theorem dX5_divide_24 : decode cX5_divide 24 = .ok (.aload_n 0, 1) := by decide +kernel
theorem dX5_divide_25 : decode cX5_divide 25 = .ok (.getfield 13, 3) := by decide +kernel
theorem dX5_divide_28 : decode cX5_divide 28 = .ok (.iload_n 2, 1) := by decide +kernel
theorem dX5_divide_29 : decode cX5_divide 29 = .ok (.iaload, 1) := by decide +kernel
theorem dX5_divide_30 : decode cX5_divide 30 = .ok (.iconst 1, 1) := by decide +kernel
theorem dX5_divide_31 : decode cX5_divide 31 = .ok (.if_icmp .ne 115, 3) := by decide +kernel
theorem dX5_divide_34 : decode cX5_divide 34 = .ok (.lconst 0, 1) := by decide +kernel
theorem dX5_divide_35 : decode cX5_divide 35 = .ok (.lstore_n 3, 1) := by decide +kernel
theorem dX5_divide_36 : decode cX5_divide 36 = .ok (.aload_n 0, 1) := by decide +kernel
theorem dX5_divide_37 : decode cX5_divide 37 = .ok (.getfield 7, 3) := by decide +kernel
theorem dX5_divide_40 : decode cX5_divide 40 = .ok (.bipush 72, 2) := by decide +kernel
theorem dX5_divide_42 : decode cX5_divide 42 = .ok (.iload_n 2, 1) := by decide +kernel
theorem dX5_divide_43 : decode cX5_divide 43 = .ok (.imul, 1) := by decide +kernel
theorem dX5_divide_44 : decode cX5_divide 44 = .ok (.iaload, 1) := by decide +kernel
theorem dX5_divide_45 : decode cX5_divide 45 = .ok (.i2l, 1) := by decide +kernel
theorem dX5_divide_46 : decode cX5_divide 46 = .ok (.lstore 5, 2) := by decide +kernel
theorem dX5_divide_48 : decode cX5_divide 48 = .ok (.aload_n 0, 1) := by decide +kernel
theorem dX5_divide_49 : decode cX5_divide 49 = .ok (.getfield 13, 3) := by decide +kernel
theorem dX5_divide_52 : decode cX5_divide 52 = .ok (.iload_n 1, 1) := by decide +kernel
theorem dX5_divide_53 : decode cX5_divide 53 = .ok (.iaload, 1) := by decide +kernel
theorem dX5_divide_54 : decode cX5_divide 54 = .ok (.iconst 1, 1) := by decide +kernel
theorem dX5_divide_55 : decode cX5_divide 55 = .ok (.isub, 1) := by decide +kernel
theorem dX5_divide_56 : decode cX5_divide 56 = .ok (.istore 7, 2) := by decide +kernel
theorem dX5_divide_58 : decode cX5_divide 58 = .ok (.iload 7, 2) := by decide +kernel
theorem dX5_divide_60 : decode cX5_divide 60 = .ok (.ifCond .lt 52, 3) := by decide +kernel
theorem dX5_divide_63 : decode cX5_divide 63 = .ok (.lload_n 3, 1) := by decide +kernel
theorem dX5_divide_64 : decode cX5_divide 64 = .ok (.bipush 31, 2) := by decide +kernel
theorem dX5_divide_66 : decode cX5_divide 66 = .ok (.lshl, 1) := by decide +kernel
theorem dX5_divide_67 : decode cX5_divide 67 = .ok (.aload_n 0, 1) := by decide +kernel
theorem dX5_divide_68 : decode cX5_divide 68 = .ok (.getfield 7, 3) := by decide +kernel
theorem dX5_divide_71 : decode cX5_divide 71 = .ok (.bipush 72, 2) := by decide +kernel
theorem dX5_divide_73 : decode cX5_divide 73 = .ok (.iload_n 1, 1) := by decide +kernel
theorem dX5_divide_74 : decode cX5_divide 74 = .ok (.imul, 1) := by decide +kernel
theorem dX5_divide_75 : decode cX5_divide 75 = .ok (.iload 7, 2) := by decide +kernel
theorem dX5_divide_77 : decode cX5_divide 77 = .ok (.iadd, 1) := by decide +kernel
theorem dX5_divide_78 : decode cX5_divide 78 = .ok (.iaload, 1) := by decide +kernel
theorem dX5_divide_79 : decode cX5_divide 79 = .ok (.i2l, 1) := by decide +kernel
theorem dX5_divide_80 : decode cX5_divide 80 = .ok (.lor, 1) := by decide +kernel
theorem dX5_divide_81 : decode cX5_divide 81 = .ok (.lstore 8, 2) := by decide +kernel
theorem dX5_divide_83 : decode cX5_divide 83 = .ok (.aload_n 0, 1) := by decide +kernel
theorem dX5_divide_84 : decode cX5_divide 84 = .ok (.getfield 7, 3) := by decide +kernel
theorem dX5_divide_87 : decode cX5_divide 87 = .ok (.sipush 32040, 3) := by decide +kernel
theorem dX5_divide_90 : decode cX5_divide 90 = .ok (.iload 7, 2) := by decide +kernel
theorem dX5_divide_92 : decode cX5_divide 92 = .ok (.iadd, 1) := by decide +kernel
theorem dX5_divide_93 : decode cX5_divide 93 = .ok (.lload 8, 2) := by decide +kernel
theorem dX5_divide_95 : decode cX5_divide 95 = .ok (.lload 5, 2) := by decide +kernel
theorem dX5_divide_97 : decode cX5_divide 97 = .ok (.ldiv, 1) := by decide +kernel
theorem dX5_divide_98 : decode cX5_divide 98 = .ok (.l2i, 1) := by decide +kernel
theorem dX5_divide_99 : decode cX5_divide 99 = .ok (.iastore, 1) := by decide +kernel
theorem dX5_divide_100 : decode cX5_divide 100 = .ok (.lload 8, 2) := by decide +kernel
theorem dX5_divide_102 : decode cX5_divide 102 = .ok (.lload 5, 2) := by decide +kernel
theorem dX5_divide_104 : decode cX5_divide 104 = .ok (.lrem, 1) := by decide +kernel
theorem dX5_divide_105 : decode cX5_divide 105 = .ok (.lstore_n 3, 1) := by decide +kernel
theorem dX5_divide_106 : decode cX5_divide 106 = .ok (.iinc 7 (-1), 3) := by decide +kernel
theorem dX5_divide_109 : decode cX5_divide 109 = .ok (.goto (-51), 3) := by decide +kernel
theorem dX5_divide_112 : decode cX5_divide 112 = .ok (.aload_n 0, 1) := by decide +kernel
theorem dX5_divide_113 : decode cX5_divide 113 = .ok (.sipush 445, 3) := by decide +kernel
theorem dX5_divide_116 : decode cX5_divide 116 = .ok (.invokevirtual 43, 3) := by decide +kernel
theorem dX5_divide_119 : decode cX5_divide 119 = .ok (.aload_n 0, 1) := by decide +kernel
theorem dX5_divide_120 : decode cX5_divide 120 = .ok (.getfield 7, 3) := by decide +kernel
theorem dX5_divide_123 : decode cX5_divide 123 = .ok (.sipush 32112, 3) := by decide +kernel
theorem dX5_divide_126 : decode cX5_divide 126 = .ok (.lload_n 3, 1) := by decide +kernel
theorem dX5_divide_127 : decode cX5_divide 127 = .ok (.l2i, 1) := by decide +kernel
theorem dX5_divide_128 : decode cX5_divide 128 = .ok (.iastore, 1) := by decide +kernel
theorem dX5_divide_129 : decode cX5_divide 129 = .ok (.aload_n 0, 1) := by decide +kernel
theorem dX5_divide_130 : decode cX5_divide 130 = .ok (.getfield 13, 3) := by decide +kernel
theorem dX5_divide_133 : decode cX5_divide 133 = .ok (.sipush 446, 3) := by decide +kernel
theorem dX5_divide_136 : decode cX5_divide 136 = .ok (.iconst 1, 1) := by decide +kernel
theorem dX5_divide_137 : decode cX5_divide 137 = .ok (.iastore, 1) := by decide +kernel
theorem dX5_divide_138 : decode cX5_divide 138 = .ok (.aload_n 0, 1) := by decide +kernel
theorem dX5_divide_139 : decode cX5_divide 139 = .ok (.sipush 446, 3) := by decide +kernel
theorem dX5_divide_142 : decode cX5_divide 142 = .ok (.invokevirtual 43, 3) := by decide +kernel
theorem dX5_divide_145 : decode cX5_divide 145 = .ok (.return_, 1) := by decide +kernel
theorem dX5_divide_146 : decode cX5_divide 146 = .ok (.aload_n 0, 1) := by decide +kernel
theorem dX5_divide_147 : decode cX5_divide 147 = .ok (.iload_n 1, 1) := by decide +kernel
theorem dX5_divide_148 : decode cX5_divide 148 = .ok (.invokevirtual 65, 3) := by decide +kernel
theorem dX5_divide_151 : decode cX5_divide 151 = .ok (.iconst 1, 1) := by decide +kernel
theorem dX5_divide_152 : decode cX5_divide 152 = .ok (.isub, 1) := by decide +kernel
theorem dX5_divide_153 : decode cX5_divide 153 = .ok (.istore_n 3, 1) := by decide +kernel
theorem dX5_divide_154 : decode cX5_divide 154 = .ok (.iload_n 3, 1) := by decide +kernel
theorem dX5_divide_155 : decode cX5_divide 155 = .ok (.ifCond .lt 121, 3) := by decide +kernel
theorem dX5_divide_158 : decode cX5_divide 158 = .ok (.aload_n 0, 1) := by decide +kernel
theorem dX5_divide_159 : decode cX5_divide 159 = .ok (.sipush 446, 3) := by decide +kernel
theorem dX5_divide_162 : decode cX5_divide 162 = .ok (.sipush 446, 3) := by decide +kernel
theorem dX5_divide_165 : decode cX5_divide 165 = .ok (.sipush 446, 3) := by decide +kernel
theorem dX5_divide_168 : decode cX5_divide 168 = .ok (.invokevirtual 47, 3) := by decide +kernel
theorem dX5_divide_171 : decode cX5_divide 171 = .ok (.aload_n 0, 1) := by decide +kernel
theorem dX5_divide_172 : decode cX5_divide 172 = .ok (.iload_n 1, 1) := by decide +kernel
theorem dX5_divide_173 : decode cX5_divide 173 = .ok (.iload_n 3, 1) := by decide +kernel
theorem dX5_divide_174 : decode cX5_divide 174 = .ok (.invokevirtual 69, 3) := by decide +kernel
theorem dX5_divide_177 : decode cX5_divide 177 = .ok (.iconst 1, 1) := by decide +kernel
theorem dX5_divide_178 : decode cX5_divide 178 = .ok (.if_icmp .ne 16, 3) := by decide +kernel
theorem dX5_divide_181 : decode cX5_divide 181 = .ok (.aload_n 0, 1) := by decide +kernel
theorem dX5_divide_182 : decode cX5_divide 182 = .ok (.sipush 446, 3) := by decide +kernel
theorem dX5_divide_185 : decode cX5_divide 185 = .ok (.sipush 446, 3) := by decide +kernel
theorem dX5_divide_188 : decode cX5_divide 188 = .ok (.sipush 447, 3) := by decide +kernel
theorem dX5_divide_191 : decode cX5_divide 191 = .ok (.invokevirtual 47, 3) := by decide +kernel
theorem dX5_divide_194 : decode cX5_divide 194 = .ok (.sipush 32040, 3) := by decide +kernel
theorem dX5_divide_197 : decode cX5_divide 197 = .ok (.iload_n 3, 1) := by decide +kernel
theorem dX5_divide_198 : decode cX5_divide 198 = .ok (.bipush 31, 2) := by decide +kernel
theorem dX5_divide_200 : decode cX5_divide 200 = .ok (.idiv, 1) := by decide +kernel
theorem dX5_divide_201 : decode cX5_divide 201 = .ok (.iadd, 1) := by decide +kernel
theorem dX5_divide_202 : decode cX5_divide 202 = .ok (.istore 4, 2) := by decide +kernel
theorem dX5_divide_204 : decode cX5_divide 204 = .ok (.iconst 1, 1) := by decide +kernel
theorem dX5_divide_205 : decode cX5_divide 205 = .ok (.iload_n 3, 1) := by decide +kernel
theorem dX5_divide_206 : decode cX5_divide 206 = .ok (.bipush 31, 2) := by decide +kernel
theorem dX5_divide_208 : decode cX5_divide 208 = .ok (.irem, 1) := by decide +kernel
theorem dX5_divide_209 : decode cX5_divide 209 = .ok (.ishl, 1) := by decide +kernel
theorem dX5_divide_210 : decode cX5_divide 210 = .ok (.istore 5, 2) := by decide +kernel
theorem dX5_divide_212 : decode cX5_divide 212 = .ok (.aload_n 0, 1) := by decide +kernel
theorem dX5_divide_213 : decode cX5_divide 213 = .ok (.getfield 7, 3) := by decide +kernel
theorem dX5_divide_216 : decode cX5_divide 216 = .ok (.iload 4, 2) := by decide +kernel
theorem dX5_divide_218 : decode cX5_divide 218 = .ok (.aload_n 0, 1) := by decide +kernel
theorem dX5_divide_219 : decode cX5_divide 219 = .ok (.getfield 7, 3) := by decide +kernel
theorem dX5_divide_222 : decode cX5_divide 222 = .ok (.iload 4, 2) := by decide +kernel
theorem dX5_divide_224 : decode cX5_divide 224 = .ok (.iaload, 1) := by decide +kernel
theorem dX5_divide_225 : decode cX5_divide 225 = .ok (.iload 5, 2) := by decide +kernel
theorem dX5_divide_227 : decode cX5_divide 227 = .ok (.iconst (-1), 1) := by decide +kernel
theorem dX5_divide_228 : decode cX5_divide 228 = .ok (.ixor, 1) := by decide +kernel
theorem dX5_divide_229 : decode cX5_divide 229 = .ok (.iand, 1) := by decide +kernel
theorem dX5_divide_230 : decode cX5_divide 230 = .ok (.iastore, 1) := by decide +kernel
theorem dX5_divide_231 : decode cX5_divide 231 = .ok (.aload_n 0, 1) := by decide +kernel
theorem dX5_divide_232 : decode cX5_divide 232 = .ok (.sipush 446, 3) := by decide +kernel
theorem dX5_divide_235 : decode cX5_divide 235 = .ok (.iload_n 2, 1) := by decide +kernel
theorem dX5_divide_236 : decode cX5_divide 236 = .ok (.invokevirtual 51, 3) := by decide +kernel
theorem dX5_divide_239 : decode cX5_divide 239 = .ok (.ifCond .lt 31, 3) := by decide +kernel
theorem dX5_divide_242 : decode cX5_divide 242 = .ok (.aload_n 0, 1) := by decide +kernel
theorem dX5_divide_243 : decode cX5_divide 243 = .ok (.sipush 446, 3) := by decide +kernel
theorem dX5_divide_246 : decode cX5_divide 246 = .ok (.sipush 446, 3) := by decide +kernel
theorem dX5_divide_249 : decode cX5_divide 249 = .ok (.iload_n 2, 1) := by decide +kernel
theorem dX5_divide_250 : decode cX5_divide 250 = .ok (.invokevirtual 54, 3) := by decide +kernel
theorem dX5_divide_253 : decode cX5_divide 253 = .ok (.aload_n 0, 1) := by decide +kernel
theorem dX5_divide_254 : decode cX5_divide 254 = .ok (.getfield 7, 3) := by decide +kernel
theorem dX5_divide_257 : decode cX5_divide 257 = .ok (.iload 4, 2) := by decide +kernel
theorem dX5_divide_259 : decode cX5_divide 259 = .ok (.aload_n 0, 1) := by decide +kernel
theorem dX5_divide_260 : decode cX5_divide 260 = .ok (.getfield 7, 3) := by decide +kernel
theorem dX5_divide_263 : decode cX5_divide 263 = .ok (.iload 4, 2) := by decide +kernel
theorem dX5_divide_265 : decode cX5_divide 265 = .ok (.iaload, 1) := by decide +kernel
theorem dX5_divide_266 : decode cX5_divide 266 = .ok (.iload 5, 2) := by decide +kernel
theorem dX5_divide_268 : decode cX5_divide 268 = .ok (.ior, 1) := by decide +kernel
theorem dX5_divide_269 : decode cX5_divide 269 = .ok (.iastore, 1) := by decide +kernel
theorem dX5_divide_270 : decode cX5_divide 270 = .ok (.iinc 3 (-1), 3) := by decide +kernel
theorem dX5_divide_273 : decode cX5_divide 273 = .ok (.goto (-119), 3) := by decide +kernel
theorem dX5_divide_276 : decode cX5_divide 276 = .ok (.aload_n 0, 1) := by decide +kernel
theorem dX5_divide_277 : decode cX5_divide 277 = .ok (.sipush 445, 3) := by decide +kernel
theorem dX5_divide_280 : decode cX5_divide 280 = .ok (.invokevirtual 43, 3) := by decide +kernel
theorem dX5_divide_283 : decode cX5_divide 283 = .ok (.return_, 1) := by decide +kernel
set_option maxRecDepth 20000 in
theorem ggX5_isEven_X5_limbOf : GoodIn wsX5_isEven wsX5_limbOf := goodIn_r _ [6, 7, 8, 9, 10, 11, 12, 13, 14, 15, 16, 17, 18, 19, 20, 21, 22, 23] (by decide +kernel) (by decide +kernel)
set_option maxRecDepth 20000 in
theorem gX5_isEven_X5_limbOf : GoodIn wsX5_isEven (wsV RX5 37 RX5 yX5_limbOf wsX5_limbOf) := goodIn_app (goodIn_of _ (by decide +kernel)) ggX5_isEven_X5_limbOf
theorem dX5_isEven_0 : decode cX5_isEven 0 = .ok (.aload_n 0, 1) := by decide +kernel
theorem dX5_isEven_1 : decode cX5_isEven 1 = .ok (.iload_n 1, 1) := by decide +kernel
theorem dX5_isEven_2 : decode cX5_isEven 2 = .ok (.iconst 0, 1) := by decide +kernel
theorem dX5_isEven_3 : decode cX5_isEven 3 = .ok (.invokevirtual 37, 3) := by decide +kernel
theorem dX5_isEven_6 : decode cX5_isEven 6 = .ok (.ldc2_w 72, 3) := by decide +kernel
theorem dX5_isEven_9 : decode cX5_isEven 9 = .ok (.lrem, 1) := by decide +kernel
theorem dX5_isEven_10 : decode cX5_isEven 10 = .ok (.lconst 0, 1) := by decide +kernel
theorem dX5_isEven_11 : decode cX5_isEven 11 = .ok (.lcmp, 1) := by decide +kernel
theorem dX5_isEven_12 : decode cX5_isEven 12 = .ok (.ifCond .ne 7, 3) := by decide +kernel
theorem dX5_isEven_15 : decode cX5_isEven 15 = .ok (.iconst 1, 1) := by decide +kernel
theorem dX5_isEven_16 : decode cX5_isEven 16 = .ok (.goto 4, 3) := by decide +kernel
theorem dX5_isEven_19 : decode cX5_isEven 19 = .ok (.iconst 0, 1) := by decide +kernel
theorem dX5_isEven_20 : decode cX5_isEven 20 = .ok (.ireturn, 1) := by decide +kernel
set_option maxRecDepth 20000 in
theorem ggX5_common_X5_copy : GoodIn wsX5_common wsX5_copy := goodIn_r _ [7, 2, 1, 8, 39, 40, 41, 42, 43, 44, 45, 46, 47, 48, 49, 50, 51, 52, 53] (by decide +kernel) (by decide +kernel)
set_option maxRecDepth 20000 in
theorem gX5_common_X5_copy : GoodIn wsX5_common (wsV RX5 58 RX5 yX5_copy wsX5_copy) := goodIn_app (goodIn_of _ (by decide +kernel)) ggX5_common_X5_copy
set_option maxRecDepth 20000 in
theorem ggX5_common_X5_isEven : GoodIn wsX5_common wsX5_isEven := goodIn_r _ [12, 13, 14, 15, 16, 6, 17, 2, 8, 39, 40, 41, 42, 43, 44, 45, 46, 47, 48, 49, 50, 51, 52, 53] (by decide +kernel) (by decide +kernel)
set_option maxRecDepth 20000 in
theorem gX5_common_X5_isEven : GoodIn wsX5_common (wsV RX5 74 RX5 yX5_isEven wsX5_isEven) := goodIn_app (goodIn_of _ (by decide +kernel)) ggX5_common_X5_isEven
set_option maxRecDepth 20000 in
theorem ggX5_common_X5_halve : GoodIn wsX5_common wsX5_halve := goodIn_r _ [21, 2, 8, 22, 23, 24, 6, 25, 1, 39, 40, 41, 42, 43, 44, 45, 46, 47, 48, 49, 50, 51, 52, 53] (by decide +kernel) (by decide +kernel)
set_option maxRecDepth 20000 in
theorem gX5_common_X5_halve : GoodIn wsX5_common (wsV RX5 78 RX5 yX5_halve wsX5_halve) := goodIn_app (goodIn_of _ (by decide +kernel)) ggX5_common_X5_halve
set_option maxRecDepth 20000 in
theorem ggX5_common_X5_compareSizes : GoodIn wsX5_common wsX5_compareSizes := goodIn_r _ [29, 2, 8, 39, 40, 41, 42, 43, 44, 45, 46, 47, 48, 49, 50, 51, 52, 53] (by decide +kernel) (by decide +kernel)
set_option maxRecDepth 20000 in
theorem gX5_common_X5_compareSizes : GoodIn wsX5_common (wsV RX5 51 RX5 yX5_compareSizes wsX5_compareSizes) := goodIn_app (goodIn_of _ (by decide +kernel)) ggX5_common_X5_compareSizes
set_option maxRecDepth 20000 in
theorem ggX5_common_X5_subtractSizes : GoodIn wsX5_common wsX5_subtractSizes := goodIn_r _ [33, 2, 8, 34, 14, 15, 16, 6, 17, 22, 23, 24, 25, 1, 39, 40, 41, 42, 43, 44, 45, 46, 47, 48, 49, 50, 51, 52, 53] (by decide +kernel) (by decide +kernel)
set_option maxRecDepth 20000 in
theorem gX5_common_X5_subtractSizes : GoodIn wsX5_common (wsV RX5 54 RX5 yX5_subtractSizes wsX5_subtractSizes) := goodIn_app (goodIn_of _ (by decide +kernel)) ggX5_common_X5_subtractSizes
set_option maxRecDepth 20000 in
theorem ggX5_common_X5_addSizes : GoodIn wsX5_common wsX5_addSizes := goodIn_r _ [38, 2, 8, 34, 14, 15, 16, 6, 17, 22, 23, 24, 25, 1, 39, 40, 41, 42, 43, 44, 45, 46, 47, 48, 49, 50, 51, 52, 53] (by decide +kernel) (by decide +kernel)
set_option maxRecDepth 20000 in
theorem gX5_common_X5_addSizes : GoodIn wsX5_common (wsV RX5 47 RX5 yX5_addSizes wsX5_addSizes) := goodIn_app (goodIn_of _ (by decide +kernel)) ggX5_common_X5_addSizes
theorem dX5_common_0 : decode cX5_common 0 = .ok (.aload_n 0, 1) := by decide +kernel
theorem dX5_common_1 : decode cX5_common 1 = .ok (.sipush 444, 3) := by decide +kernel
theorem dX5_common_4 : decode cX5_common 4 = .ok (.iload_n 1, 1) := by decide +kernel
theorem dX5_common_5 : decode cX5_common 5 = .ok (.invokevirtual 58, 3) := by decide +kernel
theorem dX5_common_8 : decode cX5_common 8 = .ok (.aload_n 0, 1) := by decide +kernel
theorem dX5_common_9 : decode cX5_common 9 = .ok (.getfield 16, 3) := by decide +kernel
theorem dX5_common_12 : decode cX5_common 12 = .ok (.sipush 444, 3) := by decide +kernel
theorem dX5_common_15 : decode cX5_common 15 = .ok (.iconst 0, 1) := by decide +kernel
theorem dX5_common_16 : decode cX5_common 16 = .ok (.bastore, 1) := by decide +kernel
theorem dX5_common_17 : decode cX5_common 17 = .ok (.aload_n 0, 1) := by decide +kernel
theorem dX5_common_18 : decode cX5_common 18 = .ok (.getfield 13, 3) := by decide +kernel
theorem dX5_common_21 : decode cX5_common 21 = .ok (.sipush 443, 3) := by decide +kernel
theorem dX5_common_24 : decode cX5_common 24 = .ok (.iaload, 1) := by decide +kernel
theorem dX5_common_25 : decode cX5_common 25 = .ok (.ifCond .ne 14, 3) := by decide +kernel
theorem dX5_common_28 : decode cX5_common 28 = .ok (.aload_n 0, 1) := by decide +kernel
theorem dX5_common_29 : decode cX5_common 29 = .ok (.sipush 443, 3) := by decide +kernel
theorem dX5_common_32 : decode cX5_common 32 = .ok (.sipush 444, 3) := by decide +kernel
theorem dX5_common_35 : decode cX5_common 35 = .ok (.invokevirtual 58, 3) := by decide +kernel
theorem dX5_common_38 : decode cX5_common 38 = .ok (.return_, 1) := by decide +kernel
theorem dX5_common_39 : decode cX5_common 39 = .ok (.iconst 0, 1) := by decide +kernel
theorem dX5_common_40 : decode cX5_common 40 = .ok (.istore_n 2, 1) := by decide +kernel
theorem dX5_common_41 : decode cX5_common 41 = .ok (.aload_n 0, 1) := by decide +kernel
theorem dX5_common_42 : decode cX5_common 42 = .ok (.getfield 13, 3) := by decide +kernel
theorem dX5_common_45 : decode cX5_common 45 = .ok (.sipush 444, 3) := by decide +kernel
theorem dX5_common_48 : decode cX5_common 48 = .ok (.iaload, 1) := by decide +kernel
theorem dX5_common_49 : decode cX5_common 49 = .ok (.ifCond .le 43, 3) := by decide +kernel
theorem dX5_common_52 : decode cX5_common 52 = .ok (.aload_n 0, 1) := by decide +kernel
theorem dX5_common_53 : decode cX5_common 53 = .ok (.sipush 443, 3) := by decide +kernel
theorem dX5_common_56 : decode cX5_common 56 = .ok (.invokevirtual 74, 3) := by decide +kernel
end
section
theorem dX5_common_59 : decode cX5_common 59 = .ok (.ifCond .eq 33, 3) := by decide +kernel
theorem dX5_common_62 : decode cX5_common 62 = .ok (.aload_n 0, 1) := by decide +kernel
theorem dX5_common_63 : decode cX5_common 63 = .ok (.sipush 444, 3) := by decide +kernel
theorem dX5_common_66 : decode cX5_common 66 = .ok (.invokevirtual 74, 3) := by decide +kernel
theorem dX5_common_69 : decode cX5_common 69 = .ok (.ifCond .eq 23, 3) := by decide +kernel
theorem dX5_common_72 : decode cX5_common 72 = .ok (.aload_n 0, 1) := by decide +kernel
theorem dX5_common_73 : decode cX5_common 73 = .ok (.sipush 443, 3) := by decide +kernel
theorem dX5_common_76 : decode cX5_common 76 = .ok (.invokevirtual 78, 3) := by decide +kernel
theorem dX5_common_79 : decode cX5_common 79 = .ok (.aload_n 0, 1) := by decide +kernel
theorem dX5_common_80 : decode cX5_common 80 = .ok (.sipush 444, 3) := by decide +kernel
theorem dX5_common_83 : decode cX5_common 83 = .ok (.invokevirtual 78, 3) := by decide +kernel
theorem dX5_common_86 : decode cX5_common 86 = .ok (.iinc 2 1, 3) := by decide +kernel
theorem dX5_common_89 : decode cX5_common 89 = .ok (.goto (-48), 3) := by decide +kernel
theorem dX5_common_92 : decode cX5_common 92 = .ok (.aload_n 0, 1) := by decide +kernel
theorem dX5_common_93 : decode cX5_common 93 = .ok (.getfield 13, 3) := by decide +kernel
theorem dX5_common_96 : decode cX5_common 96 = .ok (.sipush 444, 3) := by decide +kernel
theorem dX5_common_99 : decode cX5_common 99 = .ok (.iaload, 1) := by decide +kernel
theorem dX5_common_100 : decode cX5_common 100 = .ok (.ifCond .le 88, 3) := by decide +kernel
theorem dX5_common_103 : decode cX5_common 103 = .ok (.aload_n 0, 1) := by decide +kernel
theorem dX5_common_104 : decode cX5_common 104 = .ok (.sipush 443, 3) := by decide +kernel
theorem dX5_common_107 : decode cX5_common 107 = .ok (.invokevirtual 74, 3) := by decide +kernel
theorem dX5_common_110 : decode cX5_common 110 = .ok (.ifCond .eq 13, 3) := by decide +kernel
theorem dX5_common_113 : decode cX5_common 113 = .ok (.aload_n 0, 1) := by decide +kernel
theorem dX5_common_114 : decode cX5_common 114 = .ok (.sipush 443, 3) := by decide +kernel
theorem dX5_common_117 : decode cX5_common 117 = .ok (.invokevirtual 78, 3) := by decide +kernel
theorem dX5_common_120 : decode cX5_common 120 = .ok (.goto (-17), 3) := by decide +kernel
theorem dX5_common_123 : decode cX5_common 123 = .ok (.aload_n 0, 1) := by decide +kernel
theorem dX5_common_124 : decode cX5_common 124 = .ok (.sipush 444, 3) := by decide +kernel
theorem dX5_common_127 : decode cX5_common 127 = .ok (.invokevirtual 74, 3) := by decide +kernel
theorem dX5_common_130 : decode cX5_common 130 = .ok (.ifCond .eq 13, 3) := by decide +kernel
theorem dX5_common_133 : decode cX5_common 133 = .ok (.aload_n 0, 1) := by decide +kernel
theorem dX5_common_134 : decode cX5_common 134 = .ok (.sipush 444, 3) := by decide +kernel
theorem dX5_common_137 : decode cX5_common 137 = .ok (.invokevirtual 78, 3) := by decide +kernel
theorem dX5_common_140 : decode cX5_common 140 = .ok (.goto (-17), 3) := by decide +kernel
theorem dX5_common_143 : decode cX5_common 143 = .ok (.aload_n 0, 1) := by decide +kernel
theorem dX5_common_144 : decode cX5_common 144 = .ok (.sipush 443, 3) := by decide +kernel
theorem dX5_common_147 : decode cX5_common 147 = .ok (.sipush 444, 3) := by decide +kernel
theorem dX5_common_150 : decode cX5_common 150 = .ok (.invokevirtual 51, 3) := by decide +kernel
theorem dX5_common_153 : decode cX5_common 153 = .ok (.ifCond .le 19, 3) := by decide +kernel
theorem dX5_common_156 : decode cX5_common 156 = .ok (.aload_n 0, 1) := by decide +kernel
theorem dX5_common_157 : decode cX5_common 157 = .ok (.sipush 443, 3) := by decide +kernel
theorem dX5_common_160 : decode cX5_common 160 = .ok (.sipush 443, 3) := by decide +kernel
theorem dX5_common_163 : decode cX5_common 163 = .ok (.sipush 444, 3) := by decide +kernel
theorem dX5_common_166 : decode cX5_common 166 = .ok (.invokevirtual 54, 3) := by decide +kernel
theorem dX5_common_169 : decode cX5_common 169 = .ok (.goto (-77), 3) := by decide +kernel
theorem dX5_common_172 : decode cX5_common 172 = .ok (.aload_n 0, 1) := by decide +kernel
theorem dX5_common_173 : decode cX5_common 173 = .ok (.sipush 444, 3) := by decide +kernel
theorem dX5_common_176 : decode cX5_common 176 = .ok (.sipush 444, 3) := by decide +kernel
theorem dX5_common_179 : decode cX5_common 179 = .ok (.sipush 443, 3) := by decide +kernel
theorem dX5_common_182 : decode cX5_common 182 = .ok (.invokevirtual 54, 3) := by decide +kernel
theorem dX5_common_185 : decode cX5_common 185 = .ok (.goto (-93), 3) := by decide +kernel
theorem dX5_common_188 : decode cX5_common 188 = .ok (.iconst 0, 1) := by decide +kernel
theorem dX5_common_189 : decode cX5_common 189 = .ok (.istore_n 3, 1) := by decide +kernel
theorem dX5_common_190 : decode cX5_common 190 = .ok (.iload_n 3, 1) := by decide +kernel
theorem dX5_common_191 : decode cX5_common 191 = .ok (.iload_n 2, 1) := by decide +kernel
theorem dX5_common_192 : decode cX5_common 192 = .ok (.if_icmp .ge 22, 3) := by decide +kernel
theorem dX5_common_195 : decode cX5_common 195 = .ok (.aload_n 0, 1) := by decide +kernel
theorem dX5_common_196 : decode cX5_common 196 = .ok (.sipush 443, 3) := by decide +kernel
theorem dX5_common_199 : decode cX5_common 199 = .ok (.sipush 443, 3) := by decide +kernel
theorem dX5_common_202 : decode cX5_common 202 = .ok (.sipush 443, 3) := by decide +kernel
theorem dX5_common_205 : decode cX5_common 205 = .ok (.invokevirtual 47, 3) := by decide +kernel
theorem dX5_common_208 : decode cX5_common 208 = .ok (.iinc 3 1, 3) := by decide +kernel
theorem dX5_common_211 : decode cX5_common 211 = .ok (.goto (-21), 3) := by decide +kernel
theorem dX5_common_214 : decode cX5_common 214 = .ok (.return_, 1) := by decide +kernel
set_option maxRecDepth 20000 in
theorem ggX5_beginNumber_X5_clear : GoodIn wsX5_beginNumber wsX5_clear := goodIn_r _ [9, 10, 11, 12, 13, 14, 15, 16, 17, 18, 19, 20, 21, 22, 23, 24, 25, 26] (by decide +kernel) (by decide +kernel)
set_option maxRecDepth 20000 in
theorem gX5_beginNumber_X5_clear : GoodIn wsX5_beginNumber (wsV RX5 62 RX5 yX5_clear wsX5_clear) := goodIn_app (goodIn_of _ (by decide +kernel)) ggX5_beginNumber_X5_clear
theorem dX5_beginNumber_0 : decode cX5_beginNumber 0 = .ok (.aload_n 0, 1) := by decide +kernel
theorem dX5_beginNumber_1 : decode cX5_beginNumber 1 = .ok (.iconst 0, 1) := by decide +kernel
theorem dX5_beginNumber_2 : decode cX5_beginNumber 2 = .ok (.putfield 34, 3) := by decide +kernel
theorem dX5_beginNumber_5 : decode cX5_beginNumber 5 = .ok (.iload_n 1, 1) := by decide +kernel
theorem dX5_beginNumber_6 : decode cX5_beginNumber 6 = .ok (.iconst (-1), 1) := by decide +kernel
theorem dX5_beginNumber_7 : decode cX5_beginNumber 7 = .ok (.if_icmp .lt 8, 3) := by decide +kernel
theorem dX5_beginNumber_10 : decode cX5_beginNumber 10 = .ok (.iload_n 1, 1) := by decide +kernel
theorem dX5_beginNumber_11 : decode cX5_beginNumber 11 = .ok (.iconst 1, 1) := by decide +kernel
theorem dX5_beginNumber_12 : decode cX5_beginNumber 12 = .ok (.if_icmp .le 5, 3) := by decide +kernel
theorem dX5_beginNumber_15 : decode cX5_beginNumber 15 = .ok (.iconst 0, 1) := by decide +kernel
theorem dX5_beginNumber_16 : decode cX5_beginNumber 16 = .ok (.ireturn, 1) := by decide +kernel
theorem dX5_beginNumber_17 : decode cX5_beginNumber 17 = .ok (.aload_n 0, 1) := by decide +kernel
theorem dX5_beginNumber_18 : decode cX5_beginNumber 18 = .ok (.iload_n 1, 1) := by decide +kernel
theorem dX5_beginNumber_19 : decode cX5_beginNumber 19 = .ok (.putfield 81, 3) := by decide +kernel
theorem dX5_beginNumber_22 : decode cX5_beginNumber 22 = .ok (.aload_n 0, 1) := by decide +kernel
theorem dX5_beginNumber_23 : decode cX5_beginNumber 23 = .ok (.iconst 1, 1) := by decide +kernel
theorem dX5_beginNumber_24 : decode cX5_beginNumber 24 = .ok (.putfield 84, 3) := by decide +kernel
theorem dX5_beginNumber_27 : decode cX5_beginNumber 27 = .ok (.aload_n 0, 1) := by decide +kernel
theorem dX5_beginNumber_28 : decode cX5_beginNumber 28 = .ok (.iconst 0, 1) := by decide +kernel
theorem dX5_beginNumber_29 : decode cX5_beginNumber 29 = .ok (.putfield 87, 3) := by decide +kernel
theorem dX5_beginNumber_32 : decode cX5_beginNumber 32 = .ok (.aload_n 0, 1) := by decide +kernel
theorem dX5_beginNumber_33 : decode cX5_beginNumber 33 = .ok (.sipush 440, 3) := by decide +kernel
theorem dX5_beginNumber_36 : decode cX5_beginNumber 36 = .ok (.invokevirtual 62, 3) := by decide +kernel
theorem dX5_beginNumber_39 : decode cX5_beginNumber 39 = .ok (.iconst 1, 1) := by decide +kernel
theorem dX5_beginNumber_40 : decode cX5_beginNumber 40 = .ok (.ireturn, 1) := by decide +kernel
theorem dX5_limb_0 : decode cX5_limb 0 = .ok (.aload_n 0, 1) := by decide +kernel
theorem dX5_limb_1 : decode cX5_limb 1 = .ok (.iconst 0, 1) := by decide +kernel
theorem dX5_limb_2 : decode cX5_limb 2 = .ok (.putfield 34, 3) := by decide +kernel
theorem dX5_limb_5 : decode cX5_limb 5 = .ok (.iload_n 1, 1) := by decide +kernel
theorem dX5_limb_6 : decode cX5_limb 6 = .ok (.ifCond .lt 20, 3) := by decide +kernel
theorem dX5_limb_9 : decode cX5_limb 9 = .ok (.aload_n 0, 1) := by decide +kernel
theorem dX5_limb_10 : decode cX5_limb 10 = .ok (.getfield 84, 3) := by decide +kernel
theorem dX5_limb_13 : decode cX5_limb 13 = .ok (.iconst 1, 1) := by decide +kernel
theorem dX5_limb_14 : decode cX5_limb 14 = .ok (.if_icmp .ne 12, 3) := by decide +kernel
theorem dX5_limb_17 : decode cX5_limb 17 = .ok (.aload_n 0, 1) := by decide +kernel
theorem dX5_limb_18 : decode cX5_limb 18 = .ok (.getfield 87, 3) := by decide +kernel
theorem dX5_limb_21 : decode cX5_limb 21 = .ok (.bipush 20, 2) := by decide +kernel
theorem dX5_limb_23 : decode cX5_limb 23 = .ok (.if_icmp .ne 5, 3) := by decide +kernel
theorem dX5_limb_26 : decode cX5_limb 26 = .ok (.iconst 0, 1) := by decide +kernel
theorem dX5_limb_27 : decode cX5_limb 27 = .ok (.ireturn, 1) := by decide +kernel
theorem dX5_limb_28 : decode cX5_limb 28 = .ok (.aload_n 0, 1) := by decide +kernel
theorem dX5_limb_29 : decode cX5_limb 29 = .ok (.getfield 7, 3) := by decide +kernel
theorem dX5_limb_32 : decode cX5_limb 32 = .ok (.sipush 31680, 3) := by decide +kernel
theorem dX5_limb_35 : decode cX5_limb 35 = .ok (.aload_n 0, 1) := by decide +kernel
theorem dX5_limb_36 : decode cX5_limb 36 = .ok (.getfield 87, 3) := by decide +kernel
theorem dX5_limb_39 : decode cX5_limb 39 = .ok (.iadd, 1) := by decide +kernel
theorem dX5_limb_40 : decode cX5_limb 40 = .ok (.iload_n 1, 1) := by decide +kernel
theorem dX5_limb_41 : decode cX5_limb 41 = .ok (.iastore, 1) := by decide +kernel
theorem dX5_limb_42 : decode cX5_limb 42 = .ok (.aload_n 0, 1) := by decide +kernel
theorem dX5_limb_43 : decode cX5_limb 43 = .ok (.dup, 1) := by decide +kernel
theorem dX5_limb_44 : decode cX5_limb 44 = .ok (.getfield 87, 3) := by decide +kernel
theorem dX5_limb_47 : decode cX5_limb 47 = .ok (.iconst 1, 1) := by decide +kernel
theorem dX5_limb_48 : decode cX5_limb 48 = .ok (.iadd, 1) := by decide +kernel
theorem dX5_limb_49 : decode cX5_limb 49 = .ok (.putfield 87, 3) := by decide +kernel
theorem dX5_limb_52 : decode cX5_limb 52 = .ok (.iconst 1, 1) := by decide +kernel
theorem dX5_limb_53 : decode cX5_limb 53 = .ok (.ireturn, 1) := by decide +kernel
set_option maxRecDepth 20000 in
theorem ggX5_settle_X5_trim : GoodIn wsX5_settle wsX5_trim := goodIn_r _ [9, 1, 10, 4, 11, 12, 13, 14, 15, 16, 17, 18, 19, 20, 21, 22, 23, 24, 25] (by decide +kernel) (by decide +kernel)
set_option maxRecDepth 20000 in
theorem gX5_settle_X5_trim : GoodIn wsX5_settle (wsV RX5 43 RX5 yX5_trim wsX5_trim) := goodIn_app (goodIn_of _ (by decide +kernel)) ggX5_settle_X5_trim
theorem dX5_settle_0 : decode cX5_settle 0 = .ok (.aload_n 0, 1) := by decide +kernel
theorem dX5_settle_1 : decode cX5_settle 1 = .ok (.getfield 13, 3) := by decide +kernel
theorem dX5_settle_4 : decode cX5_settle 4 = .ok (.sipush 440, 3) := by decide +kernel
theorem dX5_settle_7 : decode cX5_settle 7 = .ok (.aload_n 0, 1) := by decide +kernel
theorem dX5_settle_8 : decode cX5_settle 8 = .ok (.getfield 81, 3) := by decide +kernel
theorem dX5_settle_11 : decode cX5_settle 11 = .ok (.ifCond .ne 7, 3) := by decide +kernel
theorem dX5_settle_14 : decode cX5_settle 14 = .ok (.iconst 0, 1) := by decide +kernel
theorem dX5_settle_15 : decode cX5_settle 15 = .ok (.goto 7, 3) := by decide +kernel
theorem dX5_settle_18 : decode cX5_settle 18 = .ok (.aload_n 0, 1) := by decide +kernel
theorem dX5_settle_19 : decode cX5_settle 19 = .ok (.getfield 87, 3) := by decide +kernel
theorem dX5_settle_22 : decode cX5_settle 22 = .ok (.iastore, 1) := by decide +kernel
theorem dX5_settle_23 : decode cX5_settle 23 = .ok (.aload_n 0, 1) := by decide +kernel
theorem dX5_settle_24 : decode cX5_settle 24 = .ok (.getfield 16, 3) := by decide +kernel
theorem dX5_settle_27 : decode cX5_settle 27 = .ok (.sipush 440, 3) := by decide +kernel
theorem dX5_settle_30 : decode cX5_settle 30 = .ok (.aload_n 0, 1) := by decide +kernel
theorem dX5_settle_31 : decode cX5_settle 31 = .ok (.getfield 81, 3) := by decide +kernel
theorem dX5_settle_34 : decode cX5_settle 34 = .ok (.ifCond .ge 7, 3) := by decide +kernel
theorem dX5_settle_37 : decode cX5_settle 37 = .ok (.iconst 1, 1) := by decide +kernel
theorem dX5_settle_38 : decode cX5_settle 38 = .ok (.goto 4, 3) := by decide +kernel
theorem dX5_settle_41 : decode cX5_settle 41 = .ok (.iconst 0, 1) := by decide +kernel
theorem dX5_settle_42 : decode cX5_settle 42 = .ok (.bastore, 1) := by decide +kernel
theorem dX5_settle_43 : decode cX5_settle 43 = .ok (.aload_n 0, 1) := by decide +kernel
theorem dX5_settle_44 : decode cX5_settle 44 = .ok (.sipush 440, 3) := by decide +kernel
theorem dX5_settle_47 : decode cX5_settle 47 = .ok (.invokevirtual 43, 3) := by decide +kernel
theorem dX5_settle_50 : decode cX5_settle 50 = .ok (.return_, 1) := by decide +kernel
set_option maxRecDepth 20000 in
theorem ggX5_endCoefficient_X5_settle : GoodIn wsX5_endCoefficient wsX5_settle := goodIn_r _ [9, 10, 11, 12, 13, 14, 15, 16, 8, 17, 18, 23, 24, 25, 26, 27, 28, 29, 30, 31, 32, 33, 34, 35, 36, 37] (by decide +kernel) (by decide +kernel)
set_option maxRecDepth 20000 in
theorem gX5_endCoefficient_X5_settle : GoodIn wsX5_endCoefficient (wsV RX5 93 RX5 yX5_settle wsX5_settle) := goodIn_app (goodIn_of _ (by decide +kernel)) ggX5_endCoefficient_X5_settle
set_option maxRecDepth 20000 in
theorem ggX5_endCoefficient_X5_copy : GoodIn wsX5_endCoefficient wsX5_copy := goodIn_r _ [22, 10, 13, 18, 23, 24, 25, 26, 27, 28, 29, 30, 31, 32, 33, 34, 35, 36, 37] (by decide +kernel) (by decide +kernel)
set_option maxRecDepth 20000 in
theorem gX5_endCoefficient_X5_copy : GoodIn wsX5_endCoefficient (wsV RX5 58 RX5 yX5_copy wsX5_copy) := goodIn_app (goodIn_of _ (by decide +kernel)) ggX5_endCoefficient_X5_copy
theorem dX5_endCoefficient_0 : decode cX5_endCoefficient 0 = .ok (.aload_n 0, 1) := by decide +kernel
theorem dX5_endCoefficient_1 : decode cX5_endCoefficient 1 = .ok (.iconst 0, 1) := by decide +kernel
theorem dX5_endCoefficient_2 : decode cX5_endCoefficient 2 = .ok (.putfield 34, 3) := by decide +kernel
theorem dX5_endCoefficient_5 : decode cX5_endCoefficient 5 = .ok (.aload_n 0, 1) := by decide +kernel
theorem dX5_endCoefficient_6 : decode cX5_endCoefficient 6 = .ok (.getfield 84, 3) := by decide +kernel
theorem dX5_endCoefficient_9 : decode cX5_endCoefficient 9 = .ok (.iconst 1, 1) := by decide +kernel
theorem dX5_endCoefficient_10 : decode cX5_endCoefficient 10 = .ok (.if_icmp .ne 16, 3) := by decide +kernel
theorem dX5_endCoefficient_13 : decode cX5_endCoefficient 13 = .ok (.aload_n 0, 1) := by decide +kernel
theorem dX5_endCoefficient_14 : decode cX5_endCoefficient 14 = .ok (.getfield 90, 3) := by decide +kernel
theorem dX5_endCoefficient_17 : decode cX5_endCoefficient 17 = .ok (.aload_n 0, 1) := by decide +kernel
theorem dX5_endCoefficient_18 : decode cX5_endCoefficient 18 = .ok (.getfield 24, 3) := by decide +kernel
theorem dX5_endCoefficient_21 : decode cX5_endCoefficient 21 = .ok (.iconst 1, 1) := by decide +kernel
theorem dX5_endCoefficient_22 : decode cX5_endCoefficient 22 = .ok (.iadd, 1) := by decide +kernel
theorem dX5_endCoefficient_23 : decode cX5_endCoefficient 23 = .ok (.if_icmp .ne 5, 3) := by decide +kernel
theorem dX5_endCoefficient_26 : decode cX5_endCoefficient 26 = .ok (.iconst 0, 1) := by decide +kernel
theorem dX5_endCoefficient_27 : decode cX5_endCoefficient 27 = .ok (.ireturn, 1) := by decide +kernel
theorem dX5_endCoefficient_28 : decode cX5_endCoefficient 28 = .ok (.aload_n 0, 1) := by decide +kernel
theorem dX5_endCoefficient_29 : decode cX5_endCoefficient 29 = .ok (.invokevirtual 93, 3) := by decide +kernel
theorem dX5_endCoefficient_32 : decode cX5_endCoefficient 32 = .ok (.aload_n 0, 1) := by decide +kernel
theorem dX5_endCoefficient_33 : decode cX5_endCoefficient 33 = .ok (.iconst 2, 1) := by decide +kernel
theorem dX5_endCoefficient_34 : decode cX5_endCoefficient 34 = .ok (.putfield 84, 3) := by decide +kernel
theorem dX5_endCoefficient_37 : decode cX5_endCoefficient 37 = .ok (.aload_n 0, 1) := by decide +kernel
theorem dX5_endCoefficient_38 : decode cX5_endCoefficient 38 = .ok (.sipush 420, 3) := by decide +kernel
theorem dX5_endCoefficient_41 : decode cX5_endCoefficient 41 = .ok (.aload_n 0, 1) := by decide +kernel
theorem dX5_endCoefficient_42 : decode cX5_endCoefficient 42 = .ok (.getfield 90, 3) := by decide +kernel
theorem dX5_endCoefficient_45 : decode cX5_endCoefficient 45 = .ok (.iadd, 1) := by decide +kernel
theorem dX5_endCoefficient_46 : decode cX5_endCoefficient 46 = .ok (.sipush 440, 3) := by decide +kernel
theorem dX5_endCoefficient_49 : decode cX5_endCoefficient 49 = .ok (.invokevirtual 58, 3) := by decide +kernel
theorem dX5_endCoefficient_52 : decode cX5_endCoefficient 52 = .ok (.aload_n 0, 1) := by decide +kernel
theorem dX5_endCoefficient_53 : decode cX5_endCoefficient 53 = .ok (.dup, 1) := by decide +kernel
theorem dX5_endCoefficient_54 : decode cX5_endCoefficient 54 = .ok (.getfield 90, 3) := by decide +kernel
theorem dX5_endCoefficient_57 : decode cX5_endCoefficient 57 = .ok (.iconst 1, 1) := by decide +kernel
theorem dX5_endCoefficient_58 : decode cX5_endCoefficient 58 = .ok (.iadd, 1) := by decide +kernel
theorem dX5_endCoefficient_59 : decode cX5_endCoefficient 59 = .ok (.putfield 90, 3) := by decide +kernel
theorem dX5_endCoefficient_62 : decode cX5_endCoefficient 62 = .ok (.iconst 1, 1) := by decide +kernel
theorem dX5_endCoefficient_63 : decode cX5_endCoefficient 63 = .ok (.ireturn, 1) := by decide +kernel
theorem dX5_placeOf_0 : decode cX5_placeOf 0 = .ok (.bipush 7, 2) := by decide +kernel
theorem dX5_placeOf_2 : decode cX5_placeOf 2 = .ok (.iload_n 0, 1) := by decide +kernel
theorem dX5_placeOf_3 : decode cX5_placeOf 3 = .ok (.imul, 1) := by decide +kernel
theorem dX5_placeOf_4 : decode cX5_placeOf 4 = .ok (.iload_n 1, 1) := by decide +kernel
theorem dX5_placeOf_5 : decode cX5_placeOf 5 = .ok (.iadd, 1) := by decide +kernel
theorem dX5_placeOf_6 : decode cX5_placeOf 6 = .ok (.ireturn, 1) := by decide +kernel
set_option maxRecDepth 20000 in
theorem ggX5_store_X5_placeOf : GoodIn wsX5_store wsX5_placeOf := goodIn_r _ [9] (by decide +kernel) (by decide +kernel)
set_option maxRecDepth 20000 in
theorem gX5_store_X5_placeOf : GoodIn wsX5_store (va_wsS RX5 99 yX5_placeOf wsX5_placeOf) := goodIn_app (goodIn_of _ (by decide +kernel)) ggX5_store_X5_placeOf
set_option maxRecDepth 20000 in
theorem ggX5_store_X5_copy : GoodIn wsX5_store wsX5_copy := goodIn_r _ [13, 2, 14, 15, 16, 17, 18, 19, 20, 21, 22, 23, 24, 25, 26, 27, 28, 29, 30] (by decide +kernel) (by decide +kernel)
set_option maxRecDepth 20000 in
theorem gX5_store_X5_copy : GoodIn wsX5_store (wsV RX5 58 RX5 yX5_copy wsX5_copy) := goodIn_app (goodIn_of _ (by decide +kernel)) ggX5_store_X5_copy
theorem dX5_store_0 : decode cX5_store 0 = .ok (.iconst 0, 1) := by decide +kernel
theorem dX5_store_1 : decode cX5_store 1 = .ok (.istore_n 2, 1) := by decide +kernel
theorem dX5_store_2 : decode cX5_store 2 = .ok (.iconst 0, 1) := by decide +kernel
theorem dX5_store_3 : decode cX5_store 3 = .ok (.istore_n 3, 1) := by decide +kernel
theorem dX5_store_4 : decode cX5_store 4 = .ok (.iload_n 3, 1) := by decide +kernel
theorem dX5_store_5 : decode cX5_store 5 = .ok (.aload_n 0, 1) := by decide +kernel
theorem dX5_store_6 : decode cX5_store 6 = .ok (.getfield 24, 3) := by decide +kernel
theorem dX5_store_9 : decode cX5_store 9 = .ok (.if_icmp .gt 22, 3) := by decide +kernel
theorem dX5_store_12 : decode cX5_store 12 = .ok (.iload_n 2, 1) := by decide +kernel
theorem dX5_store_13 : decode cX5_store 13 = .ok (.iconst 1, 1) := by decide +kernel
theorem dX5_store_14 : decode cX5_store 14 = .ok (.iadd, 1) := by decide +kernel
theorem dX5_store_15 : decode cX5_store 15 = .ok (.aload_n 0, 1) := by decide +kernel
theorem dX5_store_16 : decode cX5_store 16 = .ok (.getfield 13, 3) := by decide +kernel
theorem dX5_store_19 : decode cX5_store 19 = .ok (.iload_n 1, 1) := by decide +kernel
theorem dX5_store_20 : decode cX5_store 20 = .ok (.iload_n 3, 1) := by decide +kernel
theorem dX5_store_21 : decode cX5_store 21 = .ok (.iadd, 1) := by decide +kernel
theorem dX5_store_22 : decode cX5_store 22 = .ok (.iaload, 1) := by decide +kernel
theorem dX5_store_23 : decode cX5_store 23 = .ok (.iadd, 1) := by decide +kernel
theorem dX5_store_24 : decode cX5_store 24 = .ok (.istore_n 2, 1) := by decide +kernel
theorem dX5_store_25 : decode cX5_store 25 = .ok (.iinc 3 1, 3) := by decide +kernel
theorem dX5_store_28 : decode cX5_store 28 = .ok (.goto (-24), 3) := by decide +kernel
theorem dX5_store_31 : decode cX5_store 31 = .ok (.aload_n 0, 1) := by decide +kernel
theorem dX5_store_32 : decode cX5_store 32 = .ok (.getfield 96, 3) := by decide +kernel
theorem dX5_store_35 : decode cX5_store 35 = .ok (.aload_n 0, 1) := by decide +kernel
theorem dX5_store_36 : decode cX5_store 36 = .ok (.getfield 28, 3) := by decide +kernel
theorem dX5_store_39 : decode cX5_store 39 = .ok (.if_icmp .eq 11, 3) := by decide +kernel
theorem dX5_store_42 : decode cX5_store 42 = .ok (.iload_n 2, 1) := by decide +kernel
theorem dX5_store_43 : decode cX5_store 43 = .ok (.aload_n 0, 1) := by decide +kernel
theorem dX5_store_44 : decode cX5_store 44 = .ok (.getfield 31, 3) := by decide +kernel
theorem dX5_store_47 : decode cX5_store 47 = .ok (.if_icmp .le 6, 3) := by decide +kernel
theorem dX5_store_50 : decode cX5_store 50 = .ok (.bipush (-4), 2) := by decide +kernel
theorem dX5_store_52 : decode cX5_store 52 = .ok (.ireturn, 1) := by decide +kernel
theorem dX5_store_53 : decode cX5_store 53 = .ok (.iconst 0, 1) := by decide +kernel
theorem dX5_store_54 : decode cX5_store 54 = .ok (.istore_n 3, 1) := by decide +kernel
theorem dX5_store_55 : decode cX5_store 55 = .ok (.iload_n 3, 1) := by decide +kernel
theorem dX5_store_56 : decode cX5_store 56 = .ok (.aload_n 0, 1) := by decide +kernel
theorem dX5_store_57 : decode cX5_store 57 = .ok (.getfield 24, 3) := by decide +kernel
theorem dX5_store_60 : decode cX5_store 60 = .ok (.if_icmp .gt 24, 3) := by decide +kernel
theorem dX5_store_63 : decode cX5_store 63 = .ok (.aload_n 0, 1) := by decide +kernel
theorem dX5_store_64 : decode cX5_store 64 = .ok (.aload_n 0, 1) := by decide +kernel
theorem dX5_store_65 : decode cX5_store 65 = .ok (.getfield 96, 3) := by decide +kernel
theorem dX5_store_68 : decode cX5_store 68 = .ok (.iload_n 3, 1) := by decide +kernel
theorem dX5_store_69 : decode cX5_store 69 = .ok (.invokestatic 99, 3) := by decide +kernel
theorem dX5_store_72 : decode cX5_store 72 = .ok (.iload_n 1, 1) := by decide +kernel
theorem dX5_store_73 : decode cX5_store 73 = .ok (.iload_n 3, 1) := by decide +kernel
theorem dX5_store_74 : decode cX5_store 74 = .ok (.iadd, 1) := by decide +kernel
theorem dX5_store_75 : decode cX5_store 75 = .ok (.invokevirtual 58, 3) := by decide +kernel
theorem dX5_store_78 : decode cX5_store 78 = .ok (.iinc 3 1, 3) := by decide +kernel
theorem dX5_store_81 : decode cX5_store 81 = .ok (.goto (-26), 3) := by decide +kernel
theorem dX5_store_84 : decode cX5_store 84 = .ok (.aload_n 0, 1) := by decide +kernel
theorem dX5_store_85 : decode cX5_store 85 = .ok (.aload_n 0, 1) := by decide +kernel
theorem dX5_store_86 : decode cX5_store 86 = .ok (.getfield 31, 3) := by decide +kernel
theorem dX5_store_89 : decode cX5_store 89 = .ok (.iload_n 2, 1) := by decide +kernel
theorem dX5_store_90 : decode cX5_store 90 = .ok (.isub, 1) := by decide +kernel
theorem dX5_store_91 : decode cX5_store 91 = .ok (.putfield 31, 3) := by decide +kernel
theorem dX5_store_94 : decode cX5_store 94 = .ok (.aload_n 0, 1) := by decide +kernel
theorem dX5_store_95 : decode cX5_store 95 = .ok (.dup, 1) := by decide +kernel
theorem dX5_store_96 : decode cX5_store 96 = .ok (.getfield 96, 3) := by decide +kernel
theorem dX5_store_99 : decode cX5_store 99 = .ok (.iconst 1, 1) := by decide +kernel
theorem dX5_store_100 : decode cX5_store 100 = .ok (.iadd, 1) := by decide +kernel
theorem dX5_store_101 : decode cX5_store 101 = .ok (.putfield 96, 3) := by decide +kernel
theorem dX5_store_104 : decode cX5_store 104 = .ok (.aload_n 0, 1) := by decide +kernel
theorem dX5_store_105 : decode cX5_store 105 = .ok (.getfield 96, 3) := by decide +kernel
theorem dX5_store_108 : decode cX5_store 108 = .ok (.iconst 1, 1) := by decide +kernel
theorem dX5_store_109 : decode cX5_store 109 = .ok (.isub, 1) := by decide +kernel
theorem dX5_store_110 : decode cX5_store 110 = .ok (.ireturn, 1) := by decide +kernel
set_option maxRecDepth 20000 in
theorem ggX5_endConstraint_X5_store : GoodIn wsX5_endConstraint wsX5_store := goodIn_r _ [11, 4, 12, 5, 13, 14, 15, 16, 10, 17, 18, 19, 20, 21, 22, 23, 24, 25, 26, 27, 28, 29, 30, 31, 32, 33, 34, 35, 36, 37, 38] (by decide +kernel) (by decide +kernel)
set_option maxRecDepth 20000 in
theorem gX5_endConstraint_X5_store : GoodIn wsX5_endConstraint (wsV RX5 106 RX5 yX5_store wsX5_store) := goodIn_app (goodIn_of _ (by decide +kernel)) ggX5_endConstraint_X5_store
theorem dX5_endConstraint_0 : decode cX5_endConstraint 0 = .ok (.aload_n 0, 1) := by decide +kernel
theorem dX5_endConstraint_1 : decode cX5_endConstraint 1 = .ok (.iconst 0, 1) := by decide +kernel
theorem dX5_endConstraint_2 : decode cX5_endConstraint 2 = .ok (.putfield 34, 3) := by decide +kernel
theorem dX5_endConstraint_5 : decode cX5_endConstraint 5 = .ok (.aload_n 0, 1) := by decide +kernel
theorem dX5_endConstraint_6 : decode cX5_endConstraint 6 = .ok (.getfield 90, 3) := by decide +kernel
theorem dX5_endConstraint_9 : decode cX5_endConstraint 9 = .ok (.istore_n 1, 1) := by decide +kernel
theorem dX5_endConstraint_10 : decode cX5_endConstraint 10 = .ok (.aload_n 0, 1) := by decide +kernel
theorem dX5_endConstraint_11 : decode cX5_endConstraint 11 = .ok (.iconst 0, 1) := by decide +kernel
theorem dX5_endConstraint_12 : decode cX5_endConstraint 12 = .ok (.putfield 90, 3) := by decide +kernel
theorem dX5_endConstraint_15 : decode cX5_endConstraint 15 = .ok (.aload_n 0, 1) := by decide +kernel
theorem dX5_endConstraint_16 : decode cX5_endConstraint 16 = .ok (.getfield 102, 3) := by decide +kernel
theorem dX5_endConstraint_19 : decode cX5_endConstraint 19 = .ok (.ifCond .eq 6, 3) := by decide +kernel
theorem dX5_endConstraint_22 : decode cX5_endConstraint 22 = .ok (.bipush (-3), 2) := by decide +kernel
theorem dX5_endConstraint_24 : decode cX5_endConstraint 24 = .ok (.ireturn, 1) := by decide +kernel
theorem dX5_endConstraint_25 : decode cX5_endConstraint 25 = .ok (.iload_n 1, 1) := by decide +kernel
theorem dX5_endConstraint_26 : decode cX5_endConstraint 26 = .ok (.aload_n 0, 1) := by decide +kernel
theorem dX5_endConstraint_27 : decode cX5_endConstraint 27 = .ok (.getfield 24, 3) := by decide +kernel
theorem dX5_endConstraint_30 : decode cX5_endConstraint 30 = .ok (.iconst 1, 1) := by decide +kernel
theorem dX5_endConstraint_31 : decode cX5_endConstraint 31 = .ok (.iadd, 1) := by decide +kernel
theorem dX5_endConstraint_32 : decode cX5_endConstraint 32 = .ok (.if_icmp .eq 6, 3) := by decide +kernel
theorem dX5_endConstraint_35 : decode cX5_endConstraint 35 = .ok (.bipush (-2), 2) := by decide +kernel
theorem dX5_endConstraint_37 : decode cX5_endConstraint 37 = .ok (.ireturn, 1) := by decide +kernel
theorem dX5_endConstraint_38 : decode cX5_endConstraint 38 = .ok (.aload_n 0, 1) := by decide +kernel
theorem dX5_endConstraint_39 : decode cX5_endConstraint 39 = .ok (.sipush 420, 3) := by decide +kernel
theorem dX5_endConstraint_42 : decode cX5_endConstraint 42 = .ok (.invokevirtual 106, 3) := by decide +kernel
theorem dX5_endConstraint_45 : decode cX5_endConstraint 45 = .ok (.istore_n 2, 1) := by decide +kernel
theorem dX5_endConstraint_46 : decode cX5_endConstraint 46 = .ok (.aload_n 0, 1) := by decide +kernel
theorem dX5_endConstraint_47 : decode cX5_endConstraint 47 = .ok (.aload_n 0, 1) := by decide +kernel
theorem dX5_endConstraint_48 : decode cX5_endConstraint 48 = .ok (.getfield 96, 3) := by decide +kernel
theorem dX5_endConstraint_51 : decode cX5_endConstraint 51 = .ok (.putfield 109, 3) := by decide +kernel
theorem dX5_endConstraint_54 : decode cX5_endConstraint 54 = .ok (.iload_n 2, 1) := by decide +kernel
theorem dX5_endConstraint_55 : decode cX5_endConstraint 55 = .ok (.ireturn, 1) := by decide +kernel
theorem dX5_sealInput_0 : decode cX5_sealInput 0 = .ok (.aload_n 0, 1) := by decide +kernel
theorem dX5_sealInput_1 : decode cX5_sealInput 1 = .ok (.iconst 0, 1) := by decide +kernel
theorem dX5_sealInput_2 : decode cX5_sealInput 2 = .ok (.putfield 34, 3) := by decide +kernel
theorem dX5_sealInput_5 : decode cX5_sealInput 5 = .ok (.aload_n 0, 1) := by decide +kernel
theorem dX5_sealInput_6 : decode cX5_sealInput 6 = .ok (.getfield 102, 3) := by decide +kernel
theorem dX5_sealInput_9 : decode cX5_sealInput 9 = .ok (.istore_n 1, 1) := by decide +kernel
theorem dX5_sealInput_10 : decode cX5_sealInput 10 = .ok (.aload_n 0, 1) := by decide +kernel
theorem dX5_sealInput_11 : decode cX5_sealInput 11 = .ok (.iconst 1, 1) := by decide +kernel
theorem dX5_sealInput_12 : decode cX5_sealInput 12 = .ok (.putfield 102, 3) := by decide +kernel
theorem dX5_sealInput_15 : decode cX5_sealInput 15 = .ok (.iload_n 1, 1) := by decide +kernel
theorem dX5_sealInput_16 : decode cX5_sealInput 16 = .ok (.ifCond .ne 7, 3) := by decide +kernel
theorem dX5_sealInput_19 : decode cX5_sealInput 19 = .ok (.iconst 1, 1) := by decide +kernel
theorem dX5_sealInput_20 : decode cX5_sealInput 20 = .ok (.goto 4, 3) := by decide +kernel
theorem dX5_sealInput_23 : decode cX5_sealInput 23 = .ok (.iconst 0, 1) := by decide +kernel
theorem dX5_sealInput_24 : decode cX5_sealInput 24 = .ok (.ireturn, 1) := by decide +kernel
set_option maxRecDepth 20000 in
theorem ggX5_combineStart_X5_clear : GoodIn wsX5_combineStart wsX5_clear := goodIn_r _ [9, 10, 11, 12, 13, 14, 15, 16, 17, 18, 19, 20, 21, 22, 23, 24, 25, 26] (by decide +kernel) (by decide +kernel)
set_option maxRecDepth 20000 in
theorem gX5_combineStart_X5_clear : GoodIn wsX5_combineStart (wsV RX5 62 RX5 yX5_clear wsX5_clear) := goodIn_app (goodIn_of _ (by decide +kernel)) ggX5_combineStart_X5_clear
theorem dX5_combineStart_0 : decode cX5_combineStart 0 = .ok (.aload_n 0, 1) := by decide +kernel
theorem dX5_combineStart_1 : decode cX5_combineStart 1 = .ok (.iconst 0, 1) := by decide +kernel
theorem dX5_combineStart_2 : decode cX5_combineStart 2 = .ok (.putfield 34, 3) := by decide +kernel
theorem dX5_combineStart_5 : decode cX5_combineStart 5 = .ok (.aload_n 0, 1) := by decide +kernel
theorem dX5_combineStart_6 : decode cX5_combineStart 6 = .ok (.getfield 102, 3) := by decide +kernel
theorem dX5_combineStart_9 : decode cX5_combineStart 9 = .ok (.ifCond .ne 5, 3) := by decide +kernel
theorem dX5_combineStart_12 : decode cX5_combineStart 12 = .ok (.iconst 0, 1) := by decide +kernel
theorem dX5_combineStart_13 : decode cX5_combineStart 13 = .ok (.ireturn, 1) := by decide +kernel
theorem dX5_combineStart_14 : decode cX5_combineStart 14 = .ok (.aload_n 0, 1) := by decide +kernel
theorem dX5_combineStart_15 : decode cX5_combineStart 15 = .ok (.iconst 1, 1) := by decide +kernel
theorem dX5_combineStart_16 : decode cX5_combineStart 16 = .ok (.putfield 112, 3) := by decide +kernel
theorem dX5_combineStart_19 : decode cX5_combineStart 19 = .ok (.iconst 0, 1) := by decide +kernel
theorem dX5_combineStart_20 : decode cX5_combineStart 20 = .ok (.istore_n 1, 1) := by decide +kernel
theorem dX5_combineStart_21 : decode cX5_combineStart 21 = .ok (.iload_n 1, 1) := by decide +kernel
theorem dX5_combineStart_22 : decode cX5_combineStart 22 = .ok (.aload_n 0, 1) := by decide +kernel
theorem dX5_combineStart_23 : decode cX5_combineStart 23 = .ok (.getfield 24, 3) := by decide +kernel
theorem dX5_combineStart_26 : decode cX5_combineStart 26 = .ok (.if_icmp .gt 18, 3) := by decide +kernel
theorem dX5_combineStart_29 : decode cX5_combineStart 29 = .ok (.aload_n 0, 1) := by decide +kernel
theorem dX5_combineStart_30 : decode cX5_combineStart 30 = .ok (.sipush 427, 3) := by decide +kernel
theorem dX5_combineStart_33 : decode cX5_combineStart 33 = .ok (.iload_n 1, 1) := by decide +kernel
theorem dX5_combineStart_34 : decode cX5_combineStart 34 = .ok (.iadd, 1) := by decide +kernel
theorem dX5_combineStart_35 : decode cX5_combineStart 35 = .ok (.invokevirtual 62, 3) := by decide +kernel
theorem dX5_combineStart_38 : decode cX5_combineStart 38 = .ok (.iinc 1 1, 3) := by decide +kernel
theorem dX5_combineStart_41 : decode cX5_combineStart 41 = .ok (.goto (-20), 3) := by decide +kernel
theorem dX5_combineStart_44 : decode cX5_combineStart 44 = .ok (.iconst 1, 1) := by decide +kernel
theorem dX5_combineStart_45 : decode cX5_combineStart 45 = .ok (.ireturn, 1) := by decide +kernel
theorem dX5_isRow_0 : decode cX5_isRow 0 = .ok (.iload_n 1, 1) := by decide +kernel
theorem dX5_isRow_1 : decode cX5_isRow 1 = .ok (.ifCond .lt 15, 3) := by decide +kernel
theorem dX5_isRow_4 : decode cX5_isRow 4 = .ok (.iload_n 1, 1) := by decide +kernel
theorem dX5_isRow_5 : decode cX5_isRow 5 = .ok (.aload_n 0, 1) := by decide +kernel
theorem dX5_isRow_6 : decode cX5_isRow 6 = .ok (.getfield 96, 3) := by decide +kernel
theorem dX5_isRow_9 : decode cX5_isRow 9 = .ok (.if_icmp .ge 7, 3) := by decide +kernel
theorem dX5_isRow_12 : decode cX5_isRow 12 = .ok (.iconst 1, 1) := by decide +kernel
theorem dX5_isRow_13 : decode cX5_isRow 13 = .ok (.goto 4, 3) := by decide +kernel
theorem dX5_isRow_16 : decode cX5_isRow 16 = .ok (.iconst 0, 1) := by decide +kernel
theorem dX5_isRow_17 : decode cX5_isRow 17 = .ok (.ireturn, 1) := by decide +kernel
set_option maxRecDepth 20000 in
theorem ggX5_combineAdd_X5_isRow : GoodIn wsX5_combineAdd wsX5_isRow := goodIn_r _ [11, 12, 56, 57, 58, 59, 60, 61, 62, 63, 64, 65, 66, 67, 68, 69, 70] (by decide +kernel) (by decide +kernel)
set_option maxRecDepth 20000 in
theorem gX5_combineAdd_X5_isRow : GoodIn wsX5_combineAdd (wsV RX5 115 RX5 yX5_isRow wsX5_isRow) := goodIn_app (goodIn_of _ (by decide +kernel)) ggX5_combineAdd_X5_isRow
set_option maxRecDepth 20000 in
theorem ggX5_combineAdd_X5_settle : GoodIn wsX5_combineAdd wsX5_settle := goodIn_r _ [16, 6, 17, 18, 4, 19, 20, 21, 10, 22, 23, 56, 57, 58, 59, 60, 61, 62, 63, 64, 65, 66, 67, 68, 69, 70] (by decide +kernel) (by decide +kernel)
set_option maxRecDepth 20000 in
theorem gX5_combineAdd_X5_settle : GoodIn wsX5_combineAdd (wsV RX5 93 RX5 yX5_settle wsX5_settle) := goodIn_app (goodIn_of _ (by decide +kernel)) ggX5_combineAdd_X5_settle
set_option maxRecDepth 20000 in
theorem ggX5_combineAdd_X5_placeOf : GoodIn wsX5_combineAdd wsX5_placeOf := goodIn_r _ [26] (by decide +kernel) (by decide +kernel)
set_option maxRecDepth 20000 in
theorem gX5_combineAdd_X5_placeOf : GoodIn wsX5_combineAdd (va_wsS RX5 99 yX5_placeOf wsX5_placeOf) := goodIn_app (goodIn_of _ (by decide +kernel)) ggX5_combineAdd_X5_placeOf
set_option maxRecDepth 20000 in
theorem ggX5_combineAdd_X5_multiply : GoodIn wsX5_combineAdd wsX5_multiply := goodIn_r _ [30, 6, 23, 31, 4, 32, 33, 34, 10, 35, 19, 20, 21, 22, 56, 57, 58, 59, 60, 61, 62, 63, 64, 65, 66, 67, 68, 69, 70] (by decide +kernel) (by decide +kernel)
set_option maxRecDepth 20000 in
theorem gX5_combineAdd_X5_multiply : GoodIn wsX5_combineAdd (wsV RX5 118 RX5 yX5_multiply wsX5_multiply) := goodIn_app (goodIn_of _ (by decide +kernel)) ggX5_combineAdd_X5_multiply
set_option maxRecDepth 20000 in
theorem ggX5_combineAdd_X5_add : GoodIn wsX5_combineAdd wsX5_add := goodIn_r _ [39, 4, 6, 40, 41, 42, 10, 43, 23, 31, 32, 33, 34, 35, 19, 20, 21, 22, 44, 45, 46, 47, 48, 49, 50, 51, 56, 57, 58, 59, 60, 61, 62, 63, 64, 65, 66, 67, 68, 69, 70] (by decide +kernel) (by decide +kernel)
set_option maxRecDepth 20000 in
theorem gX5_combineAdd_X5_add : GoodIn wsX5_combineAdd (wsV RX5 121 RX5 yX5_add wsX5_add) := goodIn_app (goodIn_of _ (by decide +kernel)) ggX5_combineAdd_X5_add
set_option maxRecDepth 20000 in
theorem ggX5_combineAdd_X5_copy : GoodIn wsX5_combineAdd wsX5_copy := goodIn_r _ [55, 6, 4, 23, 56, 57, 58, 59, 60, 61, 62, 63, 64, 65, 66, 67, 68, 69, 70] (by decide +kernel) (by decide +kernel)
set_option maxRecDepth 20000 in
theorem gX5_combineAdd_X5_copy : GoodIn wsX5_combineAdd (wsV RX5 58 RX5 yX5_copy wsX5_copy) := goodIn_app (goodIn_of _ (by decide +kernel)) ggX5_combineAdd_X5_copy
theorem dX5_combineAdd_0 : decode cX5_combineAdd 0 = .ok (.aload_n 0, 1) := by decide +kernel
theorem dX5_combineAdd_1 : decode cX5_combineAdd 1 = .ok (.iconst 0, 1) := by decide +kernel
theorem dX5_combineAdd_2 : decode cX5_combineAdd 2 = .ok (.putfield 34, 3) := by decide +kernel
theorem dX5_combineAdd_5 : decode cX5_combineAdd 5 = .ok (.aload_n 0, 1) := by decide +kernel
theorem dX5_combineAdd_6 : decode cX5_combineAdd 6 = .ok (.getfield 112, 3) := by decide +kernel
theorem dX5_combineAdd_9 : decode cX5_combineAdd 9 = .ok (.ifCond .ne 6, 3) := by decide +kernel
theorem dX5_combineAdd_12 : decode cX5_combineAdd 12 = .ok (.bipush (-7), 2) := by decide +kernel
theorem dX5_combineAdd_14 : decode cX5_combineAdd 14 = .ok (.ireturn, 1) := by decide +kernel
theorem dX5_combineAdd_15 : decode cX5_combineAdd 15 = .ok (.aload_n 0, 1) := by decide +kernel
theorem dX5_combineAdd_16 : decode cX5_combineAdd 16 = .ok (.iload_n 1, 1) := by decide +kernel
theorem dX5_combineAdd_17 : decode cX5_combineAdd 17 = .ok (.invokevirtual 115, 3) := by decide +kernel
theorem dX5_combineAdd_20 : decode cX5_combineAdd 20 = .ok (.ifCond .ne 6, 3) := by decide +kernel
theorem dX5_combineAdd_23 : decode cX5_combineAdd 23 = .ok (.bipush (-5), 2) := by decide +kernel
theorem dX5_combineAdd_25 : decode cX5_combineAdd 25 = .ok (.ireturn, 1) := by decide +kernel
theorem dX5_combineAdd_26 : decode cX5_combineAdd 26 = .ok (.aload_n 0, 1) := by decide +kernel
theorem dX5_combineAdd_27 : decode cX5_combineAdd 27 = .ok (.getfield 84, 3) := by decide +kernel
theorem dX5_combineAdd_30 : decode cX5_combineAdd 30 = .ok (.iconst 1, 1) := by decide +kernel
theorem dX5_combineAdd_31 : decode cX5_combineAdd 31 = .ok (.if_icmp .ne 7, 3) := by decide +kernel
theorem dX5_combineAdd_34 : decode cX5_combineAdd 34 = .ok (.aload_n 0, 1) := by decide +kernel
theorem dX5_combineAdd_35 : decode cX5_combineAdd 35 = .ok (.invokevirtual 93, 3) := by decide +kernel
theorem dX5_combineAdd_38 : decode cX5_combineAdd 38 = .ok (.aload_n 0, 1) := by decide +kernel
theorem dX5_combineAdd_39 : decode cX5_combineAdd 39 = .ok (.getfield 84, 3) := by decide +kernel
theorem dX5_combineAdd_42 : decode cX5_combineAdd 42 = .ok (.ifCond .eq 14, 3) := by decide +kernel
theorem dX5_combineAdd_45 : decode cX5_combineAdd 45 = .ok (.aload_n 0, 1) := by decide +kernel
theorem dX5_combineAdd_46 : decode cX5_combineAdd 46 = .ok (.getfield 16, 3) := by decide +kernel
theorem dX5_combineAdd_49 : decode cX5_combineAdd 49 = .ok (.sipush 440, 3) := by decide +kernel
theorem dX5_combineAdd_52 : decode cX5_combineAdd 52 = .ok (.baload, 1) := by decide +kernel
theorem dX5_combineAdd_53 : decode cX5_combineAdd 53 = .ok (.ifCond .eq 6, 3) := by decide +kernel
theorem dX5_combineAdd_56 : decode cX5_combineAdd 56 = .ok (.bipush (-6), 2) := by decide +kernel
theorem dX5_combineAdd_58 : decode cX5_combineAdd 58 = .ok (.ireturn, 1) := by decide +kernel
theorem dX5_combineAdd_59 : decode cX5_combineAdd 59 = .ok (.iconst 0, 1) := by decide +kernel
theorem dX5_combineAdd_60 : decode cX5_combineAdd 60 = .ok (.istore_n 2, 1) := by decide +kernel
theorem dX5_combineAdd_61 : decode cX5_combineAdd 61 = .ok (.iload_n 2, 1) := by decide +kernel
theorem dX5_combineAdd_62 : decode cX5_combineAdd 62 = .ok (.aload_n 0, 1) := by decide +kernel
theorem dX5_combineAdd_63 : decode cX5_combineAdd 63 = .ok (.getfield 24, 3) := by decide +kernel
theorem dX5_combineAdd_66 : decode cX5_combineAdd 66 = .ok (.if_icmp .gt 55, 3) := by decide +kernel
theorem dX5_combineAdd_69 : decode cX5_combineAdd 69 = .ok (.aload_n 0, 1) := by decide +kernel
theorem dX5_combineAdd_70 : decode cX5_combineAdd 70 = .ok (.sipush 441, 3) := by decide +kernel
theorem dX5_combineAdd_73 : decode cX5_combineAdd 73 = .ok (.sipush 440, 3) := by decide +kernel
theorem dX5_combineAdd_76 : decode cX5_combineAdd 76 = .ok (.iload_n 1, 1) := by decide +kernel
theorem dX5_combineAdd_77 : decode cX5_combineAdd 77 = .ok (.iload_n 2, 1) := by decide +kernel
theorem dX5_combineAdd_78 : decode cX5_combineAdd 78 = .ok (.invokestatic 99, 3) := by decide +kernel
theorem dX5_combineAdd_81 : decode cX5_combineAdd 81 = .ok (.invokevirtual 118, 3) := by decide +kernel
theorem dX5_combineAdd_84 : decode cX5_combineAdd 84 = .ok (.aload_n 0, 1) := by decide +kernel
theorem dX5_combineAdd_85 : decode cX5_combineAdd 85 = .ok (.sipush 442, 3) := by decide +kernel
theorem dX5_combineAdd_88 : decode cX5_combineAdd 88 = .ok (.sipush 427, 3) := by decide +kernel
theorem dX5_combineAdd_91 : decode cX5_combineAdd 91 = .ok (.iload_n 2, 1) := by decide +kernel
theorem dX5_combineAdd_92 : decode cX5_combineAdd 92 = .ok (.iadd, 1) := by decide +kernel
theorem dX5_combineAdd_93 : decode cX5_combineAdd 93 = .ok (.sipush 441, 3) := by decide +kernel
theorem dX5_combineAdd_96 : decode cX5_combineAdd 96 = .ok (.invokevirtual 121, 3) := by decide +kernel
theorem dX5_combineAdd_99 : decode cX5_combineAdd 99 = .ok (.aload_n 0, 1) := by decide +kernel
theorem dX5_combineAdd_100 : decode cX5_combineAdd 100 = .ok (.getfield 13, 3) := by decide +kernel
theorem dX5_combineAdd_103 : decode cX5_combineAdd 103 = .ok (.sipush 442, 3) := by decide +kernel
theorem dX5_combineAdd_106 : decode cX5_combineAdd 106 = .ok (.iaload, 1) := by decide +kernel
theorem dX5_combineAdd_107 : decode cX5_combineAdd 107 = .ok (.bipush 48, 2) := by decide +kernel
theorem dX5_combineAdd_109 : decode cX5_combineAdd 109 = .ok (.if_icmp .le 6, 3) := by decide +kernel
theorem dX5_combineAdd_112 : decode cX5_combineAdd 112 = .ok (.bipush (-4), 2) := by decide +kernel
theorem dX5_combineAdd_114 : decode cX5_combineAdd 114 = .ok (.ireturn, 1) := by decide +kernel
theorem dX5_combineAdd_115 : decode cX5_combineAdd 115 = .ok (.iinc 2 1, 3) := by decide +kernel
theorem dX5_combineAdd_118 : decode cX5_combineAdd 118 = .ok (.goto (-57), 3) := by decide +kernel
theorem dX5_combineAdd_121 : decode cX5_combineAdd 121 = .ok (.iconst 0, 1) := by decide +kernel
theorem dX5_combineAdd_122 : decode cX5_combineAdd 122 = .ok (.istore_n 2, 1) := by decide +kernel
theorem dX5_combineAdd_123 : decode cX5_combineAdd 123 = .ok (.iload_n 2, 1) := by decide +kernel
theorem dX5_combineAdd_124 : decode cX5_combineAdd 124 = .ok (.aload_n 0, 1) := by decide +kernel
theorem dX5_combineAdd_125 : decode cX5_combineAdd 125 = .ok (.getfield 24, 3) := by decide +kernel
theorem dX5_combineAdd_128 : decode cX5_combineAdd 128 = .ok (.if_icmp .gt 51, 3) := by decide +kernel
theorem dX5_combineAdd_131 : decode cX5_combineAdd 131 = .ok (.aload_n 0, 1) := by decide +kernel
theorem dX5_combineAdd_132 : decode cX5_combineAdd 132 = .ok (.sipush 441, 3) := by decide +kernel
theorem dX5_combineAdd_135 : decode cX5_combineAdd 135 = .ok (.sipush 440, 3) := by decide +kernel
theorem dX5_combineAdd_138 : decode cX5_combineAdd 138 = .ok (.iload_n 1, 1) := by decide +kernel
theorem dX5_combineAdd_139 : decode cX5_combineAdd 139 = .ok (.iload_n 2, 1) := by decide +kernel
theorem dX5_combineAdd_140 : decode cX5_combineAdd 140 = .ok (.invokestatic 99, 3) := by decide +kernel
theorem dX5_combineAdd_143 : decode cX5_combineAdd 143 = .ok (.invokevirtual 118, 3) := by decide +kernel
theorem dX5_combineAdd_146 : decode cX5_combineAdd 146 = .ok (.aload_n 0, 1) := by decide +kernel
theorem dX5_combineAdd_147 : decode cX5_combineAdd 147 = .ok (.sipush 442, 3) := by decide +kernel
theorem dX5_combineAdd_150 : decode cX5_combineAdd 150 = .ok (.sipush 427, 3) := by decide +kernel
theorem dX5_combineAdd_153 : decode cX5_combineAdd 153 = .ok (.iload_n 2, 1) := by decide +kernel
theorem dX5_combineAdd_154 : decode cX5_combineAdd 154 = .ok (.iadd, 1) := by decide +kernel
theorem dX5_combineAdd_155 : decode cX5_combineAdd 155 = .ok (.sipush 441, 3) := by decide +kernel
theorem dX5_combineAdd_158 : decode cX5_combineAdd 158 = .ok (.invokevirtual 121, 3) := by decide +kernel
theorem dX5_combineAdd_161 : decode cX5_combineAdd 161 = .ok (.aload_n 0, 1) := by decide +kernel
theorem dX5_combineAdd_162 : decode cX5_combineAdd 162 = .ok (.sipush 427, 3) := by decide +kernel
theorem dX5_combineAdd_165 : decode cX5_combineAdd 165 = .ok (.iload_n 2, 1) := by decide +kernel
theorem dX5_combineAdd_166 : decode cX5_combineAdd 166 = .ok (.iadd, 1) := by decide +kernel
theorem dX5_combineAdd_167 : decode cX5_combineAdd 167 = .ok (.sipush 442, 3) := by decide +kernel
theorem dX5_combineAdd_170 : decode cX5_combineAdd 170 = .ok (.invokevirtual 58, 3) := by decide +kernel
theorem dX5_combineAdd_173 : decode cX5_combineAdd 173 = .ok (.iinc 2 1, 3) := by decide +kernel
theorem dX5_combineAdd_176 : decode cX5_combineAdd 176 = .ok (.goto (-53), 3) := by decide +kernel
theorem dX5_combineAdd_179 : decode cX5_combineAdd 179 = .ok (.aload_n 0, 1) := by decide +kernel
theorem dX5_combineAdd_180 : decode cX5_combineAdd 180 = .ok (.iconst 2, 1) := by decide +kernel
theorem dX5_combineAdd_181 : decode cX5_combineAdd 181 = .ok (.putfield 84, 3) := by decide +kernel
theorem dX5_combineAdd_184 : decode cX5_combineAdd 184 = .ok (.iconst 0, 1) := by decide +kernel
theorem dX5_combineAdd_185 : decode cX5_combineAdd 185 = .ok (.ireturn, 1) := by decide +kernel
set_option maxRecDepth 20000 in
theorem ggX5_combineEnd_X5_store : GoodIn wsX5_combineEnd wsX5_store := goodIn_r _ [7, 8, 9, 10, 11, 12, 13, 14, 6, 15, 16, 17, 18, 19, 20, 21, 22, 23, 24, 25, 26, 27, 28, 29, 30, 31, 32, 33, 34, 35, 36] (by decide +kernel) (by decide +kernel)
set_option maxRecDepth 20000 in
theorem gX5_combineEnd_X5_store : GoodIn wsX5_combineEnd (wsV RX5 106 RX5 yX5_store wsX5_store) := goodIn_app (goodIn_of _ (by decide +kernel)) ggX5_combineEnd_X5_store
theorem dX5_combineEnd_0 : decode cX5_combineEnd 0 = .ok (.aload_n 0, 1) := by decide +kernel
theorem dX5_combineEnd_1 : decode cX5_combineEnd 1 = .ok (.iconst 0, 1) := by decide +kernel
theorem dX5_combineEnd_2 : decode cX5_combineEnd 2 = .ok (.putfield 34, 3) := by decide +kernel
theorem dX5_combineEnd_5 : decode cX5_combineEnd 5 = .ok (.aload_n 0, 1) := by decide +kernel
theorem dX5_combineEnd_6 : decode cX5_combineEnd 6 = .ok (.getfield 112, 3) := by decide +kernel
theorem dX5_combineEnd_9 : decode cX5_combineEnd 9 = .ok (.ifCond .ne 6, 3) := by decide +kernel
theorem dX5_combineEnd_12 : decode cX5_combineEnd 12 = .ok (.bipush (-7), 2) := by decide +kernel
theorem dX5_combineEnd_14 : decode cX5_combineEnd 14 = .ok (.ireturn, 1) := by decide +kernel
theorem dX5_combineEnd_15 : decode cX5_combineEnd 15 = .ok (.aload_n 0, 1) := by decide +kernel
theorem dX5_combineEnd_16 : decode cX5_combineEnd 16 = .ok (.sipush 427, 3) := by decide +kernel
theorem dX5_combineEnd_19 : decode cX5_combineEnd 19 = .ok (.invokevirtual 106, 3) := by decide +kernel
theorem dX5_combineEnd_22 : decode cX5_combineEnd 22 = .ok (.istore_n 1, 1) := by decide +kernel
theorem dX5_combineEnd_23 : decode cX5_combineEnd 23 = .ok (.aload_n 0, 1) := by decide +kernel
theorem dX5_combineEnd_24 : decode cX5_combineEnd 24 = .ok (.iload_n 1, 1) := by decide +kernel
theorem dX5_combineEnd_25 : decode cX5_combineEnd 25 = .ok (.bipush (-4), 2) := by decide +kernel
theorem dX5_combineEnd_27 : decode cX5_combineEnd 27 = .ok (.if_icmp .ne 7, 3) := by decide +kernel
theorem dX5_combineEnd_30 : decode cX5_combineEnd 30 = .ok (.iconst 1, 1) := by decide +kernel
theorem dX5_combineEnd_31 : decode cX5_combineEnd 31 = .ok (.goto 4, 3) := by decide +kernel
theorem dX5_combineEnd_34 : decode cX5_combineEnd 34 = .ok (.iconst 0, 1) := by decide +kernel
theorem dX5_combineEnd_35 : decode cX5_combineEnd 35 = .ok (.putfield 112, 3) := by decide +kernel
theorem dX5_combineEnd_38 : decode cX5_combineEnd 38 = .ok (.iload_n 1, 1) := by decide +kernel
theorem dX5_combineEnd_39 : decode cX5_combineEnd 39 = .ok (.ireturn, 1) := by decide +kernel
set_option maxRecDepth 20000 in
theorem ggX5_divideRound_X5_isRow : GoodIn wsX5_divideRound wsX5_isRow := goodIn_r _ [10, 11, 77, 78, 79, 80, 81, 82, 83, 84, 85, 86, 87, 88, 89, 90, 91] (by decide +kernel) (by decide +kernel)
set_option maxRecDepth 20000 in
theorem gX5_divideRound_X5_isRow : GoodIn wsX5_divideRound (wsV RX5 115 RX5 yX5_isRow wsX5_isRow) := goodIn_app (goodIn_of _ (by decide +kernel)) ggX5_divideRound_X5_isRow
set_option maxRecDepth 20000 in
theorem ggX5_divideRound_X5_clear : GoodIn wsX5_divideRound wsX5_clear := goodIn_r _ [15, 4, 5, 77, 78, 79, 80, 81, 82, 83, 84, 85, 86, 87, 88, 89, 90, 91] (by decide +kernel) (by decide +kernel)
set_option maxRecDepth 20000 in
theorem gX5_divideRound_X5_clear : GoodIn wsX5_divideRound (wsV RX5 62 RX5 yX5_clear wsX5_clear) := goodIn_app (goodIn_of _ (by decide +kernel)) ggX5_divideRound_X5_clear
set_option maxRecDepth 20000 in
theorem ggX5_divideRound_X5_placeOf : GoodIn wsX5_divideRound wsX5_placeOf := goodIn_r _ [18] (by decide +kernel) (by decide +kernel)
set_option maxRecDepth 20000 in
theorem gX5_divideRound_X5_placeOf : GoodIn wsX5_divideRound (va_wsS RX5 99 yX5_placeOf wsX5_placeOf) := goodIn_app (goodIn_of _ (by decide +kernel)) ggX5_divideRound_X5_placeOf
set_option maxRecDepth 20000 in
theorem ggX5_divideRound_X5_common : GoodIn wsX5_divideRound wsX5_common := goodIn_r _ [22, 5, 4, 23, 24, 25, 9, 26, 27, 28, 29, 30, 31, 32, 33, 34, 35, 36, 37, 38, 39, 40, 41, 42, 43, 44, 45, 46, 47, 48, 49, 50, 51, 52, 53, 54, 55, 56, 57, 77, 78, 79, 80, 81, 82, 83, 84, 85, 86, 87, 88, 89, 90, 91] (by decide +kernel) (by decide +kernel)
set_option maxRecDepth 20000 in
theorem gX5_divideRound_X5_common : GoodIn wsX5_divideRound (wsV RX5 124 RX5 yX5_common wsX5_common) := goodIn_app (goodIn_of _ (by decide +kernel)) ggX5_divideRound_X5_common
set_option maxRecDepth 20000 in
theorem ggX5_divideRound_X5_divide : GoodIn wsX5_divideRound wsX5_divide := goodIn_r _ [61, 5, 4, 27, 23, 24, 25, 9, 26, 12, 13, 14, 15, 41, 42, 43, 44, 62, 63, 64, 65, 66, 54, 55, 56, 57, 53, 33, 34, 35, 36, 67, 68, 69, 70, 45, 46, 47, 48, 49, 50, 51, 52, 77, 78, 79, 80, 81, 82, 83, 84, 85, 86, 87, 88, 89, 90, 91] (by decide +kernel) (by decide +kernel)
set_option maxRecDepth 20000 in
theorem gX5_divideRound_X5_divide : GoodIn wsX5_divideRound (wsV RX5 127 RX5 yX5_divide wsX5_divide) := goodIn_app (goodIn_of _ (by decide +kernel)) ggX5_divideRound_X5_divide
set_option maxRecDepth 20000 in
theorem ggX5_divideRound_X5_copy : GoodIn wsX5_divideRound wsX5_copy := goodIn_r _ [26, 4, 5, 27, 77, 78, 79, 80, 81, 82, 83, 84, 85, 86, 87, 88, 89, 90, 91] (by decide +kernel) (by decide +kernel)
set_option maxRecDepth 20000 in
theorem gX5_divideRound_X5_copy : GoodIn wsX5_divideRound (wsV RX5 58 RX5 yX5_copy wsX5_copy) := goodIn_app (goodIn_of _ (by decide +kernel)) ggX5_divideRound_X5_copy
set_option maxRecDepth 20000 in
theorem ggX5_divideRound_X5_addSizes : GoodIn wsX5_divideRound wsX5_addSizes := goodIn_r _ [57, 4, 27, 53, 33, 34, 35, 9, 36, 41, 42, 43, 44, 5, 77, 78, 79, 80, 81, 82, 83, 84, 85, 86, 87, 88, 89, 90, 91] (by decide +kernel) (by decide +kernel)
set_option maxRecDepth 20000 in
theorem gX5_divideRound_X5_addSizes : GoodIn wsX5_divideRound (wsV RX5 47 RX5 yX5_addSizes wsX5_addSizes) := goodIn_app (goodIn_of _ (by decide +kernel)) ggX5_divideRound_X5_addSizes
set_option maxRecDepth 20000 in
theorem ggX5_divideRound_X5_store : GoodIn wsX5_divideRound wsX5_store := goodIn_r _ [74, 3, 4, 11, 75, 76, 16, 17, 9, 18, 23, 24, 25, 26, 5, 27, 77, 78, 79, 80, 81, 82, 83, 84, 85, 86, 87, 88, 89, 90, 91] (by decide +kernel) (by decide +kernel)
set_option maxRecDepth 20000 in
theorem gX5_divideRound_X5_store : GoodIn wsX5_divideRound (wsV RX5 106 RX5 yX5_store wsX5_store) := goodIn_app (goodIn_of _ (by decide +kernel)) ggX5_divideRound_X5_store
theorem dX5_divideRound_0 : decode cX5_divideRound 0 = .ok (.aload_n 0, 1) := by decide +kernel
theorem dX5_divideRound_1 : decode cX5_divideRound 1 = .ok (.iconst 0, 1) := by decide +kernel
theorem dX5_divideRound_2 : decode cX5_divideRound 2 = .ok (.putfield 34, 3) := by decide +kernel
theorem dX5_divideRound_5 : decode cX5_divideRound 5 = .ok (.aload_n 0, 1) := by decide +kernel
theorem dX5_divideRound_6 : decode cX5_divideRound 6 = .ok (.iload_n 1, 1) := by decide +kernel
theorem dX5_divideRound_7 : decode cX5_divideRound 7 = .ok (.invokevirtual 115, 3) := by decide +kernel
theorem dX5_divideRound_10 : decode cX5_divideRound 10 = .ok (.ifCond .eq 10, 3) := by decide +kernel
theorem dX5_divideRound_13 : decode cX5_divideRound 13 = .ok (.aload_n 0, 1) := by decide +kernel
theorem dX5_divideRound_14 : decode cX5_divideRound 14 = .ok (.getfield 102, 3) := by decide +kernel
theorem dX5_divideRound_17 : decode cX5_divideRound 17 = .ok (.ifCond .ne 6, 3) := by decide +kernel
theorem dX5_divideRound_20 : decode cX5_divideRound 20 = .ok (.bipush (-5), 2) := by decide +kernel
theorem dX5_divideRound_22 : decode cX5_divideRound 22 = .ok (.ireturn, 1) := by decide +kernel
theorem dX5_divideRound_23 : decode cX5_divideRound 23 = .ok (.aload_n 0, 1) := by decide +kernel
theorem dX5_divideRound_24 : decode cX5_divideRound 24 = .ok (.sipush 443, 3) := by decide +kernel
theorem dX5_divideRound_27 : decode cX5_divideRound 27 = .ok (.invokevirtual 62, 3) := by decide +kernel
theorem dX5_divideRound_30 : decode cX5_divideRound 30 = .ok (.iconst 0, 1) := by decide +kernel
theorem dX5_divideRound_31 : decode cX5_divideRound 31 = .ok (.istore_n 2, 1) := by decide +kernel
theorem dX5_divideRound_32 : decode cX5_divideRound 32 = .ok (.iload_n 2, 1) := by decide +kernel
theorem dX5_divideRound_33 : decode cX5_divideRound 33 = .ok (.aload_n 0, 1) := by decide +kernel
theorem dX5_divideRound_34 : decode cX5_divideRound 34 = .ok (.getfield 24, 3) := by decide +kernel
theorem dX5_divideRound_37 : decode cX5_divideRound 37 = .ok (.if_icmp .ge 18, 3) := by decide +kernel
theorem dX5_divideRound_40 : decode cX5_divideRound 40 = .ok (.aload_n 0, 1) := by decide +kernel
theorem dX5_divideRound_41 : decode cX5_divideRound 41 = .ok (.iload_n 1, 1) := by decide +kernel
theorem dX5_divideRound_42 : decode cX5_divideRound 42 = .ok (.iload_n 2, 1) := by decide +kernel
theorem dX5_divideRound_43 : decode cX5_divideRound 43 = .ok (.invokestatic 99, 3) := by decide +kernel
theorem dX5_divideRound_46 : decode cX5_divideRound 46 = .ok (.invokevirtual 124, 3) := by decide +kernel
theorem dX5_divideRound_49 : decode cX5_divideRound 49 = .ok (.iinc 2 1, 3) := by decide +kernel
theorem dX5_divideRound_52 : decode cX5_divideRound 52 = .ok (.goto (-20), 3) := by decide +kernel
theorem dX5_divideRound_55 : decode cX5_divideRound 55 = .ok (.aload_n 0, 1) := by decide +kernel
theorem dX5_divideRound_56 : decode cX5_divideRound 56 = .ok (.getfield 13, 3) := by decide +kernel
theorem dX5_divideRound_59 : decode cX5_divideRound 59 = .ok (.sipush 443, 3) := by decide +kernel
theorem dX5_divideRound_62 : decode cX5_divideRound 62 = .ok (.iaload, 1) := by decide +kernel
theorem dX5_divideRound_63 : decode cX5_divideRound 63 = .ok (.ifCond .ne 6, 3) := by decide +kernel
theorem dX5_divideRound_66 : decode cX5_divideRound 66 = .ok (.bipush (-8), 2) := by decide +kernel
theorem dX5_divideRound_68 : decode cX5_divideRound 68 = .ok (.ireturn, 1) := by decide +kernel
theorem dX5_divideRound_69 : decode cX5_divideRound 69 = .ok (.iconst 0, 1) := by decide +kernel
theorem dX5_divideRound_70 : decode cX5_divideRound 70 = .ok (.istore_n 2, 1) := by decide +kernel
theorem dX5_divideRound_71 : decode cX5_divideRound 71 = .ok (.iload_n 2, 1) := by decide +kernel
theorem dX5_divideRound_72 : decode cX5_divideRound 72 = .ok (.aload_n 0, 1) := by decide +kernel
theorem dX5_divideRound_73 : decode cX5_divideRound 73 = .ok (.getfield 24, 3) := by decide +kernel
theorem dX5_divideRound_76 : decode cX5_divideRound 76 = .ok (.if_icmp .gt 109, 3) := by decide +kernel
theorem dX5_divideRound_79 : decode cX5_divideRound 79 = .ok (.iload_n 1, 1) := by decide +kernel
theorem dX5_divideRound_80 : decode cX5_divideRound 80 = .ok (.iload_n 2, 1) := by decide +kernel
theorem dX5_divideRound_81 : decode cX5_divideRound 81 = .ok (.invokestatic 99, 3) := by decide +kernel
theorem dX5_divideRound_84 : decode cX5_divideRound 84 = .ok (.istore_n 3, 1) := by decide +kernel
theorem dX5_divideRound_85 : decode cX5_divideRound 85 = .ok (.aload_n 0, 1) := by decide +kernel
theorem dX5_divideRound_86 : decode cX5_divideRound 86 = .ok (.iload_n 3, 1) := by decide +kernel
theorem dX5_divideRound_87 : decode cX5_divideRound 87 = .ok (.sipush 443, 3) := by decide +kernel
theorem dX5_divideRound_90 : decode cX5_divideRound 90 = .ok (.invokevirtual 127, 3) := by decide +kernel
theorem dX5_divideRound_93 : decode cX5_divideRound 93 = .ok (.aload_n 0, 1) := by decide +kernel
theorem dX5_divideRound_94 : decode cX5_divideRound 94 = .ok (.sipush 448, 3) := by decide +kernel
theorem dX5_divideRound_97 : decode cX5_divideRound 97 = .ok (.iload_n 2, 1) := by decide +kernel
theorem dX5_divideRound_98 : decode cX5_divideRound 98 = .ok (.iadd, 1) := by decide +kernel
theorem dX5_divideRound_99 : decode cX5_divideRound 99 = .ok (.sipush 445, 3) := by decide +kernel
theorem dX5_divideRound_102 : decode cX5_divideRound 102 = .ok (.invokevirtual 58, 3) := by decide +kernel
theorem dX5_divideRound_105 : decode cX5_divideRound 105 = .ok (.aload_n 0, 1) := by decide +kernel
theorem dX5_divideRound_106 : decode cX5_divideRound 106 = .ok (.getfield 16, 3) := by decide +kernel
theorem dX5_divideRound_109 : decode cX5_divideRound 109 = .ok (.iload_n 3, 1) := by decide +kernel
theorem dX5_divideRound_110 : decode cX5_divideRound 110 = .ok (.baload, 1) := by decide +kernel
theorem dX5_divideRound_111 : decode cX5_divideRound 111 = .ok (.istore 4, 2) := by decide +kernel
theorem dX5_divideRound_113 : decode cX5_divideRound 113 = .ok (.iload 4, 2) := by decide +kernel
theorem dX5_divideRound_115 : decode cX5_divideRound 115 = .ok (.ifCond .eq 31, 3) := by decide +kernel
theorem dX5_divideRound_118 : decode cX5_divideRound 118 = .ok (.aload_n 0, 1) := by decide +kernel
theorem dX5_divideRound_119 : decode cX5_divideRound 119 = .ok (.getfield 13, 3) := by decide +kernel
theorem dX5_divideRound_122 : decode cX5_divideRound 122 = .ok (.sipush 446, 3) := by decide +kernel
theorem dX5_divideRound_125 : decode cX5_divideRound 125 = .ok (.iaload, 1) := by decide +kernel
theorem dX5_divideRound_126 : decode cX5_divideRound 126 = .ok (.ifCond .le 20, 3) := by decide +kernel
theorem dX5_divideRound_129 : decode cX5_divideRound 129 = .ok (.aload_n 0, 1) := by decide +kernel
theorem dX5_divideRound_130 : decode cX5_divideRound 130 = .ok (.sipush 448, 3) := by decide +kernel
theorem dX5_divideRound_133 : decode cX5_divideRound 133 = .ok (.iload_n 2, 1) := by decide +kernel
theorem dX5_divideRound_134 : decode cX5_divideRound 134 = .ok (.iadd, 1) := by decide +kernel
theorem dX5_divideRound_135 : decode cX5_divideRound 135 = .ok (.sipush 448, 3) := by decide +kernel
theorem dX5_divideRound_138 : decode cX5_divideRound 138 = .ok (.iload_n 2, 1) := by decide +kernel
theorem dX5_divideRound_139 : decode cX5_divideRound 139 = .ok (.iadd, 1) := by decide +kernel
theorem dX5_divideRound_140 : decode cX5_divideRound 140 = .ok (.sipush 447, 3) := by decide +kernel
theorem dX5_divideRound_143 : decode cX5_divideRound 143 = .ok (.invokevirtual 47, 3) := by decide +kernel
theorem dX5_divideRound_146 : decode cX5_divideRound 146 = .ok (.aload_n 0, 1) := by decide +kernel
theorem dX5_divideRound_147 : decode cX5_divideRound 147 = .ok (.getfield 16, 3) := by decide +kernel
theorem dX5_divideRound_150 : decode cX5_divideRound 150 = .ok (.sipush 448, 3) := by decide +kernel
theorem dX5_divideRound_153 : decode cX5_divideRound 153 = .ok (.iload_n 2, 1) := by decide +kernel
theorem dX5_divideRound_154 : decode cX5_divideRound 154 = .ok (.iadd, 1) := by decide +kernel
theorem dX5_divideRound_155 : decode cX5_divideRound 155 = .ok (.iload 4, 2) := by decide +kernel
theorem dX5_divideRound_157 : decode cX5_divideRound 157 = .ok (.ifCond .eq 20, 3) := by decide +kernel
theorem dX5_divideRound_160 : decode cX5_divideRound 160 = .ok (.aload_n 0, 1) := by decide +kernel
theorem dX5_divideRound_161 : decode cX5_divideRound 161 = .ok (.getfield 13, 3) := by decide +kernel
theorem dX5_divideRound_164 : decode cX5_divideRound 164 = .ok (.sipush 448, 3) := by decide +kernel
theorem dX5_divideRound_167 : decode cX5_divideRound 167 = .ok (.iload_n 2, 1) := by decide +kernel
theorem dX5_divideRound_168 : decode cX5_divideRound 168 = .ok (.iadd, 1) := by decide +kernel
theorem dX5_divideRound_169 : decode cX5_divideRound 169 = .ok (.iaload, 1) := by decide +kernel
theorem dX5_divideRound_170 : decode cX5_divideRound 170 = .ok (.ifCond .le 7, 3) := by decide +kernel
theorem dX5_divideRound_173 : decode cX5_divideRound 173 = .ok (.iconst 1, 1) := by decide +kernel
theorem dX5_divideRound_174 : decode cX5_divideRound 174 = .ok (.goto 4, 3) := by decide +kernel
theorem dX5_divideRound_177 : decode cX5_divideRound 177 = .ok (.iconst 0, 1) := by decide +kernel
theorem dX5_divideRound_178 : decode cX5_divideRound 178 = .ok (.bastore, 1) := by decide +kernel
theorem dX5_divideRound_179 : decode cX5_divideRound 179 = .ok (.iinc 2 1, 3) := by decide +kernel
theorem dX5_divideRound_182 : decode cX5_divideRound 182 = .ok (.goto (-111), 3) := by decide +kernel
theorem dX5_divideRound_185 : decode cX5_divideRound 185 = .ok (.aload_n 0, 1) := by decide +kernel
theorem dX5_divideRound_186 : decode cX5_divideRound 186 = .ok (.sipush 448, 3) := by decide +kernel
theorem dX5_divideRound_189 : decode cX5_divideRound 189 = .ok (.invokevirtual 106, 3) := by decide +kernel
theorem dX5_divideRound_192 : decode cX5_divideRound 192 = .ok (.ireturn, 1) := by decide +kernel
set_option maxRecDepth 20000 in
theorem ggX5_refuted_X5_placeOf : GoodIn wsX5_refuted wsX5_placeOf := goodIn_r _ [10] (by decide +kernel) (by decide +kernel)
set_option maxRecDepth 20000 in
theorem gX5_refuted_X5_placeOf : GoodIn wsX5_refuted (va_wsS RX5 99 yX5_placeOf wsX5_placeOf) := goodIn_app (goodIn_of _ (by decide +kernel)) ggX5_refuted_X5_placeOf
theorem dX5_refuted_0 : decode cX5_refuted 0 = .ok (.aload_n 0, 1) := by decide +kernel
theorem dX5_refuted_1 : decode cX5_refuted 1 = .ok (.iconst 0, 1) := by decide +kernel
theorem dX5_refuted_2 : decode cX5_refuted 2 = .ok (.putfield 34, 3) := by decide +kernel
theorem dX5_refuted_5 : decode cX5_refuted 5 = .ok (.aload_n 0, 1) := by decide +kernel
theorem dX5_refuted_6 : decode cX5_refuted 6 = .ok (.getfield 109, 3) := by decide +kernel
theorem dX5_refuted_9 : decode cX5_refuted 9 = .ok (.istore_n 1, 1) := by decide +kernel
theorem dX5_refuted_10 : decode cX5_refuted 10 = .ok (.iload_n 1, 1) := by decide +kernel
theorem dX5_refuted_11 : decode cX5_refuted 11 = .ok (.aload_n 0, 1) := by decide +kernel
theorem dX5_refuted_12 : decode cX5_refuted 12 = .ok (.getfield 96, 3) := by decide +kernel
theorem dX5_refuted_15 : decode cX5_refuted 15 = .ok (.if_icmp .ge 68, 3) := by decide +kernel
theorem dX5_refuted_18 : decode cX5_refuted 18 = .ok (.aload_n 0, 1) := by decide +kernel
theorem dX5_refuted_19 : decode cX5_refuted 19 = .ok (.getfield 16, 3) := by decide +kernel
theorem dX5_refuted_22 : decode cX5_refuted 22 = .ok (.iload_n 1, 1) := by decide +kernel
theorem dX5_refuted_23 : decode cX5_refuted 23 = .ok (.aload_n 0, 1) := by decide +kernel
theorem dX5_refuted_24 : decode cX5_refuted 24 = .ok (.getfield 24, 3) := by decide +kernel
theorem dX5_refuted_27 : decode cX5_refuted 27 = .ok (.invokestatic 99, 3) := by decide +kernel
theorem dX5_refuted_30 : decode cX5_refuted 30 = .ok (.baload, 1) := by decide +kernel
theorem dX5_refuted_31 : decode cX5_refuted 31 = .ok (.istore_n 2, 1) := by decide +kernel
theorem dX5_refuted_32 : decode cX5_refuted 32 = .ok (.iconst 0, 1) := by decide +kernel
theorem dX5_refuted_33 : decode cX5_refuted 33 = .ok (.istore_n 3, 1) := by decide +kernel
theorem dX5_refuted_34 : decode cX5_refuted 34 = .ok (.iload_n 3, 1) := by decide +kernel
theorem dX5_refuted_35 : decode cX5_refuted 35 = .ok (.aload_n 0, 1) := by decide +kernel
theorem dX5_refuted_36 : decode cX5_refuted 36 = .ok (.getfield 24, 3) := by decide +kernel
theorem dX5_refuted_39 : decode cX5_refuted 39 = .ok (.if_icmp .ge 32, 3) := by decide +kernel
theorem dX5_refuted_42 : decode cX5_refuted 42 = .ok (.iload_n 2, 1) := by decide +kernel
theorem dX5_refuted_43 : decode cX5_refuted 43 = .ok (.ifCond .eq 20, 3) := by decide +kernel
theorem dX5_refuted_46 : decode cX5_refuted 46 = .ok (.aload_n 0, 1) := by decide +kernel
theorem dX5_refuted_47 : decode cX5_refuted 47 = .ok (.getfield 13, 3) := by decide +kernel
theorem dX5_refuted_50 : decode cX5_refuted 50 = .ok (.iload_n 1, 1) := by decide +kernel
theorem dX5_refuted_51 : decode cX5_refuted 51 = .ok (.iload_n 3, 1) := by decide +kernel
theorem dX5_refuted_52 : decode cX5_refuted 52 = .ok (.invokestatic 99, 3) := by decide +kernel
theorem dX5_refuted_55 : decode cX5_refuted 55 = .ok (.iaload, 1) := by decide +kernel
theorem dX5_refuted_56 : decode cX5_refuted 56 = .ok (.ifCond .ne 7, 3) := by decide +kernel
theorem dX5_refuted_59 : decode cX5_refuted 59 = .ok (.iconst 1, 1) := by decide +kernel
theorem dX5_refuted_60 : decode cX5_refuted 60 = .ok (.goto 4, 3) := by decide +kernel
theorem dX5_refuted_63 : decode cX5_refuted 63 = .ok (.iconst 0, 1) := by decide +kernel
theorem dX5_refuted_64 : decode cX5_refuted 64 = .ok (.istore_n 2, 1) := by decide +kernel
theorem dX5_refuted_65 : decode cX5_refuted 65 = .ok (.iinc 3 1, 3) := by decide +kernel
theorem dX5_refuted_68 : decode cX5_refuted 68 = .ok (.goto (-34), 3) := by decide +kernel
theorem dX5_refuted_71 : decode cX5_refuted 71 = .ok (.iload_n 2, 1) := by decide +kernel
theorem dX5_refuted_72 : decode cX5_refuted 72 = .ok (.ifCond .eq 5, 3) := by decide +kernel
theorem dX5_refuted_75 : decode cX5_refuted 75 = .ok (.iconst 1, 1) := by decide +kernel
theorem dX5_refuted_76 : decode cX5_refuted 76 = .ok (.ireturn, 1) := by decide +kernel
theorem dX5_refuted_77 : decode cX5_refuted 77 = .ok (.iinc 1 1, 3) := by decide +kernel
theorem dX5_refuted_80 : decode cX5_refuted 80 = .ok (.goto (-70), 3) := by decide +kernel
theorem dX5_refuted_83 : decode cX5_refuted 83 = .ok (.iconst 0, 1) := by decide +kernel
theorem dX5_refuted_84 : decode cX5_refuted 84 = .ok (.ireturn, 1) := by decide +kernel
theorem dX5_rowCount_0 : decode cX5_rowCount 0 = .ok (.aload_n 0, 1) := by decide +kernel
theorem dX5_rowCount_1 : decode cX5_rowCount 1 = .ok (.iconst 0, 1) := by decide +kernel
theorem dX5_rowCount_2 : decode cX5_rowCount 2 = .ok (.putfield 34, 3) := by decide +kernel
theorem dX5_rowCount_5 : decode cX5_rowCount 5 = .ok (.aload_n 0, 1) := by decide +kernel
theorem dX5_rowCount_6 : decode cX5_rowCount 6 = .ok (.getfield 96, 3) := by decide +kernel
theorem dX5_rowCount_9 : decode cX5_rowCount 9 = .ok (.ireturn, 1) := by decide +kernel
set_option maxRecDepth 20000 in
theorem ggX5_evalStart_X5_clear : GoodIn wsX5_evalStart wsX5_clear := goodIn_r _ [7, 8, 9, 10, 11, 12, 13, 14, 15, 16, 17, 18, 19, 20, 21, 22, 23, 24] (by decide +kernel) (by decide +kernel)
set_option maxRecDepth 20000 in
theorem gX5_evalStart_X5_clear : GoodIn wsX5_evalStart (wsV RX5 62 RX5 yX5_clear wsX5_clear) := goodIn_app (goodIn_of _ (by decide +kernel)) ggX5_evalStart_X5_clear
theorem dX5_evalStart_0 : decode cX5_evalStart 0 = .ok (.aload_n 0, 1) := by decide +kernel
theorem dX5_evalStart_1 : decode cX5_evalStart 1 = .ok (.iconst 0, 1) := by decide +kernel
theorem dX5_evalStart_2 : decode cX5_evalStart 2 = .ok (.putfield 34, 3) := by decide +kernel
theorem dX5_evalStart_5 : decode cX5_evalStart 5 = .ok (.iconst 0, 1) := by decide +kernel
theorem dX5_evalStart_6 : decode cX5_evalStart 6 = .ok (.istore_n 1, 1) := by decide +kernel
theorem dX5_evalStart_7 : decode cX5_evalStart 7 = .ok (.iload_n 1, 1) := by decide +kernel
theorem dX5_evalStart_8 : decode cX5_evalStart 8 = .ok (.aload_n 0, 1) := by decide +kernel
theorem dX5_evalStart_9 : decode cX5_evalStart 9 = .ok (.getfield 24, 3) := by decide +kernel
theorem dX5_evalStart_12 : decode cX5_evalStart 12 = .ok (.if_icmp .ge 18, 3) := by decide +kernel
theorem dX5_evalStart_15 : decode cX5_evalStart 15 = .ok (.aload_n 0, 1) := by decide +kernel
theorem dX5_evalStart_16 : decode cX5_evalStart 16 = .ok (.sipush 434, 3) := by decide +kernel
theorem dX5_evalStart_19 : decode cX5_evalStart 19 = .ok (.iload_n 1, 1) := by decide +kernel
theorem dX5_evalStart_20 : decode cX5_evalStart 20 = .ok (.iadd, 1) := by decide +kernel
theorem dX5_evalStart_21 : decode cX5_evalStart 21 = .ok (.invokevirtual 62, 3) := by decide +kernel
theorem dX5_evalStart_24 : decode cX5_evalStart 24 = .ok (.iinc 1 1, 3) := by decide +kernel
theorem dX5_evalStart_27 : decode cX5_evalStart 27 = .ok (.goto (-20), 3) := by decide +kernel
theorem dX5_evalStart_30 : decode cX5_evalStart 30 = .ok (.iconst 1, 1) := by decide +kernel
theorem dX5_evalStart_31 : decode cX5_evalStart 31 = .ok (.ireturn, 1) := by decide +kernel
set_option maxRecDepth 20000 in
theorem ggX5_evalPoint_X5_settle : GoodIn wsX5_evalPoint wsX5_settle := goodIn_r _ [8, 9, 10, 11, 12, 13, 14, 15, 7, 16, 17, 22, 23, 24, 25, 26, 27, 28, 29, 30, 31, 32, 33, 34, 35, 36] (by decide +kernel) (by decide +kernel)
set_option maxRecDepth 20000 in
theorem gX5_evalPoint_X5_settle : GoodIn wsX5_evalPoint (wsV RX5 93 RX5 yX5_settle wsX5_settle) := goodIn_app (goodIn_of _ (by decide +kernel)) ggX5_evalPoint_X5_settle
set_option maxRecDepth 20000 in
theorem ggX5_evalPoint_X5_copy : GoodIn wsX5_evalPoint wsX5_copy := goodIn_r _ [21, 9, 12, 17, 22, 23, 24, 25, 26, 27, 28, 29, 30, 31, 32, 33, 34, 35, 36] (by decide +kernel) (by decide +kernel)
set_option maxRecDepth 20000 in
theorem gX5_evalPoint_X5_copy : GoodIn wsX5_evalPoint (wsV RX5 58 RX5 yX5_copy wsX5_copy) := goodIn_app (goodIn_of _ (by decide +kernel)) ggX5_evalPoint_X5_copy
theorem dX5_evalPoint_0 : decode cX5_evalPoint 0 = .ok (.aload_n 0, 1) := by decide +kernel
theorem dX5_evalPoint_1 : decode cX5_evalPoint 1 = .ok (.iconst 0, 1) := by decide +kernel
theorem dX5_evalPoint_2 : decode cX5_evalPoint 2 = .ok (.putfield 34, 3) := by decide +kernel
theorem dX5_evalPoint_5 : decode cX5_evalPoint 5 = .ok (.iload_n 1, 1) := by decide +kernel
theorem dX5_evalPoint_6 : decode cX5_evalPoint 6 = .ok (.ifCond .lt 18, 3) := by decide +kernel
theorem dX5_evalPoint_9 : decode cX5_evalPoint 9 = .ok (.iload_n 1, 1) := by decide +kernel
theorem dX5_evalPoint_10 : decode cX5_evalPoint 10 = .ok (.aload_n 0, 1) := by decide +kernel
theorem dX5_evalPoint_11 : decode cX5_evalPoint 11 = .ok (.getfield 24, 3) := by decide +kernel
theorem dX5_evalPoint_14 : decode cX5_evalPoint 14 = .ok (.if_icmp .ge 10, 3) := by decide +kernel
theorem dX5_evalPoint_17 : decode cX5_evalPoint 17 = .ok (.aload_n 0, 1) := by decide +kernel
theorem dX5_evalPoint_18 : decode cX5_evalPoint 18 = .ok (.getfield 84, 3) := by decide +kernel
theorem dX5_evalPoint_21 : decode cX5_evalPoint 21 = .ok (.ifCond .ne 5, 3) := by decide +kernel
theorem dX5_evalPoint_24 : decode cX5_evalPoint 24 = .ok (.iconst 0, 1) := by decide +kernel
theorem dX5_evalPoint_25 : decode cX5_evalPoint 25 = .ok (.ireturn, 1) := by decide +kernel
theorem dX5_evalPoint_26 : decode cX5_evalPoint 26 = .ok (.aload_n 0, 1) := by decide +kernel
theorem dX5_evalPoint_27 : decode cX5_evalPoint 27 = .ok (.getfield 84, 3) := by decide +kernel
theorem dX5_evalPoint_30 : decode cX5_evalPoint 30 = .ok (.iconst 1, 1) := by decide +kernel
theorem dX5_evalPoint_31 : decode cX5_evalPoint 31 = .ok (.if_icmp .ne 7, 3) := by decide +kernel
theorem dX5_evalPoint_34 : decode cX5_evalPoint 34 = .ok (.aload_n 0, 1) := by decide +kernel
theorem dX5_evalPoint_35 : decode cX5_evalPoint 35 = .ok (.invokevirtual 93, 3) := by decide +kernel
theorem dX5_evalPoint_38 : decode cX5_evalPoint 38 = .ok (.aload_n 0, 1) := by decide +kernel
theorem dX5_evalPoint_39 : decode cX5_evalPoint 39 = .ok (.iconst 2, 1) := by decide +kernel
theorem dX5_evalPoint_40 : decode cX5_evalPoint 40 = .ok (.putfield 84, 3) := by decide +kernel
theorem dX5_evalPoint_43 : decode cX5_evalPoint 43 = .ok (.aload_n 0, 1) := by decide +kernel
theorem dX5_evalPoint_44 : decode cX5_evalPoint 44 = .ok (.sipush 434, 3) := by decide +kernel
theorem dX5_evalPoint_47 : decode cX5_evalPoint 47 = .ok (.iload_n 1, 1) := by decide +kernel
theorem dX5_evalPoint_48 : decode cX5_evalPoint 48 = .ok (.iadd, 1) := by decide +kernel
theorem dX5_evalPoint_49 : decode cX5_evalPoint 49 = .ok (.sipush 440, 3) := by decide +kernel
theorem dX5_evalPoint_52 : decode cX5_evalPoint 52 = .ok (.invokevirtual 58, 3) := by decide +kernel
theorem dX5_evalPoint_55 : decode cX5_evalPoint 55 = .ok (.iconst 1, 1) := by decide +kernel
theorem dX5_evalPoint_56 : decode cX5_evalPoint 56 = .ok (.ireturn, 1) := by decide +kernel
set_option maxRecDepth 20000 in
theorem ggX5_holds_X5_clear : GoodIn wsX5_holds wsX5_clear := goodIn_r _ [8, 3, 2, 46, 47, 48, 49, 50, 51, 52, 53, 54, 55, 56, 57, 58, 59, 60] (by decide +kernel) (by decide +kernel)
set_option maxRecDepth 20000 in
theorem gX5_holds_X5_clear : GoodIn wsX5_holds (wsV RX5 62 RX5 yX5_clear wsX5_clear) := goodIn_app (goodIn_of _ (by decide +kernel)) ggX5_holds_X5_clear
set_option maxRecDepth 20000 in
theorem ggX5_holds_X5_placeOf : GoodIn wsX5_holds wsX5_placeOf := goodIn_r _ [11] (by decide +kernel) (by decide +kernel)
set_option maxRecDepth 20000 in
theorem gX5_holds_X5_placeOf : GoodIn wsX5_holds (va_wsS RX5 99 yX5_placeOf wsX5_placeOf) := goodIn_app (goodIn_of _ (by decide +kernel)) ggX5_holds_X5_placeOf
set_option maxRecDepth 20000 in
theorem ggX5_holds_X5_multiply : GoodIn wsX5_holds wsX5_multiply := goodIn_r _ [15, 3, 16, 17, 2, 18, 19, 20, 7, 21, 22, 23, 24, 25, 46, 47, 48, 49, 50, 51, 52, 53, 54, 55, 56, 57, 58, 59, 60] (by decide +kernel) (by decide +kernel)
set_option maxRecDepth 20000 in
theorem gX5_holds_X5_multiply : GoodIn wsX5_holds (wsV RX5 118 RX5 yX5_multiply wsX5_multiply) := goodIn_app (goodIn_of _ (by decide +kernel)) ggX5_holds_X5_multiply
set_option maxRecDepth 20000 in
theorem ggX5_holds_X5_add : GoodIn wsX5_holds wsX5_add := goodIn_r _ [29, 2, 3, 30, 31, 32, 7, 33, 16, 17, 18, 19, 20, 21, 22, 23, 24, 25, 34, 35, 36, 37, 38, 39, 40, 41, 46, 47, 48, 49, 50, 51, 52, 53, 54, 55, 56, 57, 58, 59, 60] (by decide +kernel) (by decide +kernel)
set_option maxRecDepth 20000 in
theorem gX5_holds_X5_add : GoodIn wsX5_holds (wsV RX5 121 RX5 yX5_add wsX5_add) := goodIn_app (goodIn_of _ (by decide +kernel)) ggX5_holds_X5_add
set_option maxRecDepth 20000 in
theorem ggX5_holds_X5_copy : GoodIn wsX5_holds wsX5_copy := goodIn_r _ [45, 3, 2, 16, 46, 47, 48, 49, 50, 51, 52, 53, 54, 55, 56, 57, 58, 59, 60] (by decide +kernel) (by decide +kernel)
set_option maxRecDepth 20000 in
theorem gX5_holds_X5_copy : GoodIn wsX5_holds (wsV RX5 58 RX5 yX5_copy wsX5_copy) := goodIn_app (goodIn_of _ (by decide +kernel)) ggX5_holds_X5_copy
theorem dX5_holds_0 : decode cX5_holds 0 = .ok (.aload_n 0, 1) := by decide +kernel
theorem dX5_holds_1 : decode cX5_holds 1 = .ok (.sipush 442, 3) := by decide +kernel
theorem dX5_holds_4 : decode cX5_holds 4 = .ok (.invokevirtual 62, 3) := by decide +kernel
theorem dX5_holds_7 : decode cX5_holds 7 = .ok (.iconst 0, 1) := by decide +kernel
theorem dX5_holds_8 : decode cX5_holds 8 = .ok (.istore_n 2, 1) := by decide +kernel
theorem dX5_holds_9 : decode cX5_holds 9 = .ok (.iload_n 2, 1) := by decide +kernel
theorem dX5_holds_10 : decode cX5_holds 10 = .ok (.aload_n 0, 1) := by decide +kernel
theorem dX5_holds_11 : decode cX5_holds 11 = .ok (.getfield 24, 3) := by decide +kernel
theorem dX5_holds_14 : decode cX5_holds 14 = .ok (.if_icmp .ge 49, 3) := by decide +kernel
theorem dX5_holds_17 : decode cX5_holds 17 = .ok (.aload_n 0, 1) := by decide +kernel
theorem dX5_holds_18 : decode cX5_holds 18 = .ok (.sipush 441, 3) := by decide +kernel
theorem dX5_holds_21 : decode cX5_holds 21 = .ok (.sipush 434, 3) := by decide +kernel
theorem dX5_holds_24 : decode cX5_holds 24 = .ok (.iload_n 2, 1) := by decide +kernel
theorem dX5_holds_25 : decode cX5_holds 25 = .ok (.iadd, 1) := by decide +kernel
theorem dX5_holds_26 : decode cX5_holds 26 = .ok (.iload_n 1, 1) := by decide +kernel
theorem dX5_holds_27 : decode cX5_holds 27 = .ok (.iload_n 2, 1) := by decide +kernel
theorem dX5_holds_28 : decode cX5_holds 28 = .ok (.invokestatic 99, 3) := by decide +kernel
theorem dX5_holds_31 : decode cX5_holds 31 = .ok (.invokevirtual 118, 3) := by decide +kernel
theorem dX5_holds_34 : decode cX5_holds 34 = .ok (.aload_n 0, 1) := by decide +kernel
theorem dX5_holds_35 : decode cX5_holds 35 = .ok (.sipush 443, 3) := by decide +kernel
theorem dX5_holds_38 : decode cX5_holds 38 = .ok (.sipush 442, 3) := by decide +kernel
theorem dX5_holds_41 : decode cX5_holds 41 = .ok (.sipush 441, 3) := by decide +kernel
theorem dX5_holds_44 : decode cX5_holds 44 = .ok (.invokevirtual 121, 3) := by decide +kernel
theorem dX5_holds_47 : decode cX5_holds 47 = .ok (.aload_n 0, 1) := by decide +kernel
theorem dX5_holds_48 : decode cX5_holds 48 = .ok (.sipush 442, 3) := by decide +kernel
theorem dX5_holds_51 : decode cX5_holds 51 = .ok (.sipush 443, 3) := by decide +kernel
theorem dX5_holds_54 : decode cX5_holds 54 = .ok (.invokevirtual 58, 3) := by decide +kernel
theorem dX5_holds_57 : decode cX5_holds 57 = .ok (.iinc 2 1, 3) := by decide +kernel
theorem dX5_holds_60 : decode cX5_holds 60 = .ok (.goto (-51), 3) := by decide +kernel
theorem dX5_holds_63 : decode cX5_holds 63 = .ok (.aload_n 0, 1) := by decide +kernel
theorem dX5_holds_64 : decode cX5_holds 64 = .ok (.getfield 16, 3) := by decide +kernel
theorem dX5_holds_67 : decode cX5_holds 67 = .ok (.sipush 442, 3) := by decide +kernel
theorem dX5_holds_70 : decode cX5_holds 70 = .ok (.aload_n 0, 1) := by decide +kernel
theorem dX5_holds_71 : decode cX5_holds 71 = .ok (.getfield 13, 3) := by decide +kernel
theorem dX5_holds_74 : decode cX5_holds 74 = .ok (.sipush 442, 3) := by decide +kernel
theorem dX5_holds_77 : decode cX5_holds 77 = .ok (.iaload, 1) := by decide +kernel
theorem dX5_holds_78 : decode cX5_holds 78 = .ok (.ifCond .le 18, 3) := by decide +kernel
theorem dX5_holds_81 : decode cX5_holds 81 = .ok (.aload_n 0, 1) := by decide +kernel
theorem dX5_holds_82 : decode cX5_holds 82 = .ok (.getfield 16, 3) := by decide +kernel
theorem dX5_holds_85 : decode cX5_holds 85 = .ok (.sipush 442, 3) := by decide +kernel
theorem dX5_holds_88 : decode cX5_holds 88 = .ok (.baload, 1) := by decide +kernel
theorem dX5_holds_89 : decode cX5_holds 89 = .ok (.ifCond .ne 7, 3) := by decide +kernel
theorem dX5_holds_92 : decode cX5_holds 92 = .ok (.iconst 1, 1) := by decide +kernel
theorem dX5_holds_93 : decode cX5_holds 93 = .ok (.goto 4, 3) := by decide +kernel
theorem dX5_holds_96 : decode cX5_holds 96 = .ok (.iconst 0, 1) := by decide +kernel
theorem dX5_holds_97 : decode cX5_holds 97 = .ok (.bastore, 1) := by decide +kernel
theorem dX5_holds_98 : decode cX5_holds 98 = .ok (.aload_n 0, 1) := by decide +kernel
theorem dX5_holds_99 : decode cX5_holds 99 = .ok (.sipush 443, 3) := by decide +kernel
theorem dX5_holds_102 : decode cX5_holds 102 = .ok (.iload_n 1, 1) := by decide +kernel
theorem dX5_holds_103 : decode cX5_holds 103 = .ok (.aload_n 0, 1) := by decide +kernel
theorem dX5_holds_104 : decode cX5_holds 104 = .ok (.getfield 24, 3) := by decide +kernel
theorem dX5_holds_107 : decode cX5_holds 107 = .ok (.invokestatic 99, 3) := by decide +kernel
theorem dX5_holds_110 : decode cX5_holds 110 = .ok (.sipush 442, 3) := by decide +kernel
theorem dX5_holds_113 : decode cX5_holds 113 = .ok (.invokevirtual 121, 3) := by decide +kernel
theorem dX5_holds_116 : decode cX5_holds 116 = .ok (.aload_n 0, 1) := by decide +kernel
theorem dX5_holds_117 : decode cX5_holds 117 = .ok (.getfield 16, 3) := by decide +kernel
theorem dX5_holds_120 : decode cX5_holds 120 = .ok (.sipush 443, 3) := by decide +kernel
theorem dX5_holds_123 : decode cX5_holds 123 = .ok (.baload, 1) := by decide +kernel
theorem dX5_holds_124 : decode cX5_holds 124 = .ok (.ifCond .ne 7, 3) := by decide +kernel
theorem dX5_holds_127 : decode cX5_holds 127 = .ok (.iconst 1, 1) := by decide +kernel
theorem dX5_holds_128 : decode cX5_holds 128 = .ok (.goto 4, 3) := by decide +kernel
theorem dX5_holds_131 : decode cX5_holds 131 = .ok (.iconst 0, 1) := by decide +kernel
theorem dX5_holds_132 : decode cX5_holds 132 = .ok (.ireturn, 1) := by decide +kernel
set_option maxRecDepth 20000 in
theorem ggX5_evalSatisfied_X5_holds : GoodIn wsX5_evalSatisfied wsX5_holds := goodIn_r _ [7, 8, 9, 10, 11, 12, 13, 6, 14, 15, 16, 17, 18, 19, 20, 21, 22, 23, 24, 25, 26, 27, 28, 29, 30, 31, 32, 33, 34, 35, 36, 37, 38, 39, 40, 41, 42, 43, 44, 45, 46, 47, 48, 49, 50, 51, 52, 53, 54, 55, 56, 57, 58, 59, 60, 61, 62, 63, 64, 65, 66] (by decide +kernel) (by decide +kernel)
set_option maxRecDepth 20000 in
theorem gX5_evalSatisfied_X5_holds : GoodIn wsX5_evalSatisfied (wsV RX5 130 RX5 yX5_holds wsX5_holds) := goodIn_app (goodIn_of _ (by decide +kernel)) ggX5_evalSatisfied_X5_holds
theorem dX5_evalSatisfied_0 : decode cX5_evalSatisfied 0 = .ok (.aload_n 0, 1) := by decide +kernel
theorem dX5_evalSatisfied_1 : decode cX5_evalSatisfied 1 = .ok (.iconst 0, 1) := by decide +kernel
theorem dX5_evalSatisfied_2 : decode cX5_evalSatisfied 2 = .ok (.putfield 34, 3) := by decide +kernel
theorem dX5_evalSatisfied_5 : decode cX5_evalSatisfied 5 = .ok (.iconst 0, 1) := by decide +kernel
theorem dX5_evalSatisfied_6 : decode cX5_evalSatisfied 6 = .ok (.istore_n 1, 1) := by decide +kernel
theorem dX5_evalSatisfied_7 : decode cX5_evalSatisfied 7 = .ok (.iload_n 1, 1) := by decide +kernel
theorem dX5_evalSatisfied_8 : decode cX5_evalSatisfied 8 = .ok (.aload_n 0, 1) := by decide +kernel
theorem dX5_evalSatisfied_9 : decode cX5_evalSatisfied 9 = .ok (.getfield 109, 3) := by decide +kernel
theorem dX5_evalSatisfied_12 : decode cX5_evalSatisfied 12 = .ok (.if_icmp .ge 19, 3) := by decide +kernel
theorem dX5_evalSatisfied_15 : decode cX5_evalSatisfied 15 = .ok (.aload_n 0, 1) := by decide +kernel
theorem dX5_evalSatisfied_16 : decode cX5_evalSatisfied 16 = .ok (.iload_n 1, 1) := by decide +kernel
theorem dX5_evalSatisfied_17 : decode cX5_evalSatisfied 17 = .ok (.invokevirtual 130, 3) := by decide +kernel
theorem dX5_evalSatisfied_20 : decode cX5_evalSatisfied 20 = .ok (.ifCond .ne 5, 3) := by decide +kernel
theorem dX5_evalSatisfied_23 : decode cX5_evalSatisfied 23 = .ok (.iconst 0, 1) := by decide +kernel
theorem dX5_evalSatisfied_24 : decode cX5_evalSatisfied 24 = .ok (.ireturn, 1) := by decide +kernel
theorem dX5_evalSatisfied_25 : decode cX5_evalSatisfied 25 = .ok (.iinc 1 1, 3) := by decide +kernel
theorem dX5_evalSatisfied_28 : decode cX5_evalSatisfied 28 = .ok (.goto (-21), 3) := by decide +kernel
theorem dX5_evalSatisfied_31 : decode cX5_evalSatisfied 31 = .ok (.iconst 1, 1) := by decide +kernel
theorem dX5_evalSatisfied_32 : decode cX5_evalSatisfied 32 = .ok (.ireturn, 1) := by decide +kernel
set_option maxRecDepth 20000 in
theorem ggX5_cell_X5_isRow : GoodIn wsX5_cell wsX5_isRow := goodIn_r _ [8, 9, 23, 24, 25, 26, 27, 28, 29, 30, 31, 32, 33, 34, 35, 36, 37] (by decide +kernel) (by decide +kernel)
set_option maxRecDepth 20000 in
theorem gX5_cell_X5_isRow : GoodIn wsX5_cell (wsV RX5 115 RX5 yX5_isRow wsX5_isRow) := goodIn_app (goodIn_of _ (by decide +kernel)) ggX5_cell_X5_isRow
set_option maxRecDepth 20000 in
theorem ggX5_cell_X5_refused : GoodIn wsX5_cell wsX5_refused := goodIn_r _ [13, 14, 23, 24, 25, 26, 27, 28, 29, 30, 31, 32, 33, 34, 35, 36, 37] (by decide +kernel) (by decide +kernel)
set_option maxRecDepth 20000 in
theorem gX5_cell_X5_refused : GoodIn wsX5_cell (wsV RX5 133 RX5 yX5_refused wsX5_refused) := goodIn_app (goodIn_of _ (by decide +kernel)) ggX5_cell_X5_refused
set_option maxRecDepth 20000 in
theorem ggX5_cell_X5_placeOf : GoodIn wsX5_cell wsX5_placeOf := goodIn_r _ [17] (by decide +kernel) (by decide +kernel)
set_option maxRecDepth 20000 in
theorem gX5_cell_X5_placeOf : GoodIn wsX5_cell (va_wsS RX5 99 yX5_placeOf wsX5_placeOf) := goodIn_app (goodIn_of _ (by decide +kernel)) ggX5_cell_X5_placeOf
set_option maxRecDepth 20000 in
theorem ggX5_cell_X5_limbOf : GoodIn wsX5_cell wsX5_limbOf := goodIn_r _ [21, 2, 22, 23, 24, 25, 26, 27, 28, 29, 30, 31, 32, 33, 34, 35, 36, 37] (by decide +kernel) (by decide +kernel)
set_option maxRecDepth 20000 in
theorem gX5_cell_X5_limbOf : GoodIn wsX5_cell (wsV RX5 37 RX5 yX5_limbOf wsX5_limbOf) := goodIn_app (goodIn_of _ (by decide +kernel)) ggX5_cell_X5_limbOf
theorem dX5_cell_0 : decode cX5_cell 0 = .ok (.aload_n 0, 1) := by decide +kernel
theorem dX5_cell_1 : decode cX5_cell 1 = .ok (.aload_n 0, 1) := by decide +kernel
theorem dX5_cell_2 : decode cX5_cell 2 = .ok (.iload_n 1, 1) := by decide +kernel
theorem dX5_cell_3 : decode cX5_cell 3 = .ok (.invokevirtual 115, 3) := by decide +kernel
theorem dX5_cell_6 : decode cX5_cell 6 = .ok (.ifCond .eq 25, 3) := by decide +kernel
theorem dX5_cell_9 : decode cX5_cell 9 = .ok (.iload_n 2, 1) := by decide +kernel
theorem dX5_cell_10 : decode cX5_cell 10 = .ok (.ifCond .lt 21, 3) := by decide +kernel
theorem dX5_cell_13 : decode cX5_cell 13 = .ok (.iload_n 2, 1) := by decide +kernel
theorem dX5_cell_14 : decode cX5_cell 14 = .ok (.aload_n 0, 1) := by decide +kernel
theorem dX5_cell_15 : decode cX5_cell 15 = .ok (.getfield 24, 3) := by decide +kernel
theorem dX5_cell_18 : decode cX5_cell 18 = .ok (.if_icmp .gt 13, 3) := by decide +kernel
theorem dX5_cell_21 : decode cX5_cell 21 = .ok (.iload_n 3, 1) := by decide +kernel
theorem dX5_cell_22 : decode cX5_cell 22 = .ok (.bipush (-2), 2) := by decide +kernel
theorem dX5_cell_24 : decode cX5_cell 24 = .ok (.if_icmp .lt 7, 3) := by decide +kernel
theorem dX5_cell_27 : decode cX5_cell 27 = .ok (.iconst 0, 1) := by decide +kernel
theorem dX5_cell_28 : decode cX5_cell 28 = .ok (.goto 4, 3) := by decide +kernel
theorem dX5_cell_31 : decode cX5_cell 31 = .ok (.iconst 1, 1) := by decide +kernel
theorem dX5_cell_32 : decode cX5_cell 32 = .ok (.invokevirtual 133, 3) := by decide +kernel
theorem dX5_cell_35 : decode cX5_cell 35 = .ok (.ifCond .eq 5, 3) := by decide +kernel
theorem dX5_cell_38 : decode cX5_cell 38 = .ok (.iconst 0, 1) := by decide +kernel
theorem dX5_cell_39 : decode cX5_cell 39 = .ok (.ireturn, 1) := by decide +kernel
theorem dX5_cell_40 : decode cX5_cell 40 = .ok (.iload_n 1, 1) := by decide +kernel
theorem dX5_cell_41 : decode cX5_cell 41 = .ok (.iload_n 2, 1) := by decide +kernel
theorem dX5_cell_42 : decode cX5_cell 42 = .ok (.invokestatic 99, 3) := by decide +kernel
theorem dX5_cell_45 : decode cX5_cell 45 = .ok (.istore 4, 2) := by decide +kernel
theorem dX5_cell_47 : decode cX5_cell 47 = .ok (.iload_n 3, 1) := by decide +kernel
theorem dX5_cell_48 : decode cX5_cell 48 = .ok (.iconst (-1), 1) := by decide +kernel
theorem dX5_cell_49 : decode cX5_cell 49 = .ok (.if_icmp .ne 33, 3) := by decide +kernel
theorem dX5_cell_52 : decode cX5_cell 52 = .ok (.aload_n 0, 1) := by decide +kernel
theorem dX5_cell_53 : decode cX5_cell 53 = .ok (.getfield 13, 3) := by decide +kernel
theorem dX5_cell_56 : decode cX5_cell 56 = .ok (.iload 4, 2) := by decide +kernel
theorem dX5_cell_58 : decode cX5_cell 58 = .ok (.iaload, 1) := by decide +kernel
theorem dX5_cell_59 : decode cX5_cell 59 = .ok (.ifCond .ne 7, 3) := by decide +kernel
theorem dX5_cell_62 : decode cX5_cell 62 = .ok (.iconst 0, 1) := by decide +kernel
theorem dX5_cell_63 : decode cX5_cell 63 = .ok (.goto 18, 3) := by decide +kernel
theorem dX5_cell_66 : decode cX5_cell 66 = .ok (.aload_n 0, 1) := by decide +kernel
theorem dX5_cell_67 : decode cX5_cell 67 = .ok (.getfield 16, 3) := by decide +kernel
theorem dX5_cell_70 : decode cX5_cell 70 = .ok (.iload 4, 2) := by decide +kernel
theorem dX5_cell_72 : decode cX5_cell 72 = .ok (.baload, 1) := by decide +kernel
theorem dX5_cell_73 : decode cX5_cell 73 = .ok (.ifCond .eq 7, 3) := by decide +kernel
theorem dX5_cell_76 : decode cX5_cell 76 = .ok (.iconst (-1), 1) := by decide +kernel
theorem dX5_cell_77 : decode cX5_cell 77 = .ok (.goto 4, 3) := by decide +kernel
theorem dX5_cell_80 : decode cX5_cell 80 = .ok (.iconst 1, 1) := by decide +kernel
theorem dX5_cell_81 : decode cX5_cell 81 = .ok (.ireturn, 1) := by decide +kernel
theorem dX5_cell_82 : decode cX5_cell 82 = .ok (.iload_n 3, 1) := by decide +kernel
theorem dX5_cell_83 : decode cX5_cell 83 = .ok (.bipush (-2), 2) := by decide +kernel
theorem dX5_cell_85 : decode cX5_cell 85 = .ok (.if_icmp .ne 13, 3) := by decide +kernel
theorem dX5_cell_88 : decode cX5_cell 88 = .ok (.aload_n 0, 1) := by decide +kernel
theorem dX5_cell_89 : decode cX5_cell 89 = .ok (.getfield 13, 3) := by decide +kernel
theorem dX5_cell_92 : decode cX5_cell 92 = .ok (.iload 4, 2) := by decide +kernel
theorem dX5_cell_94 : decode cX5_cell 94 = .ok (.iaload, 1) := by decide +kernel
theorem dX5_cell_95 : decode cX5_cell 95 = .ok (.goto 11, 3) := by decide +kernel
theorem dX5_cell_98 : decode cX5_cell 98 = .ok (.aload_n 0, 1) := by decide +kernel
theorem dX5_cell_99 : decode cX5_cell 99 = .ok (.iload 4, 2) := by decide +kernel
theorem dX5_cell_101 : decode cX5_cell 101 = .ok (.iload_n 3, 1) := by decide +kernel
theorem dX5_cell_102 : decode cX5_cell 102 = .ok (.invokevirtual 37, 3) := by decide +kernel
theorem dX5_cell_105 : decode cX5_cell 105 = .ok (.l2i, 1) := by decide +kernel
theorem dX5_cell_106 : decode cX5_cell 106 = .ok (.ireturn, 1) := by decide +kernel
set_option maxRecDepth 20000 in
theorem ggX5_count_X5_refused : GoodIn wsX5_count wsX5_refused := goodIn_r _ [11, 12, 13, 14, 15, 16, 17, 18, 19, 20, 21, 22, 23, 24, 25, 26, 27] (by decide +kernel) (by decide +kernel)
set_option maxRecDepth 20000 in
theorem gX5_count_X5_refused : GoodIn wsX5_count (wsV RX5 133 RX5 yX5_refused wsX5_refused) := goodIn_app (goodIn_of _ (by decide +kernel)) ggX5_count_X5_refused
theorem dX5_count_0 : decode cX5_count 0 = .ok (.aload_n 0, 1) := by decide +kernel
theorem dX5_count_1 : decode cX5_count 1 = .ok (.iload_n 1, 1) := by decide +kernel
theorem dX5_count_2 : decode cX5_count 2 = .ok (.ifCond .lt 12, 3) := by decide +kernel
theorem dX5_count_5 : decode cX5_count 5 = .ok (.iload_n 1, 1) := by decide +kernel
theorem dX5_count_6 : decode cX5_count 6 = .ok (.iconst 5, 1) := by decide +kernel
theorem dX5_count_7 : decode cX5_count 7 = .ok (.if_icmp .gt 7, 3) := by decide +kernel
theorem dX5_count_10 : decode cX5_count 10 = .ok (.iconst 0, 1) := by decide +kernel
theorem dX5_count_11 : decode cX5_count 11 = .ok (.goto 4, 3) := by decide +kernel
theorem dX5_count_14 : decode cX5_count 14 = .ok (.iconst 1, 1) := by decide +kernel
theorem dX5_count_15 : decode cX5_count 15 = .ok (.invokevirtual 133, 3) := by decide +kernel
theorem dX5_count_18 : decode cX5_count 18 = .ok (.ifCond .eq 5, 3) := by decide +kernel
theorem dX5_count_21 : decode cX5_count 21 = .ok (.iconst 0, 1) := by decide +kernel
theorem dX5_count_22 : decode cX5_count 22 = .ok (.ireturn, 1) := by decide +kernel
theorem dX5_count_23 : decode cX5_count 23 = .ok (.iload_n 1, 1) := by decide +kernel
theorem dX5_count_24 : decode cX5_count 24 = .ok (.tableswitch 77 0 4 #[36, 41, 46, 51, 64], 36) := by decide +kernel
theorem dX5_count_60 : decode cX5_count 60 = .ok (.aload_n 0, 1) := by decide +kernel
theorem dX5_count_61 : decode cX5_count 61 = .ok (.getfield 31, 3) := by decide +kernel
theorem dX5_count_64 : decode cX5_count 64 = .ok (.ireturn, 1) := by decide +kernel
theorem dX5_count_65 : decode cX5_count 65 = .ok (.aload_n 0, 1) := by decide +kernel
theorem dX5_count_66 : decode cX5_count 66 = .ok (.getfield 109, 3) := by decide +kernel
theorem dX5_count_69 : decode cX5_count 69 = .ok (.ireturn, 1) := by decide +kernel
theorem dX5_count_70 : decode cX5_count 70 = .ok (.aload_n 0, 1) := by decide +kernel
theorem dX5_count_71 : decode cX5_count 71 = .ok (.getfield 90, 3) := by decide +kernel
theorem dX5_count_74 : decode cX5_count 74 = .ok (.ireturn, 1) := by decide +kernel
theorem dX5_count_75 : decode cX5_count 75 = .ok (.aload_n 0, 1) := by decide +kernel
theorem dX5_count_76 : decode cX5_count 76 = .ok (.getfield 102, 3) := by decide +kernel
theorem dX5_count_79 : decode cX5_count 79 = .ok (.ifCond .eq 7, 3) := by decide +kernel
theorem dX5_count_82 : decode cX5_count 82 = .ok (.iconst 1, 1) := by decide +kernel
theorem dX5_count_83 : decode cX5_count 83 = .ok (.goto 4, 3) := by decide +kernel
theorem dX5_count_86 : decode cX5_count 86 = .ok (.iconst 0, 1) := by decide +kernel
theorem dX5_count_87 : decode cX5_count 87 = .ok (.ireturn, 1) := by decide +kernel
theorem dX5_count_88 : decode cX5_count 88 = .ok (.aload_n 0, 1) := by decide +kernel
theorem dX5_count_89 : decode cX5_count 89 = .ok (.getfield 112, 3) := by decide +kernel
theorem dX5_count_92 : decode cX5_count 92 = .ok (.ifCond .eq 7, 3) := by decide +kernel
theorem dX5_count_95 : decode cX5_count 95 = .ok (.iconst 1, 1) := by decide +kernel
theorem dX5_count_96 : decode cX5_count 96 = .ok (.goto 4, 3) := by decide +kernel
theorem dX5_count_99 : decode cX5_count 99 = .ok (.iconst 0, 1) := by decide +kernel
theorem dX5_count_100 : decode cX5_count 100 = .ok (.ireturn, 1) := by decide +kernel
theorem dX5_count_101 : decode cX5_count 101 = .ok (.aload_n 0, 1) := by decide +kernel
theorem dX5_count_102 : decode cX5_count 102 = .ok (.getfield 84, 3) := by decide +kernel
theorem dX5_count_105 : decode cX5_count 105 = .ok (.ireturn, 1) := by decide +kernel
end
section
/-! The world as a map: what each address holds. Rows of the kit over lists of cells, turned to maps. -/
abbrev zT : Type := va_G × ClassId × ClassId × ClassId × ClassId
abbrev zG : Type := Nat → Option va_E
def zP (Γ : zT) (G : zG) (H : Heap) : Prop := ∀ (a : Nat) (e : va_E), G a = some e → va_at Γ.1 vwCl (a, e) H
abbrev zTys (Γ : zT) : List (ClassId × FieldType) := [(Γ.2.1, .int), (Γ.2.2.1, .boolean), (Γ.2.2.2.1, .object RX3), (Γ.2.2.2.2, .long)]
def zK (Γ : zT) (U : State) : Prop := va_K Γ.1 vwCl (zTys Γ) U
def zA (G : zG) (sz : Nat) : Nat → Prop := fun q => (∃ e, G q = some e) ∨ sz ≤ q
def zM (Γ : zT) (A : Nat → Prop) (H0 : Heap) (G : zG) (H : Heap) (locs : List Loc) : Prop := zP Γ G H ∧ (∀ a e, G a = some e → A a) ∧ va_S A H0 H locs ∧ ∀ q, H0.size ≤ q → A q
abbrev zI (Γ : zT) (n : Nat) (d : Nat → Nat) : va_E := .inl (Γ.2.1, n, .inl (fun j => nI (d j)))
abbrev zB (Γ : zT) (n : Nat) (d : Nat → Nat) : va_E := .inl (Γ.2.2.1, n, .inl (fun j => nI (d j)))
abbrev zW (Γ : zT) (n : Nat) (f : Nat → Option Nat) : va_E := .inl (Γ.2.2.2.1, n, .inr (.inr (.inr (.inr f))))
abbrev zL (Γ : zT) (n : Nat) (f : Nat → Int64) : va_E := .inl (Γ.2.2.2.2, n, .inr (.inl f))
def zup (G : zG) (a : Nat) (e : va_E) : zG := fun x => if x = a then some e else G x
theorem zup_s (G : zG) (a : Nat) (e : va_E) : zup G a e a = some e := by simp [zup]
theorem zup_n (G : zG) {a x : Nat} (e : va_E) (h : x ≠ a) : zup G a e x = G x := by simp [zup, h]
theorem zup_zup (G : zG) (a : Nat) (e e2 : va_E) : zup (zup G a e) a e2 = zup G a e2 := by funext x; by_cases h : x = a <;> simp [zup, h]
theorem zup_comm (G : zG) {a b : Nat} (e e2 : va_E) (h : a ≠ b) : zup (zup G a e) b e2 = zup (zup G b e2) a e := by funext x; by_cases h1 : x = a <;> by_cases h2 : x = b <;> simp [zup, h1, h2] <;> omega
theorem zup_self (G : zG) {a : Nat} {e : va_E} (h : G a = some e) : zup G a e = G := by funext x; by_cases h1 : x = a <;> simp [zup, h1, h]
def zls (G : zG) (n : Nat) : va_W := (List.range n).filterMap (fun q => (G q).map (fun e => (q, e)))
theorem zls_mem {G : zG} {n : Nat} {q : Nat × va_E} : q ∈ zls G n ↔ q.1 < n ∧ G q.1 = some q.2 := by
  simp only [zls, List.mem_filterMap, List.mem_range, Option.map_eq_some_iff]
  constructor
  · rintro ⟨a, h1, e, h2, rfl⟩; exact ⟨h1, h2⟩
  · rintro ⟨h1, h2⟩; exact ⟨q.1, h1, q.2, h2, rfl⟩
theorem zls_pw (G : zG) (n : Nat) : (zls G n).Pairwise (fun a b => a.1 < b.1) := by
  refine List.Pairwise.filterMap (R := (· < ·)) _ ?_ List.pairwise_lt_range
  intro a a' h b hb b' hb'
  simp only [Option.map_eq_some_iff] at hb hb'
  obtain ⟨e, -, rfl⟩ := hb
  obtain ⟨e', -, rfl⟩ := hb'
  exact h
theorem zls_D {A : Nat → Prop} {G : zG} {n : Nat} (h : ∀ a e, G a = some e → A a) : va_D A (zls G n) := by
  refine ⟨fun i j p q hi hj e => ?_, fun k q hk => h q.1 q.2 (zls_mem.mp (List.mem_of_getElem? hk)).2⟩
  have hp := List.pairwise_iff_getElem.mp (zls_pw G n)
  obtain ⟨li, ei⟩ := List.getElem?_eq_some_iff.mp hi
  obtain ⟨lj, ej⟩ := List.getElem?_eq_some_iff.mp hj
  rcases Nat.lt_trichotomy i j with c | c | c
  · have := hp i j li lj c; rw [ei, ej] at this; omega
  · exact c
  · have := hp j i lj li c; rw [ei, ej] at this; omega
theorem zls_P {Γ : zT} {G : zG} {H : Heap} (h : zP Γ G H) : va_P Γ.1 vwCl (zls G H.size) H := fun k q hk => h q.1 q.2 (zls_mem.mp (List.mem_of_getElem? hk)).2
theorem zP.lt {Γ : zT} {G : zG} {H : Heap} (h : zP Γ G H) {a : Nat} {e : va_E} (ha : G a = some e) : a < H.size := (h a e ha).lt
theorem zls_get {Γ : zT} {G : zG} {H : Heap} (h : zP Γ G H) {a : Nat} {e : va_E} (ha : G a = some e) : ∃ k : Nat, (zls G H.size)[k]? = some (a, e) := List.getElem?_of_mem (zls_mem.mpr ⟨h.lt ha, ha⟩)
theorem zls_back {Γ : zT} {G : zG} {H H1 : Heap} (h : zP Γ G H) {a k : Nat} {e e' : va_E} (hk : (zls G H.size)[k]? = some (a, e)) (h1 : va_P Γ.1 vwCl ((zls G H.size).set k (a, e')) H1) : zP Γ (zup G a e') H1 := by
  intro x ex hx
  have hlk := (List.getElem?_eq_some_iff.mp hk).1
  by_cases hxa : x = a
  · subst hxa
    rw [zup_s] at hx
    cases hx
    exact h1 k _ (List.getElem?_set_self hlk)
  · rw [zup_n _ _ hxa] at hx
    obtain ⟨j, hj⟩ := zls_get h hx
    have hjk : k ≠ j := fun e => by subst e; rw [hk] at hj; cases hj; exact hxa rfl
    exact h1 j _ (by rw [List.getElem?_set_ne hjk]; exact hj)
theorem zM.upd {Γ : zT} {A : Nat → Prop} {H0 : Heap} {G : zG} {H H1 : Heap} {locs locs1 : List Loc} (h : zM Γ A H0 G H locs) {a k : Nat} {e e' : va_E} (hk : (zls G H.size)[k]? = some (a, e)) (h1 : va_P Γ.1 vwCl ((zls G H.size).set k (a, e')) H1) (hS : va_S A H0 H1 locs1) : zM Γ A H0 (zup G a e') H1 locs1 := by
  refine ⟨zls_back h.1 hk h1, fun x ex hx => ?_, hS, h.2.2.2⟩
  by_cases hxa : x = a
  · subst hxa
    exact h.2.1 x e (zls_mem.mp (List.mem_of_getElem? hk)).2
  · rw [zup_n _ _ hxa] at hx
    exact h.2.1 x ex hx
theorem zM.push {Γ : zT} {A : Nat → Prop} {H0 : Heap} {G : zG} {H H1 : Heap} {locs locs1 : List Loc} (h : zM Γ A H0 G H locs) {a : Nat} {e' : va_E} (h1 : va_P Γ.1 vwCl ((zls G H.size) ++ [(a, e')]) H1) (hD : va_D A ((zls G H.size) ++ [(a, e')])) (hS : va_S A H0 H1 locs1) : G a = none ∧ zM Γ A H0 (zup G a e') H1 locs1 := by
  have hlast : ((zls G H.size) ++ [(a, e')])[(zls G H.size).length]? = some (a, e') := by simp
  have hn : G a = none := by
    cases hG : G a with
    | none => rfl
    | some e =>
      obtain ⟨k, hk⟩ := zls_get h.1 hG
      have hl := (List.getElem?_eq_some_iff.mp hk).1
      have := hD.1 k _ (a, e) (a, e') (by rw [List.getElem?_append_left hl]; exact hk) hlast rfl
      omega
  refine ⟨hn, fun x ex hx => ?_, fun x ex hx => ?_, hS, h.2.2.2⟩
  · by_cases hxa : x = a
    · subst hxa
      rw [zup_s] at hx
      cases hx
      exact h1 _ _ hlast
    · rw [zup_n _ _ hxa] at hx
      obtain ⟨j, hj⟩ := zls_get h.1 hx
      exact h1 j _ (by rw [List.getElem?_append_left (List.getElem?_eq_some_iff.mp hj).1]; exact hj)
  · by_cases hxa : x = a
    · subst hxa
      exact hD.2 _ _ hlast
    · rw [zup_n _ _ hxa] at hx
      exact h.2.1 x ex hx
theorem z_one {Γ : zT} {G : zG} {H : Heap} (h : zP Γ G H) {a : Nat} {e : va_E} (ha : G a = some e) : va_P Γ.1 vwCl [(a, e)] H := by
  intro k q hk
  have : k < 1 := (List.getElem?_eq_some_iff.mp hk).1
  rw [show k = 0 by omega] at hk
  cases hk
  exact h a e ha
theorem z_updn (d : Nat → Nat) (i x : Nat) : upd (fun j => nI (d j)) i (nI x) = fun j => nI (va_up d i x j) := by
  funext j
  by_cases h : j = i <;> simp [upd, va_up, h]
section ZR
variable {p : Program} {l : Launch} {e : Env} {R : Room} {s : State} {m : MethodId} {args : Array Value} {below : List Frame} {meth : Method} {c : Code} {H : Heap} {locs : List Loc} {cells slots : Nat} {Q : State → Prop}
variable {cc : ByteArray} {pc : Nat} {ls : Array Slot} {rest : List Value} {Γ : zT} {A : Nat → Prop} {a : Nat} {H0 : Heap} {G : zG}
theorem z_asi {x y : Int32} (h : x = y) (k : W p l e R s m args below meth c H locs cells slots Q (F0 m pc ls (.int y :: rest))) : W p l e R s m args below meth c H locs cells slots Q (F0 m pc ls (.int x :: rest)) := h ▸ k
theorem z_asl {x y : Int64} (h : x = y) (k : W p l e R s m args below meth c H locs cells slots Q (F0 m pc ls (.long y :: rest))) : W p l e R s m args below meth c H locs cells slots Q (F0 m pc ls (.long x :: rest)) := h ▸ k
theorem z_asr {x y : Value} (h : x = y) (k : W p l e R s m args below meth c H locs cells slots Q (F0 m pc ls (y :: rest))) : W p l e R s m args below meth c H locs cells slots Q (F0 m pc ls (x :: rest)) := h ▸ k
theorem z_get {own ref C : String} {T : u_T} {N ci index : Nat} {Ts : List Cond} (hexec : p.tables.exec = Jvm.exec) (hb : c.code = cc) (hts : ∀ w ∈ Ts, w.before args s = true) (hin : ∀ w ∈ u_ws C T N, w ∈ Ts) (hown : s.vm.findClass own = some m.cls) (hK : zK Γ s) (hM : zM Γ A H0 G H locs) {fs : List Value} (he : G a = some (.inr (ci, fs))) (k : Nat) (hlink : (Cond.fieldLink own index ref (T k).2.1 (T k).2.2.1).before args s = true) (hsame : ref = (T k).1) (hc : vwCl[ci]? = some (C, T, N)) (hk : k < N) {v : Value} (hv : fs[k]? = some v) (hdg : decode cc pc = .ok (.getfield index, 3))
    (kk : W p l e R s m args below meth c H locs cells slots Q (F0 m (pc + 3) ls (v :: rest))) : W p l e R s m args below meth c H locs cells slots Q (F0 m pc ls (.ref a :: rest)) :=
  va_get (D := Γ.1) (ci := ci) (v := v) hexec hb hts hin hown hK (z_one hM.1 he) 0 rfl hc k hk hlink (fun x h => by subst hsame; exact h) hv hdg kk
theorem z_put {own ref C : String} {T : u_T} {N ci index : Nat} {Ts : List Cond} (hexec : p.tables.exec = Jvm.exec) (hb : c.code = cc) (hts : ∀ w ∈ Ts, w.before args s = true) (hin : ∀ w ∈ u_ws C T N, w ∈ Ts) (ty0 : Nat → FieldType) (hty : ∀ k, k < N → parseFieldDescriptor (T k).2.2.1 = some (ty0 k)) (hnm : ∀ a, a < N → ∀ b, b < N → a ≠ b → (T a).2.1 ≠ (T b).2.1) (hown : s.vm.findClass own = some m.cls) (hK : zK Γ s) (hM : zM Γ A H0 G H locs) {fs fs' : List Value} (he : G a = some (.inr (ci, fs))) (k : Nat) (hlink : (Cond.fieldLink own index ref (T k).2.1 (T k).2.2.1).before args s = true) (hsame : ref = (T k).1) (hc : vwCl[ci]? = some (C, T, N)) (hk : k < N) (hfin : (T k).2.2.2 = false) {v : Value} (hn : narrow (ty0 k) v = v) (hfit : fits (ty0 k) v = true) (hl : k < fs.length) (hfs : fs.set k v = fs')
    (hdg : decode cc pc = .ok (.putfield index, 3)) (kk : ∀ (H1 : Heap) (locs1 : List Loc), zM Γ A H0 (zup G a (.inr (ci, fs'))) H1 locs1 → W p l e R s m args below meth c H1 locs1 cells slots Q (F0 m (pc + 3) ls rest)) : W p l e R s m args below meth c H locs cells slots Q (F0 m pc ls (v :: .ref a :: rest)) := by
  obtain ⟨q0, hq0⟩ := zls_get hM.1 he
  subst hfs
  exact va_put (D := Γ.1) (ci := ci) (v := v) (ty := ty0 k) hexec hb hts hin ty0 hty hnm hown hK (zls_P hM.1) (zls_D hM.2.1) hM.2.2.1 q0 hq0 hc k hk hlink (fun x h => by subst hsame; exact h) hfin (hty k hk) hn hfit hl hdg (fun H1 locs1 hP _ hS => kk H1 locs1 (hM.upd hq0 hP hS))
theorem z_putF {own ref C : String} {T : u_T} {N ci index : Nat} {Ts : List Cond} (hexec : p.tables.exec = Jvm.exec) (hb : c.code = cc) (hts : ∀ w ∈ Ts, w.before args s = true) (hin : ∀ w ∈ u_ws C T N, w ∈ Ts) (ty0 : Nat → FieldType) (hty : ∀ k, k < N → parseFieldDescriptor (T k).2.2.1 = some (ty0 k)) (hnm : ∀ a, a < N → ∀ b, b < N → a ≠ b → (T a).2.1 ≠ (T b).2.1) (hown : s.vm.findClass own = some m.cls) (hK : zK Γ s) (hM : zM Γ A H0 G H locs) {fs fs' : List Value} (he : G a = some (.inr (ci, fs))) (k : Nat) (hlink : (Cond.fieldLink own index ref (T k).2.1 (T k).2.2.1).before args s = true) (hsame : ref = (T k).1) (hc : vwCl[ci]? = some (C, T, N)) (hk : k < N) (hfin : (T k).2.2.2 = true) (hin2 : meth.name = "<init>") (hdecl : (T k).1 = own) {v : Value} (hn : narrow (ty0 k) v = v) (hfit : fits (ty0 k) v = true) (hl : k < fs.length) (hfs : fs.set k v = fs')
    (hdg : decode cc pc = .ok (.putfield index, 3)) (kk : ∀ (H1 : Heap) (locs1 : List Loc), zM Γ A H0 (zup G a (.inr (ci, fs'))) H1 locs1 → W p l e R s m args below meth c H1 locs1 cells slots Q (F0 m (pc + 3) ls rest)) : W p l e R s m args below meth c H locs cells slots Q (F0 m pc ls (v :: .ref a :: rest)) := by
  obtain ⟨q0, hq0⟩ := zls_get hM.1 he
  subst hfs
  exact va_putF (D := Γ.1) (ci := ci) (v := v) (ty := ty0 k) hexec hb hts hin ty0 hty hnm hown hK (zls_P hM.1) (zls_D hM.2.1) hM.2.2.1 q0 hq0 hc k hk hlink (fun x h => by subst hsame; exact h) hfin hin2 hdecl (hty k hk) hn hfit hl hdg (fun H1 locs1 hP _ hS => kk H1 locs1 (hM.upd hq0 hP hS))
theorem z_ild (hexec : p.tables.exec = Jvm.exec) (hb : c.code = cc) (hK : zK Γ s) (hM : zM Γ A H0 G H locs) {n i : Nat} {d : Nat → Nat} (ha : G a = some (zI Γ n d)) (hi : i < n) (hn : n < 2 ^ 31) (hdg : decode cc pc = .ok (.iaload, 1))
    (kk : W p l e R s m args below meth c H locs cells slots Q (F0 m (pc + 1) ls (.int (nI (d i)) :: rest))) : W p l e R s m args below meth c H locs cells slots Q (F0 m pc ls (.int (nI i) :: .ref a :: rest)) :=
  va_iald (D := Γ.1) hexec hb hK (z_one hM.1 ha) 0 0 rfl rfl (vp_in_nI hi hn) hdg (by rw [nI_clamp (by omega)]; exact kk)
theorem z_ist (hexec : p.tables.exec = Jvm.exec) (hb : c.code = cc) (hK : zK Γ s) (hM : zM Γ A H0 G H locs) {n i x : Nat} {d : Nat → Nat} (ha : G a = some (zI Γ n d)) (hi : i < n) (hn : n < 2 ^ 31) (hdg : decode cc pc = .ok (.iastore, 1))
    (kk : ∀ (H1 : Heap) (locs1 : List Loc), zM Γ A H0 (zup G a (zI Γ n (va_up d i x))) H1 locs1 → W p l e R s m args below meth c H1 locs1 cells slots Q (F0 m (pc + 1) ls rest)) : W p l e R s m args below meth c H locs cells slots Q (F0 m pc ls (.int (nI x) :: .int (nI i) :: .ref a :: rest)) := by
  obtain ⟨q0, hq0⟩ := zls_get hM.1 ha
  refine va_iast (D := Γ.1) hexec hb hK (zls_P hM.1) (zls_D hM.2.1) hM.2.2.1 q0 0 hq0 rfl (vp_in_nI hi hn) hdg (fun H1 locs1 hP _ hS => ?_)
  rw [nI_clamp (by omega), z_updn] at hP
  exact kk H1 locs1 (hM.upd hq0 hP hS)
theorem z_zld (hexec : p.tables.exec = Jvm.exec) (hb : c.code = cc) (hK : zK Γ s) (hM : zM Γ A H0 G H locs) {n i : Nat} {d : Nat → Nat} (ha : G a = some (zB Γ n d)) (hi : i < n) (hn : n < 2 ^ 31) (hdg : decode cc pc = .ok (.baload, 1))
    (kk : W p l e R s m args below meth c H locs cells slots Q (F0 m (pc + 1) ls (.int (nI (d i)) :: rest))) : W p l e R s m args below meth c H locs cells slots Q (F0 m pc ls (.int (nI i) :: .ref a :: rest)) :=
  va_zald (D := Γ.1) hexec hb hK (z_one hM.1 ha) 0 1 rfl rfl (vp_in_nI hi hn) hdg (by rw [nI_clamp (by omega)]; exact kk)
theorem z_nar0 : vp_nar .boolean (nI 0) = nI 0 := rfl
theorem z_nar1 : vp_nar .boolean (nI 1) = nI 1 := rfl
theorem z_zst (hexec : p.tables.exec = Jvm.exec) (hb : c.code = cc) (hK : zK Γ s) (hM : zM Γ A H0 G H locs) {n i x : Nat} {d : Nat → Nat} (ha : G a = some (zB Γ n d)) (hi : i < n) (hn : n < 2 ^ 31) (hx2 : x < 2) (hdg : decode cc pc = .ok (.bastore, 1))
    (kk : ∀ (H1 : Heap) (locs1 : List Loc), zM Γ A H0 (zup G a (zB Γ n (va_up d i x))) H1 locs1 → W p l e R s m args below meth c H1 locs1 cells slots Q (F0 m (pc + 1) ls rest)) : W p l e R s m args below meth c H locs cells slots Q (F0 m pc ls (.int (nI x) :: .int (nI i) :: .ref a :: rest)) := by
  obtain ⟨q0, hq0⟩ := zls_get hM.1 ha
  refine va_zast (D := Γ.1) hexec hb hK (zls_P hM.1) (zls_D hM.2.1) hM.2.2.1 q0 1 hq0 rfl (vp_in_nI hi hn) hdg (fun H1 locs1 hP _ hS => ?_)
  rw [nI_clamp (by omega), show vp_nar .boolean (nI x) = nI x by rcases (show x = 0 ∨ x = 1 by omega) with rfl | rfl <;> rfl, z_updn] at hP
  exact kk H1 locs1 (hM.upd hq0 hP hS)
theorem z_ald (hexec : p.tables.exec = Jvm.exec) (hb : c.code = cc) (hK : zK Γ s) (hM : zM Γ A H0 G H locs) {n i q : Nat} {f : Nat → Option Nat} (ha : G a = some (zW Γ n f)) (hi : i < n) (hn : n < 2 ^ 31) (hq : f i = some q) (hdg : decode cc pc = .ok (.aaload, 1))
    (kk : W p l e R s m args below meth c H locs cells slots Q (F0 m (pc + 1) ls (.ref q :: rest))) : W p l e R s m args below meth c H locs cells slots Q (F0 m pc ls (.int (nI i) :: .ref a :: rest)) :=
  va_aldq (D := Γ.1) hexec hb hK (z_one hM.1 ha) 0 2 rfl rfl (vp_in_nI hi hn) hdg (by rw [nI_clamp (by omega), hq]; exact kk)
theorem z_ast (hexec : p.tables.exec = Jvm.exec) (hb : c.code = cc) (hK : zK Γ s) (hM : zM Γ A H0 G H locs) {n i v : Nat} {vs : List Value} {f : Nat → Option Nat} (ha : G a = some (zW Γ n f)) (hv : G v = some (.inr (5, vs))) (hi : i < n) (hn : n < 2 ^ 31) (hdg : decode cc pc = .ok (.aastore, 1))
    (kk : ∀ (H1 : Heap) (locs1 : List Loc), zM Γ A H0 (zup G a (zW Γ n (va_up f i (some v)))) H1 locs1 → W p l e R s m args below meth c H1 locs1 cells slots Q (F0 m (pc + 1) ls rest)) : W p l e R s m args below meth c H locs cells slots Q (F0 m pc ls (.ref v :: .int (nI i) :: .ref a :: rest)) := by
  obtain ⟨q0, hq0⟩ := zls_get hM.1 ha
  obtain ⟨q1, hq1⟩ := zls_get hM.1 hv
  refine va_astq (D := Γ.1) (r := (RX3, TX3, 3)) hexec hb hK (zls_P hM.1) (zls_D hM.2.1) hM.2.2.1 q0 2 q1 5 hq0 rfl hq1 rfl (vp_in_nI hi hn) hdg (fun H1 locs1 hP _ hS => ?_)
  rw [nI_clamp (by omega)] at hP
  exact kk H1 locs1 (hM.upd hq0 hP hS)
theorem z_lld (hexec : p.tables.exec = Jvm.exec) (hb : c.code = cc) (hK : zK Γ s) (hM : zM Γ A H0 G H locs) {n i : Nat} {f : Nat → Int64} (ha : G a = some (zL Γ n f)) (hi : i < n) (hn : n < 2 ^ 31) (hdg : decode cc pc = .ok (.laload, 1))
    (kk : W p l e R s m args below meth c H locs cells slots Q (F0 m (pc + 1) ls (.long (f i) :: rest))) : W p l e R s m args below meth c H locs cells slots Q (F0 m pc ls (.int (nI i) :: .ref a :: rest)) :=
  va_lald (D := Γ.1) hexec hb hK (z_one hM.1 ha) 0 3 rfl rfl (vp_in_nI hi hn) hdg (by rw [nI_clamp (by omega)]; exact kk)
theorem z_lst (hexec : p.tables.exec = Jvm.exec) (hb : c.code = cc) (hK : zK Γ s) (hM : zM Γ A H0 G H locs) {n i : Nat} {x : Int64} {f : Nat → Int64} (ha : G a = some (zL Γ n f)) (hi : i < n) (hn : n < 2 ^ 31) (hdg : decode cc pc = .ok (.lastore, 1))
    (kk : ∀ (H1 : Heap) (locs1 : List Loc), zM Γ A H0 (zup G a (zL Γ n (vp_updL f i x))) H1 locs1 → W p l e R s m args below meth c H1 locs1 cells slots Q (F0 m (pc + 1) ls rest)) : W p l e R s m args below meth c H locs cells slots Q (F0 m pc ls (.long x :: .int (nI i) :: .ref a :: rest)) := by
  obtain ⟨q0, hq0⟩ := zls_get hM.1 ha
  refine va_last (D := Γ.1) hexec hb hK (zls_P hM.1) (zls_D hM.2.1) hM.2.2.1 q0 3 hq0 rfl (vp_in_nI hi hn) hdg (fun H1 locs1 hP _ hS => ?_)
  rw [nI_clamp (by omega)] at hP
  exact kk H1 locs1 (hM.upd hq0 hP hS)
theorem z_alenI (hexec : p.tables.exec = Jvm.exec) (hb : c.code = cc) (hK : zK Γ s) (hM : zM Γ A H0 G H locs) {n : Nat} {d : Nat → Nat} (ha : G a = some (zI Γ n d)) (hdg : decode cc pc = .ok (.arraylength, 1))
    (kk : W p l e R s m args below meth c H locs cells slots Q (F0 m (pc + 1) ls (.int (nI n) :: rest))) : W p l e R s m args below meth c H locs cells slots Q (F0 m pc ls (.ref a :: rest)) :=
  va_alen (D := Γ.1) hexec hb hK (z_one hM.1 ha) 0 0 rfl rfl rfl hdg kk
theorem z_alenW (hexec : p.tables.exec = Jvm.exec) (hb : c.code = cc) (hK : zK Γ s) (hM : zM Γ A H0 G H locs) {n : Nat} {f : Nat → Option Nat} (ha : G a = some (zW Γ n f)) (hdg : decode cc pc = .ok (.arraylength, 1))
    (kk : W p l e R s m args below meth c H locs cells slots Q (F0 m (pc + 1) ls (.int (nI n) :: rest))) : W p l e R s m args below meth c H locs cells slots Q (F0 m pc ls (.ref a :: rest)) :=
  va_alen (D := Γ.1) hexec hb hK (z_one hM.1 ha) 0 2 rfl rfl rfl hdg kk
end ZR
end
section
/-! contracts over maps: a method's start, its end, calls -/
def zPre (Γ : zT) (G : zG) (sz : Nat) : State → Prop := fun U => U.heap.size = sz ∧ zP Γ G U.heap ∧ zK Γ U
def zPost (Γ : zT) (G : zG) (sz : Nat) : zG → State → Prop := fun G' t => zP Γ G' t.heap ∧ zK Γ t ∧ ∀ a e, G' a = some e → zA G sz a
abbrev zR (d : Nat) : Room := { frames := d, cells := 0, slots := 0, locals := 64 * d }
abbrev zMi (l : Launch) (y : MethodName) (ws : List Cond) (rm : Room) (Γ : zT) (G : zG) (sz : Nat) (av : List Value) (post : Int32 → zG → Prop) (mc ms : Nat) : Prop :=
  Met l y ws rm (va_Pc av (zPre Γ G sz)) (va_Qi post (zPost Γ G sz) (zA G sz)) mc ms (zA G sz)
abbrev zMl (l : Launch) (y : MethodName) (ws : List Cond) (rm : Room) (Γ : zT) (G : zG) (sz : Nat) (av : List Value) (post : Int64 → zG → Prop) (mc ms : Nat) : Prop :=
  Met l y ws rm (va_Pc av (zPre Γ G sz)) (va_Ql post (zPost Γ G sz) (zA G sz)) mc ms (zA G sz)
abbrev zMv (l : Launch) (y : MethodName) (ws : List Cond) (rm : Room) (Γ : zT) (G : zG) (sz : Nat) (av : List Value) (post : zG → Prop) (mc ms : Nat) : Prop :=
  Met l y ws rm (va_Pc av (zPre Γ G sz)) (va_Qv post (zPost Γ G sz) (zA G sz)) mc ms (zA G sz)
abbrev zMr (l : Launch) (y : MethodName) (ws : List Cond) (rm : Room) (Γ : zT) (G : zG) (sz : Nat) (av : List Value) (post : Nat → zG → Prop) (mc ms : Nat) : Prop :=
  Met l y ws rm (va_Pc av (zPre Γ G sz)) (va_Qr (fun _ : zG => True) (fun G' a t => post a G' ∧ zPost Γ G sz G' t) (zA G sz)) mc ms (zA G sz)
theorem zPre.blind (Γ : zT) (G : zG) (sz : Nat) (av : List Value) : FrameBlind (va_Pc av (zPre Γ G sz)) := fun a U g mk q => by
  obtain ⟨q0, q1, qP, qK⟩ := q
  exact ⟨q0, q1, qP, va_K.moved (u := U) (U := U.calling g mk a) (Vm.Alike.refl U.vm) qK⟩
theorem zM.self {Γ : zT} {G : zG} {H : Heap} (h : zP Γ G H) : zM Γ (zA G H.size) H G H [] := ⟨h, fun a e ha => Or.inl ⟨e, ha⟩, va_S.rf, fun q hq => Or.inr hq⟩
/-- a method's body, from its first instruction -/
theorem z_start {l : Launch} {y : MethodName} {ws ws' : List Cond} {rm : Room} {Γ : zT} {G : zG} {sz : Nat} {av : List Value} {Qc : Array Value → State → Outcome → State → Prop} {mc ms : Nat} {cc : ByteArray} {maxL : Nat} {ret : Option FieldType}
    (hy : plainName y.cls = true) (hw : ws = Cond.code y cc maxL ret :: ws') (hlen : (lg_sl av).length ≤ maxL)
    (body : ∀ (p : Program) (e : Env) (s : State) (m : MethodId) (args : Array Value) (below : List Frame) (meth : Method) (c : Code) (ls : Array Slot) (Q : State → Prop), Q = MQ below Qc args s mc ms (zA G sz) → s.heap.size = sz → p.tables.exec = Jvm.exec → c.code = cc → meth.sig.returnType = ret → c.maxLocals = maxL → s.vm.findClass y.cls = some m.cls → (∀ w ∈ ws, w.before args s = true) → meth.locks = false → meth.name = y.name → zK Γ s → zM Γ (zA G s.heap.size) s.heap G s.heap [] → lv_has ls maxL (lv_args 0 av) →
      W p l e rm s m args below meth c s.heap [] 0 0 Q (F0 m 0 ls [])) : Met l y ws rm (va_Pc av (zPre Γ G sz)) Qc mc ms (zA G sz) := by
  refine Met.ofW (cc := cc) (maxL := maxL) (ret := ret) hy hw ?_
  intro p e s m args below meth c s₁ B hml hv
  obtain ⟨rfl, hsz, hP, hK⟩ := hv
  have hl := lv_entry av (n := maxL) hlen
  rw [lg_entry_eq]
  exact body p e s m _ below meth c _ _ rfl hsz B.exec B.bytes B.returns hml (findClass_of_methodNamed B.named) (atoms_spec (ws := ws) B.pre) B.notSynchronized (name_of_methodNamed B.named B.method).1 hK (zM.self hP) hl
section ZE
variable {p : Program} {l : Launch} {e : Env} {R : Room} {s : State} {m : MethodId} {args : Array Value} {below : List Frame} {meth : Method} {c : Code} {H : Heap} {locs : List Loc} {cells slots : Nat} {Q : State → Prop}
variable {cc : ByteArray} {pc : Nat} {ls : Array Slot} {rest : List Value} {Γ : zT} {A : Nat → Prop} {a : Nat} {H0 : Heap} {G G' : zG} {sz : Nat}
theorem z_end (hsz : s.heap.size = sz) (hK : zK Γ s) (hM : zM Γ (zA G s.heap.size) s.heap G' H locs) : ∀ t : State, t.heap = H → s.WarmedH t.vm → zPost Γ G sz G' t ∧ va_F (zA G sz) s t := by
  subst hsz
  intro t ht hW
  exact ⟨⟨by rw [ht]; exact hM.1, va_K.moved hW.alike hK, hM.2.1⟩, hM.2.2.1.F ht⟩
theorem z_iret {post : Int32 → zG → Prop} {v : Int32} (hsz : s.heap.size = sz) (hexec : p.tables.exec = Jvm.exec) (hb : c.code = cc) (hr : meth.sig.returnType = some .int) (hlocks : meth.locks = false) (hK : zK Γ s) (hM : zM Γ (zA G s.heap.size) s.heap G' H locs) (hdg : decode cc pc = .ok (.ireturn, 1)) (hp : post v G') :
    W p l e R s m args below meth c H locs cells slots (MQ below (va_Qi post (zPost Γ G sz) (zA G sz)) args s cells slots (zA G sz)) (F0 m pc ls [.int v]) :=
  W.iret hexec hb hr (fun t ht hW => ⟨⟨v, G', rfl, hp, (z_end hsz hK hM t ht hW).1⟩, (z_end hsz hK hM t ht hW).2⟩) (by subst hsz; exact hM.2.2.1.2.2) hdg hlocks
theorem z_zret {post : Int32 → zG → Prop} {v : Nat} (hv : v < 2) (hsz : s.heap.size = sz) (hexec : p.tables.exec = Jvm.exec) (hb : c.code = cc) (hr : meth.sig.returnType = some .boolean) (hlocks : meth.locks = false) (hK : zK Γ s) (hM : zM Γ (zA G s.heap.size) s.heap G' H locs) (hdg : decode cc pc = .ok (.ireturn, 1)) (hp : post (nI v) G') :
    W p l e R s m args below meth c H locs cells slots (MQ below (va_Qi post (zPost Γ G sz) (zA G sz)) args s cells slots (zA G sz)) (F0 m pc ls [.int (nI v)]) :=
  W.zret (ty := .boolean) hexec hb hr (by rcases (show v = 0 ∨ v = 1 by omega) with rfl | rfl <;> rfl) (fun t ht hW => ⟨⟨nI v, G', rfl, hp, (z_end hsz hK hM t ht hW).1⟩, (z_end hsz hK hM t ht hW).2⟩) (by subst hsz; exact hM.2.2.1.2.2) hdg hlocks
theorem z_lret {post : Int64 → zG → Prop} {v : Int64} (hsz : s.heap.size = sz) (hexec : p.tables.exec = Jvm.exec) (hb : c.code = cc) (hr : meth.sig.returnType = some .long) (hlocks : meth.locks = false) (hK : zK Γ s) (hM : zM Γ (zA G s.heap.size) s.heap G' H locs) (hdg : decode cc pc = .ok (.lreturn, 1)) (hp : post v G') :
    W p l e R s m args below meth c H locs cells slots (MQ below (va_Ql post (zPost Γ G sz) (zA G sz)) args s cells slots (zA G sz)) (F0 m pc ls [.long v]) :=
  W.lret hexec hb hr (fun t ht hW => ⟨⟨v, G', rfl, hp, (z_end hsz hK hM t ht hW).1⟩, (z_end hsz hK hM t ht hW).2⟩) (by subst hsz; exact hM.2.2.1.2.2) hdg hlocks
theorem z_vret {post : zG → Prop} (hsz : s.heap.size = sz) (hexec : p.tables.exec = Jvm.exec) (hb : c.code = cc) (hr : meth.sig.returnType = none) (hlocks : meth.locks = false) (hK : zK Γ s) (hM : zM Γ (zA G s.heap.size) s.heap G' H locs) (hdg : decode cc pc = .ok (.return_, 1)) (hp : post G') :
    W p l e R s m args below meth c H locs cells slots (MQ below (va_Qv post (zPost Γ G sz) (zA G sz)) args s cells slots (zA G sz)) (F0 m pc ls []) :=
  W.vret hexec hb hr (fun t ht hW => ⟨⟨G', rfl, hp, (z_end hsz hK hM t ht hW).1⟩, (z_end hsz hK hM t ht hW).2⟩) (by subst hsz; exact hM.2.2.1.2.2) hdg hlocks
theorem z_aret {post : Nat → zG → Prop} {v : Nat} {ft : FieldType} (hsz : s.heap.size = sz) (hexec : p.tables.exec = Jvm.exec) (hb : c.code = cc) (hr : meth.sig.returnType = some (.array ft)) (hlocks : meth.locks = false) (hK : zK Γ s) (hM : zM Γ (zA G s.heap.size) s.heap G' H locs) (hdg : decode cc pc = .ok (.areturn, 1)) (hp : post v G') :
    W p l e R s m args below meth c H locs cells slots (MQ below (va_Qr (fun _ : zG => True) (fun G' a t => post a G' ∧ zPost Γ G sz G' t) (zA G sz)) args s cells slots (zA G sz)) (F0 m pc ls [.ref v]) :=
  W.aret hexec hb hr (Or.inr ⟨ft, rfl⟩) (Or.inr ⟨v, rfl⟩) (fun t ht hW => ⟨⟨G', v, rfl, trivial, hp, (z_end hsz hK hM t ht hW).1⟩, (z_end hsz hK hM t ht hW).2⟩) (by subst hsz; exact hM.2.2.1.2.2) hdg hlocks
/-- what a call's end gives the caller -/
theorem zM.call {G' : zG} {H1 : Heap} {locs1 : List Loc} {t : State} (hM : zM Γ A H0 G H locs) (ht : t.heap = H1) (hp : zPost Γ G H.size G' t) (hS : va_S A H0 H1 locs1) : zM Γ A H0 G' H1 locs1 := by
  refine ⟨by rw [← ht]; exact hp.1, fun a e ha => ?_, hS, hM.2.2.2⟩
  rcases hp.2.2 a e ha with ⟨e', h⟩ | h
  · exact hM.2.1 a e' h
  · exact hM.2.2.2 a (Nat.le_trans hM.2.2.1.1 h)
theorem zM.free (hM : zM Γ A H0 G H locs) : ∀ q, zA G H.size q → A q := by
  intro q h
  rcases h with ⟨e', h⟩ | h
  · exact hM.2.1 q e' h
  · exact hM.2.2.2 q (Nat.le_trans hM.2.2.1.1 h)
theorem zM.pre {As : List Value} (hK : zK Γ s) (hM : zM Γ A H0 G H locs) : PreS s H (va_Pc As (zPre Γ G H.size)) As :=
  ⟨zPre.blind Γ G H.size As, fun U hU hW => ⟨rfl, by rw [hU], by rw [hU]; exact hM.1, va_K.moved hW.alike hK⟩⟩
theorem zM.preV {As : List Value} {b ci : Nat} {fs : List Value} {q : vw_C} {C : String} (hK : zK Γ s) (hM : zM Γ A H0 G H locs) (hb : G b = some (.inr (ci, fs))) (hc : vwCl[ci]? = some q) (hC : q.1 = C) : PreV s H C b (va_Pc (.ref b :: As) (zPre Γ G H.size)) As :=
  ⟨zPre.blind Γ G H.size _, by subst hC; exact va_recv hK (z_one hM.1 hb) (q0 := 0) hc rfl, fun U hU hW => ⟨rfl, by rw [hU], by rw [hU]; exact hM.1, va_K.moved hW.alike hK⟩⟩
theorem z_calli {a : Array Value} {st0 : List Value} {mc ms : Nat} {post : Int32 → zG → Prop} (hr : va_Run p l e R s m args below meth c H locs cells slots mc ms (F0 m pc ls st0) rest (va_Qi post (zPost Γ G H.size) (zA G H.size) a) (zA G H.size)) (hM : zM Γ A H0 G H locs)
    (kk : ∀ (r : Int32) (G' : zG) (H1 : Heap) (locs1 : List Loc), post r G' → zM Γ A H0 G' H1 locs1 → W p l e R s m args below meth c H1 locs1 (cells + mc) (slots + ms) Q (F0 m (pc + 3) ls (.int r :: rest))) : W p l e R s m args below meth c H locs cells slots Q (F0 m pc ls st0) :=
  va_calli hr hM.2.2.1 (fun q _ h => hM.free q h) hM.free (fun r u t H1 locs1 ht _ hp hB _ _ hS => kk r u H1 locs1 hp (hM.call ht hB hS))
theorem z_calll {a : Array Value} {st0 : List Value} {mc ms : Nat} {post : Int64 → zG → Prop} (hr : va_Run p l e R s m args below meth c H locs cells slots mc ms (F0 m pc ls st0) rest (va_Ql post (zPost Γ G H.size) (zA G H.size) a) (zA G H.size)) (hM : zM Γ A H0 G H locs)
    (kk : ∀ (r : Int64) (G' : zG) (H1 : Heap) (locs1 : List Loc), post r G' → zM Γ A H0 G' H1 locs1 → W p l e R s m args below meth c H1 locs1 (cells + mc) (slots + ms) Q (F0 m (pc + 3) ls (.long r :: rest))) : W p l e R s m args below meth c H locs cells slots Q (F0 m pc ls st0) :=
  va_calll hr hM.2.2.1 (fun q _ h => hM.free q h) hM.free (fun r u t H1 locs1 ht _ hp hB _ _ hS => kk r u H1 locs1 hp (hM.call ht hB hS))
theorem z_callv {a : Array Value} {st0 : List Value} {mc ms : Nat} {post : zG → Prop} (hr : va_Run p l e R s m args below meth c H locs cells slots mc ms (F0 m pc ls st0) rest (va_Qv post (zPost Γ G H.size) (zA G H.size) a) (zA G H.size)) (hM : zM Γ A H0 G H locs)
    (kk : ∀ (G' : zG) (H1 : Heap) (locs1 : List Loc), post G' → zM Γ A H0 G' H1 locs1 → W p l e R s m args below meth c H1 locs1 (cells + mc) (slots + ms) Q (F0 m (pc + 3) ls rest)) : W p l e R s m args below meth c H locs cells slots Q (F0 m pc ls st0) :=
  va_callv hr hM.2.2.1 (fun q _ h => hM.free q h) hM.free (fun u t H1 locs1 ht _ hp hB _ _ hS => kk u H1 locs1 hp (hM.call ht hB hS))
theorem z_callr {a : Array Value} {st0 : List Value} {mc ms : Nat} {post : Nat → zG → Prop} (hr : va_Run p l e R s m args below meth c H locs cells slots mc ms (F0 m pc ls st0) rest (va_Qr (fun _ : zG => True) (fun G' a t => post a G' ∧ zPost Γ G H.size G' t) (zA G H.size) a) (zA G H.size)) (hM : zM Γ A H0 G H locs)
    (kk : ∀ (r : Nat) (G' : zG) (H1 : Heap) (locs1 : List Loc), post r G' → zM Γ A H0 G' H1 locs1 → W p l e R s m args below meth c H1 locs1 (cells + mc) (slots + ms) Q (F0 m (pc + 3) ls (.ref r :: rest))) : W p l e R s m args below meth c H locs cells slots Q (F0 m pc ls st0) :=
  va_callr hr hM.2.2.1 (fun q _ h => hM.free q h) hM.free (fun u ra t H1 locs1 ht _ _ hB _ _ hS => kk ra u H1 locs1 hB.1 (hM.call ht hB.2 hS))
theorem z_calli0 {a : Array Value} {st0 : List Value} {post : Int32 → zG → Prop} (hr : va_Run p l e R s m args below meth c H locs cells slots 0 0 (F0 m pc ls st0) rest (va_Qi post (zPost Γ G H.size) (zA G H.size) a) (zA G H.size)) (hM : zM Γ A H0 G H locs)
    (kk : ∀ (r : Int32) (G' : zG) (H1 : Heap) (locs1 : List Loc), post r G' → zM Γ A H0 G' H1 locs1 → W p l e R s m args below meth c H1 locs1 cells slots Q (F0 m (pc + 3) ls (.int r :: rest))) : W p l e R s m args below meth c H locs cells slots Q (F0 m pc ls st0) := z_calli hr hM kk
theorem z_calll0 {a : Array Value} {st0 : List Value} {post : Int64 → zG → Prop} (hr : va_Run p l e R s m args below meth c H locs cells slots 0 0 (F0 m pc ls st0) rest (va_Ql post (zPost Γ G H.size) (zA G H.size) a) (zA G H.size)) (hM : zM Γ A H0 G H locs)
    (kk : ∀ (r : Int64) (G' : zG) (H1 : Heap) (locs1 : List Loc), post r G' → zM Γ A H0 G' H1 locs1 → W p l e R s m args below meth c H1 locs1 cells slots Q (F0 m (pc + 3) ls (.long r :: rest))) : W p l e R s m args below meth c H locs cells slots Q (F0 m pc ls st0) := z_calll hr hM kk
theorem z_callv0 {a : Array Value} {st0 : List Value} {post : zG → Prop} (hr : va_Run p l e R s m args below meth c H locs cells slots 0 0 (F0 m pc ls st0) rest (va_Qv post (zPost Γ G H.size) (zA G H.size) a) (zA G H.size)) (hM : zM Γ A H0 G H locs)
    (kk : ∀ (G' : zG) (H1 : Heap) (locs1 : List Loc), post G' → zM Γ A H0 G' H1 locs1 → W p l e R s m args below meth c H1 locs1 cells slots Q (F0 m (pc + 3) ls rest)) : W p l e R s m args below meth c H locs cells slots Q (F0 m pc ls st0) := z_callv hr hM kk
end ZE
end
section
/-! numbers as digits of 31 bits -/
def bp (n : Nat) : Nat := 2147483648 ^ n
theorem bp_0 : bp 0 = 1 := rfl
theorem bp_1 : bp 1 = 2147483648 := rfl
theorem bp_s (n : Nat) : bp (n + 1) = 2147483648 * bp n := by simp only [bp, Nat.pow_succ]; omega
theorem bp_pos (n : Nat) : 0 < bp n := Nat.pow_pos (by decide)
theorem bp_add (a b : Nat) : bp (a + b) = bp a * bp b := Nat.pow_add ..
theorem bp_le {a b : Nat} (h : a ≤ b) : bp a ≤ bp b := Nat.pow_le_pow_right (by decide) h
theorem bp_lt {a b : Nat} (h : a < b) : bp a < bp b := Nat.pow_lt_pow_right (by decide) h
theorem bp_2 (n : Nat) : bp n = 2 ^ (31 * n) := by rw [Nat.pow_mul]; rfl
def vl (d : Nat → Nat) : Nat → Nat
  | 0 => 0
  | n + 1 => vl d n + d n * bp n
theorem vl_0 (d : Nat → Nat) : vl d 0 = 0 := rfl
theorem vl_s (d : Nat → Nat) (n : Nat) : vl d (n + 1) = vl d n + d n * bp n := rfl
def dg (d : Nat → Nat) (n : Nat) : Prop := ∀ k, k < n → d k < 2147483648
theorem dg.le {d : Nat → Nat} {n m : Nat} (h : dg d n) (hm : m ≤ n) : dg d m := fun k hk => h k (by omega)
theorem mul_le_r {a b : Nat} (c : Nat) (h : a ≤ b) : a * c ≤ b * c := Nat.mul_le_mul_right c h
theorem vl_lt {d : Nat → Nat} : ∀ {n : Nat}, dg d n → vl d n < bp n
  | 0, _ => by rw [vl_0, bp_0]; decide
  | n + 1, h => by
    have h1 := vl_lt (h.le (Nat.le_succ n))
    have h2 := mul_le_r (bp n) (show d n ≤ 2147483647 by have := h n (by omega); omega)
    rw [vl_s, bp_s]
    omega
theorem vl_congr {d d' : Nat → Nat} : ∀ {n : Nat}, (∀ k, k < n → d k = d' k) → vl d n = vl d' n
  | 0, _ => rfl
  | n + 1, h => by rw [vl_s, vl_s, vl_congr (fun k hk => h k (by omega)), h n (by omega)]
theorem vl_le_s (d : Nat → Nat) {n m : Nat} (h : n ≤ m) : vl d n ≤ vl d m := by
  induction m with
  | zero => rw [show n = 0 by omega]; exact Nat.le_refl _
  | succ m ih =>
    rcases Nat.lt_or_ge m n with h1 | h1
    · rw [show n = m + 1 by omega]; exact Nat.le_refl _
    · rw [vl_s]; have := ih h1; omega
/-- digits that are 0 from n on add nothing -/
theorem vl_pad {d : Nat → Nat} {n m : Nat} (h : n ≤ m) (hz : ∀ k, n ≤ k → k < m → d k = 0) : vl d m = vl d n := by
  induction m with
  | zero => rw [show n = 0 by omega]
  | succ m ih =>
    rcases Nat.lt_or_ge m n with h1 | h1
    · rw [show n = m + 1 by omega]
    · rw [vl_s, hz m h1 (by omega), ih h1 (fun k a b => hz k a (by omega))]; omega
theorem vl_top {d : Nat → Nat} {n : Nat} (h0 : 0 < n) (h : d (n - 1) ≠ 0) : bp (n - 1) ≤ vl d n := by
  obtain ⟨k, rfl⟩ : ∃ k, n = k + 1 := ⟨n - 1, by omega⟩
  rw [vl_s]
  have : 1 * bp k ≤ d k * bp k := mul_le_r _ (by simp at h; omega)
  simp at this ⊢
  omega
/-- the digits of a number -/
theorem vl_div {d : Nat → Nat} {n : Nat} (h : dg d n) {k : Nat} (hk : k ≤ n) : vl d n / bp k % bp (n - k) = vl (fun j => d (k + j)) (n - k) ∧ vl d n = vl d k + bp k * vl (fun j => d (k + j)) (n - k) := by
  have key : vl d n = vl d k + bp k * vl (fun j => d (k + j)) (n - k) := by
    obtain ⟨r, rfl⟩ : ∃ r, n = k + r := ⟨n - k, by omega⟩
    clear h
    rw [Nat.add_sub_cancel_left]
    induction r with
    | zero => simp [vl_0]
    | succ r ih =>
      rw [← Nat.add_assoc, vl_s, ih (by omega), vl_s, bp_add, Nat.mul_add]
      have : d (k + r) * (bp k * bp r) = bp k * (d (k + r) * bp r) := by rw [Nat.mul_left_comm]
      omega
  refine ⟨?_, key⟩
  have h1 := vl_lt (h.le hk)
  have h2 : vl (fun j => d (k + j)) (n - k) < bp (n - k) := vl_lt (fun j hj => h (k + j) (by omega))
  rw [key, Nat.add_mul_div_left _ _ (bp_pos k), Nat.div_eq_of_lt h1, Nat.zero_add, Nat.mod_eq_of_lt h2]
theorem vl_split (d : Nat → Nat) {n k : Nat} (hk : k ≤ n) : vl d n = vl d k + bp k * vl (fun j => d (k + j)) (n - k) := by
  obtain ⟨r, rfl⟩ : ∃ r, n = k + r := ⟨n - k, by omega⟩
  rw [Nat.add_sub_cancel_left]
  induction r with
  | zero => simp [vl_0]
  | succ r ih =>
    rw [← Nat.add_assoc, vl_s, ih (by omega), vl_s, bp_add, Nat.mul_add]
    have : d (k + r) * (bp k * bp r) = bp k * (d (k + r) * bp r) := by rw [Nat.mul_left_comm]
    omega
/-- how many digits a number has -/
def nl (v : Nat) : Nat := if v = 0 then 0 else v.log2 / 31 + 1
theorem nl_0 : nl 0 = 0 := rfl
theorem nl_lt (v : Nat) : v < bp (nl v) := by
  unfold nl
  by_cases h : v = 0
  · rw [if_pos h, h]; decide
  · rw [if_neg h, bp_2]
    refine Nat.lt_of_lt_of_le (Nat.lt_log2_self) (Nat.pow_le_pow_right (by decide) ?_)
    omega
theorem nl_ge {v : Nat} (h : v ≠ 0) : bp (nl v - 1) ≤ v := by
  unfold nl
  rw [if_neg h, Nat.add_sub_cancel, bp_2]
  refine Nat.le_trans (Nat.pow_le_pow_right (by decide) ?_) (Nat.log2_self_le h)
  omega
theorem nl_pos {v : Nat} : 0 < nl v ↔ v ≠ 0 := by
  unfold nl
  by_cases h : v = 0 <;> simp [h]
theorem nl_le {v n : Nat} (h : v < bp n) : nl v ≤ n := by
  by_cases h0 : v = 0
  · rw [h0, nl_0]; omega
  · rcases Nat.lt_or_ge n (nl v) with c | c
    · have := nl_ge h0
      have := bp_le (show n ≤ nl v - 1 by omega)
      omega
    · exact c
theorem nl_gt {v n : Nat} (h : bp n ≤ v) : n < nl v := by
  rcases Nat.lt_or_ge n (nl v) with c | c
  · exact c
  · have := nl_lt v
    have := bp_le c
    omega
theorem nl_eq {v n : Nat} (h1 : v < bp n) (h2 : 0 < n → bp (n - 1) ≤ v) : nl v = n := by
  have a := nl_le h1
  rcases Nat.eq_zero_or_pos n with c | c
  · omega
  · have := nl_gt (h2 c)
    omega
theorem nl_mono {v w : Nat} (h : v ≤ w) : nl v ≤ nl w := nl_le (Nat.lt_of_le_of_lt h (nl_lt w))
theorem nl_le_iff {v n : Nat} : nl v ≤ n ↔ v < bp n := ⟨fun h => Nat.lt_of_lt_of_le (nl_lt v) (bp_le h), nl_le⟩
theorem nl_vl {d : Nat → Nat} {n : Nat} (h : dg d n) (ht : 0 < n → d (n - 1) ≠ 0) : nl (vl d n) = n := nl_eq (vl_lt h) (fun h0 => vl_top h0 (ht h0))
/-- the length without zeros at the top -/
def tr (d : Nat → Nat) : Nat → Nat
  | 0 => 0
  | n + 1 => if d n = 0 then tr d n else n + 1
theorem tr_le (d : Nat → Nat) : ∀ n, tr d n ≤ n
  | 0 => Nat.le_refl 0
  | n + 1 => by unfold tr; split <;> have := tr_le d n <;> omega
theorem tr_top (d : Nat → Nat) : ∀ n, 0 < tr d n → d (tr d n - 1) ≠ 0
  | 0, h => by simp [tr] at h
  | n + 1, h => by
    unfold tr at h ⊢
    split
    · rename_i c; rw [if_pos c] at h; exact tr_top d n h
    · rename_i c; simpa using c
theorem tr_vl (d : Nat → Nat) : ∀ n, vl d (tr d n) = vl d n
  | 0 => rfl
  | n + 1 => by
    unfold tr
    split
    · rename_i c; rw [tr_vl d n, vl_s, c]; omega
    · rfl
theorem tr_nl {d : Nat → Nat} {n : Nat} (h : dg d n) : tr d n = nl (vl d n) := by
  rw [← tr_vl d n]
  exact (nl_vl (h.le (tr_le d n)) (tr_top d n)).symm
/-- two numbers by their digits from the top -/
theorem vl_cmp_lt {d d' : Nat → Nat} {n i : Nat} (hi : i < n) (h : dg d n) (h' : dg d' n) (he : ∀ k, i < k → k < n → d k = d' k) (hl : d i < d' i) : vl d n < vl d' n := by
  have key : vl d (i + 1) < vl d' (i + 1) := by
    rw [vl_s, vl_s]
    have a := vl_lt (h.le (show i ≤ n by omega))
    have b := mul_le_r (bp i) (show d i + 1 ≤ d' i by omega)
    rw [Nat.add_mul] at b
    omega
  rw [vl_split d (show i + 1 ≤ n by omega), vl_split d' (show i + 1 ≤ n by omega), vl_congr (d := fun j => d (i + 1 + j)) (d' := fun j => d' (i + 1 + j)) (fun k hk => he _ (by omega) (by omega))]
  omega
theorem vl_cmp_len {d d' : Nat → Nat} {n n' : Nat} (h : dg d n) (ht : 0 < n' → d' (n' - 1) ≠ 0) (hn : n < n') : vl d n < vl d' n' := by
  have a := vl_lt h
  have b := vl_top (d := d') (n := n') (by omega) (ht (by omega))
  have c := bp_le (show n ≤ n' - 1 by omega)
  omega
theorem vl_one (d : Nat → Nat) : vl d 1 = d 0 := by simp [vl, bp_0]
theorem vl_up {d : Nat → Nat} {i n x : Nat} (h : n ≤ i) : vl (va_up d i x) n = vl d n := vl_congr (fun k hk => va_up_ne _ _ (by omega))
end
section
/-! branches on numbers that are not below 0; numbers of 64 bits -/
section ZN
variable {p : Program} {l : Launch} {e : Env} {R : Room} {s : State} {m : MethodId} {args : Array Value} {below : List Frame} {meth : Method} {c : Code} {H : Heap} {locs : List Loc} {cells slots : Nat} {Q : State → Prop}
variable {cc : ByteArray} {pc : Nat} {ls : Array Slot} {rest : List Value}
theorem z_icmp_lt (hexec : p.tables.exec = Jvm.exec) (hb : c.code = cc) {x y : Nat} (h1 : x < 2 ^ 31) (h2 : y < 2 ^ 31) {off : Int} {tgt : Nat} (hdg : decode cc pc = .ok (.if_icmp .lt off, 3)) (ht : (pc : Int) + off = (tgt : Int))
    (kt : x < y → W p l e R s m args below meth c H locs cells slots Q (F0 m tgt ls rest)) (kf : y ≤ x → W p l e R s m args below meth c H locs cells slots Q (F0 m (pc + 3) ls rest)) : W p l e R s m args below meth c H locs cells slots Q (F0 m pc ls (.int (nI y) :: .int (nI x) :: rest)) :=
  lv_icmp_lt hexec hb hdg ht (fun h => kt ((nI_ltI h1 h2).mp h)) (fun h => kf (by have := mt (nI_ltI h1 h2).mpr h; omega))
theorem z_icmp_ge (hexec : p.tables.exec = Jvm.exec) (hb : c.code = cc) {x y : Nat} (h1 : x < 2 ^ 31) (h2 : y < 2 ^ 31) {off : Int} {tgt : Nat} (hdg : decode cc pc = .ok (.if_icmp .ge off, 3)) (ht : (pc : Int) + off = (tgt : Int))
    (kt : y ≤ x → W p l e R s m args below meth c H locs cells slots Q (F0 m tgt ls rest)) (kf : x < y → W p l e R s m args below meth c H locs cells slots Q (F0 m (pc + 3) ls rest)) : W p l e R s m args below meth c H locs cells slots Q (F0 m pc ls (.int (nI y) :: .int (nI x) :: rest)) :=
  lv_icmp_ge hexec hb hdg ht (fun h => kt ((nI_leI h2 h1).mp h)) (fun h => kf (by have := mt (nI_leI h2 h1).mpr h; omega))
theorem z_icmp_gt (hexec : p.tables.exec = Jvm.exec) (hb : c.code = cc) {x y : Nat} (h1 : x < 2 ^ 31) (h2 : y < 2 ^ 31) {off : Int} {tgt : Nat} (hdg : decode cc pc = .ok (.if_icmp .gt off, 3)) (ht : (pc : Int) + off = (tgt : Int))
    (kt : y < x → W p l e R s m args below meth c H locs cells slots Q (F0 m tgt ls rest)) (kf : x ≤ y → W p l e R s m args below meth c H locs cells slots Q (F0 m (pc + 3) ls rest)) : W p l e R s m args below meth c H locs cells slots Q (F0 m pc ls (.int (nI y) :: .int (nI x) :: rest)) :=
  lv_icmp_gt hexec hb hdg ht (fun h => kt ((nI_ltI h2 h1).mp h)) (fun h => kf (by have := mt (nI_ltI h2 h1).mpr h; omega))
theorem z_icmp_le (hexec : p.tables.exec = Jvm.exec) (hb : c.code = cc) {x y : Nat} (h1 : x < 2 ^ 31) (h2 : y < 2 ^ 31) {off : Int} {tgt : Nat} (hdg : decode cc pc = .ok (.if_icmp .le off, 3)) (ht : (pc : Int) + off = (tgt : Int))
    (kt : x ≤ y → W p l e R s m args below meth c H locs cells slots Q (F0 m tgt ls rest)) (kf : y < x → W p l e R s m args below meth c H locs cells slots Q (F0 m (pc + 3) ls rest)) : W p l e R s m args below meth c H locs cells slots Q (F0 m pc ls (.int (nI y) :: .int (nI x) :: rest)) :=
  lv_icmp_le hexec hb hdg ht (fun h => kt ((nI_leI h1 h2).mp h)) (fun h => kf (by have := mt (nI_leI h1 h2).mpr h; omega))
theorem z_icmp_eq (hexec : p.tables.exec = Jvm.exec) (hb : c.code = cc) {x y : Nat} (h1 : x < 2 ^ 31) (h2 : y < 2 ^ 31) {off : Int} {tgt : Nat} (hdg : decode cc pc = .ok (.if_icmp .eq off, 3)) (ht : (pc : Int) + off = (tgt : Int))
    (kt : x = y → W p l e R s m args below meth c H locs cells slots Q (F0 m tgt ls rest)) (kf : x ≠ y → W p l e R s m args below meth c H locs cells slots Q (F0 m (pc + 3) ls rest)) : W p l e R s m args below meth c H locs cells slots Q (F0 m pc ls (.int (nI y) :: .int (nI x) :: rest)) :=
  lv_icmp_eq hexec hb hdg ht (fun h => kt ((nI_eq h1 h2).mp h)) (fun h => kf (by have := mt (nI_eq h1 h2).mpr h; omega))
theorem z_icmp_ne (hexec : p.tables.exec = Jvm.exec) (hb : c.code = cc) {x y : Nat} (h1 : x < 2 ^ 31) (h2 : y < 2 ^ 31) {off : Int} {tgt : Nat} (hdg : decode cc pc = .ok (.if_icmp .ne off, 3)) (ht : (pc : Int) + off = (tgt : Int))
    (kt : x ≠ y → W p l e R s m args below meth c H locs cells slots Q (F0 m tgt ls rest)) (kf : x = y → W p l e R s m args below meth c H locs cells slots Q (F0 m (pc + 3) ls rest)) : W p l e R s m args below meth c H locs cells slots Q (F0 m pc ls (.int (nI y) :: .int (nI x) :: rest)) :=
  lv_icmp_ne hexec hb hdg ht (fun h => kt (mt (nI_eq h1 h2).mpr h)) (fun h => kf ((nI_eq h1 h2).mp h))
theorem z_if_eq (hexec : p.tables.exec = Jvm.exec) (hb : c.code = cc) {x : Nat} (h1 : x < 2 ^ 31) {off : Int} {tgt : Nat} (hdg : decode cc pc = .ok (.ifCond .eq off, 3)) (ht : (pc : Int) + off = (tgt : Int))
    (kt : x = 0 → W p l e R s m args below meth c H locs cells slots Q (F0 m tgt ls rest)) (kf : x ≠ 0 → W p l e R s m args below meth c H locs cells slots Q (F0 m (pc + 3) ls rest)) : W p l e R s m args below meth c H locs cells slots Q (F0 m pc ls (.int (nI x) :: rest)) := by
  have e0 : nI x = 0 ↔ x = 0 := nI_eq h1 (by decide)
  have e1 : nI x ≤ 0 ↔ x ≤ 0 := nI_leI h1 (by decide)
  have e2 : (0 : Int32) < nI x ↔ 0 < x := nI_ltI (by decide) h1
  refine lv_if_eq hexec hb hdg ht (fun h => kt ?_) (fun h => kf ?_)
  all_goals first | exact e0.mp h | exact e2.mp h | (have := e1.mp h; omega) | exact mt e0.mpr h | (have := mt e1.mpr h; omega) | (have := mt e2.mpr h; omega) | exact Classical.byContradiction (fun g => h (mt e0.mp g))
theorem z_if_ne (hexec : p.tables.exec = Jvm.exec) (hb : c.code = cc) {x : Nat} (h1 : x < 2 ^ 31) {off : Int} {tgt : Nat} (hdg : decode cc pc = .ok (.ifCond .ne off, 3)) (ht : (pc : Int) + off = (tgt : Int))
    (kt : x ≠ 0 → W p l e R s m args below meth c H locs cells slots Q (F0 m tgt ls rest)) (kf : x = 0 → W p l e R s m args below meth c H locs cells slots Q (F0 m (pc + 3) ls rest)) : W p l e R s m args below meth c H locs cells slots Q (F0 m pc ls (.int (nI x) :: rest)) := by
  have e0 : nI x = 0 ↔ x = 0 := nI_eq h1 (by decide)
  have e1 : nI x ≤ 0 ↔ x ≤ 0 := nI_leI h1 (by decide)
  have e2 : (0 : Int32) < nI x ↔ 0 < x := nI_ltI (by decide) h1
  refine lv_if_ne hexec hb hdg ht (fun h => kt ?_) (fun h => kf ?_)
  all_goals first | exact e0.mp h | exact e2.mp h | (have := e1.mp h; omega) | exact mt e0.mpr h | (have := mt e1.mpr h; omega) | (have := mt e2.mpr h; omega) | exact Classical.byContradiction (fun g => h (mt e0.mp g))
theorem z_if_gt (hexec : p.tables.exec = Jvm.exec) (hb : c.code = cc) {x : Nat} (h1 : x < 2 ^ 31) {off : Int} {tgt : Nat} (hdg : decode cc pc = .ok (.ifCond .gt off, 3)) (ht : (pc : Int) + off = (tgt : Int))
    (kt : 0 < x → W p l e R s m args below meth c H locs cells slots Q (F0 m tgt ls rest)) (kf : x = 0 → W p l e R s m args below meth c H locs cells slots Q (F0 m (pc + 3) ls rest)) : W p l e R s m args below meth c H locs cells slots Q (F0 m pc ls (.int (nI x) :: rest)) := by
  have e0 : nI x = 0 ↔ x = 0 := nI_eq h1 (by decide)
  have e1 : nI x ≤ 0 ↔ x ≤ 0 := nI_leI h1 (by decide)
  have e2 : (0 : Int32) < nI x ↔ 0 < x := nI_ltI (by decide) h1
  refine lv_if_gt hexec hb hdg ht (fun h => kt ?_) (fun h => kf ?_)
  all_goals first | exact e0.mp h | exact e2.mp h | (have := e1.mp h; omega) | exact mt e0.mpr h | (have := mt e1.mpr h; omega) | (have := mt e2.mpr h; omega) | exact Classical.byContradiction (fun g => h (mt e0.mp g))
theorem z_if_le (hexec : p.tables.exec = Jvm.exec) (hb : c.code = cc) {x : Nat} (h1 : x < 2 ^ 31) {off : Int} {tgt : Nat} (hdg : decode cc pc = .ok (.ifCond .le off, 3)) (ht : (pc : Int) + off = (tgt : Int))
    (kt : x = 0 → W p l e R s m args below meth c H locs cells slots Q (F0 m tgt ls rest)) (kf : 0 < x → W p l e R s m args below meth c H locs cells slots Q (F0 m (pc + 3) ls rest)) : W p l e R s m args below meth c H locs cells slots Q (F0 m pc ls (.int (nI x) :: rest)) := by
  have e0 : nI x = 0 ↔ x = 0 := nI_eq h1 (by decide)
  have e1 : nI x ≤ 0 ↔ x ≤ 0 := nI_leI h1 (by decide)
  have e2 : (0 : Int32) < nI x ↔ 0 < x := nI_ltI (by decide) h1
  refine lv_if_le hexec hb hdg ht (fun h => kt ?_) (fun h => kf ?_)
  all_goals first | exact e0.mp h | exact e2.mp h | (have := e1.mp h; omega) | exact mt e0.mpr h | (have := mt e1.mpr h; omega) | (have := mt e2.mpr h; omega) | exact Classical.byContradiction (fun g => h (mt e0.mp g))
theorem z_if_ltN (hexec : p.tables.exec = Jvm.exec) (hb : c.code = cc) {x : Nat} (h1 : x < 2 ^ 31) {off : Int} {tgt : Nat} (hdg : decode cc pc = .ok (.ifCond .lt off, 3)) (ht : (pc : Int) + off = (tgt : Int))
    (kf : W p l e R s m args below meth c H locs cells slots Q (F0 m (pc + 3) ls rest)) : W p l e R s m args below meth c H locs cells slots Q (F0 m pc ls (.int (nI x) :: rest)) :=
  lv_if_lt hexec hb hdg ht (fun h => absurd h (nI_pos h1)) (fun _ => kf)
theorem z_if_geN (hexec : p.tables.exec = Jvm.exec) (hb : c.code = cc) {x : Nat} (h1 : x < 2 ^ 31) {off : Int} {tgt : Nat} (hdg : decode cc pc = .ok (.ifCond .ge off, 3)) (ht : (pc : Int) + off = (tgt : Int))
    (kt : W p l e R s m args below meth c H locs cells slots Q (F0 m tgt ls rest)) : W p l e R s m args below meth c H locs cells slots Q (F0 m pc ls (.int (nI x) :: rest)) :=
  lv_if_ge hexec hb hdg ht (fun _ => kt) (fun h => absurd (nI_pos' h1) h)
theorem z_iinc (hexec : p.tables.exec = Jvm.exec) (hb : c.code = cc) {i nL k : Nat} {n : Int} {x v : Nat} {lv lv' : List (Nat × Value)} (hdg : decode cc pc = .ok (.iinc i n, 3)) (h : lv_has ls nL lv) (hk : lv[k]? = some (i, .int (nI x))) (hv : nI x + Int32.ofInt n = nI v) (hn : i < nL) (hl : (i, Value.int (nI v)) :: lv.filter (fun q => !(q.1 == i) && !(q.1 + 1 == i && q.2.category == 2)) = lv')
    (kk : ∀ ls' : Array Slot, lv_has ls' nL lv' → W p l e R s m args below meth c H locs cells slots Q (F0 m (pc + 3) ls' rest)) : W p l e R s m args below meth c H locs cells slots Q (F0 m pc ls rest) :=
  lv_iinc hexec hb hdg h hk hv hn hl kk
end ZN
theorem nI_p1 (x : Nat) : nI x + Int32.ofInt 1 = nI (x + 1) := (nI_1 x)
theorem nI_m1 {x : Nat} (h : 0 < x) : nI x + Int32.ofInt (-1) = nI (x - 1) := by
  obtain ⟨k, rfl⟩ : ∃ k, x = k + 1 := ⟨x - 1, by omega⟩
  exact pk_m1 k
theorem zl_bv (n : Nat) : (lN n).toBitVec = BitVec.ofNat 64 n := rfl
theorem zl_inj {a b : Int64} (h : a.toBitVec = b.toBitVec) : a = b := Int64.toBitVec_inj.mp h
theorem zl_tn {n : Nat} (h : n < 2 ^ 64) : (lN n).toBitVec.toNat = n := by rw [zl_bv, BitVec.toNat_ofNat]; exact Nat.mod_eq_of_lt h
/-- the low 31 bits of a long -/
theorem zl_and {n : Nat} (h : n < 2 ^ 64) : lN n &&& 2147483647 = lN (n % 2147483648) := by
  apply zl_inj
  apply BitVec.eq_of_toNat_eq
  rw [Int64.toBitVec_and, BitVec.toNat_and, zl_tn h, zl_tn (by omega), show (2147483647 : Int64).toBitVec.toNat = 2 ^ 31 - 1 from rfl, Nat.and_two_pow_sub_one_eq_mod]
theorem zi_and {n : Nat} (h : n < 2 ^ 32) : nI n &&& 2147483647 = nI (n % 2147483648) := pk_andN h 31 rfl
/-- an int out of a long -/
theorem zl_i (n : Nat) : (lN n).toInt32 = nI n := lN_i n
theorem zl_i31 {n : Nat} : (lN n).toInt32 &&& 2147483647 = nI (n % 2147483648) := by
  rw [zl_i]
  have h : nI n = nI (n % 2 ^ 32) := by
    apply Int32.toBitVec_inj.mp
    apply BitVec.eq_of_toNat_eq
    show (BitVec.ofNat 32 n).toNat = (BitVec.ofNat 32 (n % 2 ^ 32)).toNat
    simp
  rw [h, zi_and (Nat.mod_lt _ (by decide))]
  congr 1
  omega
theorem zl_ushr31 {n : Nat} (h : n < 2 ^ 64) : ((lN n).toUInt64 >>> ((nI 31).toInt64.toUInt64 &&& Int64.toUInt64 63)).toInt64 = lN (n / 2147483648) := by
  apply zl_inj
  apply BitVec.eq_of_toNat_eq
  rw [show ((nI 31).toInt64.toUInt64 &&& Int64.toUInt64 63) = 31 from by decide, zl_tn (by omega)]
  show ((lN n).toBitVec >>> (31 % 64 : BitVec 64)).toNat = _
  rw [show (31 % 64 : BitVec 64) = 31#64 from by decide]
  show ((lN n).toBitVec >>> (31 : Nat)).toNat = _
  rw [BitVec.toNat_ushiftRight, zl_tn h, Nat.shiftRight_eq_div_pow]
theorem zl_ti {n : Nat} (h : n < 2 ^ 63) : (lN n).toInt = (n : Int) := pk_lT h
theorem zl_shr31 {n : Nat} (h : n < 2 ^ 63) : lN n >>> ((nI 31).toInt64 &&& 63) = lN (n / 2147483648) := by
  rw [show ((nI 31).toInt64 &&& 63 : Int64) = 31 from by decide]
  apply zl_inj
  apply BitVec.eq_of_toNat_eq
  rw [zl_tn (by omega)]
  show ((lN n).toBitVec.sshiftRight' ((31 : Int64).toBitVec.smod 64)).toNat = _
  rw [show ((31 : Int64).toBitVec.smod 64) = 31#64 from by decide]
  show ((lN n).toBitVec.sshiftRight 31).toNat = _
  rw [BitVec.sshiftRight_eq_of_msb_false (by rw [BitVec.msb_eq_false_iff_two_mul_lt, zl_tn (by omega)]; omega), BitVec.toNat_ushiftRight, zl_tn (by omega), Nat.shiftRight_eq_div_pow]
theorem zl_shl31 {n : Nat} : lN n <<< ((nI 31).toInt64 &&& 63) = lN (n * 2147483648) := by
  rw [show ((nI 31).toInt64 &&& 63 : Int64) = 31 from by decide]
  apply zl_inj
  apply BitVec.eq_of_toNat_eq
  show ((lN n).toBitVec <<< ((31 : Int64).toBitVec.smod 64)).toNat = _
  rw [show ((31 : Int64).toBitVec.smod 64) = 31#64 from by decide, zl_bv, zl_bv]
  show (BitVec.ofNat 64 n <<< (31 : Nat)).toNat = _
  rw [BitVec.toNat_shiftLeft, BitVec.toNat_ofNat, BitVec.toNat_ofNat, Nat.shiftLeft_eq]
  show n % 2 ^ 64 * 2147483648 % 2 ^ 64 = _
  rw [Nat.mod_mul_mod]
theorem zl_or {a b : Nat} (hb : b < 2147483648) (ha : a * 2147483648 + b < 2 ^ 64) : lN (a * 2147483648) ||| lN b = lN (a * 2147483648 + b) := by
  apply zl_inj
  apply BitVec.eq_of_toNat_eq
  have h1 : a * 2147483648 < 2 ^ 64 := Nat.lt_of_le_of_lt (Nat.le_add_right _ _) ha
  have h2 : b < 2 ^ 64 := Nat.lt_of_le_of_lt (Nat.le_add_left _ _) ha
  rw [Int64.toBitVec_or, BitVec.toNat_or, zl_tn h1, zl_tn h2, zl_tn ha]
  have h3 := Nat.two_pow_add_eq_or_of_lt (i := 31) (show b < 2 ^ 31 from hb) a
  rw [show (2 : Nat) ^ 31 = 2147483648 from rfl, Nat.mul_comm] at h3
  exact h3.symm
section ZN2
variable {p : Program} {l : Launch} {e : Env} {R : Room} {s : State} {m : MethodId} {args : Array Value} {below : List Frame} {meth : Method} {c : Code} {H : Heap} {locs : List Loc} {cells slots : Nat} {Q : State → Prop}
variable {cc : ByteArray} {pc : Nat} {ls : Array Slot} {rest : List Value}
theorem z_iadd (hexec : p.tables.exec = Jvm.exec) (hb : c.code = cc) {x y : Nat} (hdg : decode cc pc = .ok (.iadd, 1))
    (k : W p l e R s m args below meth c H locs cells slots Q (F0 m (pc + 1) ls (.int (nI (x + y)) :: rest))) : W p l e R s m args below meth c H locs cells slots Q (F0 m pc ls (.int (nI y) :: .int (nI x) :: rest)) :=
  lv_iadd hexec hb hdg (by rw [nI_add]; exact k)
theorem z_imul (hexec : p.tables.exec = Jvm.exec) (hb : c.code = cc) {x y : Nat} (hdg : decode cc pc = .ok (.imul, 1))
    (k : W p l e R s m args below meth c H locs cells slots Q (F0 m (pc + 1) ls (.int (nI (x * y)) :: rest))) : W p l e R s m args below meth c H locs cells slots Q (F0 m pc ls (.int (nI y) :: .int (nI x) :: rest)) :=
  lv_imul hexec hb hdg (by rw [pk_mul]; exact k)
theorem z_isub (hexec : p.tables.exec = Jvm.exec) (hb : c.code = cc) {x y : Nat} (h : y ≤ x) (hdg : decode cc pc = .ok (.isub, 1))
    (k : W p l e R s m args below meth c H locs cells slots Q (F0 m (pc + 1) ls (.int (nI (x - y)) :: rest))) : W p l e R s m args below meth c H locs cells slots Q (F0 m pc ls (.int (nI y) :: .int (nI x) :: rest)) :=
  lv_isub hexec hb hdg (by rw [pk_sub h]; exact k)
theorem z_ladd (hexec : p.tables.exec = Jvm.exec) (hb : c.code = cc) {x y : Nat} (hdg : decode cc pc = .ok (.ladd, 1))
    (k : W p l e R s m args below meth c H locs cells slots Q (F0 m (pc + 1) ls (.long (lN (x + y)) :: rest))) : W p l e R s m args below meth c H locs cells slots Q (F0 m pc ls (.long (lN y) :: .long (lN x) :: rest)) :=
  lv_ladd hexec hb hdg (by rw [lN_add]; exact k)
theorem z_lmul (hexec : p.tables.exec = Jvm.exec) (hb : c.code = cc) {x y : Nat} (hdg : decode cc pc = .ok (.lmul, 1))
    (k : W p l e R s m args below meth c H locs cells slots Q (F0 m (pc + 1) ls (.long (lN (x * y)) :: rest))) : W p l e R s m args below meth c H locs cells slots Q (F0 m pc ls (.long (lN y) :: .long (lN x) :: rest)) :=
  lv_lmul hexec hb hdg (by rw [lN_mul]; exact k)
theorem z_i2l (hexec : p.tables.exec = Jvm.exec) (hb : c.code = cc) {x : Nat} (h : x < 2 ^ 31) (hdg : decode cc pc = .ok (.i2l, 1))
    (k : W p l e R s m args below meth c H locs cells slots Q (F0 m (pc + 1) ls (.long (lN x) :: rest))) : W p l e R s m args below meth c H locs cells slots Q (F0 m pc ls (.int (nI x) :: rest)) :=
  lv_i2l hexec hb hdg (nI_l h) k
theorem z_l2i (hexec : p.tables.exec = Jvm.exec) (hb : c.code = cc) {x : Nat} (hdg : decode cc pc = .ok (.l2i, 1))
    (k : W p l e R s m args below meth c H locs cells slots Q (F0 m (pc + 1) ls (.int (nI x) :: rest))) : W p l e R s m args below meth c H locs cells slots Q (F0 m pc ls (.long (lN x) :: rest)) :=
  lv_l2i hexec hb hdg (lN_i x) k
theorem z_land31 (hexec : p.tables.exec = Jvm.exec) (hb : c.code = cc) {x : Nat} (h : x < 2 ^ 64) (hdg : decode cc pc = .ok (.land, 1))
    (k : W p l e R s m args below meth c H locs cells slots Q (F0 m (pc + 1) ls (.long (lN (x % 2147483648)) :: rest))) : W p l e R s m args below meth c H locs cells slots Q (F0 m pc ls (.long 2147483647 :: .long (lN x) :: rest)) :=
  lv_land hexec hb hdg (by rw [zl_and h]; exact k)
theorem z_lshr31 (hexec : p.tables.exec = Jvm.exec) (hb : c.code = cc) {x : Nat} (h : x < 2 ^ 63) (hdg : decode cc pc = .ok (.lshr, 1))
    (k : W p l e R s m args below meth c H locs cells slots Q (F0 m (pc + 1) ls (.long (lN (x / 2147483648)) :: rest))) : W p l e R s m args below meth c H locs cells slots Q (F0 m pc ls (.int (nI 31) :: .long (lN x) :: rest)) :=
  lv_lshr hexec hb hdg (zl_shr31 h) k
theorem z_lushr31 (hexec : p.tables.exec = Jvm.exec) (hb : c.code = cc) {x : Nat} (h : x < 2 ^ 64) (hdg : decode cc pc = .ok (.lushr, 1))
    (k : W p l e R s m args below meth c H locs cells slots Q (F0 m (pc + 1) ls (.long (lN (x / 2147483648)) :: rest))) : W p l e R s m args below meth c H locs cells slots Q (F0 m pc ls (.int (nI 31) :: .long (lN x) :: rest)) :=
  lv_lushr hexec hb hdg (zl_ushr31 h) k
theorem z_lshl31 (hexec : p.tables.exec = Jvm.exec) (hb : c.code = cc) {x : Nat} (hdg : decode cc pc = .ok (.lshl, 1))
    (k : W p l e R s m args below meth c H locs cells slots Q (F0 m (pc + 1) ls (.long (lN (x * 2147483648)) :: rest))) : W p l e R s m args below meth c H locs cells slots Q (F0 m pc ls (.int (nI 31) :: .long (lN x) :: rest)) :=
  lv_lshl hexec hb hdg zl_shl31 k
theorem z_lor31 (hexec : p.tables.exec = Jvm.exec) (hb : c.code = cc) {x y : Nat} (h : y < 2147483648) (h2 : x * 2147483648 + y < 2 ^ 64) (hdg : decode cc pc = .ok (.lor, 1))
    (k : W p l e R s m args below meth c H locs cells slots Q (F0 m (pc + 1) ls (.long (lN (x * 2147483648 + y)) :: rest))) : W p l e R s m args below meth c H locs cells slots Q (F0 m pc ls (.long (lN y) :: .long (lN (x * 2147483648)) :: rest)) :=
  lv_lor hexec hb hdg (by rw [zl_or h h2]; exact k)
theorem z_iand31 (hexec : p.tables.exec = Jvm.exec) (hb : c.code = cc) {x : Nat} (h : x < 2 ^ 32) (hdg : decode cc pc = .ok (.iand, 1))
    (k : W p l e R s m args below meth c H locs cells slots Q (F0 m (pc + 1) ls (.int (nI (x % 2147483648)) :: rest))) : W p l e R s m args below meth c H locs cells slots Q (F0 m pc ls (.int (nI 2147483647) :: .int (nI x) :: rest)) :=
  lv_iand hexec hb hdg (by rw [show nI 2147483647 = (2147483647 : Int32) from rfl, zi_and h]; exact k)
theorem z_ldiv (hexec : p.tables.exec = Jvm.exec) (hb : c.code = cc) {x y : Nat} (h : x < 2 ^ 63) (h0 : 0 < y) (h2 : y < 2 ^ 63) (hdg : decode cc pc = .ok (.ldiv, 1))
    (k : W p l e R s m args below meth c H locs cells slots Q (F0 m (pc + 1) ls (.long (lN (x / y)) :: rest))) : W p l e R s m args below meth c H locs cells slots Q (F0 m pc ls (.long (lN y) :: .long (lN x) :: rest)) :=
  lv_ldiv hexec hb hdg (fun q => by have := (pk_lEQ h2 (show 0 < 2 ^ 63 by decide)).mp q; omega) (by rw [pk_lDiv h h0 h2]; exact k)
theorem z_lrem (hexec : p.tables.exec = Jvm.exec) (hb : c.code = cc) {x y : Nat} (h : x < 2 ^ 63) (h0 : 0 < y) (h2 : y < 2 ^ 63) (hdg : decode cc pc = .ok (.lrem, 1))
    (k : W p l e R s m args below meth c H locs cells slots Q (F0 m (pc + 1) ls (.long (lN (x % y)) :: rest))) : W p l e R s m args below meth c H locs cells slots Q (F0 m pc ls (.long (lN y) :: .long (lN x) :: rest)) :=
  lv_lrem hexec hb hdg (fun q => by have := (pk_lEQ h2 (show 0 < 2 ^ 63 by decide)).mp q; omega) (by rw [pk_lRem h h0 h2]; exact k)
theorem z_idiv (hexec : p.tables.exec = Jvm.exec) (hb : c.code = cc) {x y : Nat} (h : x < 2 ^ 31) (h0 : 0 < y) (h2 : y < 2 ^ 31) (hdg : decode cc pc = .ok (.idiv, 1))
    (k : W p l e R s m args below meth c H locs cells slots Q (F0 m (pc + 1) ls (.int (nI (x / y)) :: rest))) : W p l e R s m args below meth c H locs cells slots Q (F0 m pc ls (.int (nI y) :: .int (nI x) :: rest)) :=
  lv_idiv hexec hb hdg (nI_ne0 h0 h2) (by rw [pk_div h h0 h2]; exact k)
theorem z_irem (hexec : p.tables.exec = Jvm.exec) (hb : c.code = cc) {x y : Nat} (h : x < 2 ^ 31) (h0 : 0 < y) (h2 : y < 2 ^ 31) (hdg : decode cc pc = .ok (.irem, 1))
    (k : W p l e R s m args below meth c H locs cells slots Q (F0 m (pc + 1) ls (.int (nI (x % y)) :: rest))) : W p l e R s m args below meth c H locs cells slots Q (F0 m pc ls (.int (nI y) :: .int (nI x) :: rest)) :=
  lv_irem hexec hb hdg (nI_ne0 h0 h2) (by rw [pk_rem h h0 h2]; exact k)
end ZN2
end
section
/-! the reference's world: one object, three arrays -/
def mdO (lF lL lB : Nat) (fl : Nat → Int32) : List Value := [.int (fl 0), .int (fl 1), .int (fl 2), .int (fl 3), .ref lF, .ref lL, .ref lB, .int (fl 7), .int (fl 8), .int (fl 9), .int (fl 10), .int (fl 11), .int (fl 12), .int (fl 13), .int (fl 14)]
def md (Γ : zT) (o lF lL lB : Nat) (G0 : zG) (fl : Nat → Int32) (F L B : Nat → Nat) : zG := zup (zup (zup (zup G0 o (.inr (7, mdO lF lL lB fl))) lF (zI Γ 32760 F)) lL (zI Γ 455 L)) lB (zB Γ 455 B)
def mdk (o lF lL lB : Nat) : Prop := o ≠ lF ∧ o ≠ lL ∧ o ≠ lB ∧ lF ≠ lL ∧ lF ≠ lB ∧ lL ≠ lB
section MD
variable {Γ : zT} {o lF lL lB : Nat} {G0 : zG} {fl : Nat → Int32} {F L B : Nat → Nat}
theorem md_o (h : mdk o lF lL lB) : md Γ o lF lL lB G0 fl F L B o = some (.inr (7, mdO lF lL lB fl)) := by
  obtain ⟨h1, h2, h3, h4, h5, h6⟩ := h
  unfold md; rw [zup_n _ _ h3, zup_n _ _ h2, zup_n _ _ h1, zup_s]
theorem md_F (h : mdk o lF lL lB) : md Γ o lF lL lB G0 fl F L B lF = some (zI Γ 32760 F) := by
  obtain ⟨h1, h2, h3, h4, h5, h6⟩ := h
  unfold md; rw [zup_n _ _ h5, zup_n _ _ h4, zup_s]
theorem md_L (h : mdk o lF lL lB) : md Γ o lF lL lB G0 fl F L B lL = some (zI Γ 455 L) := by
  obtain ⟨h1, h2, h3, h4, h5, h6⟩ := h
  unfold md; rw [zup_n _ _ h6, zup_s]
theorem md_B (_ : mdk o lF lL lB) : md Γ o lF lL lB G0 fl F L B lB = some (zB Γ 455 B) := by
  unfold md; rw [zup_s]
theorem md_uB (_ : mdk o lF lL lB) (B' : Nat → Nat) : zup (md Γ o lF lL lB G0 fl F L B) lB (zB Γ 455 B') = md Γ o lF lL lB G0 fl F L B' := by
  unfold md; rw [zup_zup]
theorem md_uL (h : mdk o lF lL lB) (L' : Nat → Nat) : zup (md Γ o lF lL lB G0 fl F L B) lL (zI Γ 455 L') = md Γ o lF lL lB G0 fl F L' B := by
  obtain ⟨h1, h2, h3, h4, h5, h6⟩ := h
  unfold md; rw [zup_comm _ _ _ (Ne.symm h6), zup_zup]
theorem md_uF (h : mdk o lF lL lB) (F' : Nat → Nat) : zup (md Γ o lF lL lB G0 fl F L B) lF (zI Γ 32760 F') = md Γ o lF lL lB G0 fl F' L B := by
  obtain ⟨h1, h2, h3, h4, h5, h6⟩ := h
  unfold md; rw [zup_comm _ _ _ (Ne.symm h5), zup_comm _ _ _ (Ne.symm h4), zup_zup]
theorem md_uo (h : mdk o lF lL lB) (fl' : Nat → Int32) : zup (md Γ o lF lL lB G0 fl F L B) o (.inr (7, mdO lF lL lB fl')) = md Γ o lF lL lB G0 fl' F L B := by
  obtain ⟨h1, h2, h3, h4, h5, h6⟩ := h
  unfold md; rw [zup_comm _ _ _ (Ne.symm h3), zup_comm _ _ _ (Ne.symm h2), zup_comm _ _ _ (Ne.symm h1), zup_zup]
end MD
section MR
variable {p : Program} {l : Launch} {e : Env} {R : Room} {s : State} {m : MethodId} {args : Array Value} {below : List Frame} {meth : Method} {c : Code} {H : Heap} {locs : List Loc} {cells slots : Nat} {Q : State → Prop}
variable {cc : ByteArray} {pc : Nat} {ls : Array Slot} {rest : List Value} {Γ : zT} {A : Nat → Prop} {H0 : Heap} {o lF lL lB : Nat} {G0 : zG} {fl : Nat → Int32} {F L B : Nat → Nat}
theorem m_get {own ref : String} {index : Nat} {Ts : List Cond} (hok : mdk o lF lL lB) (hexec : p.tables.exec = Jvm.exec) (hb : c.code = cc) (hts : ∀ w ∈ Ts, w.before args s = true) (hin : ∀ w ∈ wsX50, w ∈ Ts) (hown : s.vm.findClass own = some m.cls) (hK : zK Γ s) (hM : zM Γ A H0 (md Γ o lF lL lB G0 fl F L B) H locs) (k : Nat) (hlink : (Cond.fieldLink own index ref (TX5 k).2.1 (TX5 k).2.2.1).before args s = true) (hsame : ref = (TX5 k).1) (hk : k < 15) {v : Value} (hv : (mdO lF lL lB fl)[k]? = some v) (hdg : decode cc pc = .ok (.getfield index, 3))
    (kk : W p l e R s m args below meth c H locs cells slots Q (F0 m (pc + 3) ls (v :: rest))) : W p l e R s m args below meth c H locs cells slots Q (F0 m pc ls (.ref o :: rest)) :=
  z_get (C := RX5) (T := TX5) (N := 15) hexec hb hts hin hown hK hM (md_o hok) k hlink hsame rfl hk hv hdg kk
theorem m_put {own ref : String} {index : Nat} {Ts : List Cond} (hok : mdk o lF lL lB) (hexec : p.tables.exec = Jvm.exec) (hb : c.code = cc) (hts : ∀ w ∈ Ts, w.before args s = true) (hin : ∀ w ∈ wsX50, w ∈ Ts) (hown : s.vm.findClass own = some m.cls) (hK : zK Γ s) (hM : zM Γ A H0 (md Γ o lF lL lB G0 fl F L B) H locs) (k : Nat) {v : Int32} (hlink : (Cond.fieldLink own index ref (TX5 k).2.1 (TX5 k).2.2.1).before args s = true) (hsame : ref = (TX5 k).1) (hk : k < 15) (hfin : (TX5 k).2.2.2 = false) (hn : narrow (tyX5 k) (.int v) = .int v) (hfit : fits (tyX5 k) (.int v) = true) {fl' : Nat → Int32} (hfs : (mdO lF lL lB fl).set k (.int v) = mdO lF lL lB fl') (hdg : decode cc pc = .ok (.putfield index, 3))
    (kk : ∀ (H1 : Heap) (locs1 : List Loc), zM Γ A H0 (md Γ o lF lL lB G0 fl' F L B) H1 locs1 → W p l e R s m args below meth c H1 locs1 cells slots Q (F0 m (pc + 3) ls rest)) : W p l e R s m args below meth c H locs cells slots Q (F0 m pc ls (.int v :: .ref o :: rest)) := by
  refine z_put (C := RX5) (T := TX5) (N := 15) hexec hb hts hin tyX5 tyX5_ok nmX5 hown hK hM (md_o hok) k hlink hsame rfl hk hfin hn hfit (by simpa [mdO] using hk) hfs hdg (fun H1 locs1 hM1 => ?_)
  rw [md_uo hok] at hM1
  exact kk H1 locs1 hM1
theorem m_ldF (hok : mdk o lF lL lB) (hexec : p.tables.exec = Jvm.exec) (hb : c.code = cc) (hK : zK Γ s) (hM : zM Γ A H0 (md Γ o lF lL lB G0 fl F L B) H locs) {i : Nat} (hi : i < 32760) (hdg : decode cc pc = .ok (.iaload, 1))
    (kk : W p l e R s m args below meth c H locs cells slots Q (F0 m (pc + 1) ls (.int (nI (F i)) :: rest))) : W p l e R s m args below meth c H locs cells slots Q (F0 m pc ls (.int (nI i) :: .ref lF :: rest)) := z_ild hexec hb hK hM (md_F hok) hi (by decide) hdg kk
theorem m_ldL (hok : mdk o lF lL lB) (hexec : p.tables.exec = Jvm.exec) (hb : c.code = cc) (hK : zK Γ s) (hM : zM Γ A H0 (md Γ o lF lL lB G0 fl F L B) H locs) {i : Nat} (hi : i < 455) (hdg : decode cc pc = .ok (.iaload, 1))
    (kk : W p l e R s m args below meth c H locs cells slots Q (F0 m (pc + 1) ls (.int (nI (L i)) :: rest))) : W p l e R s m args below meth c H locs cells slots Q (F0 m pc ls (.int (nI i) :: .ref lL :: rest)) := z_ild hexec hb hK hM (md_L hok) hi (by decide) hdg kk
theorem m_ldB (hok : mdk o lF lL lB) (hexec : p.tables.exec = Jvm.exec) (hb : c.code = cc) (hK : zK Γ s) (hM : zM Γ A H0 (md Γ o lF lL lB G0 fl F L B) H locs) {i : Nat} (hi : i < 455) (hdg : decode cc pc = .ok (.baload, 1))
    (kk : W p l e R s m args below meth c H locs cells slots Q (F0 m (pc + 1) ls (.int (nI (B i)) :: rest))) : W p l e R s m args below meth c H locs cells slots Q (F0 m pc ls (.int (nI i) :: .ref lB :: rest)) := z_zld hexec hb hK hM (md_B hok) hi (by decide) hdg kk
theorem m_stF (hok : mdk o lF lL lB) (hexec : p.tables.exec = Jvm.exec) (hb : c.code = cc) (hK : zK Γ s) (hM : zM Γ A H0 (md Γ o lF lL lB G0 fl F L B) H locs) {i x : Nat} (hi : i < 32760) (hdg : decode cc pc = .ok (.iastore, 1))
    (kk : ∀ (H1 : Heap) (locs1 : List Loc), zM Γ A H0 (md Γ o lF lL lB G0 fl (va_up F i x) L B) H1 locs1 → W p l e R s m args below meth c H1 locs1 cells slots Q (F0 m (pc + 1) ls rest)) : W p l e R s m args below meth c H locs cells slots Q (F0 m pc ls (.int (nI x) :: .int (nI i) :: .ref lF :: rest)) :=
  z_ist hexec hb hK hM (md_F hok) hi (by decide) hdg (fun H1 locs1 hM1 => kk H1 locs1 (by rw [md_uF hok] at hM1; exact hM1))
theorem m_stL (hok : mdk o lF lL lB) (hexec : p.tables.exec = Jvm.exec) (hb : c.code = cc) (hK : zK Γ s) (hM : zM Γ A H0 (md Γ o lF lL lB G0 fl F L B) H locs) {i x : Nat} (hi : i < 455) (hdg : decode cc pc = .ok (.iastore, 1))
    (kk : ∀ (H1 : Heap) (locs1 : List Loc), zM Γ A H0 (md Γ o lF lL lB G0 fl F (va_up L i x) B) H1 locs1 → W p l e R s m args below meth c H1 locs1 cells slots Q (F0 m (pc + 1) ls rest)) : W p l e R s m args below meth c H locs cells slots Q (F0 m pc ls (.int (nI x) :: .int (nI i) :: .ref lL :: rest)) :=
  z_ist hexec hb hK hM (md_L hok) hi (by decide) hdg (fun H1 locs1 hM1 => kk H1 locs1 (by rw [md_uL hok] at hM1; exact hM1))
theorem m_stB (hok : mdk o lF lL lB) (hexec : p.tables.exec = Jvm.exec) (hb : c.code = cc) (hK : zK Γ s) (hM : zM Γ A H0 (md Γ o lF lL lB G0 fl F L B) H locs) {i x : Nat} (hi : i < 455) (hx2 : x < 2) (hdg : decode cc pc = .ok (.bastore, 1))
    (kk : ∀ (H1 : Heap) (locs1 : List Loc), zM Γ A H0 (md Γ o lF lL lB G0 fl F L (va_up B i x)) H1 locs1 → W p l e R s m args below meth c H1 locs1 cells slots Q (F0 m (pc + 1) ls rest)) : W p l e R s m args below meth c H locs cells slots Q (F0 m pc ls (.int (nI x) :: .int (nI i) :: .ref lB :: rest)) :=
  z_zst hexec hb hK hM (md_B hok) hi (by decide) hx2 hdg (fun H1 locs1 hM1 => kk H1 locs1 (by rw [md_uB hok] at hM1; exact hM1))
end MR
theorem va_up_eq {α : Type} (f : Nat → α) (k : Nat) : va_up f k (f k) = f := by funext j; by_cases h : j = k <;> simp [va_up, h]
theorem va_up_up {α : Type} (f : Nat → α) (k : Nat) (x y : α) : va_up (va_up f k x) k y = va_up f k y := by funext j; by_cases h : j = k <;> simp [va_up, h]
/-- the scalar fields of the reference's object -/
def mfl (refusal vars maxRows cells rows input filled sealed begun state sign given : Int32) : Nat → Int32 := fun k => match k with
  | 0 => refusal
  | 1 => vars
  | 2 => maxRows
  | 3 => cells
  | 7 => rows
  | 8 => input
  | 9 => filled
  | 10 => sealed
  | 11 => begun
  | 12 => state
  | 13 => sign
  | 14 => given
  | _ => 0
def cpF (F : Nat → Nat) (t f n : Nat) : Nat → Nat := fun j => if 72 * t ≤ j ∧ j < 72 * t + n then F (72 * f + (j - 72 * t)) else F j
theorem cpF_0 (F : Nat → Nat) (t f : Nat) : cpF F t f 0 = F := by funext j; unfold cpF; rw [if_neg (by omega)]
theorem cpF_s (F : Nat → Nat) {t f k : Nat} (h : t ≠ f) (hk : k < 72) : va_up (cpF F t f k) (72 * t + k) (cpF F t f k (72 * f + k)) = cpF F t f (k + 1) := by
  funext j
  have e : cpF F t f k (72 * f + k) = F (72 * f + k) := by unfold cpF; rw [if_neg (by omega)]
  rw [e]
  by_cases hj : j = 72 * t + k
  · subst hj; rw [va_up_self]; unfold cpF; rw [if_pos (by omega)]; congr 1; omega
  · rw [va_up_ne _ _ hj]; unfold cpF
    by_cases h2 : 72 * t ≤ j ∧ j < 72 * t + k
    · rw [if_pos h2, if_pos (by omega)]
    · rw [if_neg h2, if_neg (by omega)]
/-- a digit of number a, 0 above its length -/
def lmb (F L : Nat → Nat) (a k : Nat) : Nat := if k < L a then F (72 * a + k) else 0
/-- number a holds v -/
def nv (F L : Nat → Nat) (a v : Nat) : Prop := L a = nl v ∧ nl v ≤ 72 ∧ dg (fun k => F (72 * a + k)) (nl v) ∧ vl (fun k => F (72 * a + k)) (nl v) = v
/-- outside number t nothing differs -/
def fr72 (F F' : Nat → Nat) (t : Nat) : Prop := ∀ j, (j < 72 * t ∨ 72 * t + 72 ≤ j) → F' j = F j
theorem vl_nl_top {d : Nat → Nat} {v : Nat} (hd : dg d (nl v)) (hv : vl d (nl v) = v) (h0 : 0 < nl v) : d (nl v - 1) ≠ 0 := by
  intro h
  obtain ⟨k, hk⟩ : ∃ k, nl v = k + 1 := ⟨nl v - 1, by omega⟩
  rw [hk] at hd hv h
  rw [vl_s, show d k = 0 from h] at hv
  have h1 := vl_lt (hd.le (Nat.le_succ k))
  have h2 := nl_ge (nl_pos.mp h0)
  rw [hk] at h2
  simp at h2
  omega
theorem nv.top {F L : Nat → Nat} {a v : Nat} (h : nv F L a v) (h0 : 0 < L a) : F (72 * a + (L a - 1)) ≠ 0 := by
  have := vl_nl_top h.2.2.1 h.2.2.2 (by rw [← h.1]; exact h0)
  rw [h.1]; exact this
theorem nv.digs {F L : Nat → Nat} {a v : Nat} (h : nv F L a v) : ∀ k, k < L a → F (72 * a + k) < 2147483648 := fun k hk => h.2.2.1 k (by rw [← h.1]; exact hk)
theorem nv.le {F L : Nat → Nat} {a v : Nat} (h : nv F L a v) : L a ≤ 72 := by rw [h.1]; exact h.2.1
theorem nv.val {F L : Nat → Nat} {a v : Nat} (h : nv F L a v) : vl (fun k => F (72 * a + k)) (L a) = v := by rw [h.1]; exact h.2.2.2
theorem nv.fr {F L F' L' : Nat → Nat} {a t v : Nat} (h : nv F L a v) (hf : fr72 F F' t) (hat : a ≠ t) (hL : L' a = L a) : nv F' L' a v := by
  have e : ∀ k, k < nl v → F' (72 * a + k) = F (72 * a + k) := fun k hk => hf _ (by have := h.2.1; omega)
  exact ⟨by rw [hL]; exact h.1, h.2.1, fun k hk => by show F' _ < _; rw [e k hk]; exact h.2.2.1 k hk, by rw [vl_congr e]; exact h.2.2.2⟩
theorem nv_mk {F L : Nat → Nat} {a n : Nat} (hd : dg (fun k => F (72 * a + k)) n) (ht : 0 < n → F (72 * a + (n - 1)) ≠ 0) (hn : n ≤ 72) (hL : L a = n) : nv F L a (vl (fun k => F (72 * a + k)) n) := by
  have e := nl_vl hd ht
  refine ⟨by rw [e, hL], by rw [e]; exact hn, by rw [e]; exact hd, by rw [e]⟩
theorem lmb_lt {F L : Nat → Nat} {a v : Nat} (h : nv F L a v) (k : Nat) : lmb F L a k < 2147483648 := by
  unfold lmb; split
  · rename_i c; exact h.digs k c
  · decide
theorem lmb_vl {F L : Nat → Nat} {a v n : Nat} (h : nv F L a v) (hn : L a ≤ n) : vl (lmb F L a) n = v := by
  rw [vl_pad hn (fun k h1 _ => by unfold lmb; rw [if_neg (by omega)]), ← h.val]
  exact vl_congr (fun k hk => by unfold lmb; rw [if_pos hk])
/-- a digit and its carry -/
theorem carry_s (v P : Nat) : v % 2147483648 * P + v / 2147483648 * (2147483648 * P) = v * P := by
  rw [← Nat.mul_assoc, ← Nat.add_mul]; congr 1; omega
end
section
set_option maxRecDepth 100000 in
set_option maxHeartbeats 4000000 in
theorem m_trim (l : Launch) (Γ : zT) {o lF lL lB : Nat} (hok : mdk o lF lL lB) (G0 : zG) (fl : Nat → Int32) (F L B : Nat → Nat) (sz : Nat) (a n : Nat) (ha : a < 455) (hLn : L a = n) (hL : n ≤ 72) (hd : dg (fun k => F (72 * a + k)) n) : zMv l yX5_trim wsX5_trim (zR 1) Γ (md Γ o lF lL lB G0 fl F L B) sz [.ref o, .int (nI a)] (fun G' => G' = md Γ o lF lL lB G0 fl F (va_up L a (tr (fun k => F (72 * a + k)) n)) (if tr (fun k => F (72 * a + k)) n = 0 then va_up B a 0 else B)) 0 0 := by
  refine z_start (cc := cX5_trim) (maxL := 2) (ret := none) (by decide) rfl (Nat.le_of_ble_eq_true rfl) ?_
  intro p e s m args below meth c ls Q hQ hsz hx hb hr hml hown hts hlocks hnm hK hM hl
  obtain ⟨A, hAe⟩ : ∃ A, A = zA (md Γ o lF lL lB G0 fl F L B) s.heap.size := ⟨_, rfl⟩
  rw [← hAe] at hM
  have hl : lv_has ls 2 [(0, .ref o), (1, .int (nI a))] := hl
  have hin5 : ∀ w ∈ wsX50, w ∈ wsX5_trim := by decide +kernel
  have hf_limbs := hts (.fieldLink RX5 7 "CutRowsModel" "limbs" "[I") (by decide +kernel)
  have hf_length := hts (.fieldLink RX5 13 "CutRowsModel" "length" "[I") (by decide +kernel)
  have hf_isBelow := hts (.fieldLink RX5 16 "CutRowsModel" "isBelow" "[Z") (by decide +kernel)
  subst hLn
  generalize hT : tr (fun k => F (72 * a + k)) (L a) = T at hQ
  have loop : ∀ n : Nat, n ≤ L a → tr (fun k => F (72 * a + k)) n = T → ∀ (ls : Array Slot) (H : Heap) (locs : List Loc), lv_has ls 2 [(0, .ref o), (1, .int (nI a))] → zM Γ A s.heap (md Γ o lF lL lB G0 fl F (va_up L a n) B) H locs → W p l e (zR 1) s m args below meth c H locs 0 0 Q (F0 m 0 ls []) := by
    intro n
    induction n using Nat.strongRecOn with
    | _ n ih =>
      intro hn hT ls H locs hl hM
      have k43 : T = n → ∀ (ls : Array Slot) (H : Heap) (locs : List Loc), lv_has ls 2 [(0, .ref o), (1, .int (nI a))] → zM Γ A s.heap (md Γ o lF lL lB G0 fl F (va_up L a n) B) H locs → W p l e (zR 1) s m args below meth c H locs 0 0 Q (F0 m 43 ls []) := by
        intro hTn ls H locs hl hM
        refine lv_aload_n hx hb dX5_trim_43 rfl (lv_at hl 0 rfl) ?_
        refine m_get hok hx hb hts hin5 hown hK hM 5 hf_length rfl (by decide) (v := .ref lL) rfl dX5_trim_44 ?_
        refine lv_iload_n hx hb dX5_trim_47 rfl (lv_at hl 1 rfl) ?_
        refine m_ldL hok hx hb hK hM (by omega) dX5_trim_48 ?_
        refine z_asi (y := nI n) (congrArg nI (va_up_self _ _ _)) ?_
        refine z_if_ne (tgt := 59) hx hb (by omega) dX5_trim_49 (by decide) (fun hc49 => ?_) (fun hc49 => ?_)
        · rw [hQ]
          rw [hAe] at hM
          exact z_vret hsz hx hb hr hlocks hK hM dX5_trim_59 (by rw [hTn]; rw [if_neg (by omega)])
        · refine lv_aload_n hx hb dX5_trim_52 rfl (lv_at hl 0 rfl) ?_
          refine m_get hok hx hb hts hin5 hown hK hM 6 hf_isBelow rfl (by decide) (v := .ref lB) rfl dX5_trim_53 ?_
          refine lv_iload_n hx hb dX5_trim_56 rfl (lv_at hl 1 rfl) ?_
          refine lv_iconst (v := nI 0) hx hb dX5_trim_57 rfl ?_
          refine m_stB hok hx hb hK hM (by omega) (by omega) dX5_trim_58 (fun H locs hM => ?_)
          rw [hQ]
          rw [hAe] at hM
          exact z_vret hsz hx hb hr hlocks hK hM dX5_trim_59 (by rw [hTn]; rw [if_pos (by omega)])
      refine lv_aload_n hx hb dX5_trim_0 rfl (lv_at hl 0 rfl) ?_
      refine m_get hok hx hb hts hin5 hown hK hM 5 hf_length rfl (by decide) (v := .ref lL) rfl dX5_trim_1 ?_
      refine lv_iload_n hx hb dX5_trim_4 rfl (lv_at hl 1 rfl) ?_
      refine m_ldL hok hx hb hK hM (by omega) dX5_trim_5 ?_
      refine z_asi (y := nI n) (congrArg nI (va_up_self _ _ _)) ?_
      refine z_if_le (tgt := 43) hx hb (by omega) dX5_trim_6 (by decide) (fun hc6 => ?_) (fun hc6 => ?_)
      · exact k43 (by rw [← hT, show n = 0 by omega]; rfl) ls H locs hl hM
      · refine lv_aload_n hx hb dX5_trim_9 rfl (lv_at hl 0 rfl) ?_
        refine m_get hok hx hb hts hin5 hown hK hM 4 hf_limbs rfl (by decide) (v := .ref lF) rfl dX5_trim_10 ?_
        refine lv_bipush (v := nI 72) hx hb dX5_trim_13 rfl ?_
        refine lv_iload_n hx hb dX5_trim_15 rfl (lv_at hl 1 rfl) ?_
        refine z_imul hx hb dX5_trim_16 ?_
        refine lv_aload_n hx hb dX5_trim_17 rfl (lv_at hl 0 rfl) ?_
        refine m_get hok hx hb hts hin5 hown hK hM 5 hf_length rfl (by decide) (v := .ref lL) rfl dX5_trim_18 ?_
        refine lv_iload_n hx hb dX5_trim_21 rfl (lv_at hl 1 rfl) ?_
        refine m_ldL hok hx hb hK hM (by omega) dX5_trim_22 ?_
        refine z_asi (y := nI n) (congrArg nI (va_up_self _ _ _)) ?_
        refine z_iadd hx hb dX5_trim_23 ?_
        refine lv_iconst (v := nI 1) hx hb dX5_trim_24 rfl ?_
        refine z_isub hx hb (by omega) dX5_trim_25 ?_
        refine z_asi (y := nI (72 * a + (n - 1))) (congrArg nI (by omega)) ?_
        refine m_ldF hok hx hb hK hM (by omega) dX5_trim_26 ?_
        refine z_if_ne (tgt := 43) hx hb (hd (n - 1) (by omega)) dX5_trim_27 (by decide) (fun hc27 => ?_) (fun hc27 => ?_)
        · exact k43 (by rw [← hT]; obtain ⟨q, rfl⟩ : ∃ q, n = q + 1 := ⟨n - 1, by omega⟩; simp only [tr]; rw [if_neg (by simpa using hc27)]) ls H locs hl hM
        · refine lv_aload_n hx hb dX5_trim_30 rfl (lv_at hl 0 rfl) ?_
          refine m_get hok hx hb hts hin5 hown hK hM 5 hf_length rfl (by decide) (v := .ref lL) rfl dX5_trim_31 ?_
          refine lv_iload_n hx hb dX5_trim_34 rfl (lv_at hl 1 rfl) ?_
          refine lv_dup2_11 hx hb dX5_trim_35 rfl rfl ?_
          refine m_ldL hok hx hb hK hM (by omega) dX5_trim_36 ?_
          refine z_asi (y := nI n) (congrArg nI (va_up_self _ _ _)) ?_
          refine lv_iconst (v := nI 1) hx hb dX5_trim_37 rfl ?_
          refine z_isub hx hb (by omega) dX5_trim_38 ?_
          refine m_stL hok hx hb hK hM (by omega) dX5_trim_39 (fun H locs hM => ?_)
          rw [va_up_up] at hM
          refine lv_goto (tgt := 0) hx hb dX5_trim_40 (by decide) ?_
          exact ih (n - 1) (by omega) (by omega) (by rw [← hT]; obtain ⟨q, rfl⟩ : ∃ q, n = q + 1 := ⟨n - 1, by omega⟩; simp only [tr]; rw [if_pos (by simpa using hc27)]; rfl) ls H locs hl hM
  exact loop (L a) (Nat.le_refl _) hT ls _ _ hl (by rw [va_up_eq]; exact hM)

set_option maxRecDepth 100000 in
set_option maxHeartbeats 4000000 in
theorem m_clear (l : Launch) (Γ : zT) {o lF lL lB : Nat} (hok : mdk o lF lL lB) (G0 : zG) (fl : Nat → Int32) (F L B : Nat → Nat) (sz : Nat) (a : Nat) (ha : a < 455) : zMv l yX5_clear wsX5_clear (zR 1) Γ (md Γ o lF lL lB G0 fl F L B) sz [.ref o, .int (nI a)] (fun G' => G' = md Γ o lF lL lB G0 fl F (va_up L a 0) (va_up B a 0)) 0 0 := by
  refine z_start (cc := cX5_clear) (maxL := 2) (ret := none) (by decide) rfl (Nat.le_of_ble_eq_true rfl) ?_
  intro p e s m args below meth c ls Q hQ hsz hx hb hr hml hown hts hlocks hnm hK hM hl
  obtain ⟨A, hAe⟩ : ∃ A, A = zA (md Γ o lF lL lB G0 fl F L B) s.heap.size := ⟨_, rfl⟩
  rw [← hAe] at hM
  have hl : lv_has ls 2 [(0, .ref o), (1, .int (nI a))] := hl
  have hin5 : ∀ w ∈ wsX50, w ∈ wsX5_clear := by decide +kernel
  have hf_length := hts (.fieldLink RX5 13 "CutRowsModel" "length" "[I") (by decide +kernel)
  have hf_isBelow := hts (.fieldLink RX5 16 "CutRowsModel" "isBelow" "[Z") (by decide +kernel)
  refine lv_aload_n hx hb dX5_clear_0 rfl (lv_at hl 0 rfl) ?_
  refine m_get hok hx hb hts hin5 hown hK hM 5 hf_length rfl (by decide) (v := .ref lL) rfl dX5_clear_1 ?_
  refine lv_iload_n hx hb dX5_clear_4 rfl (lv_at hl 1 rfl) ?_
  refine lv_iconst (v := nI 0) hx hb dX5_clear_5 rfl ?_
  refine m_stL hok hx hb hK hM (by omega) dX5_clear_6 (fun H locs hM => ?_)
  refine lv_aload_n hx hb dX5_clear_7 rfl (lv_at hl 0 rfl) ?_
  refine m_get hok hx hb hts hin5 hown hK hM 6 hf_isBelow rfl (by decide) (v := .ref lB) rfl dX5_clear_8 ?_
  refine lv_iload_n hx hb dX5_clear_11 rfl (lv_at hl 1 rfl) ?_
  refine lv_iconst (v := nI 0) hx hb dX5_clear_12 rfl ?_
  refine m_stB hok hx hb hK hM (by omega) (by omega) dX5_clear_13 (fun H locs hM => ?_)
  rw [hQ]
  rw [hAe] at hM
  exact z_vret hsz hx hb hr hlocks hK hM dX5_clear_14 (rfl)

set_option maxRecDepth 100000 in
set_option maxHeartbeats 4000000 in
theorem m_limbOf (l : Launch) (Γ : zT) {o lF lL lB : Nat} (hok : mdk o lF lL lB) (G0 : zG) (fl : Nat → Int32) (F L B : Nat → Nat) (sz : Nat) (a k : Nat) (ha : a < 455) (hk : k < 2 ^ 31) (hL : L a ≤ 72) (hd : dg (fun k => F (72 * a + k)) (L a)) : zMl l yX5_limbOf wsX5_limbOf (zR 1) Γ (md Γ o lF lL lB G0 fl F L B) sz [.ref o, .int (nI a), .int (nI k)] (fun r G' => r = lN (lmb F L a k) ∧ G' = md Γ o lF lL lB G0 fl F L B) 0 0 := by
  refine z_start (cc := cX5_limbOf) (maxL := 3) (ret := (some .long)) (by decide) rfl (Nat.le_of_ble_eq_true rfl) ?_
  intro p e s m args below meth c ls Q hQ hsz hx hb hr hml hown hts hlocks hnm hK hM hl
  obtain ⟨A, hAe⟩ : ∃ A, A = zA (md Γ o lF lL lB G0 fl F L B) s.heap.size := ⟨_, rfl⟩
  rw [← hAe] at hM
  have hl : lv_has ls 3 [(0, .ref o), (1, .int (nI a)), (2, .int (nI k))] := hl
  have hin5 : ∀ w ∈ wsX50, w ∈ wsX5_limbOf := by decide +kernel
  have hf_limbs := hts (.fieldLink RX5 7 "CutRowsModel" "limbs" "[I") (by decide +kernel)
  have hf_length := hts (.fieldLink RX5 13 "CutRowsModel" "length" "[I") (by decide +kernel)
  refine lv_iload_n hx hb dX5_limbOf_0 rfl (lv_at hl 2 rfl) ?_
  refine lv_aload_n hx hb dX5_limbOf_1 rfl (lv_at hl 0 rfl) ?_
  refine m_get hok hx hb hts hin5 hown hK hM 5 hf_length rfl (by decide) (v := .ref lL) rfl dX5_limbOf_2 ?_
  refine lv_iload_n hx hb dX5_limbOf_5 rfl (lv_at hl 1 rfl) ?_
  refine m_ldL hok hx hb hK hM (by omega) dX5_limbOf_6 ?_
  refine z_icmp_ge (tgt := 25) hx hb (by omega) (by omega) dX5_limbOf_7 (by decide) (fun hc7 => ?_) (fun hc7 => ?_)
  · refine lv_lconst (v := lN 0) hx hb dX5_limbOf_25 rfl ?_
    rw [hQ]
    rw [hAe] at hM
    exact z_lret hsz hx hb hr hlocks hK hM dX5_limbOf_26 (⟨congrArg lN (by unfold lmb; rw [if_neg (by omega)]), rfl⟩)
  · refine lv_aload_n hx hb dX5_limbOf_10 rfl (lv_at hl 0 rfl) ?_
    refine m_get hok hx hb hts hin5 hown hK hM 4 hf_limbs rfl (by decide) (v := .ref lF) rfl dX5_limbOf_11 ?_
    refine lv_bipush (v := nI 72) hx hb dX5_limbOf_14 rfl ?_
    refine lv_iload_n hx hb dX5_limbOf_16 rfl (lv_at hl 1 rfl) ?_
    refine z_imul hx hb dX5_limbOf_17 ?_
    refine lv_iload_n hx hb dX5_limbOf_18 rfl (lv_at hl 2 rfl) ?_
    refine z_iadd hx hb dX5_limbOf_19 ?_
    refine m_ldF hok hx hb hK hM (by omega) dX5_limbOf_20 ?_
    refine z_i2l hx hb (hd k (by omega)) dX5_limbOf_21 ?_
    refine lv_goto (tgt := 26) hx hb dX5_limbOf_22 (by decide) ?_
    rw [hQ]
    rw [hAe] at hM
    exact z_lret hsz hx hb hr hlocks hK hM dX5_limbOf_26 (⟨congrArg lN (by unfold lmb; rw [if_pos (by omega)]), rfl⟩)

set_option maxRecDepth 100000 in
set_option maxHeartbeats 4000000 in
theorem m_copy (l : Launch) (Γ : zT) {o lF lL lB : Nat} (hok : mdk o lF lL lB) (G0 : zG) (fl : Nat → Int32) (F L B : Nat → Nat) (sz : Nat) (t f : Nat) (ht : t < 455) (hf : f < 455) (htf : t ≠ f) (hL : L f ≤ 72) (hB : B f < 2) : zMv l yX5_copy wsX5_copy (zR 1) Γ (md Γ o lF lL lB G0 fl F L B) sz [.ref o, .int (nI t), .int (nI f)] (fun G' => G' = md Γ o lF lL lB G0 fl (cpF F t f (L f)) (va_up L t (L f)) (va_up B t (B f))) 0 0 := by
  refine z_start (cc := cX5_copy) (maxL := 4) (ret := none) (by decide) rfl (Nat.le_of_ble_eq_true rfl) ?_
  intro p e s m args below meth c ls Q hQ hsz hx hb hr hml hown hts hlocks hnm hK hM hl
  obtain ⟨A, hAe⟩ : ∃ A, A = zA (md Γ o lF lL lB G0 fl F L B) s.heap.size := ⟨_, rfl⟩
  rw [← hAe] at hM
  have hl : lv_has ls 4 [(0, .ref o), (1, .int (nI t)), (2, .int (nI f))] := hl
  have hin5 : ∀ w ∈ wsX50, w ∈ wsX5_copy := by decide +kernel
  have hf_limbs := hts (.fieldLink RX5 7 "CutRowsModel" "limbs" "[I") (by decide +kernel)
  have hf_length := hts (.fieldLink RX5 13 "CutRowsModel" "length" "[I") (by decide +kernel)
  have hf_isBelow := hts (.fieldLink RX5 16 "CutRowsModel" "isBelow" "[Z") (by decide +kernel)
  refine lv_aload_n hx hb dX5_copy_0 rfl (lv_at hl 0 rfl) ?_
  refine m_get hok hx hb hts hin5 hown hK hM 5 hf_length rfl (by decide) (v := .ref lL) rfl dX5_copy_1 ?_
  refine lv_iload_n hx hb dX5_copy_4 rfl (lv_at hl 1 rfl) ?_
  refine lv_aload_n hx hb dX5_copy_5 rfl (lv_at hl 0 rfl) ?_
  refine m_get hok hx hb hts hin5 hown hK hM 5 hf_length rfl (by decide) (v := .ref lL) rfl dX5_copy_6 ?_
  refine lv_iload_n hx hb dX5_copy_9 rfl (lv_at hl 2 rfl) ?_
  refine m_ldL hok hx hb hK hM (by omega) dX5_copy_10 ?_
  refine m_stL hok hx hb hK hM (by omega) dX5_copy_11 (fun H locs hM => ?_)
  refine lv_aload_n hx hb dX5_copy_12 rfl (lv_at hl 0 rfl) ?_
  refine m_get hok hx hb hts hin5 hown hK hM 6 hf_isBelow rfl (by decide) (v := .ref lB) rfl dX5_copy_13 ?_
  refine lv_iload_n hx hb dX5_copy_16 rfl (lv_at hl 1 rfl) ?_
  refine lv_aload_n hx hb dX5_copy_17 rfl (lv_at hl 0 rfl) ?_
  refine m_get hok hx hb hts hin5 hown hK hM 6 hf_isBelow rfl (by decide) (v := .ref lB) rfl dX5_copy_18 ?_
  refine lv_iload_n hx hb dX5_copy_21 rfl (lv_at hl 2 rfl) ?_
  refine m_ldB hok hx hb hK hM (by omega) dX5_copy_22 ?_
  refine m_stB hok hx hb hK hM (by omega) (by omega) dX5_copy_23 (fun H locs hM => ?_)
  refine lv_iconst (v := nI 0) hx hb dX5_copy_24 rfl ?_
  refine lv_istore_n (lv' := [(3, .int (nI 0)), (0, .ref o), (1, .int (nI t)), (2, .int (nI f))]) hx hb dX5_copy_25 rfl hl (by decide) rfl (fun ls hl => ?_)
  have lp : ∀ (μ : Nat) (k : Nat), L f - k = μ → (k ≤ L f) → ∀ (ls : Array Slot) (H : Heap) (locs : List Loc), lv_has ls 4 [(3, .int (nI k)), (0, .ref o), (1, .int (nI t)), (2, .int (nI f))] → zM Γ A s.heap (md Γ o lF lL lB G0 fl (cpF F t f k) (va_up L t (L f)) (va_up B t (B f))) H locs → W p l e (zR 1) s m args below meth c H locs 0 0 Q (F0 m 26 ls []) := by
    intro μ
    induction μ using Nat.strongRecOn with
    | _ μ ihlp =>
      intro k hμ hk ls H locs hl hM
      refine lv_iload_n hx hb dX5_copy_26 rfl (lv_at hl 0 rfl) ?_
      refine lv_aload_n hx hb dX5_copy_27 rfl (lv_at hl 1 rfl) ?_
      refine m_get hok hx hb hts hin5 hown hK hM 5 hf_length rfl (by decide) (v := .ref lL) rfl dX5_copy_28 ?_
      refine lv_iload_n hx hb dX5_copy_31 rfl (lv_at hl 3 rfl) ?_
      refine m_ldL hok hx hb hK hM (by omega) dX5_copy_32 ?_
      refine z_asi (y := nI (L f)) (congrArg nI (va_up_ne _ _ (Ne.symm htf))) ?_
      refine z_icmp_ge (tgt := 64) hx hb (by omega) (by omega) dX5_copy_33 (by decide) (fun hc33 => ?_) (fun hc33 => ?_)
      · rw [hQ]
        rw [hAe] at hM
        exact z_vret hsz hx hb hr hlocks hK hM dX5_copy_64 (by rw [show k = L f by omega])
      · refine lv_aload_n hx hb dX5_copy_36 rfl (lv_at hl 1 rfl) ?_
        refine m_get hok hx hb hts hin5 hown hK hM 4 hf_limbs rfl (by decide) (v := .ref lF) rfl dX5_copy_37 ?_
        refine lv_bipush (v := nI 72) hx hb dX5_copy_40 rfl ?_
        refine lv_iload_n hx hb dX5_copy_42 rfl (lv_at hl 2 rfl) ?_
        refine z_imul hx hb dX5_copy_43 ?_
        refine lv_iload_n hx hb dX5_copy_44 rfl (lv_at hl 0 rfl) ?_
        refine z_iadd hx hb dX5_copy_45 ?_
        refine lv_aload_n hx hb dX5_copy_46 rfl (lv_at hl 1 rfl) ?_
        refine m_get hok hx hb hts hin5 hown hK hM 4 hf_limbs rfl (by decide) (v := .ref lF) rfl dX5_copy_47 ?_
        refine lv_bipush (v := nI 72) hx hb dX5_copy_50 rfl ?_
        refine lv_iload_n hx hb dX5_copy_52 rfl (lv_at hl 3 rfl) ?_
        refine z_imul hx hb dX5_copy_53 ?_
        refine lv_iload_n hx hb dX5_copy_54 rfl (lv_at hl 0 rfl) ?_
        refine z_iadd hx hb dX5_copy_55 ?_
        refine m_ldF hok hx hb hK hM (by omega) dX5_copy_56 ?_
        refine m_stF hok hx hb hK hM (by omega) dX5_copy_57 (fun H locs hM => ?_)
        rw [cpF_s F htf (by omega)] at hM
        refine z_iinc (v := (k + 1)) (lv' := [(3, .int (nI (k + 1))), (0, .ref o), (1, .int (nI t)), (2, .int (nI f))]) hx hb dX5_copy_58 hl (k := 0) rfl (nI_p1 _) (by decide) rfl (fun ls hl => ?_)
        refine lv_goto (tgt := 26) hx hb dX5_copy_61 (by decide) ?_
        exact ihlp _ (by omega) (k + 1) rfl (by omega) ls _ _ (lv_sub hl [0, 1, 2, 3] rfl) hM
  exact lp _ 0 rfl (by omega) ls _ _ (lv_sub hl [0, 1, 2, 3] rfl) (by rw [cpF_0]; exact hM)
end
section
def cmp3 (x y : Nat) : Int32 := if x < y then -1 else if x = y then nI 0 else nI 1
theorem cmp3_lt {x y : Nat} (h : x < y) : -1 = cmp3 x y := by unfold cmp3; rw [if_pos h]
theorem cmp3_gt {x y : Nat} (h : y < x) : nI 1 = cmp3 x y := by unfold cmp3; rw [if_neg (by omega), if_neg (by omega)]
theorem cmp3_eq {x y : Nat} (h : x = y) : nI 0 = cmp3 x y := by unfold cmp3; rw [if_neg (by omega), if_pos h]
theorem nI_dec (q : Nat) : nI q + Int32.ofInt (-1) = nI q - 1 := by
  cases q with
  | zero => rfl
  | succ q => rw [nI_m1 (by omega), nI_pred]; rfl
theorem nv_lt_len {F L : Nat → Nat} {a b va vb : Nat} (na : nv F L a va) (nb : nv F L b vb) (h : L a < L b) : va < vb := by
  rw [← na.val, ← nb.val]
  exact vl_cmp_len na.digs nb.top h
theorem nv_lt_dig {F L : Nat → Nat} {a b va vb q : Nat} (na : nv F L a va) (nb : nv F L b vb) (h : L a = L b) (hq : q < L a) (he : ∀ j, q < j → j < L a → F (72 * a + j) = F (72 * b + j)) (hl : F (72 * a + q) < F (72 * b + q)) : va < vb := by
  rw [← na.val, ← nb.val, ← h]
  exact vl_cmp_lt hq na.digs (fun k hk => nb.digs k (by omega)) he hl
theorem nv_eq {F L : Nat → Nat} {a b va vb : Nat} (na : nv F L a va) (nb : nv F L b vb) (h : L a = L b) (he : ∀ j, j < L a → F (72 * a + j) = F (72 * b + j)) : va = vb := by
  rw [← na.val, ← nb.val, ← h]
  exact vl_congr he
end
section
set_option maxRecDepth 100000 in
set_option maxHeartbeats 4000000 in
theorem m_compareSizes (l : Launch) (Γ : zT) {o lF lL lB : Nat} (hok : mdk o lF lL lB) (G0 : zG) (fl : Nat → Int32) (F L B : Nat → Nat) (sz : Nat) (a b va vb : Nat) (ha : a < 455) (hbb : b < 455) (na : nv F L a va) (nb : nv F L b vb) : zMi l yX5_compareSizes wsX5_compareSizes (zR 1) Γ (md Γ o lF lL lB G0 fl F L B) sz [.ref o, .int (nI a), .int (nI b)] (fun r G' => r = cmp3 va vb ∧ G' = md Γ o lF lL lB G0 fl F L B) 0 0 := by
  refine z_start (cc := cX5_compareSizes) (maxL := 4) (ret := (some .int)) (by decide) rfl (Nat.le_of_ble_eq_true rfl) ?_
  intro p e s m args below meth c ls Q hQ hsz hx hb hr hml hown hts hlocks hnm hK hM hl
  obtain ⟨A, hAe⟩ : ∃ A, A = zA (md Γ o lF lL lB G0 fl F L B) s.heap.size := ⟨_, rfl⟩
  rw [← hAe] at hM
  have hl : lv_has ls 4 [(0, .ref o), (1, .int (nI a)), (2, .int (nI b))] := hl
  have hin5 : ∀ w ∈ wsX50, w ∈ wsX5_compareSizes := by decide +kernel
  have hf_limbs := hts (.fieldLink RX5 7 "CutRowsModel" "limbs" "[I") (by decide +kernel)
  have hf_length := hts (.fieldLink RX5 13 "CutRowsModel" "length" "[I") (by decide +kernel)
  have hLa := na.le
  have hLb := nb.le
  refine lv_aload_n hx hb dX5_compareSizes_0 rfl (lv_at hl 0 rfl) ?_
  refine m_get hok hx hb hts hin5 hown hK hM 5 hf_length rfl (by decide) (v := .ref lL) rfl dX5_compareSizes_1 ?_
  refine lv_iload_n hx hb dX5_compareSizes_4 rfl (lv_at hl 1 rfl) ?_
  refine m_ldL hok hx hb hK hM (by omega) dX5_compareSizes_5 ?_
  refine lv_aload_n hx hb dX5_compareSizes_6 rfl (lv_at hl 0 rfl) ?_
  refine m_get hok hx hb hts hin5 hown hK hM 5 hf_length rfl (by decide) (v := .ref lL) rfl dX5_compareSizes_7 ?_
  refine lv_iload_n hx hb dX5_compareSizes_10 rfl (lv_at hl 2 rfl) ?_
  refine m_ldL hok hx hb hK hM (by omega) dX5_compareSizes_11 ?_
  refine z_icmp_eq (tgt := 36) hx hb (by omega) (by omega) dX5_compareSizes_12 (by decide) (fun hc12 => ?_) (fun hc12 => ?_)
  · refine lv_aload_n hx hb dX5_compareSizes_36 rfl (lv_at hl 0 rfl) ?_
    refine m_get hok hx hb hts hin5 hown hK hM 5 hf_length rfl (by decide) (v := .ref lL) rfl dX5_compareSizes_37 ?_
    refine lv_iload_n hx hb dX5_compareSizes_40 rfl (lv_at hl 1 rfl) ?_
    refine m_ldL hok hx hb hK hM (by omega) dX5_compareSizes_41 ?_
    refine lv_iconst (v := nI 1) hx hb dX5_compareSizes_42 rfl ?_
    refine lv_isub hx hb dX5_compareSizes_43 ?_
    refine lv_istore_n (lv' := [(3, .int ((nI (L a)) - (nI 1))), (0, .ref o), (1, .int (nI a)), (2, .int (nI b))]) hx hb dX5_compareSizes_44 rfl hl (by decide) rfl (fun ls hl => ?_)
    have lp : ∀ (μ : Nat) (k : Nat), k = μ → (k ≤ L a) → (∀ j, k ≤ j → j < L a → F (72 * a + j) = F (72 * b + j)) → ∀ (ls : Array Slot) (H : Heap) (locs : List Loc), lv_has ls 4 [(3, .int (nI k - 1)), (0, .ref o), (1, .int (nI a)), (2, .int (nI b))] → zM Γ A s.heap (md Γ o lF lL lB G0 fl F L B) H locs → W p l e (zR 1) s m args below meth c H locs 0 0 Q (F0 m 45 ls []) := by
      intro μ
      induction μ using Nat.strongRecOn with
      | _ μ ihlp =>
        intro k hμ hk hk2 ls H locs hl hM
        rcases Nat.eq_zero_or_pos k with hk0 | hk0
        · subst hk0
          rw [show nI 0 - 1 = (-1 : Int32) from rfl] at hl
          refine lv_iload_n hx hb dX5_compareSizes_45 rfl (lv_at hl 0 rfl) ?_
          refine lv_if_lt (tgt := 111) hx hb dX5_compareSizes_46 (by decide) (fun hc46 => ?_) (fun hc46 => ?_)
          · refine lv_iconst (v := nI 0) hx hb dX5_compareSizes_111 rfl ?_
            rw [hQ]
            rw [hAe] at hM
            exact z_iret hsz hx hb hr hlocks hK hM dX5_compareSizes_112 (⟨cmp3_eq (nv_eq na nb hc12 (fun j hj => hk2 j (by omega) hj)), rfl⟩)
          · exact absurd (by decide) hc46
        · obtain ⟨q, rfl⟩ : ∃ q, k = q + 1 := ⟨k - 1, by omega⟩
          rw [nI_pred] at hl
          refine lv_iload_n hx hb dX5_compareSizes_45 rfl (lv_at hl 0 rfl) ?_
          refine z_if_ltN hx hb (by omega) dX5_compareSizes_46 (tgt := 111) (by decide) ?_
          refine lv_aload_n hx hb dX5_compareSizes_49 rfl (lv_at hl 1 rfl) ?_
          refine m_get hok hx hb hts hin5 hown hK hM 4 hf_limbs rfl (by decide) (v := .ref lF) rfl dX5_compareSizes_50 ?_
          refine lv_bipush (v := nI 72) hx hb dX5_compareSizes_53 rfl ?_
          refine lv_iload_n hx hb dX5_compareSizes_55 rfl (lv_at hl 2 rfl) ?_
          refine z_imul hx hb dX5_compareSizes_56 ?_
          refine lv_iload_n hx hb dX5_compareSizes_57 rfl (lv_at hl 0 rfl) ?_
          refine z_iadd hx hb dX5_compareSizes_58 ?_
          refine m_ldF hok hx hb hK hM (by omega) dX5_compareSizes_59 ?_
          refine lv_aload_n hx hb dX5_compareSizes_60 rfl (lv_at hl 1 rfl) ?_
          refine m_get hok hx hb hts hin5 hown hK hM 4 hf_limbs rfl (by decide) (v := .ref lF) rfl dX5_compareSizes_61 ?_
          refine lv_bipush (v := nI 72) hx hb dX5_compareSizes_64 rfl ?_
          refine lv_iload_n hx hb dX5_compareSizes_66 rfl (lv_at hl 3 rfl) ?_
          refine z_imul hx hb dX5_compareSizes_67 ?_
          refine lv_iload_n hx hb dX5_compareSizes_68 rfl (lv_at hl 0 rfl) ?_
          refine z_iadd hx hb dX5_compareSizes_69 ?_
          refine m_ldF hok hx hb hK hM (by omega) dX5_compareSizes_70 ?_
          refine z_icmp_eq (tgt := 105) hx hb ((na.digs q (by omega))) ((nb.digs q (by omega))) dX5_compareSizes_71 (by decide) (fun hc71 => ?_) (fun hc71 => ?_)
          · refine lv_iinc (v := nI q - 1) (lv' := [(3, .int (nI q - 1)), (0, .ref o), (1, .int (nI a)), (2, .int (nI b))]) hx hb dX5_compareSizes_105 hl (k := 0) rfl (nI_dec _) (by decide) rfl (fun ls hl => ?_)
            refine lv_goto (tgt := 45) hx hb dX5_compareSizes_108 (by decide) ?_
            exact ihlp _ (by omega) q rfl (by omega) (fun j h1 h2 => by rcases Nat.lt_or_ge q j with g | g; exact hk2 j (by omega) h2; rw [show j = q by omega]; exact hc71) ls _ _ (lv_sub hl [0, 1, 2, 3] rfl) hM
          · refine lv_aload_n hx hb dX5_compareSizes_74 rfl (lv_at hl 1 rfl) ?_
            refine m_get hok hx hb hts hin5 hown hK hM 4 hf_limbs rfl (by decide) (v := .ref lF) rfl dX5_compareSizes_75 ?_
            refine lv_bipush (v := nI 72) hx hb dX5_compareSizes_78 rfl ?_
            refine lv_iload_n hx hb dX5_compareSizes_80 rfl (lv_at hl 2 rfl) ?_
            refine z_imul hx hb dX5_compareSizes_81 ?_
            refine lv_iload_n hx hb dX5_compareSizes_82 rfl (lv_at hl 0 rfl) ?_
            refine z_iadd hx hb dX5_compareSizes_83 ?_
            refine m_ldF hok hx hb hK hM (by omega) dX5_compareSizes_84 ?_
            refine lv_aload_n hx hb dX5_compareSizes_85 rfl (lv_at hl 1 rfl) ?_
            refine m_get hok hx hb hts hin5 hown hK hM 4 hf_limbs rfl (by decide) (v := .ref lF) rfl dX5_compareSizes_86 ?_
            refine lv_bipush (v := nI 72) hx hb dX5_compareSizes_89 rfl ?_
            refine lv_iload_n hx hb dX5_compareSizes_91 rfl (lv_at hl 3 rfl) ?_
            refine z_imul hx hb dX5_compareSizes_92 ?_
            refine lv_iload_n hx hb dX5_compareSizes_93 rfl (lv_at hl 0 rfl) ?_
            refine z_iadd hx hb dX5_compareSizes_94 ?_
            refine m_ldF hok hx hb hK hM (by omega) dX5_compareSizes_95 ?_
            refine z_icmp_ge (tgt := 103) hx hb ((na.digs q (by omega))) ((nb.digs q (by omega))) dX5_compareSizes_96 (by decide) (fun hc96 => ?_) (fun hc96 => ?_)
            · refine lv_iconst (v := nI 1) hx hb dX5_compareSizes_103 rfl ?_
              rw [hQ]
              rw [hAe] at hM
              exact z_iret hsz hx hb hr hlocks hK hM dX5_compareSizes_104 (⟨cmp3_gt (nv_lt_dig (q := q) nb na hc12.symm (by omega) (fun j h1 h2 => (hk2 j (by omega) (by omega)).symm) (by omega)), rfl⟩)
            · refine lv_iconst (v := -1) hx hb dX5_compareSizes_99 rfl ?_
              refine lv_goto (tgt := 104) hx hb dX5_compareSizes_100 (by decide) ?_
              rw [hQ]
              rw [hAe] at hM
              exact z_iret hsz hx hb hr hlocks hK hM dX5_compareSizes_104 (⟨cmp3_lt (nv_lt_dig (q := q) na nb hc12 (by omega) (fun j h1 h2 => hk2 j (by omega) h2) (by omega)), rfl⟩)
    exact lp _ (L a) rfl (by omega) (fun j h1 h2 => by omega) ls _ _ (lv_sub hl [0, 1, 2, 3] rfl) hM
  · refine lv_aload_n hx hb dX5_compareSizes_15 rfl (lv_at hl 0 rfl) ?_
    refine m_get hok hx hb hts hin5 hown hK hM 5 hf_length rfl (by decide) (v := .ref lL) rfl dX5_compareSizes_16 ?_
    refine lv_iload_n hx hb dX5_compareSizes_19 rfl (lv_at hl 1 rfl) ?_
    refine m_ldL hok hx hb hK hM (by omega) dX5_compareSizes_20 ?_
    refine lv_aload_n hx hb dX5_compareSizes_21 rfl (lv_at hl 0 rfl) ?_
    refine m_get hok hx hb hts hin5 hown hK hM 5 hf_length rfl (by decide) (v := .ref lL) rfl dX5_compareSizes_22 ?_
    refine lv_iload_n hx hb dX5_compareSizes_25 rfl (lv_at hl 2 rfl) ?_
    refine m_ldL hok hx hb hK hM (by omega) dX5_compareSizes_26 ?_
    refine z_icmp_ge (tgt := 34) hx hb (by omega) (by omega) dX5_compareSizes_27 (by decide) (fun hc27 => ?_) (fun hc27 => ?_)
    · refine lv_iconst (v := nI 1) hx hb dX5_compareSizes_34 rfl ?_
      rw [hQ]
      rw [hAe] at hM
      exact z_iret hsz hx hb hr hlocks hK hM dX5_compareSizes_35 (⟨cmp3_gt (nv_lt_len nb na (by omega)), rfl⟩)
    · refine lv_iconst (v := -1) hx hb dX5_compareSizes_30 rfl ?_
      refine lv_goto (tgt := 35) hx hb dX5_compareSizes_31 (by decide) ?_
      rw [hQ]
      rw [hAe] at hM
      exact z_iret hsz hx hb hr hlocks hK hM dX5_compareSizes_35 (⟨cmp3_lt (nv_lt_len na nb (by omega)), rfl⟩)
end
section
def bz (B : Nat → Nat) (t v : Nat) : Nat → Nat := if nl v = 0 then va_up B t 0 else B
theorem mix_dg {F F1 L : Nat → Nat} {a t k va : Nat} (na : nv F L a va) (h1 : ∀ j, (j < 72 * t ∨ 72 * t + k ≤ j) → F1 j = F j) (h2 : dg (fun j => F1 (72 * t + j)) k) (hk : k ≤ 72) : dg (fun j => F1 (72 * a + j)) (L a) := by
  intro i hi
  have hi72 := na.le
  show F1 (72 * a + i) < _
  by_cases c : 72 * a + i < 72 * t ∨ 72 * t + k ≤ 72 * a + i
  · rw [h1 _ c]; exact na.digs i hi
  · have e : a = t := by omega
    subst e
    exact h2 i (by omega)
theorem mix_lmb {F F1 L : Nat → Nat} {a t k va : Nat} (na : nv F L a va) (h1 : ∀ j, (j < 72 * t ∨ 72 * t + k ≤ j) → F1 j = F j) (hk : k < 72) : lmb F1 L a k = lmb F L a k := by
  unfold lmb
  split
  · exact h1 _ (by omega)
  · rfl
theorem up_out {F F1 : Nat → Nat} {t k x : Nat} (h1 : ∀ j, (j < 72 * t ∨ 72 * t + k ≤ j) → F1 j = F j) : ∀ j, (j < 72 * t ∨ 72 * t + (k + 1) ≤ j) → va_up F1 (72 * t + k) x j = F j := fun j hj => by
  rw [va_up_ne _ _ (by omega)]; exact h1 j (by omega)
theorem up_dg {F1 : Nat → Nat} {t k x : Nat} (h2 : dg (fun j => F1 (72 * t + j)) k) (hx : x < 2147483648) : dg (fun j => va_up F1 (72 * t + k) x (72 * t + j)) (k + 1) := fun j hj => by
  show va_up F1 _ _ _ < _
  by_cases c : j = k
  · subst c; rw [va_up_self]; exact hx
  · rw [va_up_ne _ _ (by omega)]; exact h2 j (by omega)
theorem up_vl {F1 : Nat → Nat} {t k x : Nat} : vl (fun j => va_up F1 (72 * t + k) x (72 * t + j)) (k + 1) = vl (fun j => F1 (72 * t + j)) k + x * bp k := by
  rw [vl_s, va_up_self, vl_congr (fun j hj => va_up_ne _ _ (by omega))]
theorem add_step {D c X Y x y k : Nat} (h : D + c * bp k = X + Y) : (D + (x + y + c) % 2147483648 * bp k) + (x + y + c) / 2147483648 * bp (k + 1) = (X + x * bp k) + (Y + y * bp k) := by
  have := carry_s (x + y + c) (bp k)
  rw [bp_s]
  rw [Nat.add_mul, Nat.add_mul] at this
  omega
theorem tr_of {d : Nat → Nat} {n v : Nat} (h : dg d n) (hv : vl d n = v) : tr d n = nl v := by rw [tr_nl h, hv]
theorem nv_of {F L : Nat → Nat} {t n v : Nat} (hd : dg (fun j => F (72 * t + j)) n) (hv : vl (fun j => F (72 * t + j)) n = v) (hn : n ≤ 72) : nv F (va_up L t (nl v)) t v := by
  have e := tr_of hd hv
  have h1 : nl v ≤ n := by rw [← e]; exact tr_le _ _
  refine ⟨va_up_self _ _ _, by omega, hd.le h1, ?_⟩
  rw [← e, tr_vl, hv]
/-- numbers of 64 bits below 0 -/
def bor (c : Nat) : Int64 := lN 0 - lN c
theorem zl_mod (n : Nat) : lN n = lN (n % 2 ^ 64) := by
  apply zl_inj
  apply BitVec.eq_of_toNat_eq
  show (BitVec.ofNat 64 n).toNat = (BitVec.ofNat 64 (n % 2 ^ 64)).toNat
  simp
theorem bor_sub {x y c : Nat} (hx : x < 2147483648) (hy : y < 2147483648) (hc : c ≤ 1) : lN x - lN y + bor c = lN (x + 18446744073709551616 - y - c) := by
  apply zl_inj
  apply BitVec.eq_of_toNat_eq
  rw [Int64.toBitVec_add, Int64.toBitVec_sub, bor, Int64.toBitVec_sub, zl_bv, zl_bv, zl_bv, zl_bv, zl_bv]
  simp only [BitVec.toNat_add, BitVec.toNat_sub, BitVec.toNat_ofNat, Int64.toBitVec_ofNat]
  omega
theorem bor_and {x y c : Nat} (hx : x < 2147483648) (hy : y < 2147483648) (hc : c ≤ 1) : (lN x - lN y + bor c) &&& 2147483647 = lN ((x + 2147483648 - y - c) % 2147483648) := by
  rw [bor_sub hx hy hc, zl_mod, zl_and (by omega)]
  congr 1
  omega
theorem bor_shr {x y c : Nat} (hx : x < 2147483648) (hy : y < 2147483648) (hc : c ≤ 1) : (lN x - lN y + bor c) >>> ((nI 31).toInt64 &&& 63) = bor (if x < y + c then 1 else 0) := by
  rw [bor_sub hx hy hc]
  split
  · rename_i h
    apply zl_inj
    apply BitVec.eq_of_toInt_eq
    rw [show ((nI 31).toInt64 &&& 63 : Int64) = 31 from by decide]
    show ((lN _).toBitVec.sshiftRight' ((31 : Int64).toBitVec.smod 64)).toInt = _
    rw [show ((31 : Int64).toBitVec.smod 64) = 31#64 from by decide]
    show ((lN _).toBitVec.sshiftRight 31).toInt = _
    rw [BitVec.toInt_sshiftRight, zl_bv, BitVec.toInt_ofNat', show (bor 1).toBitVec.toInt = -1 from by decide, Int.shiftRight_eq_div_pow]
    have e : ((x + 18446744073709551616 - y - c : Nat) : Int).bmod (2 ^ 64) = (x : Int) - y - c := by
      rw [show ((x + 18446744073709551616 - y - c : Nat) : Int) = ((x : Int) - y - c) + (2 ^ 64 : Nat) by omega, Int.add_bmod_right]
      apply Int.bmod_eq_of_le <;> omega
    rw [e]
    omega
  · rename_i h
    rw [zl_mod, show (x + 18446744073709551616 - y - c) % 2 ^ 64 = x - y - c by omega, zl_shr31 (by omega), show (x - y - c) / 2147483648 = 0 by omega]
    rfl
theorem sub_step {D c X Y x y k : Nat} (hc : c ≤ 1) (hx : x < 2147483648) (hy : y < 2147483648) (h : D + Y = X + c * bp k) : (D + (x + 2147483648 - y - c) % 2147483648 * bp k) + (Y + y * bp k) = (X + x * bp k) + (if x < y + c then 1 else 0) * bp (k + 1) := by
  rw [bp_s]
  split
  · rename_i g
    have e : (x + 2147483648 - y - c) % 2147483648 * bp k + y * bp k + c * bp k = x * bp k + 2147483648 * bp k := by
      rw [← Nat.add_mul, ← Nat.add_mul, ← Nat.add_mul]; congr 1; omega
    omega
  · rename_i g
    have e : (x + 2147483648 - y - c) % 2147483648 * bp k + y * bp k + c * bp k = x * bp k := by
      rw [← Nat.add_mul, ← Nat.add_mul]; congr 1; omega
    omega
theorem nv.lt {F L : Nat → Nat} {a v : Nat} (h : nv F L a v) : v < bp (L a) := by rw [h.1]; exact nl_lt v
end
section
set_option maxRecDepth 100000 in
set_option maxHeartbeats 4000000 in
theorem m_addSizes (l : Launch) (Γ : zT) {o lF lL lB : Nat} (hok : mdk o lF lL lB) (G0 : zG) (fl : Nat → Int32) (F L B : Nat → Nat) (sz : Nat) (t a b va vb : Nat) (ht : t < 455) (ha : a < 455) (hbb : b < 455) (na : nv F L a va) (nb : nv F L b vb) (hLa : L a ≤ 71) (hLb : L b ≤ 71) : zMv l yX5_addSizes wsX5_addSizes (zR 2) Γ (md Γ o lF lL lB G0 fl F L B) sz [.ref o, .int (nI t), .int (nI a), .int (nI b)] (fun G' => ∃ F', G' = md Γ o lF lL lB G0 fl F' (va_up L t (nl (va + vb))) (bz B t (va + vb)) ∧ fr72 F F' t ∧ nv F' (va_up L t (nl (va + vb))) t (va + vb)) 0 0 := by
  refine z_start (cc := cX5_addSizes) (maxL := 10) (ret := none) (by decide) rfl (Nat.le_of_ble_eq_true rfl) ?_
  intro p e s m args below meth c ls Q hQ hsz hx hb hr hml hown hts hlocks hnm hK hM hl
  obtain ⟨A, hAe⟩ : ∃ A, A = zA (md Γ o lF lL lB G0 fl F L B) s.heap.size := ⟨_, rfl⟩
  rw [← hAe] at hM
  have hl : lv_has ls 10 [(0, .ref o), (1, .int (nI t)), (2, .int (nI a)), (3, .int (nI b))] := hl
  have hin5 : ∀ w ∈ wsX50, w ∈ wsX5_addSizes := by decide +kernel
  have hf_limbs := hts (.fieldLink RX5 7 "CutRowsModel" "limbs" "[I") (by decide +kernel)
  have hf_length := hts (.fieldLink RX5 13 "CutRowsModel" "length" "[I") (by decide +kernel)
  have k30 : ∀ (x : Nat), (x = max (L a) (L b)) → ∀ (ls : Array Slot) (H : Heap) (locs : List Loc), lv_has ls 10 [(0, .ref o), (1, .int (nI t)), (2, .int (nI a)), (3, .int (nI b))] → zM Γ A s.heap (md Γ o lF lL lB G0 fl F L B) H locs → W p l e (zR 2) s m args below meth c H locs 0 0 Q (F0 m 30 ls [.int (nI x)]) := by
    intro x hxm ls H locs hl hM
    refine lv_iconst (v := nI 1) hx hb dX5_addSizes_30 rfl ?_
    refine z_iadd hx hb dX5_addSizes_31 ?_
    obtain ⟨n, hn⟩ : ∃ n, n = x + 1 := ⟨_, rfl⟩
    rw [← hn]
    refine lv_istore (lv' := [(4, .int (nI n)), (0, .ref o), (1, .int (nI t)), (2, .int (nI a)), (3, .int (nI b))]) hx hb dX5_addSizes_32 hl (by decide) rfl (fun ls hl => ?_)
    refine lv_lconst (v := lN 0) hx hb dX5_addSizes_34 rfl ?_
    refine lv_lstore (lv' := [(5, .long (lN 0)), (4, .int (nI n)), (0, .ref o), (1, .int (nI t)), (2, .int (nI a)), (3, .int (nI b))]) hx hb dX5_addSizes_35 hl (by decide) rfl (fun ls hl => ?_)
    refine lv_iconst (v := nI 0) hx hb dX5_addSizes_37 rfl ?_
    refine lv_istore (lv' := [(7, .int (nI 0)), (5, .long (lN 0)), (4, .int (nI n)), (0, .ref o), (1, .int (nI t)), (2, .int (nI a)), (3, .int (nI b))]) hx hb dX5_addSizes_38 hl (by decide) rfl (fun ls hl => ?_)
    have lp : ∀ (μ : Nat) (k : Nat) (cy : Nat) (F1 : Nat → Nat), n - k = μ → (k ≤ n) → (cy ≤ 1) → (∀ j, (j < 72 * t ∨ 72 * t + k ≤ j) → F1 j = F j) → (dg (fun j => F1 (72 * t + j)) k) → (vl (fun j => F1 (72 * t + j)) k + cy * bp k = vl (lmb F L a) k + vl (lmb F L b) k) → ∀ (ls : Array Slot) (H : Heap) (locs : List Loc), lv_has ls 10 [(7, .int (nI k)), (5, .long (lN cy)), (4, .int (nI n)), (0, .ref o), (1, .int (nI t)), (2, .int (nI a)), (3, .int (nI b))] → zM Γ A s.heap (md Γ o lF lL lB G0 fl F1 L B) H locs → W p l e (zR 2) s m args below meth c H locs 0 0 Q (F0 m 40 ls []) := by
      intro μ
      induction μ using Nat.strongRecOn with
      | _ μ ihlp =>
        intro k cy F1 hμ hk hc1 h1 h2 h3 ls H locs hl hM
        refine lv_iload hx hb dX5_addSizes_40 (lv_at hl 0 rfl) ?_
        refine lv_iload hx hb dX5_addSizes_42 (lv_at hl 2 rfl) ?_
        refine z_icmp_ge (tgt := 99) hx hb (by omega) (by omega) dX5_addSizes_44 (by decide) (fun hc44 => ?_) (fun hc44 => ?_)
        · have hkn : k = n := by omega
          subst hkn
          have hv : vl (fun j => F1 (72 * t + j)) k = va + vb := by
            have hA1 := lmb_vl na (n := k) (by omega)
            have hB1 := lmb_vl nb (n := k) (by omega)
            have hA2 := Nat.lt_of_lt_of_le na.lt (bp_le (show L a ≤ k - 1 by omega))
            have hB2 := Nat.lt_of_lt_of_le nb.lt (bp_le (show L b ≤ k - 1 by omega))
            have hbk := bp_s (k - 1)
            rw [show k - 1 + 1 = k by omega] at hbk
            rw [hA1, hB1] at h3
            rcases (show cy = 0 ∨ cy = 1 by omega) with rfl | rfl <;> omega
          refine lv_aload_n hx hb dX5_addSizes_99 rfl (lv_at hl 3 rfl) ?_
          refine m_get hok hx hb hts hin5 hown hK hM 5 hf_length rfl (by decide) (v := .ref lL) rfl dX5_addSizes_100 ?_
          refine lv_iload_n hx hb dX5_addSizes_103 rfl (lv_at hl 4 rfl) ?_
          refine lv_iload hx hb dX5_addSizes_104 (lv_at hl 2 rfl) ?_
          refine m_stL hok hx hb hK hM (by omega) dX5_addSizes_106 (fun H locs hM => ?_)
          refine lv_aload_n hx hb dX5_addSizes_107 rfl (lv_at hl 3 rfl) ?_
          refine lv_iload_n hx hb dX5_addSizes_108 rfl (lv_at hl 4 rfl) ?_
          refine z_callv0 (va_runV (As := [.int (nI t)]) (rest := []) ⟨hx, hb, hml, hown, hts⟩ (m_trim l Γ hok G0 fl F1 (va_up L t k) B _ t k ht (va_up_self _ _ _) (by omega) h2) (cwV 1 hts gX5_addSizes_X5_trim rfl rfl rfl (by decide +kernel) ⟨Nat.le_of_ble_eq_true rfl, Nat.le_of_ble_eq_true rfl⟩) (zM.preV hK hM (md_o hok) rfl rfl) rfl rfl hl.1 rfl (lv_room (Nat.le_of_ble_eq_true rfl)) dX5_addSizes_109 ⟨Nat.le_of_ble_eq_true rfl, Nat.le_of_ble_eq_true rfl⟩) hM (fun G109 H locs hp109 hM => ?_)
          obtain rfl := hp109
          rw [hQ]
          rw [hAe] at hM
          exact z_vret hsz hx hb hr hlocks hK hM dX5_addSizes_112 (⟨F1, by rw [va_up_up, tr_of h2 hv]; rfl, fun j hj => h1 j (by omega), nv_of h2 hv (by omega)⟩)
        · refine lv_aload_n hx hb dX5_addSizes_47 rfl (lv_at hl 3 rfl) ?_
          refine lv_iload_n hx hb dX5_addSizes_48 rfl (lv_at hl 5 rfl) ?_
          refine lv_iload hx hb dX5_addSizes_49 (lv_at hl 0 rfl) ?_
          refine z_calll0 (va_runV (As := [.int (nI a), .int (nI k)]) (rest := []) ⟨hx, hb, hml, hown, hts⟩ (m_limbOf l Γ hok G0 fl F1 L B _ a k (ha) (by omega) (na).le (mix_dg na h1 h2 (by omega))) (cwV 2 hts gX5_addSizes_X5_limbOf rfl rfl rfl (by decide +kernel) ⟨Nat.le_of_ble_eq_true rfl, Nat.le_of_ble_eq_true rfl⟩) (zM.preV hK hM (md_o hok) rfl rfl) rfl rfl hl.1 rfl (lv_room (Nat.le_of_ble_eq_true rfl)) dX5_addSizes_51 ⟨Nat.le_of_ble_eq_true rfl, Nat.le_of_ble_eq_true rfl⟩) hM (fun r51 G51 H locs hp51 hM => ?_)
          obtain ⟨rfl, rfl⟩ := hp51
          refine lv_aload_n hx hb dX5_addSizes_54 rfl (lv_at hl 3 rfl) ?_
          refine lv_iload_n hx hb dX5_addSizes_55 rfl (lv_at hl 6 rfl) ?_
          refine lv_iload hx hb dX5_addSizes_56 (lv_at hl 0 rfl) ?_
          refine z_calll0 (va_runV (As := [.int (nI b), .int (nI k)]) (rest := [.long (lN (lmb F1 L a k))]) ⟨hx, hb, hml, hown, hts⟩ (m_limbOf l Γ hok G0 fl F1 L B _ b k (hbb) (by omega) (nb).le (mix_dg nb h1 h2 (by omega))) (cwV 2 hts gX5_addSizes_X5_limbOf rfl rfl rfl (by decide +kernel) ⟨Nat.le_of_ble_eq_true rfl, Nat.le_of_ble_eq_true rfl⟩) (zM.preV hK hM (md_o hok) rfl rfl) rfl rfl hl.1 rfl (lv_room (Nat.le_of_ble_eq_true rfl)) dX5_addSizes_58 ⟨Nat.le_of_ble_eq_true rfl, Nat.le_of_ble_eq_true rfl⟩) hM (fun r58 G58 H locs hp58 hM => ?_)
          obtain ⟨rfl, rfl⟩ := hp58
          rw [mix_lmb na h1 (by omega), mix_lmb nb h1 (by omega)]
          have hla := lmb_lt na k
          have hlb := lmb_lt nb k
          refine z_ladd hx hb dX5_addSizes_61 ?_
          refine lv_lload hx hb dX5_addSizes_62 (lv_at hl 1 rfl) ?_
          refine z_ladd hx hb dX5_addSizes_64 ?_
          refine lv_lstore (lv' := [(8, .long (lN (lmb F L a k + (lmb F L b k) + cy))), (7, .int (nI k)), (5, .long (lN cy)), (4, .int (nI n)), (0, .ref o), (1, .int (nI t)), (2, .int (nI a)), (3, .int (nI b))]) hx hb dX5_addSizes_65 hl (by decide) rfl (fun ls hl => ?_)
          refine lv_aload_n hx hb dX5_addSizes_67 rfl (lv_at hl 4 rfl) ?_
          refine m_get hok hx hb hts hin5 hown hK hM 4 hf_limbs rfl (by decide) (v := .ref lF) rfl dX5_addSizes_68 ?_
          refine lv_bipush (v := nI 72) hx hb dX5_addSizes_71 rfl ?_
          refine lv_iload_n hx hb dX5_addSizes_73 rfl (lv_at hl 5 rfl) ?_
          refine z_imul hx hb dX5_addSizes_74 ?_
          refine lv_iload hx hb dX5_addSizes_75 (lv_at hl 1 rfl) ?_
          refine z_iadd hx hb dX5_addSizes_77 ?_
          refine lv_lload hx hb dX5_addSizes_78 (lv_at hl 0 rfl) ?_
          refine lv_ldc2 hx hb hown (hts (.constantLong RX5 41 (2147483647)) (by decide +kernel)) dX5_addSizes_80 ?_
          refine z_land31 hx hb (by omega) dX5_addSizes_83 ?_
          refine z_l2i hx hb dX5_addSizes_84 ?_
          refine m_stF hok hx hb hK hM (by omega) dX5_addSizes_85 (fun H locs hM => ?_)
          refine lv_lload hx hb dX5_addSizes_86 (lv_at hl 0 rfl) ?_
          refine lv_bipush (v := nI 31) hx hb dX5_addSizes_88 rfl ?_
          refine z_lshr31 hx hb (by omega) dX5_addSizes_90 ?_
          refine lv_lstore (lv' := [(5, .long (lN ((lmb F L a k + (lmb F L b k) + cy) / 2147483648))), (8, .long (lN (lmb F L a k + (lmb F L b k) + cy))), (7, .int (nI k)), (4, .int (nI n)), (0, .ref o), (1, .int (nI t)), (2, .int (nI a)), (3, .int (nI b))]) hx hb dX5_addSizes_91 hl (by decide) rfl (fun ls hl => ?_)
          refine z_iinc (v := (k + 1)) (lv' := [(7, .int (nI (k + 1))), (5, .long (lN ((lmb F L a k + (lmb F L b k) + cy) / 2147483648))), (8, .long (lN (lmb F L a k + (lmb F L b k) + cy))), (4, .int (nI n)), (0, .ref o), (1, .int (nI t)), (2, .int (nI a)), (3, .int (nI b))]) hx hb dX5_addSizes_93 hl (k := 2) rfl (nI_p1 _) (by decide) rfl (fun ls hl => ?_)
          refine lv_goto (tgt := 40) hx hb dX5_addSizes_96 (by decide) ?_
          exact ihlp _ (by omega) (k + 1) ((lmb F L a k + lmb F L b k + cy) / 2147483648) (va_up F1 (72 * t + k) ((lmb F L a k + lmb F L b k + cy) % 2147483648)) rfl (by omega) (by omega) (up_out h1) (up_dg h2 (by omega)) (by rw [up_vl, vl_s, vl_s]; exact add_step h3) ls _ _ (lv_sub hl [0, 1, 3, 4, 5, 6, 7] rfl) hM
    exact lp _ 0 0 F rfl (by omega) (by omega) (fun _ _ => rfl) (fun _ h => by omega) (by simp [vl_0]) ls _ _ (lv_sub hl [0, 1, 2, 3, 4, 5, 6] rfl) hM
  refine lv_aload_n hx hb dX5_addSizes_0 rfl (lv_at hl 0 rfl) ?_
  refine m_get hok hx hb hts hin5 hown hK hM 5 hf_length rfl (by decide) (v := .ref lL) rfl dX5_addSizes_1 ?_
  refine lv_iload_n hx hb dX5_addSizes_4 rfl (lv_at hl 2 rfl) ?_
  refine m_ldL hok hx hb hK hM (by omega) dX5_addSizes_5 ?_
  refine lv_aload_n hx hb dX5_addSizes_6 rfl (lv_at hl 0 rfl) ?_
  refine m_get hok hx hb hts hin5 hown hK hM 5 hf_length rfl (by decide) (v := .ref lL) rfl dX5_addSizes_7 ?_
  refine lv_iload_n hx hb dX5_addSizes_10 rfl (lv_at hl 3 rfl) ?_
  refine m_ldL hok hx hb hK hM (by omega) dX5_addSizes_11 ?_
  refine z_icmp_le (tgt := 24) hx hb (by omega) (by omega) dX5_addSizes_12 (by decide) (fun hc12 => ?_) (fun hc12 => ?_)
  · refine lv_aload_n hx hb dX5_addSizes_24 rfl (lv_at hl 0 rfl) ?_
    refine m_get hok hx hb hts hin5 hown hK hM 5 hf_length rfl (by decide) (v := .ref lL) rfl dX5_addSizes_25 ?_
    refine lv_iload_n hx hb dX5_addSizes_28 rfl (lv_at hl 3 rfl) ?_
    refine m_ldL hok hx hb hK hM (by omega) dX5_addSizes_29 ?_
    exact k30 (L b) (by omega) ls _ _ (lv_sub hl [0, 1, 2, 3] rfl) hM
  · refine lv_aload_n hx hb dX5_addSizes_15 rfl (lv_at hl 0 rfl) ?_
    refine m_get hok hx hb hts hin5 hown hK hM 5 hf_length rfl (by decide) (v := .ref lL) rfl dX5_addSizes_16 ?_
    refine lv_iload_n hx hb dX5_addSizes_19 rfl (lv_at hl 2 rfl) ?_
    refine m_ldL hok hx hb hK hM (by omega) dX5_addSizes_20 ?_
    refine lv_goto (tgt := 30) hx hb dX5_addSizes_21 (by decide) ?_
    exact k30 (L a) (by omega) ls _ _ (lv_sub hl [0, 1, 2, 3] rfl) hM

set_option maxRecDepth 100000 in
set_option maxHeartbeats 4000000 in
theorem m_subtractSizes (l : Launch) (Γ : zT) {o lF lL lB : Nat} (hok : mdk o lF lL lB) (G0 : zG) (fl : Nat → Int32) (F L B : Nat → Nat) (sz : Nat) (t a b va vb : Nat) (ht : t < 455) (ha : a < 455) (hbb : b < 455) (na : nv F L a va) (nb : nv F L b vb) (hle : vb ≤ va) : zMv l yX5_subtractSizes wsX5_subtractSizes (zR 2) Γ (md Γ o lF lL lB G0 fl F L B) sz [.ref o, .int (nI t), .int (nI a), .int (nI b)] (fun G' => ∃ F', G' = md Γ o lF lL lB G0 fl F' (va_up L t (nl (va - vb))) (bz B t (va - vb)) ∧ fr72 F F' t ∧ nv F' (va_up L t (nl (va - vb))) t (va - vb)) 0 0 := by
  refine z_start (cc := cX5_subtractSizes) (maxL := 10) (ret := none) (by decide) rfl (Nat.le_of_ble_eq_true rfl) ?_
  intro p e s m args below meth c ls Q hQ hsz hx hb hr hml hown hts hlocks hnm hK hM hl
  obtain ⟨A, hAe⟩ : ∃ A, A = zA (md Γ o lF lL lB G0 fl F L B) s.heap.size := ⟨_, rfl⟩
  rw [← hAe] at hM
  have hl : lv_has ls 10 [(0, .ref o), (1, .int (nI t)), (2, .int (nI a)), (3, .int (nI b))] := hl
  have hin5 : ∀ w ∈ wsX50, w ∈ wsX5_subtractSizes := by decide +kernel
  have hf_limbs := hts (.fieldLink RX5 7 "CutRowsModel" "limbs" "[I") (by decide +kernel)
  have hf_length := hts (.fieldLink RX5 13 "CutRowsModel" "length" "[I") (by decide +kernel)
  have hLa := na.le
  have hLba : L b ≤ L a := by rw [na.1, nb.1]; exact nl_mono hle
  refine lv_aload_n hx hb dX5_subtractSizes_0 rfl (lv_at hl 0 rfl) ?_
  refine m_get hok hx hb hts hin5 hown hK hM 5 hf_length rfl (by decide) (v := .ref lL) rfl dX5_subtractSizes_1 ?_
  refine lv_iload_n hx hb dX5_subtractSizes_4 rfl (lv_at hl 2 rfl) ?_
  refine m_ldL hok hx hb hK hM (by omega) dX5_subtractSizes_5 ?_
  refine lv_istore (lv' := [(4, .int (nI (L a))), (0, .ref o), (1, .int (nI t)), (2, .int (nI a)), (3, .int (nI b))]) hx hb dX5_subtractSizes_6 hl (by decide) rfl (fun ls hl => ?_)
  refine lv_lconst (v := lN 0) hx hb dX5_subtractSizes_8 rfl ?_
  refine lv_lstore (lv' := [(5, .long (lN 0)), (4, .int (nI (L a))), (0, .ref o), (1, .int (nI t)), (2, .int (nI a)), (3, .int (nI b))]) hx hb dX5_subtractSizes_9 hl (by decide) rfl (fun ls hl => ?_)
  refine lv_iconst (v := nI 0) hx hb dX5_subtractSizes_11 rfl ?_
  refine lv_istore (lv' := [(7, .int (nI 0)), (5, .long (lN 0)), (4, .int (nI (L a))), (0, .ref o), (1, .int (nI t)), (2, .int (nI a)), (3, .int (nI b))]) hx hb dX5_subtractSizes_12 hl (by decide) rfl (fun ls hl => ?_)
  have lp : ∀ (μ : Nat) (k : Nat) (cy : Nat) (F1 : Nat → Nat), L a - k = μ → (k ≤ L a) → (cy ≤ 1) → (∀ j, (j < 72 * t ∨ 72 * t + k ≤ j) → F1 j = F j) → (dg (fun j => F1 (72 * t + j)) k) → (vl (fun j => F1 (72 * t + j)) k + vl (lmb F L b) k = vl (lmb F L a) k + cy * bp k) → ∀ (ls : Array Slot) (H : Heap) (locs : List Loc), lv_has ls 10 [(7, .int (nI k)), (5, .long (bor cy)), (4, .int (nI (L a))), (0, .ref o), (1, .int (nI t)), (2, .int (nI a)), (3, .int (nI b))] → zM Γ A s.heap (md Γ o lF lL lB G0 fl F1 L B) H locs → W p l e (zR 2) s m args below meth c H locs 0 0 Q (F0 m 14 ls []) := by
    intro μ
    induction μ using Nat.strongRecOn with
    | _ μ ihlp =>
      intro k cy F1 hμ hk hc1 h1 h2 h3 ls H locs hl hM
      refine lv_iload hx hb dX5_subtractSizes_14 (lv_at hl 0 rfl) ?_
      refine lv_iload hx hb dX5_subtractSizes_16 (lv_at hl 2 rfl) ?_
      refine z_icmp_ge (tgt := 73) hx hb (by omega) (by omega) dX5_subtractSizes_18 (by decide) (fun hc18 => ?_) (fun hc18 => ?_)
      · have hkn : k = L a := by omega
        subst hkn
        have hv : vl (fun j => F1 (72 * t + j)) (L a) = va - vb := by
          have hA1 := lmb_vl na (n := L a) (by omega)
          have hB1 := lmb_vl nb (n := L a) (by omega)
          have hD := vl_lt h2
          rw [hA1, hB1] at h3
          rcases (show cy = 0 ∨ cy = 1 by omega) with rfl | rfl <;> omega
        refine lv_aload_n hx hb dX5_subtractSizes_73 rfl (lv_at hl 3 rfl) ?_
        refine m_get hok hx hb hts hin5 hown hK hM 5 hf_length rfl (by decide) (v := .ref lL) rfl dX5_subtractSizes_74 ?_
        refine lv_iload_n hx hb dX5_subtractSizes_77 rfl (lv_at hl 4 rfl) ?_
        refine lv_iload hx hb dX5_subtractSizes_78 (lv_at hl 2 rfl) ?_
        refine m_stL hok hx hb hK hM (by omega) dX5_subtractSizes_80 (fun H locs hM => ?_)
        refine lv_aload_n hx hb dX5_subtractSizes_81 rfl (lv_at hl 3 rfl) ?_
        refine lv_iload_n hx hb dX5_subtractSizes_82 rfl (lv_at hl 4 rfl) ?_
        refine z_callv0 (va_runV (As := [.int (nI t)]) (rest := []) ⟨hx, hb, hml, hown, hts⟩ (m_trim l Γ hok G0 fl F1 (va_up L t (L a)) B _ t (L a) ht (va_up_self _ _ _) (by omega) h2) (cwV 1 hts gX5_subtractSizes_X5_trim rfl rfl rfl (by decide +kernel) ⟨Nat.le_of_ble_eq_true rfl, Nat.le_of_ble_eq_true rfl⟩) (zM.preV hK hM (md_o hok) rfl rfl) rfl rfl hl.1 rfl (lv_room (Nat.le_of_ble_eq_true rfl)) dX5_subtractSizes_83 ⟨Nat.le_of_ble_eq_true rfl, Nat.le_of_ble_eq_true rfl⟩) hM (fun G83 H locs hp83 hM => ?_)
        obtain rfl := hp83
        rw [hQ]
        rw [hAe] at hM
        exact z_vret hsz hx hb hr hlocks hK hM dX5_subtractSizes_86 (⟨F1, by rw [va_up_up, tr_of h2 hv]; rfl, fun j hj => h1 j (by omega), nv_of h2 hv (by omega)⟩)
      · refine lv_aload_n hx hb dX5_subtractSizes_21 rfl (lv_at hl 3 rfl) ?_
        refine lv_iload_n hx hb dX5_subtractSizes_22 rfl (lv_at hl 5 rfl) ?_
        refine lv_iload hx hb dX5_subtractSizes_23 (lv_at hl 0 rfl) ?_
        refine z_calll0 (va_runV (As := [.int (nI a), .int (nI k)]) (rest := []) ⟨hx, hb, hml, hown, hts⟩ (m_limbOf l Γ hok G0 fl F1 L B _ a k (ha) (by omega) (na).le (mix_dg na h1 h2 (by omega))) (cwV 2 hts gX5_subtractSizes_X5_limbOf rfl rfl rfl (by decide +kernel) ⟨Nat.le_of_ble_eq_true rfl, Nat.le_of_ble_eq_true rfl⟩) (zM.preV hK hM (md_o hok) rfl rfl) rfl rfl hl.1 rfl (lv_room (Nat.le_of_ble_eq_true rfl)) dX5_subtractSizes_25 ⟨Nat.le_of_ble_eq_true rfl, Nat.le_of_ble_eq_true rfl⟩) hM (fun r25 G25 H locs hp25 hM => ?_)
        obtain ⟨rfl, rfl⟩ := hp25
        refine lv_aload_n hx hb dX5_subtractSizes_28 rfl (lv_at hl 3 rfl) ?_
        refine lv_iload_n hx hb dX5_subtractSizes_29 rfl (lv_at hl 6 rfl) ?_
        refine lv_iload hx hb dX5_subtractSizes_30 (lv_at hl 0 rfl) ?_
        refine z_calll0 (va_runV (As := [.int (nI b), .int (nI k)]) (rest := [.long (lN (lmb F1 L a k))]) ⟨hx, hb, hml, hown, hts⟩ (m_limbOf l Γ hok G0 fl F1 L B _ b k (hbb) (by omega) (nb).le (mix_dg nb h1 h2 (by omega))) (cwV 2 hts gX5_subtractSizes_X5_limbOf rfl rfl rfl (by decide +kernel) ⟨Nat.le_of_ble_eq_true rfl, Nat.le_of_ble_eq_true rfl⟩) (zM.preV hK hM (md_o hok) rfl rfl) rfl rfl hl.1 rfl (lv_room (Nat.le_of_ble_eq_true rfl)) dX5_subtractSizes_32 ⟨Nat.le_of_ble_eq_true rfl, Nat.le_of_ble_eq_true rfl⟩) hM (fun r32 G32 H locs hp32 hM => ?_)
        obtain ⟨rfl, rfl⟩ := hp32
        rw [mix_lmb na h1 (by omega), mix_lmb nb h1 (by omega)]
        have hla := lmb_lt na k
        have hlb := lmb_lt nb k
        refine lv_lsub hx hb dX5_subtractSizes_35 ?_
        refine lv_lload hx hb dX5_subtractSizes_36 (lv_at hl 1 rfl) ?_
        refine lv_ladd hx hb dX5_subtractSizes_38 ?_
        refine lv_lstore (lv' := [(8, .long (((lN (lmb F L a k)) - (lN (lmb F L b k))) + (bor cy))), (7, .int (nI k)), (5, .long (bor cy)), (4, .int (nI (L a))), (0, .ref o), (1, .int (nI t)), (2, .int (nI a)), (3, .int (nI b))]) hx hb dX5_subtractSizes_39 hl (by decide) rfl (fun ls hl => ?_)
        refine lv_aload_n hx hb dX5_subtractSizes_41 rfl (lv_at hl 4 rfl) ?_
        refine m_get hok hx hb hts hin5 hown hK hM 4 hf_limbs rfl (by decide) (v := .ref lF) rfl dX5_subtractSizes_42 ?_
        refine lv_bipush (v := nI 72) hx hb dX5_subtractSizes_45 rfl ?_
        refine lv_iload_n hx hb dX5_subtractSizes_47 rfl (lv_at hl 5 rfl) ?_
        refine z_imul hx hb dX5_subtractSizes_48 ?_
        refine lv_iload hx hb dX5_subtractSizes_49 (lv_at hl 1 rfl) ?_
        refine z_iadd hx hb dX5_subtractSizes_51 ?_
        refine lv_lload hx hb dX5_subtractSizes_52 (lv_at hl 0 rfl) ?_
        refine lv_ldc2 hx hb hown (hts (.constantLong RX5 41 (2147483647)) (by decide +kernel)) dX5_subtractSizes_54 ?_
        refine lv_land hx hb dX5_subtractSizes_57 ?_
        refine z_asl (y := lN ((lmb F L a k + 2147483648 - lmb F L b k - cy) % 2147483648)) (bor_and hla hlb hc1) ?_
        refine z_l2i hx hb dX5_subtractSizes_58 ?_
        refine m_stF hok hx hb hK hM (by omega) dX5_subtractSizes_59 (fun H locs hM => ?_)
        refine lv_lload hx hb dX5_subtractSizes_60 (lv_at hl 0 rfl) ?_
        refine lv_bipush (v := nI 31) hx hb dX5_subtractSizes_62 rfl ?_
        refine lv_lshr hx hb dX5_subtractSizes_64 rfl ?_
        refine z_asl (bor_shr hla hlb hc1) ?_
        refine lv_lstore (lv' := [(5, .long (bor (if lmb F L a k < lmb F L b k + cy then 1 else 0))), (8, .long (((lN (lmb F L a k)) - (lN (lmb F L b k))) + (bor cy))), (7, .int (nI k)), (4, .int (nI (L a))), (0, .ref o), (1, .int (nI t)), (2, .int (nI a)), (3, .int (nI b))]) hx hb dX5_subtractSizes_65 hl (by decide) rfl (fun ls hl => ?_)
        refine z_iinc (v := (k + 1)) (lv' := [(7, .int (nI (k + 1))), (5, .long (bor (if lmb F L a k < lmb F L b k + cy then 1 else 0))), (8, .long (((lN (lmb F L a k)) - (lN (lmb F L b k))) + (bor cy))), (4, .int (nI (L a))), (0, .ref o), (1, .int (nI t)), (2, .int (nI a)), (3, .int (nI b))]) hx hb dX5_subtractSizes_67 hl (k := 2) rfl (nI_p1 _) (by decide) rfl (fun ls hl => ?_)
        refine lv_goto (tgt := 14) hx hb dX5_subtractSizes_70 (by decide) ?_
        exact ihlp _ (by omega) (k + 1) (if lmb F L a k < lmb F L b k + cy then 1 else 0) (va_up F1 (72 * t + k) ((lmb F L a k + 2147483648 - lmb F L b k - cy) % 2147483648)) rfl (by omega) (by split <;> omega) (up_out h1) (up_dg h2 (by omega)) (by rw [up_vl, vl_s, vl_s]; exact sub_step hc1 hla hlb h3) ls _ _ (lv_sub hl [0, 1, 3, 4, 5, 6, 7] rfl) hM
  rw [show lN 0 = bor 0 from by decide] at hl
  exact lp _ 0 0 F rfl (by omega) (by omega) (fun _ _ => rfl) (fun _ h => by omega) (by simp [vl_0]) ls _ _ (lv_sub hl [0, 1, 2, 3, 4, 5, 6] rfl) hM
end
section
/-- 1 for a number below 0 -/
def sb (z : Int) : Nat := if z < 0 then 1 else 0
theorem sb_lt (z : Int) : sb z < 2 := by unfold sb; split <;> decide
theorem bz_up (B : Nat → Nat) (t v x : Nat) : va_up (bz B t v) t x = va_up B t x := by unfold bz; split; rw [va_up_up]; rfl
theorem bz_ap {B : Nat → Nat} {t v a : Nat} (h : a ≠ t) : bz B t v a = B a := by unfold bz; split; exact va_up_ne _ _ h; rfl
theorem add_post {Γ : zT} {o lF lL lB : Nat} {G0 : zG} {fl : Nat → Int32} {F L B : Nat → Nat} {t v x : Nat} {z : Int} (hv : v = z.natAbs) (hx : x = sb z) : md Γ o lF lL lB G0 fl F (va_up L t (nl v)) (va_up (bz B t v) t x) = md Γ o lF lL lB G0 fl F (va_up L t (nl z.natAbs)) (va_up B t (sb z)) := by rw [hv, hx, bz_up]
theorem sb_test1 (a b : Int) (va vb : Nat) (h1 : va = a.natAbs) (h2 : vb = b.natAbs) (h3 : sb a = sb b) : va + vb = (a + b).natAbs := by unfold sb at h3; split at h3 <;> split at h3 <;> omega
theorem sb_or (z : Int) : (z < 0 ∧ sb z = 1) ∨ (0 ≤ z ∧ sb z = 0) := by
  unfold sb; split
  · exact Or.inl ⟨by assumption, rfl⟩
  · exact Or.inr ⟨by omega, rfl⟩
end
section
set_option maxRecDepth 100000 in
set_option maxHeartbeats 4000000 in
theorem m_add (l : Launch) (Γ : zT) {o lF lL lB : Nat} (hok : mdk o lF lL lB) (G0 : zG) (fl : Nat → Int32) (F L B : Nat → Nat) (sz : Nat) (t a b : Nat) (za zb : Int) (ht : t < 455) (ha : a < 455) (hbb : b < 455) (na : nv F L a za.natAbs) (nb : nv F L b zb.natAbs) (hBa : B a = sb za) (hBb : B b = sb zb) (hLa : L a ≤ 71) (hLb : L b ≤ 71) : zMv l yX5_add wsX5_add (zR 3) Γ (md Γ o lF lL lB G0 fl F L B) sz [.ref o, .int (nI t), .int (nI a), .int (nI b)] (fun G' => ∃ F', G' = md Γ o lF lL lB G0 fl F' (va_up L t (nl (za + zb).natAbs)) (va_up B t (sb (za + zb))) ∧ fr72 F F' t ∧ nv F' (va_up L t (nl (za + zb).natAbs)) t (za + zb).natAbs) 0 0 := by
  refine z_start (cc := cX5_add) (maxL := 6) (ret := none) (by decide) rfl (Nat.le_of_ble_eq_true rfl) ?_
  intro p e s m args below meth c ls Q hQ hsz hx hb hr hml hown hts hlocks hnm hK hM hl
  obtain ⟨A, hAe⟩ : ∃ A, A = zA (md Γ o lF lL lB G0 fl F L B) s.heap.size := ⟨_, rfl⟩
  rw [← hAe] at hM
  have hl : lv_has ls 6 [(0, .ref o), (1, .int (nI t)), (2, .int (nI a)), (3, .int (nI b))] := hl
  have hin5 : ∀ w ∈ wsX50, w ∈ wsX5_add := by decide +kernel
  have hf_length := hts (.fieldLink RX5 13 "CutRowsModel" "length" "[I") (by decide +kernel)
  have hf_isBelow := hts (.fieldLink RX5 16 "CutRowsModel" "isBelow" "[Z") (by decide +kernel)
  have hsa := sb_lt za
  have hsb := sb_lt zb
  refine lv_aload_n hx hb dX5_add_0 rfl (lv_at hl 0 rfl) ?_
  refine m_get hok hx hb hts hin5 hown hK hM 6 hf_isBelow rfl (by decide) (v := .ref lB) rfl dX5_add_1 ?_
  refine lv_iload_n hx hb dX5_add_4 rfl (lv_at hl 2 rfl) ?_
  refine m_ldB hok hx hb hK hM (by omega) dX5_add_5 ?_
  refine lv_istore (lv' := [(4, .int (nI (B a))), (0, .ref o), (1, .int (nI t)), (2, .int (nI a)), (3, .int (nI b))]) hx hb dX5_add_6 hl (by decide) rfl (fun ls hl => ?_)
  refine lv_aload_n hx hb dX5_add_8 rfl (lv_at hl 1 rfl) ?_
  refine m_get hok hx hb hts hin5 hown hK hM 6 hf_isBelow rfl (by decide) (v := .ref lB) rfl dX5_add_9 ?_
  refine lv_iload_n hx hb dX5_add_12 rfl (lv_at hl 4 rfl) ?_
  refine m_ldB hok hx hb hK hM (by omega) dX5_add_13 ?_
  refine lv_istore (lv' := [(5, .int (nI (B b))), (4, .int (nI (B a))), (0, .ref o), (1, .int (nI t)), (2, .int (nI a)), (3, .int (nI b))]) hx hb dX5_add_14 hl (by decide) rfl (fun ls hl => ?_)
  refine lv_iload hx hb dX5_add_16 (lv_at hl 1 rfl) ?_
  refine lv_iload hx hb dX5_add_18 (lv_at hl 0 rfl) ?_
  refine z_icmp_ne (tgt := 58) hx hb (by omega) (by omega) dX5_add_20 (by decide) (fun hc20 => ?_) (fun hc20 => ?_)
  · refine lv_aload_n hx hb dX5_add_58 rfl (lv_at hl 2 rfl) ?_
    refine lv_iload_n hx hb dX5_add_59 rfl (lv_at hl 4 rfl) ?_
    refine lv_iload_n hx hb dX5_add_60 rfl (lv_at hl 5 rfl) ?_
    refine z_calli0 (va_runV (As := [.int (nI a), .int (nI b)]) (rest := []) ⟨hx, hb, hml, hown, hts⟩ (m_compareSizes l Γ hok G0 fl F L B _ a b za.natAbs zb.natAbs ha hbb na nb) (cwV 2 hts gX5_add_X5_compareSizes rfl rfl rfl (by decide +kernel) ⟨Nat.le_of_ble_eq_true rfl, Nat.le_of_ble_eq_true rfl⟩) (zM.preV hK hM (md_o hok) rfl rfl) rfl rfl hl.1 rfl (lv_room (Nat.le_of_ble_eq_true rfl)) dX5_add_61 ⟨Nat.le_of_ble_eq_true rfl, Nat.le_of_ble_eq_true rfl⟩) hM (fun r61 G61 H locs hp61 hM => ?_)
    obtain ⟨rfl, rfl⟩ := hp61
    refine lv_if_lt (tgt := 102) hx hb dX5_add_64 (by decide) (fun hc64 => ?_) (fun hc64 => ?_)
    · refine lv_aload_n hx hb dX5_add_102 rfl (lv_at hl 2 rfl) ?_
      refine lv_iload_n hx hb dX5_add_103 rfl (lv_at hl 3 rfl) ?_
      refine lv_iload_n hx hb dX5_add_104 rfl (lv_at hl 5 rfl) ?_
      refine lv_iload_n hx hb dX5_add_105 rfl (lv_at hl 4 rfl) ?_
      have hlt : za.natAbs < zb.natAbs := by
        rcases Nat.lt_or_ge za.natAbs zb.natAbs with g | g
        · exact g
        · rcases Nat.lt_or_ge zb.natAbs za.natAbs with g2 | g2
          · rw [← cmp3_gt g2] at hc64; exact absurd hc64 (by decide)
          · rw [← cmp3_eq (Nat.le_antisymm g2 g)] at hc64; exact absurd hc64 (by decide)
      refine z_callv0 (va_runV (As := [.int (nI t), .int (nI b), .int (nI a)]) (rest := []) ⟨hx, hb, hml, hown, hts⟩ (m_subtractSizes l Γ hok G0 fl F L B _ t b a zb.natAbs za.natAbs ht hbb ha nb na (by omega)) (cwV 3 hts gX5_add_X5_subtractSizes rfl rfl rfl (by decide +kernel) ⟨Nat.le_of_ble_eq_true rfl, Nat.le_of_ble_eq_true rfl⟩) (zM.preV hK hM (md_o hok) rfl rfl) rfl rfl hl.1 rfl (lv_room (Nat.le_of_ble_eq_true rfl)) dX5_add_106 ⟨Nat.le_of_ble_eq_true rfl, Nat.le_of_ble_eq_true rfl⟩) hM (fun G106 H locs hp106 hM => ?_)
      obtain ⟨F1, rfl, hfr, hn⟩ := hp106
      refine lv_aload_n hx hb dX5_add_109 rfl (lv_at hl 2 rfl) ?_
      refine m_get hok hx hb hts hin5 hown hK hM 6 hf_isBelow rfl (by decide) (v := .ref lB) rfl dX5_add_110 ?_
      refine lv_iload_n hx hb dX5_add_113 rfl (lv_at hl 3 rfl) ?_
      refine lv_iload hx hb dX5_add_114 (lv_at hl 0 rfl) ?_
      refine m_stB hok hx hb hK hM (by omega) (by omega) dX5_add_116 (fun H locs hM => ?_)
      rw [hQ]
      rw [hAe] at hM
      exact z_vret hsz hx hb hr hlocks hK hM dX5_add_117 (by
            have hz : zb.natAbs - za.natAbs = (za + zb).natAbs ∧ B b = sb (za + zb) := by
              have e1 := sb_or za; have e2 := sb_or zb; have e3 := sb_or (za + zb)
              have hp := @nl_pos (zb.natAbs - za.natAbs)
              omega
            exact ⟨F1, add_post hz.1 hz.2, hfr, by rw [← hz.1]; exact hn⟩)
    · refine lv_aload_n hx hb dX5_add_67 rfl (lv_at hl 2 rfl) ?_
      refine lv_iload_n hx hb dX5_add_68 rfl (lv_at hl 3 rfl) ?_
      refine lv_iload_n hx hb dX5_add_69 rfl (lv_at hl 4 rfl) ?_
      refine lv_iload_n hx hb dX5_add_70 rfl (lv_at hl 5 rfl) ?_
      have hle : zb.natAbs ≤ za.natAbs := by
        rcases Nat.lt_or_ge za.natAbs zb.natAbs with g | g
        · rw [← cmp3_lt g] at hc64; exact absurd (by decide) hc64
        · exact g
      refine z_callv0 (va_runV (As := [.int (nI t), .int (nI a), .int (nI b)]) (rest := []) ⟨hx, hb, hml, hown, hts⟩ (m_subtractSizes l Γ hok G0 fl F L B _ t a b za.natAbs zb.natAbs ht ha hbb na nb hle) (cwV 3 hts gX5_add_X5_subtractSizes rfl rfl rfl (by decide +kernel) ⟨Nat.le_of_ble_eq_true rfl, Nat.le_of_ble_eq_true rfl⟩) (zM.preV hK hM (md_o hok) rfl rfl) rfl rfl hl.1 rfl (lv_room (Nat.le_of_ble_eq_true rfl)) dX5_add_71 ⟨Nat.le_of_ble_eq_true rfl, Nat.le_of_ble_eq_true rfl⟩) hM (fun G71 H locs hp71 hM => ?_)
      obtain ⟨F1, rfl, hfr, hn⟩ := hp71
      have hx72 := hn.2.1
      refine lv_aload_n hx hb dX5_add_74 rfl (lv_at hl 2 rfl) ?_
      refine m_get hok hx hb hts hin5 hown hK hM 6 hf_isBelow rfl (by decide) (v := .ref lB) rfl dX5_add_75 ?_
      refine lv_iload_n hx hb dX5_add_78 rfl (lv_at hl 3 rfl) ?_
      refine lv_iload hx hb dX5_add_79 (lv_at hl 1 rfl) ?_
      refine z_if_eq (tgt := 97) hx hb (by omega) dX5_add_81 (by decide) (fun hc81 => ?_) (fun hc81 => ?_)
      · refine lv_iconst (v := nI 0) hx hb dX5_add_97 rfl ?_
        refine m_stB hok hx hb hK hM (by omega) (by omega) dX5_add_98 (fun H locs hM => ?_)
        refine lv_goto (tgt := 117) hx hb dX5_add_99 (by decide) ?_
        rw [hQ]
        rw [hAe] at hM
        exact z_vret hsz hx hb hr hlocks hK hM dX5_add_117 (by
              have hz : za.natAbs - zb.natAbs = (za + zb).natAbs ∧ 0 = sb (za + zb) := by
                have e1 := sb_or za; have e2 := sb_or zb; have e3 := sb_or (za + zb)
                have hp := @nl_pos (za.natAbs - zb.natAbs)
                omega
              exact ⟨F1, add_post hz.1 hz.2, hfr, by rw [← hz.1]; exact hn⟩)
      · refine lv_aload_n hx hb dX5_add_84 rfl (lv_at hl 2 rfl) ?_
        refine m_get hok hx hb hts hin5 hown hK hM 5 hf_length rfl (by decide) (v := .ref lL) rfl dX5_add_85 ?_
        refine lv_iload_n hx hb dX5_add_88 rfl (lv_at hl 3 rfl) ?_
        refine m_ldL hok hx hb hK hM (by omega) dX5_add_89 ?_
        refine z_asi (y := nI (nl (za.natAbs - zb.natAbs))) (congrArg nI (va_up_self _ _ _)) ?_
        refine z_if_le (tgt := 97) hx hb (by omega) dX5_add_90 (by decide) (fun hc90 => ?_) (fun hc90 => ?_)
        · refine lv_iconst (v := nI 0) hx hb dX5_add_97 rfl ?_
          refine m_stB hok hx hb hK hM (by omega) (by omega) dX5_add_98 (fun H locs hM => ?_)
          refine lv_goto (tgt := 117) hx hb dX5_add_99 (by decide) ?_
          rw [hQ]
          rw [hAe] at hM
          exact z_vret hsz hx hb hr hlocks hK hM dX5_add_117 (by
                have hz : za.natAbs - zb.natAbs = (za + zb).natAbs ∧ 0 = sb (za + zb) := by
                  have e1 := sb_or za; have e2 := sb_or zb; have e3 := sb_or (za + zb)
                  have hp := @nl_pos (za.natAbs - zb.natAbs)
                  omega
                exact ⟨F1, add_post hz.1 hz.2, hfr, by rw [← hz.1]; exact hn⟩)
        · refine lv_iconst (v := nI 1) hx hb dX5_add_93 rfl ?_
          refine lv_goto (tgt := 98) hx hb dX5_add_94 (by decide) ?_
          refine m_stB hok hx hb hK hM (by omega) (by omega) dX5_add_98 (fun H locs hM => ?_)
          refine lv_goto (tgt := 117) hx hb dX5_add_99 (by decide) ?_
          rw [hQ]
          rw [hAe] at hM
          exact z_vret hsz hx hb hr hlocks hK hM dX5_add_117 (by
                have hz : za.natAbs - zb.natAbs = (za + zb).natAbs ∧ 1 = sb (za + zb) := by
                  have e1 := sb_or za; have e2 := sb_or zb; have e3 := sb_or (za + zb)
                  have hp := @nl_pos (za.natAbs - zb.natAbs)
                  omega
                exact ⟨F1, add_post hz.1 hz.2, hfr, by rw [← hz.1]; exact hn⟩)
  · refine lv_aload_n hx hb dX5_add_23 rfl (lv_at hl 2 rfl) ?_
    refine lv_iload_n hx hb dX5_add_24 rfl (lv_at hl 3 rfl) ?_
    refine lv_iload_n hx hb dX5_add_25 rfl (lv_at hl 4 rfl) ?_
    refine lv_iload_n hx hb dX5_add_26 rfl (lv_at hl 5 rfl) ?_
    refine z_callv0 (va_runV (As := [.int (nI t), .int (nI a), .int (nI b)]) (rest := []) ⟨hx, hb, hml, hown, hts⟩ (m_addSizes l Γ hok G0 fl F L B _ t a b za.natAbs zb.natAbs ht ha hbb na nb hLa hLb) (cwV 3 hts gX5_add_X5_addSizes rfl rfl rfl (by decide +kernel) ⟨Nat.le_of_ble_eq_true rfl, Nat.le_of_ble_eq_true rfl⟩) (zM.preV hK hM (md_o hok) rfl rfl) rfl rfl hl.1 rfl (lv_room (Nat.le_of_ble_eq_true rfl)) dX5_add_27 ⟨Nat.le_of_ble_eq_true rfl, Nat.le_of_ble_eq_true rfl⟩) hM (fun G27 H locs hp27 hM => ?_)
    obtain ⟨F1, rfl, hfr, hn⟩ := hp27
    have hx72 := hn.2.1
    refine lv_aload_n hx hb dX5_add_30 rfl (lv_at hl 2 rfl) ?_
    refine m_get hok hx hb hts hin5 hown hK hM 6 hf_isBelow rfl (by decide) (v := .ref lB) rfl dX5_add_31 ?_
    refine lv_iload_n hx hb dX5_add_34 rfl (lv_at hl 3 rfl) ?_
    refine lv_iload hx hb dX5_add_35 (lv_at hl 1 rfl) ?_
    refine z_if_eq (tgt := 53) hx hb (by omega) dX5_add_37 (by decide) (fun hc37 => ?_) (fun hc37 => ?_)
    · refine lv_iconst (v := nI 0) hx hb dX5_add_53 rfl ?_
      refine m_stB hok hx hb hK hM (by omega) (by omega) dX5_add_54 (fun H locs hM => ?_)
      refine lv_goto (tgt := 117) hx hb dX5_add_55 (by decide) ?_
      rw [hQ]
      rw [hAe] at hM
      exact z_vret hsz hx hb hr hlocks hK hM dX5_add_117 (by
            have hz : za.natAbs + zb.natAbs = (za + zb).natAbs ∧ 0 = sb (za + zb) := by
              have e1 := sb_or za; have e2 := sb_or zb; have e3 := sb_or (za + zb)
              have hp := @nl_pos (za.natAbs + zb.natAbs)
              omega
            exact ⟨F1, add_post hz.1 hz.2, hfr, by rw [← hz.1]; exact hn⟩)
    · refine lv_aload_n hx hb dX5_add_40 rfl (lv_at hl 2 rfl) ?_
      refine m_get hok hx hb hts hin5 hown hK hM 5 hf_length rfl (by decide) (v := .ref lL) rfl dX5_add_41 ?_
      refine lv_iload_n hx hb dX5_add_44 rfl (lv_at hl 3 rfl) ?_
      refine m_ldL hok hx hb hK hM (by omega) dX5_add_45 ?_
      refine z_asi (y := nI (nl (za.natAbs + zb.natAbs))) (congrArg nI (va_up_self _ _ _)) ?_
      refine z_if_le (tgt := 53) hx hb (by omega) dX5_add_46 (by decide) (fun hc46 => ?_) (fun hc46 => ?_)
      · refine lv_iconst (v := nI 0) hx hb dX5_add_53 rfl ?_
        refine m_stB hok hx hb hK hM (by omega) (by omega) dX5_add_54 (fun H locs hM => ?_)
        refine lv_goto (tgt := 117) hx hb dX5_add_55 (by decide) ?_
        rw [hQ]
        rw [hAe] at hM
        exact z_vret hsz hx hb hr hlocks hK hM dX5_add_117 (by
              have hz : za.natAbs + zb.natAbs = (za + zb).natAbs ∧ 0 = sb (za + zb) := by
                have e1 := sb_or za; have e2 := sb_or zb; have e3 := sb_or (za + zb)
                have hp := @nl_pos (za.natAbs + zb.natAbs)
                omega
              exact ⟨F1, add_post hz.1 hz.2, hfr, by rw [← hz.1]; exact hn⟩)
      · refine lv_iconst (v := nI 1) hx hb dX5_add_49 rfl ?_
        refine lv_goto (tgt := 54) hx hb dX5_add_50 (by decide) ?_
        refine m_stB hok hx hb hK hM (by omega) (by omega) dX5_add_54 (fun H locs hM => ?_)
        refine lv_goto (tgt := 117) hx hb dX5_add_55 (by decide) ?_
        rw [hQ]
        rw [hAe] at hM
        exact z_vret hsz hx hb hr hlocks hK hM dX5_add_117 (by
              have hz : za.natAbs + zb.natAbs = (za + zb).natAbs ∧ 1 = sb (za + zb) := by
                have e1 := sb_or za; have e2 := sb_or zb; have e3 := sb_or (za + zb)
                have hp := @nl_pos (za.natAbs + zb.natAbs)
                omega
              exact ⟨F1, add_post hz.1 hz.2, hfr, by rw [← hz.1]; exact hn⟩)
end
section
theorem lmb_fr {F F1 L : Nat → Nat} {a t va : Nat} (na : nv F L a va) (hf : fr72 F F1 t) (hat : a ≠ t) (k : Nat) : lmb F1 L a k = lmb F L a k := by
  have := na.le
  unfold lmb; split
  · exact hf _ (by omega)
  · rfl
theorem mul_step {D c E x y f Y i k : Nat} (h : D + c * bp (i + k) = E + x * (bp i * Y)) : (D + (x * y + f + c) % 2147483648 * bp (i + k)) + (x * y + f + c) / 2147483648 * bp (i + (k + 1)) = (E + f * bp (i + k)) + x * (bp i * (Y + y * bp k)) := by
  have h1 := carry_s (x * y + f + c) (bp (i + k))
  rw [← Nat.add_assoc, bp_s]
  rw [Nat.add_mul, Nat.add_mul] at h1
  have h2 : x * (bp i * (Y + y * bp k)) = x * (bp i * Y) + x * y * bp (i + k) := by
    rw [Nat.mul_add, Nat.mul_add, bp_add]
    congr 1
    simp only [Nat.mul_assoc, Nat.mul_left_comm]
  omega
theorem mul_lt_bp {x y n k : Nat} (hx : x < bp n) (hy : y < bp k) : x * y < bp (n + k) := by
  rw [bp_add]
  exact Nat.mul_lt_mul'' hx hy
theorem sb_mul {a b : Int} (h : a * b ≠ 0) : sb (a * b) = if sb a = sb b then 0 else 1 := by
  have ha : a ≠ 0 := fun e => h (by rw [e, Int.zero_mul])
  have hb : b ≠ 0 := fun e => h (by rw [e, Int.mul_zero])
  have e1 := sb_or a
  have e2 := sb_or b
  have e3 := sb_or (a * b)
  rcases (show a < 0 ∨ 0 < a by omega) with p | p <;> rcases (show b < 0 ∨ 0 < b by omega) with q | q
  · have := Int.mul_pos_of_neg_of_neg p q; rw [if_pos (by omega)]; omega
  · have := Int.mul_neg_of_neg_of_pos p q; rw [if_neg (by omega)]; omega
  · have := Int.mul_neg_of_pos_of_neg p q; rw [if_neg (by omega)]; omega
  · have := Int.mul_pos p q; rw [if_pos (by omega)]; omega
theorem mul_post {B : Nat → Nat} {t x v : Nat} {za zb : Int} (hv : v = (za * zb).natAbs) (hx : x = if sb za = sb zb then 0 else 1) : (if nl v = 0 then va_up (va_up B t x) t 0 else va_up B t x) = va_up B t (sb (za * zb)) := by
  have hp := @nl_pos v
  by_cases h : za * zb = 0
  · rw [if_pos (by rw [hv, h]; rfl), va_up_up, h]; rfl
  · rw [if_neg (by omega), sb_mul h, hx]
theorem up_vl2 {F1 : Nat → Nat} {t i k x : Nat} : vl (fun j => va_up F1 (72 * t + (i + k)) x (72 * t + j)) (i + (k + 1)) = vl (fun j => F1 (72 * t + j)) (i + k) + x * bp (i + k) := up_vl (k := i + k)
theorem vl_s2 (d : Nat → Nat) (i k : Nat) : vl d (i + (k + 1)) = vl d (i + k) + d (i + k) * bp (i + k) := rfl
end
section
set_option maxRecDepth 100000 in
set_option maxHeartbeats 4000000 in
theorem m_multiply (l : Launch) (Γ : zT) {o lF lL lB : Nat} (hok : mdk o lF lL lB) (G0 : zG) (fl : Nat → Int32) (F L B : Nat → Nat) (sz : Nat) (t a b : Nat) (za zb : Int) (ht : t < 455) (ha : a < 455) (hbb : b < 455) (hat : a ≠ t) (hbt : b ≠ t) (na : nv F L a za.natAbs) (nb : nv F L b zb.natAbs) (hBa : B a = sb za) (hBb : B b = sb zb) (hLab : L a + L b ≤ 72) : zMv l yX5_multiply wsX5_multiply (zR 2) Γ (md Γ o lF lL lB G0 fl F L B) sz [.ref o, .int (nI t), .int (nI a), .int (nI b)] (fun G' => ∃ F', G' = md Γ o lF lL lB G0 fl F' (va_up L t (nl (za * zb).natAbs)) (va_up B t (sb (za * zb))) ∧ fr72 F F' t ∧ nv F' (va_up L t (nl (za * zb).natAbs)) t (za * zb).natAbs) 0 0 := by
  refine z_start (cc := cX5_multiply) (maxL := 12) (ret := none) (by decide) rfl (Nat.le_of_ble_eq_true rfl) ?_
  intro p e s m args below meth c ls Q hQ hsz hx hb hr hml hown hts hlocks hnm hK hM hl
  obtain ⟨A, hAe⟩ : ∃ A, A = zA (md Γ o lF lL lB G0 fl F L B) s.heap.size := ⟨_, rfl⟩
  rw [← hAe] at hM
  have hl : lv_has ls 12 [(0, .ref o), (1, .int (nI t)), (2, .int (nI a)), (3, .int (nI b))] := hl
  have hin5 : ∀ w ∈ wsX50, w ∈ wsX5_multiply := by decide +kernel
  have hf_limbs := hts (.fieldLink RX5 7 "CutRowsModel" "limbs" "[I") (by decide +kernel)
  have hf_length := hts (.fieldLink RX5 13 "CutRowsModel" "length" "[I") (by decide +kernel)
  have hf_isBelow := hts (.fieldLink RX5 16 "CutRowsModel" "isBelow" "[Z") (by decide +kernel)
  have hsa := sb_lt za
  have hsb := sb_lt zb
  have hLa := na.le
  have hLb := nb.le
  refine lv_aload_n hx hb dX5_multiply_0 rfl (lv_at hl 0 rfl) ?_
  refine m_get hok hx hb hts hin5 hown hK hM 5 hf_length rfl (by decide) (v := .ref lL) rfl dX5_multiply_1 ?_
  refine lv_iload_n hx hb dX5_multiply_4 rfl (lv_at hl 2 rfl) ?_
  refine m_ldL hok hx hb hK hM (by omega) dX5_multiply_5 ?_
  refine lv_aload_n hx hb dX5_multiply_6 rfl (lv_at hl 0 rfl) ?_
  refine m_get hok hx hb hts hin5 hown hK hM 5 hf_length rfl (by decide) (v := .ref lL) rfl dX5_multiply_7 ?_
  refine lv_iload_n hx hb dX5_multiply_10 rfl (lv_at hl 3 rfl) ?_
  refine m_ldL hok hx hb hK hM (by omega) dX5_multiply_11 ?_
  refine z_iadd hx hb dX5_multiply_12 ?_
  obtain ⟨n, hn⟩ : ∃ n, n = L a + L b := ⟨_, rfl⟩
  rw [← hn]
  refine lv_istore (lv' := [(4, .int (nI n)), (0, .ref o), (1, .int (nI t)), (2, .int (nI a)), (3, .int (nI b))]) hx hb dX5_multiply_13 hl (by decide) rfl (fun ls hl => ?_)
  refine lv_iconst (v := nI 0) hx hb dX5_multiply_15 rfl ?_
  refine lv_istore (lv' := [(5, .int (nI 0)), (4, .int (nI n)), (0, .ref o), (1, .int (nI t)), (2, .int (nI a)), (3, .int (nI b))]) hx hb dX5_multiply_16 hl (by decide) rfl (fun ls hl => ?_)
  have lz : ∀ (μ : Nat) (k : Nat) (F1 : Nat → Nat), n - k = μ → (k ≤ n) → (fr72 F F1 t) → (∀ j, j < k → F1 (72 * t + j) = 0) → ∀ (ls : Array Slot) (H : Heap) (locs : List Loc), lv_has ls 12 [(5, .int (nI k)), (4, .int (nI n)), (0, .ref o), (1, .int (nI t)), (2, .int (nI a)), (3, .int (nI b))] → zM Γ A s.heap (md Γ o lF lL lB G0 fl F1 L B) H locs → W p l e (zR 2) s m args below meth c H locs 0 0 Q (F0 m 18 ls []) := by
    intro μ
    induction μ using Nat.strongRecOn with
    | _ μ ihlz =>
      intro k F1 hμ hk f1 f2 ls H locs hl hM
      refine lv_iload hx hb dX5_multiply_18 (lv_at hl 0 rfl) ?_
      refine lv_iload hx hb dX5_multiply_20 (lv_at hl 1 rfl) ?_
      refine z_icmp_ge (tgt := 44) hx hb (by omega) (by omega) dX5_multiply_22 (by decide) (fun hc22 => ?_) (fun hc22 => ?_)
      · refine lv_iconst (v := nI 0) hx hb dX5_multiply_44 rfl ?_
        refine lv_istore (lv' := [(5, .int (nI 0)), (4, .int (nI n)), (0, .ref o), (1, .int (nI t)), (2, .int (nI a)), (3, .int (nI b))]) hx hb dX5_multiply_45 hl (by decide) rfl (fun ls hl => ?_)
        have hz0 : vl (fun j => F1 (72 * t + j)) n = 0 := by rw [vl_pad (Nat.zero_le n) (fun j _ hj => f2 j (by omega))]; rfl
        have hd0 : dg (fun j => F1 (72 * t + j)) n := fun j hj => by show F1 _ < _; rw [f2 j (by omega)]; decide
        have lo : ∀ (μ : Nat) (i : Nat) (F2 : Nat → Nat), L a - i = μ → (i ≤ L a) → (fr72 F F2 t) → (dg (fun j => F2 (72 * t + j)) n) → (vl (fun j => F2 (72 * t + j)) n = vl (lmb F L a) i * zb.natAbs) → ∀ (ls : Array Slot) (H : Heap) (locs : List Loc), lv_has ls 12 [(5, .int (nI i)), (4, .int (nI n)), (0, .ref o), (1, .int (nI t)), (2, .int (nI a)), (3, .int (nI b))] → zM Γ A s.heap (md Γ o lF lL lB G0 fl F2 L B) H locs → W p l e (zR 2) s m args below meth c H locs 0 0 Q (F0 m 47 ls []) := by
          intro μ
          induction μ using Nat.strongRecOn with
          | _ μ ihlo =>
            intro i F2 hμ hi o1 o2 o3 ls H locs hl hM
            refine lv_iload hx hb dX5_multiply_47 (lv_at hl 0 rfl) ?_
            refine lv_aload_n hx hb dX5_multiply_49 rfl (lv_at hl 2 rfl) ?_
            refine m_get hok hx hb hts hin5 hown hK hM 5 hf_length rfl (by decide) (v := .ref lL) rfl dX5_multiply_50 ?_
            refine lv_iload_n hx hb dX5_multiply_53 rfl (lv_at hl 4 rfl) ?_
            refine m_ldL hok hx hb hK hM (by omega) dX5_multiply_54 ?_
            refine z_icmp_ge (tgt := 148) hx hb (by omega) (by omega) dX5_multiply_55 (by decide) (fun hc55 => ?_) (fun hc55 => ?_)
            · have hia : i = L a := by omega
              have hvl : vl (fun j => F2 (72 * t + j)) n = (za * zb).natAbs := by rw [o3, Int.natAbs_mul, hia, lmb_vl na (Nat.le_refl _)]
              refine lv_aload_n hx hb dX5_multiply_148 rfl (lv_at hl 2 rfl) ?_
              refine m_get hok hx hb hts hin5 hown hK hM 5 hf_length rfl (by decide) (v := .ref lL) rfl dX5_multiply_149 ?_
              refine lv_iload_n hx hb dX5_multiply_152 rfl (lv_at hl 3 rfl) ?_
              refine lv_iload hx hb dX5_multiply_153 (lv_at hl 1 rfl) ?_
              refine m_stL hok hx hb hK hM (by omega) dX5_multiply_155 (fun H locs hM => ?_)
              refine lv_aload_n hx hb dX5_multiply_156 rfl (lv_at hl 2 rfl) ?_
              refine m_get hok hx hb hts hin5 hown hK hM 6 hf_isBelow rfl (by decide) (v := .ref lB) rfl dX5_multiply_157 ?_
              refine lv_iload_n hx hb dX5_multiply_160 rfl (lv_at hl 3 rfl) ?_
              refine lv_aload_n hx hb dX5_multiply_161 rfl (lv_at hl 2 rfl) ?_
              refine m_get hok hx hb hts hin5 hown hK hM 6 hf_isBelow rfl (by decide) (v := .ref lB) rfl dX5_multiply_162 ?_
              refine lv_iload_n hx hb dX5_multiply_165 rfl (lv_at hl 4 rfl) ?_
              refine m_ldB hok hx hb hK hM (by omega) dX5_multiply_166 ?_
              refine lv_aload_n hx hb dX5_multiply_167 rfl (lv_at hl 2 rfl) ?_
              refine m_get hok hx hb hts hin5 hown hK hM 6 hf_isBelow rfl (by decide) (v := .ref lB) rfl dX5_multiply_168 ?_
              refine lv_iload_n hx hb dX5_multiply_171 rfl (lv_at hl 5 rfl) ?_
              refine m_ldB hok hx hb hK hM (by omega) dX5_multiply_172 ?_
              refine z_icmp_eq (tgt := 180) hx hb (by omega) (by omega) dX5_multiply_173 (by decide) (fun hc173 => ?_) (fun hc173 => ?_)
              · refine lv_iconst (v := nI 0) hx hb dX5_multiply_180 rfl ?_
                refine m_stB hok hx hb hK hM (by omega) (by omega) dX5_multiply_181 (fun H locs hM => ?_)
                refine lv_aload_n hx hb dX5_multiply_182 rfl (lv_at hl 2 rfl) ?_
                refine lv_iload_n hx hb dX5_multiply_183 rfl (lv_at hl 3 rfl) ?_
                refine z_callv0 (va_runV (As := [.int (nI t)]) (rest := []) ⟨hx, hb, hml, hown, hts⟩ (m_trim l Γ hok G0 fl F2 (va_up L t n) (va_up B t 0) _ t n ht (va_up_self _ _ _) (by omega) o2) (cwV 1 hts gX5_multiply_X5_trim rfl rfl rfl (by decide +kernel) ⟨Nat.le_of_ble_eq_true rfl, Nat.le_of_ble_eq_true rfl⟩) (zM.preV hK hM (md_o hok) rfl rfl) rfl rfl hl.1 rfl (lv_room (Nat.le_of_ble_eq_true rfl)) dX5_multiply_184 ⟨Nat.le_of_ble_eq_true rfl, Nat.le_of_ble_eq_true rfl⟩) hM (fun G184 H locs hp184 hM => ?_)
                obtain rfl := hp184
                rw [hQ]
                rw [hAe] at hM
                exact z_vret hsz hx hb hr hlocks hK hM dX5_multiply_187 (⟨F2, by rw [va_up_up, tr_of o2 hvl, mul_post rfl (by rw [← hBa, ← hBb, if_pos hc173])], o1, nv_of o2 hvl (by omega)⟩)
              · refine lv_iconst (v := nI 1) hx hb dX5_multiply_176 rfl ?_
                refine lv_goto (tgt := 181) hx hb dX5_multiply_177 (by decide) ?_
                refine m_stB hok hx hb hK hM (by omega) (by omega) dX5_multiply_181 (fun H locs hM => ?_)
                refine lv_aload_n hx hb dX5_multiply_182 rfl (lv_at hl 2 rfl) ?_
                refine lv_iload_n hx hb dX5_multiply_183 rfl (lv_at hl 3 rfl) ?_
                refine z_callv0 (va_runV (As := [.int (nI t)]) (rest := []) ⟨hx, hb, hml, hown, hts⟩ (m_trim l Γ hok G0 fl F2 (va_up L t n) (va_up B t 1) _ t n ht (va_up_self _ _ _) (by omega) o2) (cwV 1 hts gX5_multiply_X5_trim rfl rfl rfl (by decide +kernel) ⟨Nat.le_of_ble_eq_true rfl, Nat.le_of_ble_eq_true rfl⟩) (zM.preV hK hM (md_o hok) rfl rfl) rfl rfl hl.1 rfl (lv_room (Nat.le_of_ble_eq_true rfl)) dX5_multiply_184 ⟨Nat.le_of_ble_eq_true rfl, Nat.le_of_ble_eq_true rfl⟩) hM (fun G184 H locs hp184 hM => ?_)
                obtain rfl := hp184
                rw [hQ]
                rw [hAe] at hM
                exact z_vret hsz hx hb hr hlocks hK hM dX5_multiply_187 (⟨F2, by rw [va_up_up, tr_of o2 hvl, mul_post rfl (by rw [← hBa, ← hBb, if_neg hc173])], o1, nv_of o2 hvl (by omega)⟩)
            · refine lv_lconst (v := lN 0) hx hb dX5_multiply_58 rfl ?_
              refine lv_lstore (lv' := [(6, .long (lN 0)), (5, .int (nI i)), (4, .int (nI n)), (0, .ref o), (1, .int (nI t)), (2, .int (nI a)), (3, .int (nI b))]) hx hb dX5_multiply_59 hl (by decide) rfl (fun ls hl => ?_)
              refine lv_iconst (v := nI 0) hx hb dX5_multiply_61 rfl ?_
              refine lv_istore (lv' := [(8, .int (nI 0)), (6, .long (lN 0)), (5, .int (nI i)), (4, .int (nI n)), (0, .ref o), (1, .int (nI t)), (2, .int (nI a)), (3, .int (nI b))]) hx hb dX5_multiply_62 hl (by decide) rfl (fun ls hl => ?_)
              have lq : ∀ (μ : Nat) (k : Nat) (cy : Nat) (F3 : Nat → Nat), n - (i + k) = μ → (i + k ≤ n) → (cy < 2147483648) → (fr72 F F3 t) → (dg (fun j => F3 (72 * t + j)) n) → (vl (fun j => F3 (72 * t + j)) (i + k) + cy * bp (i + k) = vl (fun j => F2 (72 * t + j)) (i + k) + lmb F L a i * (bp i * vl (lmb F L b) k)) → (∀ j, 72 * t + (i + k) ≤ j → F3 j = F2 j) → ∀ (ls : Array Slot) (H : Heap) (locs : List Loc), lv_has ls 12 [(8, .int (nI k)), (6, .long (lN cy)), (5, .int (nI i)), (4, .int (nI n)), (0, .ref o), (1, .int (nI t)), (2, .int (nI a)), (3, .int (nI b))] → zM Γ A s.heap (md Γ o lF lL lB G0 fl F3 L B) H locs → W p l e (zR 2) s m args below meth c H locs 0 0 Q (F0 m 64 ls []) := by
                intro μ
                induction μ using Nat.strongRecOn with
                | _ μ ihlq =>
                  intro k cy F3 hμ hk hc1 g1 g2 g3 g4 ls H locs hl hM
                  refine lv_iload hx hb dX5_multiply_64 (lv_at hl 2 rfl) ?_
                  refine lv_iload hx hb dX5_multiply_66 (lv_at hl 0 rfl) ?_
                  refine z_iadd hx hb dX5_multiply_68 ?_
                  refine lv_iload hx hb dX5_multiply_69 (lv_at hl 3 rfl) ?_
                  refine z_icmp_ge (tgt := 142) hx hb (by omega) (by omega) dX5_multiply_71 (by decide) (fun hc71 => ?_) (fun hc71 => ?_)
                  · have hkn : i + k = n := by omega
                    have hv3 : vl (fun j => F3 (72 * t + j)) n = vl (lmb F L a) (i + 1) * zb.natAbs := by
                      have hB1 := lmb_vl nb (n := k) (by omega)
                      have hlt : vl (lmb F L a) (i + 1) * zb.natAbs < bp n := by
                        have q1 : vl (lmb F L a) (i + 1) < bp (L a) := Nat.lt_of_lt_of_le (vl_lt (fun j _ => lmb_lt na j)) (bp_le (by omega))
                        rw [hn]; exact mul_lt_bp q1 nb.lt
                      rw [hkn, hB1, o3] at g3
                      rw [vl_s, Nat.add_mul] at hlt ⊢
                      rw [← Nat.mul_assoc] at g3
                      rcases Nat.eq_zero_or_pos cy with h0 | h0
                      · subst h0; omega
                      · have := mul_le_r (bp n) (show 1 ≤ cy by omega); omega
                    refine z_iinc (v := (i + 1)) (lv' := [(5, .int (nI (i + 1))), (8, .int (nI k)), (6, .long (lN cy)), (4, .int (nI n)), (0, .ref o), (1, .int (nI t)), (2, .int (nI a)), (3, .int (nI b))]) hx hb dX5_multiply_142 hl (k := 2) rfl (nI_p1 _) (by decide) rfl (fun ls hl => ?_)
                    refine lv_goto (tgt := 47) hx hb dX5_multiply_145 (by decide) ?_
                    exact ihlo _ (by omega) (i + 1) F3 rfl (by omega) (g1) (g2) (hv3) ls _ _ (lv_sub hl [0, 3, 4, 5, 6, 7] rfl) hM
                  · refine lv_bipush (v := nI 72) hx hb dX5_multiply_74 rfl ?_
                    refine lv_iload_n hx hb dX5_multiply_76 rfl (lv_at hl 5 rfl) ?_
                    refine z_imul hx hb dX5_multiply_77 ?_
                    refine lv_iload hx hb dX5_multiply_78 (lv_at hl 2 rfl) ?_
                    refine z_iadd hx hb dX5_multiply_80 ?_
                    refine lv_iload hx hb dX5_multiply_81 (lv_at hl 0 rfl) ?_
                    refine z_iadd hx hb dX5_multiply_83 ?_
                    refine z_asi (y := nI (72 * t + (i + k))) (congrArg nI (by omega)) ?_
                    refine lv_istore (lv' := [(9, .int (nI (72 * t + (i + k)))), (8, .int (nI k)), (6, .long (lN cy)), (5, .int (nI i)), (4, .int (nI n)), (0, .ref o), (1, .int (nI t)), (2, .int (nI a)), (3, .int (nI b))]) hx hb dX5_multiply_84 hl (by decide) rfl (fun ls hl => ?_)
                    refine lv_aload_n hx hb dX5_multiply_86 rfl (lv_at hl 5 rfl) ?_
                    refine lv_iload_n hx hb dX5_multiply_87 rfl (lv_at hl 7 rfl) ?_
                    refine lv_iload hx hb dX5_multiply_88 (lv_at hl 3 rfl) ?_
                    refine z_calll0 (va_runV (As := [.int (nI a), .int (nI i)]) (rest := []) ⟨hx, hb, hml, hown, hts⟩ (m_limbOf l Γ hok G0 fl F3 L B _ a i ha (by omega) (na.fr (L' := L) g1 hat rfl).le (na.fr (L' := L) g1 hat rfl).digs) (cwV 2 hts gX5_multiply_X5_limbOf rfl rfl rfl (by decide +kernel) ⟨Nat.le_of_ble_eq_true rfl, Nat.le_of_ble_eq_true rfl⟩) (zM.preV hK hM (md_o hok) rfl rfl) rfl rfl hl.1 rfl (lv_room (Nat.le_of_ble_eq_true rfl)) dX5_multiply_90 ⟨Nat.le_of_ble_eq_true rfl, Nat.le_of_ble_eq_true rfl⟩) hM (fun r90 G90 H locs hp90 hM => ?_)
                    obtain ⟨rfl, rfl⟩ := hp90
                    rw [lmb_fr na g1 hat]
                    refine lv_aload_n hx hb dX5_multiply_93 rfl (lv_at hl 5 rfl) ?_
                    refine lv_iload_n hx hb dX5_multiply_94 rfl (lv_at hl 8 rfl) ?_
                    refine lv_iload hx hb dX5_multiply_95 (lv_at hl 1 rfl) ?_
                    refine z_calll0 (va_runV (As := [.int (nI b), .int (nI k)]) (rest := [.long (lN (lmb F L a i))]) ⟨hx, hb, hml, hown, hts⟩ (m_limbOf l Γ hok G0 fl F3 L B _ b k hbb (by omega) (nb.fr (L' := L) g1 hbt rfl).le (nb.fr (L' := L) g1 hbt rfl).digs) (cwV 2 hts gX5_multiply_X5_limbOf rfl rfl rfl (by decide +kernel) ⟨Nat.le_of_ble_eq_true rfl, Nat.le_of_ble_eq_true rfl⟩) (zM.preV hK hM (md_o hok) rfl rfl) rfl rfl hl.1 rfl (lv_room (Nat.le_of_ble_eq_true rfl)) dX5_multiply_97 ⟨Nat.le_of_ble_eq_true rfl, Nat.le_of_ble_eq_true rfl⟩) hM (fun r97 G97 H locs hp97 hM => ?_)
                    obtain ⟨rfl, rfl⟩ := hp97
                    rw [lmb_fr nb g1 hbt]
                    have hla := lmb_lt na i
                    have hlb := lmb_lt nb k
                    have hxy : lmb F L a i * lmb F L b k ≤ 2147483647 * 2147483647 := Nat.mul_le_mul (by omega) (by omega)
                    have hf3 : F3 (72 * t + (i + k)) < 2147483648 := g2 (i + k) (by omega)
                    have hf32 := g4 (72 * t + (i + k)) (by omega)
                    refine z_lmul hx hb dX5_multiply_100 ?_
                    refine lv_aload_n hx hb dX5_multiply_101 rfl (lv_at hl 5 rfl) ?_
                    refine m_get hok hx hb hts hin5 hown hK hM 4 hf_limbs rfl (by decide) (v := .ref lF) rfl dX5_multiply_102 ?_
                    refine lv_iload hx hb dX5_multiply_105 (lv_at hl 0 rfl) ?_
                    refine m_ldF hok hx hb hK hM (by omega) dX5_multiply_107 ?_
                    refine z_i2l hx hb (hf3) dX5_multiply_108 ?_
                    refine z_ladd hx hb dX5_multiply_109 ?_
                    refine lv_lload hx hb dX5_multiply_110 (lv_at hl 2 rfl) ?_
                    refine z_ladd hx hb dX5_multiply_112 ?_
                    refine lv_lstore (lv' := [(10, .long (lN ((lmb F L a i) * (lmb F L b k) + (F3 (72 * t + (i + k))) + cy))), (9, .int (nI (72 * t + (i + k)))), (8, .int (nI k)), (6, .long (lN cy)), (5, .int (nI i)), (4, .int (nI n)), (0, .ref o), (1, .int (nI t)), (2, .int (nI a)), (3, .int (nI b))]) hx hb dX5_multiply_113 hl (by decide) rfl (fun ls hl => ?_)
                    refine lv_aload_n hx hb dX5_multiply_115 rfl (lv_at hl 6 rfl) ?_
                    refine m_get hok hx hb hts hin5 hown hK hM 4 hf_limbs rfl (by decide) (v := .ref lF) rfl dX5_multiply_116 ?_
                    refine lv_iload hx hb dX5_multiply_119 (lv_at hl 1 rfl) ?_
                    refine lv_lload hx hb dX5_multiply_121 (lv_at hl 0 rfl) ?_
                    refine lv_ldc2 hx hb hown (hts (.constantLong RX5 41 (2147483647)) (by decide +kernel)) dX5_multiply_123 ?_
                    refine z_land31 hx hb (by omega) dX5_multiply_126 ?_
                    refine z_l2i hx hb dX5_multiply_127 ?_
                    refine m_stF hok hx hb hK hM (by omega) dX5_multiply_128 (fun H locs hM => ?_)
                    refine lv_lload hx hb dX5_multiply_129 (lv_at hl 0 rfl) ?_
                    refine lv_bipush (v := nI 31) hx hb dX5_multiply_131 rfl ?_
                    refine z_lshr31 hx hb (by omega) dX5_multiply_133 ?_
                    refine lv_lstore (lv' := [(6, .long (lN (((lmb F L a i) * (lmb F L b k) + (F3 (72 * t + (i + k))) + cy) / 2147483648))), (10, .long (lN ((lmb F L a i) * (lmb F L b k) + (F3 (72 * t + (i + k))) + cy))), (9, .int (nI (72 * t + (i + k)))), (8, .int (nI k)), (5, .int (nI i)), (4, .int (nI n)), (0, .ref o), (1, .int (nI t)), (2, .int (nI a)), (3, .int (nI b))]) hx hb dX5_multiply_134 hl (by decide) rfl (fun ls hl => ?_)
                    refine z_iinc (v := (k + 1)) (lv' := [(8, .int (nI (k + 1))), (6, .long (lN (((lmb F L a i) * (lmb F L b k) + (F3 (72 * t + (i + k))) + cy) / 2147483648))), (10, .long (lN ((lmb F L a i) * (lmb F L b k) + (F3 (72 * t + (i + k))) + cy))), (9, .int (nI (72 * t + (i + k)))), (5, .int (nI i)), (4, .int (nI n)), (0, .ref o), (1, .int (nI t)), (2, .int (nI a)), (3, .int (nI b))]) hx hb dX5_multiply_136 hl (k := 3) rfl (nI_p1 _) (by decide) rfl (fun ls hl => ?_)
                    refine lv_goto (tgt := 64) hx hb dX5_multiply_139 (by decide) ?_
                    exact ihlq _ (by omega) (k + 1) ((lmb F L a i * lmb F L b k + F3 (72 * t + (i + k)) + cy) / 2147483648) (va_up F3 (72 * t + (i + k)) ((lmb F L a i * lmb F L b k + F3 (72 * t + (i + k)) + cy) % 2147483648)) rfl (by omega) (by omega) (fun j hj => by rw [va_up_ne _ _ (by omega)]; exact g1 j hj) (fun j hj => by show va_up F3 _ _ _ < _; by_cases hc : j = i + k; subst hc; rw [va_up_self]; omega; rw [va_up_ne _ _ (by omega)]; exact g2 j hj) (by rw [up_vl2, vl_s2, vl_s (lmb F L b), hf32]; exact mul_step g3) (fun j hj => by rw [va_up_ne _ _ (by omega)]; exact g4 j (by omega)) ls _ _ (lv_sub hl [0, 1, 4, 5, 6, 7, 8, 9] rfl) hM
              exact lq _ 0 0 F2 rfl (by omega) (by omega) o1 o2 (by simp [vl_0]) (fun _ _ => rfl) ls _ _ (lv_sub hl [0, 1, 2, 3, 4, 5, 6, 7] rfl) hM
        exact lo _ 0 F1 rfl (by omega) f1 hd0 (by rw [hz0, vl_0, Nat.zero_mul]) ls _ _ (lv_sub hl [0, 1, 2, 3, 4, 5] rfl) hM
      · refine lv_aload_n hx hb dX5_multiply_25 rfl (lv_at hl 2 rfl) ?_
        refine m_get hok hx hb hts hin5 hown hK hM 4 hf_limbs rfl (by decide) (v := .ref lF) rfl dX5_multiply_26 ?_
        refine lv_bipush (v := nI 72) hx hb dX5_multiply_29 rfl ?_
        refine lv_iload_n hx hb dX5_multiply_31 rfl (lv_at hl 3 rfl) ?_
        refine z_imul hx hb dX5_multiply_32 ?_
        refine lv_iload hx hb dX5_multiply_33 (lv_at hl 0 rfl) ?_
        refine z_iadd hx hb dX5_multiply_35 ?_
        refine lv_iconst (v := nI 0) hx hb dX5_multiply_36 rfl ?_
        refine m_stF hok hx hb hK hM (by omega) dX5_multiply_37 (fun H locs hM => ?_)
        refine z_iinc (v := (k + 1)) (lv' := [(5, .int (nI (k + 1))), (4, .int (nI n)), (0, .ref o), (1, .int (nI t)), (2, .int (nI a)), (3, .int (nI b))]) hx hb dX5_multiply_38 hl (k := 0) rfl (nI_p1 _) (by decide) rfl (fun ls hl => ?_)
        refine lv_goto (tgt := 18) hx hb dX5_multiply_41 (by decide) ?_
        exact ihlz _ (by omega) (k + 1) (va_up F1 (72 * t + k) 0) rfl (by omega) (fun j hj => by rw [va_up_ne _ _ (by omega)]; exact f1 j hj) (fun j hj => by by_cases hc : j = k; subst hc; rw [va_up_self]; rw [va_up_ne _ _ (by omega)]; exact f2 j (by omega)) ls _ _ (lv_sub hl [0, 1, 2, 3, 4, 5] rfl) hM
  exact lz _ 0 F rfl (by omega) (fun _ _ => rfl) (fun _ h => by omega) ls _ _ (lv_sub hl [0, 1, 2, 3, 4, 5] rfl) hM
end
section
theorem zl_cnt : ∀ k, k < 64 → ((nI k).toInt64 &&& 63 : Int64) = lN k := by decide
theorem zl_sm : ∀ k, k < 64 → (BitVec.ofNat 64 k).smod 64 = BitVec.ofNat 64 k := by decide
theorem zl_shr {n k : Nat} (hn : n < 2 ^ 63) (hk : k < 64) : lN n >>> ((nI k).toInt64 &&& 63) = lN (n / 2 ^ k) := by
  rw [zl_cnt k hk]
  apply zl_inj
  apply BitVec.eq_of_toNat_eq
  have h1 : n / 2 ^ k < 2 ^ 64 := Nat.lt_of_le_of_lt (Nat.div_le_self _ _) (by omega)
  rw [zl_tn h1]
  show ((lN n).toBitVec.sshiftRight' ((lN k).toBitVec.smod 64)).toNat = _
  rw [zl_bv k, zl_sm k hk]
  show ((lN n).toBitVec.sshiftRight ((BitVec.ofNat 64 k).toNat)).toNat = _
  rw [BitVec.toNat_ofNat, Nat.mod_eq_of_lt (by omega), BitVec.sshiftRight_eq_of_msb_false (by rw [BitVec.msb_eq_false_iff_two_mul_lt, zl_tn (by omega)]; omega), BitVec.toNat_ushiftRight, zl_tn (by omega), Nat.shiftRight_eq_div_pow]
theorem zl_and1 {n : Nat} (hn : n < 2 ^ 64) : lN n &&& lN 1 = lN (n % 2) := by
  apply zl_inj
  apply BitVec.eq_of_toNat_eq
  rw [Int64.toBitVec_and, BitVec.toNat_and, zl_tn hn, zl_tn (show (1 : Nat) < 2 ^ 64 by decide), zl_tn (show n % 2 < 2 ^ 64 by omega), show (1 : Nat) = 2 ^ 1 - 1 from rfl, Nat.and_two_pow_sub_one_eq_mod]
section ZN3
variable {p : Program} {l : Launch} {e : Env} {R : Room} {s : State} {m : MethodId} {args : Array Value} {below : List Frame} {meth : Method} {c : Code} {H : Heap} {locs : List Loc} {cells slots : Nat} {Q : State → Prop}
variable {cc : ByteArray} {pc : Nat} {ls : Array Slot} {rest : List Value}
theorem z_lshrK (hexec : p.tables.exec = Jvm.exec) (hb : c.code = cc) {x y : Nat} (h : x < 2 ^ 63) (h2 : y < 64) (hdg : decode cc pc = .ok (.lshr, 1))
    (k : W p l e R s m args below meth c H locs cells slots Q (F0 m (pc + 1) ls (.long (lN (x / 2 ^ y)) :: rest))) : W p l e R s m args below meth c H locs cells slots Q (F0 m pc ls (.int (nI y) :: .long (lN x) :: rest)) :=
  lv_lshr hexec hb hdg (zl_shr h h2) k
theorem z_land1 (hexec : p.tables.exec = Jvm.exec) (hb : c.code = cc) {x : Nat} (h : x < 2 ^ 64) (hdg : decode cc pc = .ok (.land, 1))
    (k : W p l e R s m args below meth c H locs cells slots Q (F0 m (pc + 1) ls (.long (lN (x % 2)) :: rest))) : W p l e R s m args below meth c H locs cells slots Q (F0 m pc ls (.long (lN 1) :: .long (lN x) :: rest)) :=
  lv_land hexec hb hdg (by rw [zl_and1 h]; exact k)
end ZN3
theorem vl_cons (d : Nat → Nat) (n : Nat) : vl d (n + 1) = d 0 + 2147483648 * vl (fun j => d (1 + j)) n := by
  rw [vl_split d (show 1 ≤ n + 1 by omega), vl_one, Nat.add_sub_cancel]; rfl
theorem vl_digit {d : Nat → Nat} {n q : Nat} (h : dg d n) (hq : q < n) : vl d n / bp q % 2147483648 = d q := by
  have h1 := vl_lt (h.le (show q ≤ n by omega))
  obtain ⟨r, rfl⟩ : ∃ r, n = q + (r + 1) := ⟨n - q - 1, by omega⟩
  rw [vl_split d (show q ≤ q + (r + 1) by omega), Nat.add_mul_div_left _ _ (bp_pos q), Nat.div_eq_of_lt h1, Nat.zero_add, Nat.add_sub_cancel_left, vl_cons, Nat.add_mul_mod_self_left]
  exact Nat.mod_eq_of_lt (h q hq)
theorem lmb_digit {F L : Nat → Nat} {a v : Nat} (na : nv F L a v) (q : Nat) : lmb F L a q = v / bp q % 2147483648 := by
  have := vl_digit (d := lmb F L a) (n := max (L a) (q + 1)) (q := q) (fun k _ => lmb_lt na k) (by omega)
  rw [lmb_vl na (by omega)] at this
  exact this.symm
theorem bit_mod {X r : Nat} (hr : r < 31) : X % 2147483648 / 2 ^ r % 2 = X / 2 ^ r % 2 := by
  have e : (2147483648 : Nat) = 2 ^ r * (2 * 2 ^ (30 - r)) := by
    rw [← Nat.pow_succ', ← Nat.pow_add, show r + (30 - r).succ = 31 by omega]
  have h : X = 2 ^ r * (2 * (2 ^ (30 - r) * (X / 2147483648))) + X % 2147483648 := by
    have := Nat.div_add_mod X 2147483648
    rw [← Nat.mul_assoc 2, ← Nat.mul_assoc, ← e]; omega
  have h2 : X / 2 ^ r = 2 * (2 ^ (30 - r) * (X / 2147483648)) + X % 2147483648 / 2 ^ r := by
    conv => lhs; rw [h]
    rw [Nat.mul_add_div (Nat.pow_pos (by decide))]
  omega
theorem bit_of {F L : Nat → Nat} {a v : Nat} (na : nv F L a v) (k : Nat) : lmb F L a (k / 31) / 2 ^ (k % 31) % 2 = v / 2 ^ k % 2 := by
  rw [lmb_digit na, bit_mod (Nat.mod_lt _ (by decide)), bp_2, Nat.div_div_eq_div_mul, ← Nat.pow_add, show 31 * (k / 31) + k % 31 = k by omega]
theorem bits_fin {v T P s n K : Nat} (hv : v < (T + 1) * P) (hJ : (T + 1) * 2 ^ s ≤ 2147483648) (hK : 2147483648 * P = 2 ^ K) (hn : n + s = K) : v < 2 ^ n := by
  have h1 : v * 2 ^ s < 2 ^ n * 2 ^ s := by
    rw [← Nat.pow_add, hn, ← hK]
    have a : v * 2 ^ s < (T + 1) * P * 2 ^ s := Nat.mul_lt_mul_of_pos_right hv (Nat.pow_pos (by decide))
    have b : (T + 1) * P * 2 ^ s = (T + 1) * 2 ^ s * P := by rw [Nat.mul_assoc, Nat.mul_comm P, ← Nat.mul_assoc]
    have c := mul_le_r P hJ
    omega
  exact Nat.lt_of_mul_lt_mul_right h1
theorem bits_step {T s : Nat} (hT : 0 < T) (h : T * 2 ^ s < 1073741824) : (T + 1) * 2 ^ (s + 1) ≤ 2147483648 := by
  have hs : s < 30 := by
    rcases Nat.lt_or_ge s 30 with c | c
    · exact c
    · have a : 2 ^ 30 ≤ 2 ^ s := Nat.pow_le_pow_right (by decide) c
      have b := mul_le_r (2 ^ s) (show 1 ≤ T by omega)
      omega
  have e : (1073741824 : Nat) = 2 ^ (30 - s) * 2 ^ s := by rw [← Nat.pow_add, show 30 - s + s = 30 by omega]
  rw [e] at h
  have h2 : T < 2 ^ (30 - s) := Nat.lt_of_mul_lt_mul_right h
  have h3 := mul_le_r (2 ^ s) (show T + 1 ≤ 2 ^ (30 - s) by omega)
  rw [Nat.pow_succ, ← Nat.mul_assoc]
  omega
theorem half_step {f h cy B2 : Nat} (hc : cy = B2 % 2) (hh : h = B2 / 2) : (cy * 2147483648 + f) / 2 + 2147483648 * h = (f + 2147483648 * B2) / 2 ∧ (cy * 2147483648 + f) % 2 = (f + 2147483648 * B2) % 2 := by omega
end
section
set_option maxRecDepth 100000 in
set_option maxHeartbeats 4000000 in
theorem m_bitsOf (l : Launch) (Γ : zT) {o lF lL lB : Nat} (hok : mdk o lF lL lB) (G0 : zG) (fl : Nat → Int32) (F L B : Nat → Nat) (sz : Nat) (a va : Nat) (ha : a < 455) (na : nv F L a va) : zMi l yX5_bitsOf wsX5_bitsOf (zR 1) Γ (md Γ o lF lL lB G0 fl F L B) sz [.ref o, .int (nI a)] (fun r G' => (∃ n : Nat, r = nI n ∧ va < 2 ^ n ∧ n ≤ 31 * L a) ∧ G' = md Γ o lF lL lB G0 fl F L B) 0 0 := by
  refine z_start (cc := cX5_bitsOf) (maxL := 4) (ret := (some .int)) (by decide) rfl (Nat.le_of_ble_eq_true rfl) ?_
  intro p e s m args below meth c ls Q hQ hsz hx hb hr hml hown hts hlocks hnm hK hM hl
  obtain ⟨A, hAe⟩ : ∃ A, A = zA (md Γ o lF lL lB G0 fl F L B) s.heap.size := ⟨_, rfl⟩
  rw [← hAe] at hM
  have hl : lv_has ls 4 [(0, .ref o), (1, .int (nI a))] := hl
  have hin5 : ∀ w ∈ wsX50, w ∈ wsX5_bitsOf := by decide +kernel
  have hf_limbs := hts (.fieldLink RX5 7 "CutRowsModel" "limbs" "[I") (by decide +kernel)
  have hf_length := hts (.fieldLink RX5 13 "CutRowsModel" "length" "[I") (by decide +kernel)
  have hLa := na.le
  refine lv_bipush (v := nI 31) hx hb dX5_bitsOf_0 rfl ?_
  refine lv_aload_n hx hb dX5_bitsOf_2 rfl (lv_at hl 0 rfl) ?_
  refine m_get hok hx hb hts hin5 hown hK hM 5 hf_length rfl (by decide) (v := .ref lL) rfl dX5_bitsOf_3 ?_
  refine lv_iload_n hx hb dX5_bitsOf_6 rfl (lv_at hl 1 rfl) ?_
  refine m_ldL hok hx hb hK hM (by omega) dX5_bitsOf_7 ?_
  refine z_imul hx hb dX5_bitsOf_8 ?_
  refine lv_istore_n (lv' := [(2, .int (nI (31 * (L a)))), (0, .ref o), (1, .int (nI a))]) hx hb dX5_bitsOf_9 rfl hl (by decide) rfl (fun ls hl => ?_)
  refine lv_aload_n hx hb dX5_bitsOf_10 rfl (lv_at hl 1 rfl) ?_
  refine m_get hok hx hb hts hin5 hown hK hM 5 hf_length rfl (by decide) (v := .ref lL) rfl dX5_bitsOf_11 ?_
  refine lv_iload_n hx hb dX5_bitsOf_14 rfl (lv_at hl 2 rfl) ?_
  refine m_ldL hok hx hb hK hM (by omega) dX5_bitsOf_15 ?_
  refine z_if_le (tgt := 54) hx hb (by omega) dX5_bitsOf_16 (by decide) (fun hc16 => ?_) (fun hc16 => ?_)
  · refine lv_iload_n hx hb dX5_bitsOf_54 rfl (lv_at hl 0 rfl) ?_
    rw [hQ]
    rw [hAe] at hM
    exact z_iret hsz hx hb hr hlocks hK hM dX5_bitsOf_55 (⟨⟨_, rfl, by rw [show va = 0 by (have := na.lt; rw [hc16, bp_0] at this; omega)]; exact Nat.pow_pos (by decide), by omega⟩, rfl⟩)
  · refine lv_aload_n hx hb dX5_bitsOf_19 rfl (lv_at hl 1 rfl) ?_
    refine m_get hok hx hb hts hin5 hown hK hM 4 hf_limbs rfl (by decide) (v := .ref lF) rfl dX5_bitsOf_20 ?_
    refine lv_bipush (v := nI 72) hx hb dX5_bitsOf_23 rfl ?_
    refine lv_iload_n hx hb dX5_bitsOf_25 rfl (lv_at hl 2 rfl) ?_
    refine z_imul hx hb dX5_bitsOf_26 ?_
    refine lv_aload_n hx hb dX5_bitsOf_27 rfl (lv_at hl 1 rfl) ?_
    refine m_get hok hx hb hts hin5 hown hK hM 5 hf_length rfl (by decide) (v := .ref lL) rfl dX5_bitsOf_28 ?_
    refine lv_iload_n hx hb dX5_bitsOf_31 rfl (lv_at hl 2 rfl) ?_
    refine m_ldL hok hx hb hK hM (by omega) dX5_bitsOf_32 ?_
    refine z_iadd hx hb dX5_bitsOf_33 ?_
    refine lv_iconst (v := nI 1) hx hb dX5_bitsOf_34 rfl ?_
    refine z_isub hx hb (by omega) dX5_bitsOf_35 ?_
    refine z_asi (y := nI (72 * a + (L a - 1))) (congrArg nI (by omega)) ?_
    refine m_ldF hok hx hb hK hM (by omega) dX5_bitsOf_36 ?_
    refine lv_istore_n (lv' := [(3, .int (nI (F (72 * a + (L a - 1))))), (2, .int (nI (31 * (L a)))), (0, .ref o), (1, .int (nI a))]) hx hb dX5_bitsOf_37 rfl hl (by decide) rfl (fun ls hl => ?_)
    have hT0 : F (72 * a + (L a - 1)) ≠ 0 := na.top (by omega)
    have hT1 : F (72 * a + (L a - 1)) < 2147483648 := na.digs _ (by omega)
    have hKp : 2147483648 * bp (L a - 1) = 2 ^ (31 * L a) := by rw [← bp_s, bp_2, show L a - 1 + 1 = L a by omega]
    have hvT : va < (F (72 * a + (L a - 1)) + 1) * bp (L a - 1) := by
      have e1 := na.val
      obtain ⟨q, hq⟩ : ∃ q, L a = q + 1 := ⟨L a - 1, by omega⟩
      have e2 := vl_lt (d := fun k => F (72 * a + k)) (n := q) (fun k hk => na.digs k (by omega))
      rw [hq, vl_s] at e1
      rw [hq, Nat.add_sub_cancel, Nat.add_mul]
      omega
    have lp : ∀ (μ : Nat) (tp : Nat) (n : Nat) (sx : Nat), 1073741824 - tp = μ → (tp = F (72 * a + (L a - 1)) * 2 ^ sx) → (n + sx = 31 * L a) → ((F (72 * a + (L a - 1)) + 1) * 2 ^ sx ≤ 2147483648) → (sx < 31) → ∀ (ls : Array Slot) (H : Heap) (locs : List Loc), lv_has ls 4 [(3, .int (nI tp)), (2, .int (nI n)), (0, .ref o), (1, .int (nI a))] → zM Γ A s.heap (md Γ o lF lL lB G0 fl F L B) H locs → W p l e (zR 1) s m args below meth c H locs 0 0 Q (F0 m 38 ls []) := by
      intro μ
      induction μ using Nat.strongRecOn with
      | _ μ ihlp =>
        intro tp n sx hμ htp hns hJ hsx ls H locs hl hM
        have hps : 1 ≤ 2 ^ sx := Nat.pow_pos (by decide)
        have htpos : 1 ≤ tp := by rw [htp]; exact Nat.mul_pos (by omega) hps
        have htl : tp < 2147483648 := by rw [htp]; rw [Nat.add_mul] at hJ; omega
        refine lv_iload_n hx hb dX5_bitsOf_38 rfl (lv_at hl 0 rfl) ?_
        refine lv_ldc hx hb hown (hts (.constant RX5 57 (1073741824)) (by decide +kernel)) dX5_bitsOf_39 ?_
        refine z_asi (y := nI 1073741824) (rfl) ?_
        refine z_icmp_ge (tgt := 54) hx hb (by omega) (by omega) dX5_bitsOf_41 (by decide) (fun hc41 => ?_) (fun hc41 => ?_)
        · refine lv_iload_n hx hb dX5_bitsOf_54 rfl (lv_at hl 1 rfl) ?_
          rw [hQ]
          rw [hAe] at hM
          exact z_iret hsz hx hb hr hlocks hK hM dX5_bitsOf_55 (⟨⟨n, rfl, bits_fin (T := F (72 * a + (L a - 1))) (P := bp (L a - 1)) hvT hJ hKp hns, by omega⟩, rfl⟩)
        · have hsx2 : sx < 30 := by
            rcases Nat.lt_or_ge sx 30 with g | g
            · exact g
            · have q1 : 2 ^ 30 ≤ 2 ^ sx := Nat.pow_le_pow_right (by decide) g
              have q2 := mul_le_r (2 ^ sx) (show 1 ≤ F (72 * a + (L a - 1)) by omega)
              omega
          refine lv_iconst (v := nI 2) hx hb dX5_bitsOf_44 rfl ?_
          refine lv_iload_n hx hb dX5_bitsOf_45 rfl (lv_at hl 0 rfl) ?_
          refine z_imul hx hb dX5_bitsOf_46 ?_
          refine lv_istore_n (lv' := [(3, .int (nI (2 * tp))), (2, .int (nI n)), (0, .ref o), (1, .int (nI a))]) hx hb dX5_bitsOf_47 rfl hl (by decide) rfl (fun ls hl => ?_)
          refine z_iinc (v := (n - 1)) (lv' := [(2, .int (nI (n - 1))), (3, .int (nI (2 * tp))), (0, .ref o), (1, .int (nI a))]) hx hb dX5_bitsOf_48 hl (k := 1) rfl (nI_m1 (by omega)) (by decide) rfl (fun ls hl => ?_)
          refine lv_goto (tgt := 38) hx hb dX5_bitsOf_51 (by decide) ?_
          exact ihlp _ (by omega) (2 * tp) (n - 1) (sx + 1) rfl (by rw [htp, Nat.pow_succ, Nat.mul_comm 2, Nat.mul_assoc]) (by omega) (bits_step (by omega) (by rw [← htp]; omega)) (by omega) ls _ _ (lv_sub hl [1, 0, 2, 3] rfl) hM
    exact lp _ (F (72 * a + (L a - 1))) (31 * L a) 0 rfl (by simp) (by omega) (by simp; omega) (by omega) ls _ _ (lv_sub hl [0, 1, 2, 3] rfl) hM

set_option maxRecDepth 100000 in
set_option maxHeartbeats 4000000 in
theorem m_bitOf (l : Launch) (Γ : zT) {o lF lL lB : Nat} (hok : mdk o lF lL lB) (G0 : zG) (fl : Nat → Int32) (F L B : Nat → Nat) (sz : Nat) (a k va : Nat) (ha : a < 455) (hk : k < 2 ^ 31) (na : nv F L a va) : zMi l yX5_bitOf wsX5_bitOf (zR 2) Γ (md Γ o lF lL lB G0 fl F L B) sz [.ref o, .int (nI a), .int (nI k)] (fun r G' => r = nI (va / 2 ^ k % 2) ∧ G' = md Γ o lF lL lB G0 fl F L B) 0 0 := by
  refine z_start (cc := cX5_bitOf) (maxL := 3) (ret := (some .int)) (by decide) rfl (Nat.le_of_ble_eq_true rfl) ?_
  intro p e s m args below meth c ls Q hQ hsz hx hb hr hml hown hts hlocks hnm hK hM hl
  obtain ⟨A, hAe⟩ : ∃ A, A = zA (md Γ o lF lL lB G0 fl F L B) s.heap.size := ⟨_, rfl⟩
  rw [← hAe] at hM
  have hl : lv_has ls 3 [(0, .ref o), (1, .int (nI a)), (2, .int (nI k))] := hl
  have hLa := na.le
  refine lv_aload_n hx hb dX5_bitOf_0 rfl (lv_at hl 0 rfl) ?_
  refine lv_iload_n hx hb dX5_bitOf_1 rfl (lv_at hl 1 rfl) ?_
  refine lv_iload_n hx hb dX5_bitOf_2 rfl (lv_at hl 2 rfl) ?_
  refine lv_bipush (v := nI 31) hx hb dX5_bitOf_3 rfl ?_
  refine z_idiv hx hb (by omega) (by omega) (by omega) dX5_bitOf_5 ?_
  refine z_calll0 (va_runV (As := [.int (nI a), .int (nI (k / 31))]) (rest := []) ⟨hx, hb, hml, hown, hts⟩ (m_limbOf l Γ hok G0 fl F L B _ a (k / 31) ha (by omega) na.le na.digs) (cwV 2 hts gX5_bitOf_X5_limbOf rfl rfl rfl (by decide +kernel) ⟨Nat.le_of_ble_eq_true rfl, Nat.le_of_ble_eq_true rfl⟩) (zM.preV hK hM (md_o hok) rfl rfl) rfl rfl hl.1 rfl (lv_room (Nat.le_of_ble_eq_true rfl)) dX5_bitOf_6 ⟨Nat.le_of_ble_eq_true rfl, Nat.le_of_ble_eq_true rfl⟩) hM (fun r6 G6 H locs hp6 hM => ?_)
  obtain ⟨rfl, rfl⟩ := hp6
  have hlm := lmb_lt na (k / 31)
  refine lv_iload_n hx hb dX5_bitOf_9 rfl (lv_at hl 2 rfl) ?_
  refine lv_bipush (v := nI 31) hx hb dX5_bitOf_10 rfl ?_
  refine z_irem hx hb (by omega) (by omega) (by omega) dX5_bitOf_12 ?_
  refine z_lshrK hx hb (by omega) (by omega) dX5_bitOf_13 ?_
  have hlm2 : lmb F L a (k / 31) / 2 ^ (k % 31) < 2 ^ 63 := Nat.lt_of_le_of_lt (Nat.div_le_self _ _) (by omega)
  refine lv_lconst (v := lN 1) hx hb dX5_bitOf_14 rfl ?_
  refine z_land1 hx hb (by omega) dX5_bitOf_15 ?_
  refine z_l2i hx hb dX5_bitOf_16 ?_
  rw [hQ]
  rw [hAe] at hM
  exact z_iret hsz hx hb hr hlocks hK hM dX5_bitOf_17 (⟨congrArg nI (bit_of na k), rfl⟩)

theorem halve_inv {F F1 : Nat → Nat} {a q n cy : Nat} (hk : q + 1 ≤ n) (h3 : vl (fun j => F1 (72 * a + (q + 1 + j))) (n - (q + 1)) = vl (fun j => F (72 * a + (q + 1 + j))) (n - (q + 1)) / 2 ∧ cy = vl (fun j => F (72 * a + (q + 1 + j))) (n - (q + 1)) % 2) (hq : F1 (72 * a + q) = F (72 * a + q)) :
    vl (fun j => va_up F1 (72 * a + q) ((cy * 2147483648 + F1 (72 * a + q)) / 2 ^ 1) (72 * a + (q + j))) (n - q) = vl (fun j => F (72 * a + (q + j))) (n - q) / 2 ∧ (cy * 2147483648 + F1 (72 * a + q)) % 2 = vl (fun j => F (72 * a + (q + j))) (n - q) % 2 := by
  obtain ⟨r, hr⟩ : ∃ r, n - q = r + 1 := ⟨n - q - 1, by omega⟩
  rw [show n - (q + 1) = r by omega] at h3
  rw [hr, vl_cons, vl_cons]
  have e1 : vl (fun j => va_up F1 (72 * a + q) ((cy * 2147483648 + F1 (72 * a + q)) / 2 ^ 1) (72 * a + (q + (1 + j)))) r = vl (fun j => F1 (72 * a + (q + 1 + j))) r := vl_congr (fun j _ => by rw [va_up_ne _ _ (by omega), Nat.add_assoc q 1 j])
  have e2 : vl (fun j => F (72 * a + (q + (1 + j)))) r = vl (fun j => F (72 * a + (q + 1 + j))) r := vl_congr (fun j _ => by rw [Nat.add_assoc q 1 j])
  rw [e1, e2, Nat.add_zero, va_up_self, hq]
  have := half_step (f := F (72 * a + q)) h3.2 h3.1
  exact ⟨by rw [← this.1], this.2⟩

set_option maxRecDepth 100000 in
set_option maxHeartbeats 4000000 in
theorem m_halve (l : Launch) (Γ : zT) {o lF lL lB : Nat} (hok : mdk o lF lL lB) (G0 : zG) (fl : Nat → Int32) (F L B : Nat → Nat) (sz : Nat) (a va : Nat) (ha : a < 455) (na : nv F L a va) : zMv l yX5_halve wsX5_halve (zR 2) Γ (md Γ o lF lL lB G0 fl F L B) sz [.ref o, .int (nI a)] (fun G' => ∃ F', G' = md Γ o lF lL lB G0 fl F' (va_up L a (nl (va / 2))) (bz B a (va / 2)) ∧ fr72 F F' a ∧ nv F' (va_up L a (nl (va / 2))) a (va / 2)) 0 0 := by
  refine z_start (cc := cX5_halve) (maxL := 6) (ret := none) (by decide) rfl (Nat.le_of_ble_eq_true rfl) ?_
  intro p e s m args below meth c ls Q hQ hsz hx hb hr hml hown hts hlocks hnm hK hM hl
  obtain ⟨A, hAe⟩ : ∃ A, A = zA (md Γ o lF lL lB G0 fl F L B) s.heap.size := ⟨_, rfl⟩
  rw [← hAe] at hM
  have hl : lv_has ls 6 [(0, .ref o), (1, .int (nI a))] := hl
  have hin5 : ∀ w ∈ wsX50, w ∈ wsX5_halve := by decide +kernel
  have hf_limbs := hts (.fieldLink RX5 7 "CutRowsModel" "limbs" "[I") (by decide +kernel)
  have hf_length := hts (.fieldLink RX5 13 "CutRowsModel" "length" "[I") (by decide +kernel)
  have hLa := na.le
  refine lv_iconst (v := nI 0) hx hb dX5_halve_0 rfl ?_
  refine lv_istore_n (lv' := [(2, .int (nI 0)), (0, .ref o), (1, .int (nI a))]) hx hb dX5_halve_1 rfl hl (by decide) rfl (fun ls hl => ?_)
  refine lv_aload_n hx hb dX5_halve_2 rfl (lv_at hl 1 rfl) ?_
  refine m_get hok hx hb hts hin5 hown hK hM 5 hf_length rfl (by decide) (v := .ref lL) rfl dX5_halve_3 ?_
  refine lv_iload_n hx hb dX5_halve_6 rfl (lv_at hl 2 rfl) ?_
  refine m_ldL hok hx hb hK hM (by omega) dX5_halve_7 ?_
  refine lv_iconst (v := nI 1) hx hb dX5_halve_8 rfl ?_
  refine lv_isub hx hb dX5_halve_9 ?_
  refine lv_istore_n (lv' := [(3, .int ((nI (L a)) - (nI 1))), (2, .int (nI 0)), (0, .ref o), (1, .int (nI a))]) hx hb dX5_halve_10 rfl hl (by decide) rfl (fun ls hl => ?_)
  have lp : ∀ (μ : Nat) (k : Nat) (cy : Nat) (F1 : Nat → Nat), k = μ → (k ≤ L a) → (cy ≤ 1) → (∀ j, (j < 72 * a + k ∨ 72 * a + L a ≤ j) → F1 j = F j) → (dg (fun j => F1 (72 * a + j)) (L a)) → (vl (fun j => F1 (72 * a + (k + j))) (L a - k) = vl (fun j => F (72 * a + (k + j))) (L a - k) / 2 ∧ cy = vl (fun j => F (72 * a + (k + j))) (L a - k) % 2) → ∀ (ls : Array Slot) (H : Heap) (locs : List Loc), lv_has ls 6 [(3, .int (nI k - 1)), (2, .int (nI cy)), (0, .ref o), (1, .int (nI a))] → zM Γ A s.heap (md Γ o lF lL lB G0 fl F1 L B) H locs → W p l e (zR 2) s m args below meth c H locs 0 0 Q (F0 m 11 ls []) := by
    intro μ
    induction μ using Nat.strongRecOn with
    | _ μ ihlp =>
      intro k cy F1 hμ hk hcy h1 h2 h3 ls H locs hl hM
      rcases Nat.eq_zero_or_pos k with hk0 | hk0
      · subst hk0
        rw [show nI 0 - 1 = (-1 : Int32) from rfl] at hl
        refine lv_iload_n hx hb dX5_halve_11 rfl (lv_at hl 0 rfl) ?_
        refine lv_if_lt (tgt := 63) hx hb dX5_halve_12 (by decide) (fun hc12 => ?_) (fun hc12 => ?_)
        · simp only [Nat.zero_add, Nat.sub_zero] at h3
          rw [na.val] at h3
          refine lv_aload_n hx hb dX5_halve_63 rfl (lv_at hl 2 rfl) ?_
          refine lv_iload_n hx hb dX5_halve_64 rfl (lv_at hl 3 rfl) ?_
          refine z_callv0 (va_runV (As := [.int (nI a)]) (rest := []) ⟨hx, hb, hml, hown, hts⟩ (m_trim l Γ hok G0 fl F1 L B _ a (L a) ha rfl hLa h2) (cwV 1 hts gX5_halve_X5_trim rfl rfl rfl (by decide +kernel) ⟨Nat.le_of_ble_eq_true rfl, Nat.le_of_ble_eq_true rfl⟩) (zM.preV hK hM (md_o hok) rfl rfl) rfl rfl hl.1 rfl (lv_room (Nat.le_of_ble_eq_true rfl)) dX5_halve_65 ⟨Nat.le_of_ble_eq_true rfl, Nat.le_of_ble_eq_true rfl⟩) hM (fun G65 H locs hp65 hM => ?_)
          obtain rfl := hp65
          rw [hQ]
          rw [hAe] at hM
          exact z_vret hsz hx hb hr hlocks hK hM dX5_halve_68 (⟨F1, by rw [tr_of h2 h3.1]; rfl, fun j hj => h1 j (by omega), nv_of h2 h3.1 (by omega)⟩)
        · exact absurd (by decide) hc12
      · obtain ⟨q, rfl⟩ : ∃ q, k = q + 1 := ⟨k - 1, by omega⟩
        rw [nI_pred] at hl
        have hq1 : F1 (72 * a + q) < 2147483648 := h2 q (by omega)
        have hq2 : F1 (72 * a + q) = F (72 * a + q) := h1 _ (by omega)
        refine lv_iload_n hx hb dX5_halve_11 rfl (lv_at hl 0 rfl) ?_
        refine z_if_ltN hx hb (by omega) dX5_halve_12 (tgt := 63) (by decide) ?_
        refine lv_iload_n hx hb dX5_halve_15 rfl (lv_at hl 1 rfl) ?_
        refine z_i2l hx hb (by omega) dX5_halve_16 ?_
        refine lv_bipush (v := nI 31) hx hb dX5_halve_17 rfl ?_
        refine z_lshl31 hx hb dX5_halve_19 ?_
        refine lv_aload_n hx hb dX5_halve_20 rfl (lv_at hl 2 rfl) ?_
        refine m_get hok hx hb hts hin5 hown hK hM 4 hf_limbs rfl (by decide) (v := .ref lF) rfl dX5_halve_21 ?_
        refine lv_bipush (v := nI 72) hx hb dX5_halve_24 rfl ?_
        refine lv_iload_n hx hb dX5_halve_26 rfl (lv_at hl 3 rfl) ?_
        refine z_imul hx hb dX5_halve_27 ?_
        refine lv_iload_n hx hb dX5_halve_28 rfl (lv_at hl 0 rfl) ?_
        refine z_iadd hx hb dX5_halve_29 ?_
        refine m_ldF hok hx hb hK hM (by omega) dX5_halve_30 ?_
        refine z_i2l hx hb (hq1) dX5_halve_31 ?_
        refine z_lor31 hx hb (by omega) (by omega) dX5_halve_32 ?_
        refine lv_lstore (lv' := [(4, .long (lN (cy * 2147483648 + (F1 (72 * a + q))))), (3, .int (nI q)), (2, .int (nI cy)), (0, .ref o), (1, .int (nI a))]) hx hb dX5_halve_33 hl (by decide) rfl (fun ls hl => ?_)
        refine lv_aload_n hx hb dX5_halve_35 rfl (lv_at hl 3 rfl) ?_
        refine m_get hok hx hb hts hin5 hown hK hM 4 hf_limbs rfl (by decide) (v := .ref lF) rfl dX5_halve_36 ?_
        refine lv_bipush (v := nI 72) hx hb dX5_halve_39 rfl ?_
        refine lv_iload_n hx hb dX5_halve_41 rfl (lv_at hl 4 rfl) ?_
        refine z_imul hx hb dX5_halve_42 ?_
        refine lv_iload_n hx hb dX5_halve_43 rfl (lv_at hl 1 rfl) ?_
        refine z_iadd hx hb dX5_halve_44 ?_
        refine lv_lload hx hb dX5_halve_45 (lv_at hl 0 rfl) ?_
        refine lv_iconst (v := nI 1) hx hb dX5_halve_47 rfl ?_
        refine z_lshrK hx hb (by omega) (by omega) dX5_halve_48 ?_
        refine z_l2i hx hb dX5_halve_49 ?_
        refine m_stF hok hx hb hK hM (by omega) dX5_halve_50 (fun H locs hM => ?_)
        refine lv_lload hx hb dX5_halve_51 (lv_at hl 0 rfl) ?_
        refine lv_lconst (v := lN 1) hx hb dX5_halve_53 rfl ?_
        refine z_land1 hx hb (by omega) dX5_halve_54 ?_
        refine z_l2i hx hb dX5_halve_55 ?_
        refine lv_istore_n (lv' := [(2, .int (nI ((cy * 2147483648 + (F1 (72 * a + q))) % 2))), (4, .long (lN (cy * 2147483648 + (F1 (72 * a + q))))), (3, .int (nI q)), (0, .ref o), (1, .int (nI a))]) hx hb dX5_halve_56 rfl hl (by decide) rfl (fun ls hl => ?_)
        refine lv_iinc (v := nI q - 1) (lv' := [(3, .int (nI q - 1)), (2, .int (nI ((cy * 2147483648 + (F1 (72 * a + q))) % 2))), (4, .long (lN (cy * 2147483648 + (F1 (72 * a + q))))), (0, .ref o), (1, .int (nI a))]) hx hb dX5_halve_57 hl (k := 2) rfl (nI_dec _) (by decide) rfl (fun ls hl => ?_)
        refine lv_goto (tgt := 11) hx hb dX5_halve_60 (by decide) ?_
        exact ihlp _ (by omega) q ((cy * 2147483648 + F1 (72 * a + q)) % 2) (va_up F1 (72 * a + q) ((cy * 2147483648 + F1 (72 * a + q)) / 2 ^ 1)) rfl (by omega) (by omega) (fun j hj => by rw [va_up_ne _ _ (by omega)]; exact h1 j (by omega)) (fun j hj => by show va_up F1 _ _ _ < _; by_cases hc : j = q; subst hc; rw [va_up_self]; omega; rw [va_up_ne _ _ (by omega)]; exact h2 j hj) (halve_inv hk h3 hq2) ls _ _ (lv_sub hl [0, 1, 3, 4] rfl) hM
  exact lp _ (L a) 0 F rfl (by omega) (by omega) (fun _ _ => rfl) na.digs (by simp [vl_0]) ls _ _ (lv_sub hl [0, 1, 2, 3] rfl) hM

set_option maxRecDepth 100000 in
set_option maxHeartbeats 4000000 in
theorem m_isEven (l : Launch) (Γ : zT) {o lF lL lB : Nat} (hok : mdk o lF lL lB) (G0 : zG) (fl : Nat → Int32) (F L B : Nat → Nat) (sz : Nat) (a va : Nat) (ha : a < 455) (na : nv F L a va) : zMi l yX5_isEven wsX5_isEven (zR 2) Γ (md Γ o lF lL lB G0 fl F L B) sz [.ref o, .int (nI a)] (fun r G' => r = nI (if va % 2 = 0 then 1 else 0) ∧ G' = md Γ o lF lL lB G0 fl F L B) 0 0 := by
  refine z_start (cc := cX5_isEven) (maxL := 2) (ret := (some .boolean)) (by decide) rfl (Nat.le_of_ble_eq_true rfl) ?_
  intro p e s m args below meth c ls Q hQ hsz hx hb hr hml hown hts hlocks hnm hK hM hl
  obtain ⟨A, hAe⟩ : ∃ A, A = zA (md Γ o lF lL lB G0 fl F L B) s.heap.size := ⟨_, rfl⟩
  rw [← hAe] at hM
  have hl : lv_has ls 2 [(0, .ref o), (1, .int (nI a))] := hl
  refine lv_aload_n hx hb dX5_isEven_0 rfl (lv_at hl 0 rfl) ?_
  refine lv_iload_n hx hb dX5_isEven_1 rfl (lv_at hl 1 rfl) ?_
  refine lv_iconst (v := nI 0) hx hb dX5_isEven_2 rfl ?_
  refine z_calll0 (va_runV (As := [.int (nI a), .int (nI 0)]) (rest := []) ⟨hx, hb, hml, hown, hts⟩ (m_limbOf l Γ hok G0 fl F L B _ a 0 ha (by omega) na.le na.digs) (cwV 2 hts gX5_isEven_X5_limbOf rfl rfl rfl (by decide +kernel) ⟨Nat.le_of_ble_eq_true rfl, Nat.le_of_ble_eq_true rfl⟩) (zM.preV hK hM (md_o hok) rfl rfl) rfl rfl hl.1 rfl (lv_room (Nat.le_of_ble_eq_true rfl)) dX5_isEven_3 ⟨Nat.le_of_ble_eq_true rfl, Nat.le_of_ble_eq_true rfl⟩) hM (fun r3 G3 H locs hp3 hM => ?_)
  obtain ⟨rfl, rfl⟩ := hp3
  have hlm := lmb_lt na 0
  have hlm2 : lmb F L a 0 % 2 = va % 2 := by rw [lmb_digit na, bp_0]; omega
  refine lv_ldc2 hx hb hown (hts (.constantLong RX5 72 (2)) (by decide +kernel)) dX5_isEven_6 ?_
  refine z_asl (y := lN 2) (rfl) ?_
  refine z_lrem hx hb (by omega) (by omega) (by omega) dX5_isEven_9 ?_
  refine lv_lconst (v := lN 0) hx hb dX5_isEven_10 rfl ?_
  refine W.lcmp hx hb dX5_isEven_11 ?_
  refine lv_if_ne (tgt := 19) hx hb dX5_isEven_12 (by decide) (fun hc12 => ?_) (fun hc12 => ?_)
  · have hne : ¬ va % 2 = 0 := fun h => hc12 ((lg_cmp_eq _ _).mpr (by rw [hlm2, h]))
    refine lv_iconst (v := nI 0) hx hb dX5_isEven_19 rfl ?_
    rw [hQ]
    rw [hAe] at hM
    exact z_zret (by omega) hsz hx hb hr hlocks hK hM dX5_isEven_20 (⟨by rw [if_neg hne], rfl⟩)
  · have he : va % 2 = 0 := by
      have := (pk_lEQ (show lmb F L a 0 % 2 < 2 ^ 63 by omega) (show 0 < 2 ^ 63 by decide)).mp ((lg_cmp_eq _ _).mp hc12)
      omega
    refine lv_iconst (v := nI 1) hx hb dX5_isEven_15 rfl ?_
    refine lv_goto (tgt := 20) hx hb dX5_isEven_16 (by decide) ?_
    rw [hQ]
    rw [hAe] at hM
    exact z_zret (by omega) hsz hx hb hr hlocks hK hM dX5_isEven_20 (⟨by rw [if_pos he], rfl⟩)
end
section
/-! numbers outside lo .. hi - 1 stay -/
def sm (lo hi : Nat) (F L B F' L' B' : Nat → Nat) : Prop := ∀ a, (a < lo ∨ hi ≤ a) → L' a = L a ∧ B' a = B a ∧ ∀ k, k < 72 → F' (72 * a + k) = F (72 * a + k)
theorem sm.rf {lo hi : Nat} {F L B : Nat → Nat} : sm lo hi F L B F L B := fun _ _ => ⟨rfl, rfl, fun _ _ => rfl⟩
theorem sm.tr {lo hi : Nat} {F L B F1 L1 B1 F2 L2 B2 : Nat → Nat} (h1 : sm lo hi F L B F1 L1 B1) (h2 : sm lo hi F1 L1 B1 F2 L2 B2) : sm lo hi F L B F2 L2 B2 := fun a ha => by
  obtain ⟨a1, b1, c1⟩ := h1 a ha
  obtain ⟨a2, b2, c2⟩ := h2 a ha
  exact ⟨a2.trans a1, b2.trans b1, fun k hk => (c2 k hk).trans (c1 k hk)⟩
theorem sm.wid {lo hi lo' hi' : Nat} {F L B F1 L1 B1 : Nat → Nat} (h1 : sm lo hi F L B F1 L1 B1) (hl : lo' ≤ lo) (hh : hi ≤ hi') : sm lo' hi' F L B F1 L1 B1 := fun a ha => h1 a (by omega)
theorem sm.nv {lo hi : Nat} {F L B F1 L1 B1 : Nat → Nat} (h : sm lo hi F L B F1 L1 B1) {a v : Nat} (ha : a < lo ∨ hi ≤ a) (n : nv F L a v) : nv F1 L1 a v := by
  obtain ⟨h1, -, h3⟩ := h a ha
  refine ⟨by rw [h1]; exact n.1, n.2.1, fun k hk => ?_, ?_⟩
  · have := n.2.1; show F1 _ < _; rw [h3 k (by omega)]; exact n.2.2.1 k hk
  · have := n.2.1; rw [vl_congr (fun k hk => h3 k (by omega))]; exact n.2.2.2
theorem sm.B {lo hi : Nat} {F L B F1 L1 B1 : Nat → Nat} (h : sm lo hi F L B F1 L1 B1) {a : Nat} (ha : a < lo ∨ hi ≤ a) : B1 a = B a := (h a ha).2.1
theorem sm.L {lo hi : Nat} {F L B F1 L1 B1 : Nat → Nat} (h : sm lo hi F L B F1 L1 B1) {a : Nat} (ha : a < lo ∨ hi ≤ a) : L1 a = L a := (h a ha).1
theorem sm_of {F L B F1 : Nat → Nat} {t x : Nat} {B1 : Nat → Nat} (hf : fr72 F F1 t) (hB : ∀ a, a ≠ t → B1 a = B a) : sm t (t + 1) F L B F1 (va_up L t x) B1 := fun a ha => ⟨va_up_ne _ _ (by omega), hB a (by omega), fun k hk => hf _ (by omega)⟩
theorem cpF_fr (F : Nat → Nat) (t f : Nat) {n : Nat} (hn : n ≤ 72) : fr72 F (cpF F t f n) t := fun j hj => by unfold cpF; rw [if_neg (by omega)]
theorem cpF_in (F : Nat → Nat) (t f : Nat) {n k : Nat} (hk : k < n) : cpF F t f n (72 * t + k) = F (72 * f + k) := by unfold cpF; rw [if_pos (by omega)]; congr 1; omega
theorem cpF_nv {F L : Nat → Nat} {t f v : Nat} (n : nv F L f v) : nv (cpF F t f (L f)) (va_up L t (L f)) t v := by
  refine ⟨by rw [va_up_self]; exact n.1, n.2.1, fun k hk => ?_, ?_⟩
  · show cpF F t f (L f) (72 * t + k) < _; rw [cpF_in F t f (by rw [n.1]; exact hk)]; exact n.2.2.1 k hk
  · rw [vl_congr (fun k hk => cpF_in F t f (by rw [n.1]; exact hk))]; exact n.2.2.2
section REL
variable {Γ : zT} {A : Nat → Prop} {H0 H : Heap} {locs : List Loc} {o lF lL lB : Nat} {G0 : zG} {fl : Nat → Int32} {F L B F1 : Nat → Nat} {t f v : Nat}
theorem copy_rel (hM : zM Γ A H0 (md Γ o lF lL lB G0 fl (cpF F t f (L f)) (va_up L t (L f)) (va_up B t (B f))) H locs) (n : nv F L f v) : ∃ F1 L1 B1, zM Γ A H0 (md Γ o lF lL lB G0 fl F1 L1 B1) H locs ∧ sm t (t + 1) F L B F1 L1 B1 ∧ nv F1 L1 t v ∧ B1 t = B f :=
  ⟨_, _, _, hM, sm_of (cpF_fr F t f n.le) (fun a h => va_up_ne _ _ h), cpF_nv n, va_up_self _ _ _⟩
theorem step_rel (hM : zM Γ A H0 (md Γ o lF lL lB G0 fl F1 (va_up L t (nl v)) (bz B t v)) H locs) (hf : fr72 F F1 t) (n : nv F1 (va_up L t (nl v)) t v) : ∃ L1 B1, zM Γ A H0 (md Γ o lF lL lB G0 fl F1 L1 B1) H locs ∧ sm t (t + 1) F L B F1 L1 B1 ∧ nv F1 L1 t v ∧ (B1 t = B t ∨ B1 t = 0) :=
  ⟨_, _, hM, sm_of hf (fun a h => bz_ap h), n, by unfold bz; split; exact Or.inr (va_up_self _ _ _); exact Or.inl rfl⟩
theorem sign_rel {z : Int} (hM : zM Γ A H0 (md Γ o lF lL lB G0 fl F1 (va_up L t (nl z.natAbs)) (va_up B t (sb z))) H locs) (hf : fr72 F F1 t) (n : nv F1 (va_up L t (nl z.natAbs)) t z.natAbs) : ∃ L1 B1, zM Γ A H0 (md Γ o lF lL lB G0 fl F1 L1 B1) H locs ∧ sm t (t + 1) F L B F1 L1 B1 ∧ nv F1 L1 t z.natAbs ∧ B1 t = sb z :=
  ⟨_, _, hM, sm_of hf (fun a h => va_up_ne _ _ h), n, va_up_self _ _ _⟩
theorem clear_rel (hM : zM Γ A H0 (md Γ o lF lL lB G0 fl F (va_up L t 0) (va_up B t 0)) H locs) : ∃ L1 B1, zM Γ A H0 (md Γ o lF lL lB G0 fl F L1 B1) H locs ∧ sm t (t + 1) F L B F L1 B1 ∧ nv F L1 t 0 ∧ B1 t = 0 :=
  ⟨_, _, hM, sm_of (fun _ _ => rfl) (fun a h => va_up_ne _ _ h), ⟨va_up_self _ _ _, by decide, fun k hk => absurd hk (by rw [nl_0]; omega), rfl⟩, va_up_self _ _ _⟩
end REL
/-! one step of long division by a digit -/
theorem div_step {f h HI vb left : Nat} (hb : 0 < vb) (h1 : h = HI / vb) (h2 : left = HI % vb) : (left * 2147483648 + f) / vb + 2147483648 * h = (f + 2147483648 * HI) / vb ∧ (left * 2147483648 + f) % vb = (f + 2147483648 * HI) % vb := by
  subst h1; subst h2
  have e : f + 2147483648 * HI = vb * (2147483648 * (HI / vb)) + (HI % vb * 2147483648 + f) := by
    have := Nat.div_add_mod HI vb
    have e2 : vb * (2147483648 * (HI / vb)) = 2147483648 * (vb * (HI / vb)) := by rw [Nat.mul_left_comm]
    omega
  rw [e, Nat.mul_add_div hb, Nat.mul_add_mod]
  exact ⟨by omega, rfl⟩
theorem div_digit_lt {left f vb : Nat} (hb : 0 < vb) (hl : left < vb) (hf : f < 2147483648) : (left * 2147483648 + f) / vb < 2147483648 := by
  rw [Nat.div_lt_iff_lt_mul hb]
  have := mul_le_r 2147483648 (show left + 1 ≤ vb by omega)
  rw [Nat.mul_comm 2147483648]
  omega
/-! bits of a digit -/
theorem tb_clr {r h b low : Nat} (hlow : low < 2 ^ r) (hb : b < 2) (i : Nat) : (2 ^ r * (2 * h) + low).testBit i = ((2 ^ r * (2 * h + b) + low).testBit i && decide (i ≠ r)) := by
  rw [Nat.testBit_two_pow_mul_add _ hlow, Nat.testBit_two_pow_mul_add _ hlow]
  by_cases c : i < r
  · simp [c]; omega
  · simp only [c, if_false]
    by_cases c2 : i = r
    · subst c2; simp [Nat.testBit_zero]
    · obtain ⟨q, hq⟩ : ∃ q, i - r = q + 1 := ⟨i - r - 1, by omega⟩
      rw [hq, Nat.testBit_succ, Nat.testBit_succ, show 2 * h / 2 = h by omega, show (2 * h + b) / 2 = h by omega]
      simp [c2]
theorem tb_set {r h low : Nat} (hlow : low < 2 ^ r) (i : Nat) : (2 ^ r * (2 * h + 1) + low).testBit i = ((2 ^ r * (2 * h) + low).testBit i || decide (i = r)) := by
  rw [Nat.testBit_two_pow_mul_add _ hlow, Nat.testBit_two_pow_mul_add _ hlow]
  by_cases c : i < r
  · simp [c]; omega
  · simp only [c, if_false]
    by_cases c2 : i = r
    · subst c2; simp [Nat.testBit_zero]
    · obtain ⟨q, hq⟩ : ∃ q, i - r = q + 1 := ⟨i - r - 1, by omega⟩
      rw [hq, Nat.testBit_succ, Nat.testBit_succ, show 2 * h / 2 = h by omega, show (2 * h + 1) / 2 = h by omega]
      simp [c2]
theorem ni_bv (n : Nat) : (nI n).toBitVec = BitVec.ofNat 32 n := rfl
theorem ni_clr {r h b low : Nat} (hr : r < 31) (hlow : low < 2 ^ r) (hb : b < 2) : nI (2 ^ r * (2 * h + b) + low) &&& (nI (2 ^ r) ^^^ (-1)) = nI (2 ^ r * (2 * h) + low) := by
  apply Int32.toBitVec_inj.mp
  apply BitVec.eq_of_getLsbD_eq
  intro i hi
  rw [Int32.toBitVec_and, Int32.toBitVec_xor, ni_bv, ni_bv, ni_bv, BitVec.getLsbD_and, BitVec.getLsbD_xor, BitVec.getLsbD_ofNat, BitVec.getLsbD_ofNat, BitVec.getLsbD_ofNat, tb_clr (h := h) hlow hb i, Nat.testBit_two_pow, show ((-1 : Int32).toBitVec).getLsbD i = decide (i < 32) from by rw [show (-1 : Int32).toBitVec = BitVec.allOnes 32 from by decide, BitVec.getLsbD_allOnes]]
  simp [hi]
  by_cases c : i = r
  · simp [c]
  · simp [c, Ne.symm c]
theorem ni_set {r h low : Nat} (hr : r < 31) (hlow : low < 2 ^ r) : nI (2 ^ r * (2 * h) + low) ||| nI (2 ^ r) = nI (2 ^ r * (2 * h + 1) + low) := by
  apply Int32.toBitVec_inj.mp
  apply BitVec.eq_of_getLsbD_eq
  intro i hi
  rw [Int32.toBitVec_or, ni_bv, ni_bv, ni_bv, BitVec.getLsbD_or, BitVec.getLsbD_ofNat, BitVec.getLsbD_ofNat, BitVec.getLsbD_ofNat, tb_set hlow i, Nat.testBit_two_pow]
  simp [hi, eq_comm]
theorem ni_shl : ∀ r, r < 31 → nI 1 <<< (nI r &&& 31) = nI (2 ^ r) := by decide
/-! greatest divisors -/
theorem odd_co {y : Nat} (h : y % 2 = 1) : Nat.Coprime 2 y := by
  unfold Nat.Coprime; rw [Nat.gcd_rec, h]; rfl
theorem gcd_half {x y : Nat} (hx : x % 2 = 0) (hy : y % 2 = 1) : Nat.gcd (x / 2) y = Nat.gcd x y := by
  have := (odd_co hy).gcd_mul_left_cancel (x / 2)
  rw [show 2 * (x / 2) = x by omega] at this
  exact this.symm
theorem gcd_half2 {x y : Nat} (hx : x % 2 = 0) (hy : y % 2 = 0) : 2 * Nat.gcd (x / 2) (y / 2) = Nat.gcd x y := by
  rw [← Nat.gcd_mul_left, show 2 * (x / 2) = x by omega, show 2 * (y / 2) = y by omega]
end
section
theorem ni_clr' {d r : Nat} (hr : r < 31) : nI d &&& (nI (2 ^ r) ^^^ (-1)) = nI (d - d / 2 ^ r % 2 * 2 ^ r) := by
  have e : d = 2 ^ r * (2 * (d / 2 ^ r / 2) + d / 2 ^ r % 2) + d % 2 ^ r := by
    rw [show 2 * (d / 2 ^ r / 2) + d / 2 ^ r % 2 = d / 2 ^ r by omega]
    exact (Nat.div_add_mod d (2 ^ r)).symm
  have h := ni_clr (h := d / 2 ^ r / 2) hr (Nat.mod_lt d (Nat.pow_pos (by decide) : 0 < 2 ^ r)) (Nat.mod_lt (d / 2 ^ r) (by decide : 0 < 2))
  rw [← e] at h
  rw [h]
  congr 1
  rw [Nat.mul_add] at e
  have : 2 ^ r * (d / 2 ^ r % 2) = d / 2 ^ r % 2 * 2 ^ r := Nat.mul_comm ..
  omega
theorem ni_set' {d r : Nat} (hr : r < 31) (h0 : d / 2 ^ r % 2 = 0) : nI d ||| nI (2 ^ r) = nI (d + 2 ^ r) := by
  have e : d = 2 ^ r * (2 * (d / 2 ^ r / 2)) + d % 2 ^ r := by
    rw [show 2 * (d / 2 ^ r / 2) = d / 2 ^ r by omega]
    exact (Nat.div_add_mod d (2 ^ r)).symm
  have h := ni_set (h := d / 2 ^ r / 2) hr (Nat.mod_lt d (Nat.pow_pos (by decide) : 0 < 2 ^ r))
  rw [← e, Nat.mul_add, Nat.mul_one] at h
  rw [h]
  congr 1
  omega
theorem vl_upd {F : Nat → Nat} {t i x n : Nat} (hi : i < n) : vl (fun j => va_up F (72 * t + i) x (72 * t + j)) n + F (72 * t + i) * bp i = vl (fun j => F (72 * t + j)) n + x * bp i := by
  have key : ∀ n, i < n → vl (fun j => va_up F (72 * t + i) x (72 * t + j)) n + F (72 * t + i) * bp i = vl (fun j => F (72 * t + j)) n + x * bp i := by
    intro n
    induction n with
    | zero => intro h; omega
    | succ n ih =>
      intro h
      rw [vl_s, vl_s]
      by_cases c : i = n
      · subst c; rw [va_up_self, vl_congr (d' := fun j => F (72 * t + j)) (fun k hk => va_up_ne _ _ (by omega))]; omega
      · rw [va_up_ne _ _ (by omega)]; have := ih (by omega); omega
  exact key n hi
theorem bp_q (q : Nat) : 2 ^ (q % 31) * bp (q / 31) = 2 ^ q := by rw [bp_2, ← Nat.pow_add, show q % 31 + 31 * (q / 31) = q by omega]
theorem vl_bit {F : Nat → Nat} {t n q : Nat} (h : dg (fun j => F (72 * t + j)) n) (hq : q / 31 < n) : F (72 * t + q / 31) / 2 ^ (q % 31) % 2 = vl (fun j => F (72 * t + j)) n / 2 ^ q % 2 := by
  rw [show F (72 * t + q / 31) = vl (fun j => F (72 * t + j)) n / bp (q / 31) % 2147483648 from (vl_digit h hq).symm, bit_mod (Nat.mod_lt _ (by decide)), bp_2, Nat.div_div_eq_div_mul, ← Nat.pow_add, show 31 * (q / 31) + q % 31 = q by omega]
theorem bd_1 (va q : Nat) : va / 2 ^ q = 2 * (va / 2 ^ (q + 1)) + va / 2 ^ q % 2 := by
  rw [Nat.pow_succ, ← Nat.div_div_eq_div_mul]; omega
theorem bd_2 (va q : Nat) : va % 2 ^ (q + 1) = va / 2 ^ q % 2 * 2 ^ q + va % 2 ^ q := by
  rw [Nat.pow_succ, Nat.mod_mul, Nat.mul_comm (2 ^ q)]; omega
theorem bd_ac (P Q b : Nat) : P * (2 * Q + b) = Q * (P * 2) + b * P := by rw [Nat.mul_add, Nat.mul_comm P b, ← Nat.mul_assoc, Nat.mul_comm (P * 2) Q]
theorem bd_X {Q va q : Nat} : (Q * 2 ^ (q + 1) + va % 2 ^ (q + 1)) / 2 ^ q % 2 = va / 2 ^ q % 2 := by
  rw [bd_2, Nat.pow_succ, ← Nat.add_assoc, ← bd_ac, Nat.mul_add_div (Nat.pow_pos (by decide)), Nat.div_eq_of_lt (Nat.mod_lt _ (Nat.pow_pos (by decide)))]
  omega
theorem bd_lo {va vb q : Nat} (h : 2 * (va / 2 ^ (q + 1) % vb) + va / 2 ^ q % 2 < vb) : va / 2 ^ q / vb = 2 * (va / 2 ^ (q + 1) / vb) ∧ va / 2 ^ q % vb = 2 * (va / 2 ^ (q + 1) % vb) + va / 2 ^ q % 2 := by
  have e : va / 2 ^ q = vb * (2 * (va / 2 ^ (q + 1) / vb)) + (2 * (va / 2 ^ (q + 1) % vb) + va / 2 ^ q % 2) := by
    conv => lhs; rw [bd_1 va q]
    have := Nat.div_add_mod (va / 2 ^ (q + 1)) vb
    rw [Nat.mul_left_comm]
    omega
  constructor
  · conv => lhs; rw [e]
    rw [Nat.mul_add_div (by omega), Nat.div_eq_of_lt h]; omega
  · conv => lhs; rw [e]
    rw [Nat.mul_add_mod, Nat.mod_eq_of_lt h]
theorem bd_hi {va vb q : Nat} (hb : 0 < vb) (h : vb ≤ 2 * (va / 2 ^ (q + 1) % vb) + va / 2 ^ q % 2) : va / 2 ^ q / vb = 2 * (va / 2 ^ (q + 1) / vb) + 1 ∧ va / 2 ^ q % vb = 2 * (va / 2 ^ (q + 1) % vb) + va / 2 ^ q % 2 - vb := by
  have hm := Nat.mod_lt (va / 2 ^ (q + 1)) hb
  have hl : 2 * (va / 2 ^ (q + 1) % vb) + va / 2 ^ q % 2 - vb < vb := by omega
  have e : va / 2 ^ q = vb * (2 * (va / 2 ^ (q + 1) / vb) + 1) + (2 * (va / 2 ^ (q + 1) % vb) + va / 2 ^ q % 2 - vb) := by
    conv => lhs; rw [bd_1 va q]
    have := Nat.div_add_mod (va / 2 ^ (q + 1)) vb
    rw [Nat.mul_add, Nat.mul_left_comm]
    omega
  constructor
  · conv => lhs; rw [e]
    rw [Nat.mul_add_div (by omega), Nat.div_eq_of_lt hl]
  · conv => lhs; rw [e]
    rw [Nat.mul_add_mod, Nat.mod_eq_of_lt hl]
theorem m_trim2 (l : Launch) (Γ : zT) {o lF lL lB : Nat} (hok : mdk o lF lL lB) (G0 : zG) (fl : Nat → Int32) (F L B : Nat → Nat) (sz : Nat) (a n v : Nat) (ha : a < 455) (hLn : L a = n) (hL : n ≤ 72) (hd : dg (fun k => F (72 * a + k)) n) (hv : vl (fun k => F (72 * a + k)) n = v) : zMv l yX5_trim wsX5_trim (zR 1) Γ (md Γ o lF lL lB G0 fl F L B) sz [.ref o, .int (nI a)] (fun G' => G' = md Γ o lF lL lB G0 fl F (va_up L a (nl v)) (bz B a v)) 0 0 := by
  have h := m_trim l Γ hok G0 fl F L B sz a n ha hLn hL hd
  rw [tr_of hd hv] at h
  exact h
theorem smB {F L B : Nat → Nat} {t x : Nat} : sm t (t + 1) F L B F L (va_up B t x) := fun a ha => ⟨rfl, va_up_ne _ _ (by omega), fun _ _ => rfl⟩
theorem smL {F L B : Nat → Nat} {t x : Nat} : sm t (t + 1) F L B F (va_up L t x) B := fun a ha => ⟨va_up_ne _ _ (by omega), rfl, fun _ _ => rfl⟩
theorem smF {F L B F1 : Nat → Nat} {t : Nat} (h : fr72 F F1 t) : sm t (t + 1) F L B F1 L B := fun a ha => ⟨rfl, rfl, fun k hk => h _ (by omega)⟩
theorem divide_inv {F1 F2 : Nat → Nat} {a q n left vb : Nat} (hb : 0 < vb) (hk : q + 1 ≤ n) (hx : fr72 F1 F2 445) (ha : a < 445) (hq72 : q < 72) (h3 : vl (fun j => F2 (72 * 445 + (q + 1 + j))) (n - (q + 1)) = vl (fun j => F1 (72 * a + (q + 1 + j))) (n - (q + 1)) / vb ∧ left = vl (fun j => F1 (72 * a + (q + 1 + j))) (n - (q + 1)) % vb) :
    vl (fun j => va_up F2 (72 * 445 + q) ((left * 2147483648 + F2 (72 * a + q)) / vb) (72 * 445 + (q + j))) (n - q) = vl (fun j => F1 (72 * a + (q + j))) (n - q) / vb ∧ (left * 2147483648 + F2 (72 * a + q)) % vb = vl (fun j => F1 (72 * a + (q + j))) (n - q) % vb := by
  obtain ⟨r, hr⟩ : ∃ r, n - q = r + 1 := ⟨n - q - 1, by omega⟩
  rw [show n - (q + 1) = r by omega] at h3
  rw [hr, vl_cons, vl_cons]
  have e1 : vl (fun j => va_up F2 (72 * 445 + q) ((left * 2147483648 + F2 (72 * a + q)) / vb) (72 * 445 + (q + (1 + j)))) r = vl (fun j => F2 (72 * 445 + (q + 1 + j))) r := vl_congr (fun j _ => by rw [va_up_ne _ _ (by omega), Nat.add_assoc q 1 j])
  have e2 : vl (fun j => F1 (72 * a + (q + (1 + j)))) r = vl (fun j => F1 (72 * a + (q + 1 + j))) r := vl_congr (fun j _ => by rw [Nat.add_assoc q 1 j])
  rw [e1, e2, Nat.add_zero, va_up_self, Nat.add_zero, show F2 (72 * a + q) = F1 (72 * a + q) from hx _ (by omega)]
  exact div_step hb h3.1 h3.2
theorem set_lt {d r : Nat} (hr : r < 31) (h0 : d / 2 ^ r % 2 = 0) (hd : d < 2147483648) : d + 2 ^ r < 2147483648 := by
  have e : (2147483648 : Nat) = 2 ^ r * (2 * 2 ^ (30 - r)) := by rw [← Nat.pow_succ', ← Nat.pow_add, show r + (30 - r).succ = 31 by omega]
  have h1 : d / 2 ^ r < 2 * 2 ^ (30 - r) := by
    rw [Nat.div_lt_iff_lt_mul (Nat.pow_pos (by decide)), Nat.mul_comm]; omega
  have h2 : d / 2 ^ r + 2 ≤ 2 * 2 ^ (30 - r) := by omega
  have h3 := Nat.mul_le_mul_left (2 ^ r) h2
  have h4 := Nat.div_add_mod d (2 ^ r)
  have h5 := Nat.mod_lt d (Nat.pow_pos (by decide) : 0 < 2 ^ r)
  rw [Nat.mul_add] at h3
  omega
theorem bd_c1 (Q q : Nat) : (2 * Q + 1) * 2 ^ q = Q * 2 ^ (q + 1) + 2 ^ q := by rw [Nat.add_mul, Nat.one_mul, Nat.mul_comm 2, Nat.mul_assoc, Nat.pow_succ']
theorem bd_c0 (Q q : Nat) : 2 * Q * 2 ^ q = Q * 2 ^ (q + 1) := by rw [Nat.mul_comm 2, Nat.mul_assoc, Nat.pow_succ']
end
section
set_option maxRecDepth 100000 in
set_option maxHeartbeats 4000000 in
theorem m_divide (l : Launch) (Γ : zT) {o lF lL lB : Nat} (hok : mdk o lF lL lB) (G0 : zG) (fl : Nat → Int32) (F L B : Nat → Nat) (sz : Nat) (a b va vb : Nat) (ha : a < 445) (hbb : b < 445) (na : nv F L a va) (nb : nv F L b vb) (n1 : nv F L 447 1) (hvb : 0 < vb) (hLa : L a ≤ 70) (hLb : L b ≤ 70) (hBa : B a < 2) : zMv l yX5_divide wsX5_divide (zR 3) Γ (md Γ o lF lL lB G0 fl F L B) sz [.ref o, .int (nI a), .int (nI b)] (fun G' => ∃ F' L' B', G' = md Γ o lF lL lB G0 fl F' L' B' ∧ sm 445 447 F L B F' L' B' ∧ nv F' L' 445 (va / vb) ∧ nv F' L' 446 (va % vb) ∧ B' 445 = 0 ∧ B' 446 = 0) 0 0 := by
  refine z_start (cc := cX5_divide) (maxL := 10) (ret := none) (by decide) rfl (Nat.le_of_ble_eq_true rfl) ?_
  intro p e s m args below meth c ls Q hQ hsz hx hb hr hml hown hts hlocks hnm hK hM hl
  obtain ⟨A, hAe⟩ : ∃ A, A = zA (md Γ o lF lL lB G0 fl F L B) s.heap.size := ⟨_, rfl⟩
  rw [← hAe] at hM
  have hl : lv_has ls 10 [(0, .ref o), (1, .int (nI a)), (2, .int (nI b))] := hl
  have hin5 : ∀ w ∈ wsX50, w ∈ wsX5_divide := by decide +kernel
  have hf_limbs := hts (.fieldLink RX5 7 "CutRowsModel" "limbs" "[I") (by decide +kernel)
  have hf_length := hts (.fieldLink RX5 13 "CutRowsModel" "length" "[I") (by decide +kernel)
  have hf_isBelow := hts (.fieldLink RX5 16 "CutRowsModel" "isBelow" "[Z") (by decide +kernel)
  refine lv_aload_n hx hb dX5_divide_0 rfl (lv_at hl 0 rfl) ?_
  refine lv_sipush (v := nI 445) hx hb dX5_divide_1 rfl ?_
  refine lv_iload_n hx hb dX5_divide_4 rfl (lv_at hl 1 rfl) ?_
  refine z_callv0 (va_runV (As := [.int (nI 445), .int (nI a)]) (rest := []) ⟨hx, hb, hml, hown, hts⟩ (m_copy l Γ hok G0 fl F L B _ 445 a (by omega) (by omega) (by omega) na.le hBa) (cwV 2 hts gX5_divide_X5_copy rfl rfl rfl (by decide +kernel) ⟨Nat.le_of_ble_eq_true rfl, Nat.le_of_ble_eq_true rfl⟩) (zM.preV hK hM (md_o hok) rfl rfl) rfl rfl hl.1 rfl (lv_room (Nat.le_of_ble_eq_true rfl)) dX5_divide_5 ⟨Nat.le_of_ble_eq_true rfl, Nat.le_of_ble_eq_true rfl⟩) hM (fun G5 H locs hp5 hM => ?_)
  obtain rfl := hp5
  obtain ⟨F1, L1, B1, hM, s1, q1, b1⟩ := copy_rel hM na
  refine lv_aload_n hx hb dX5_divide_8 rfl (lv_at hl 0 rfl) ?_
  refine m_get hok hx hb hts hin5 hown hK hM 6 hf_isBelow rfl (by decide) (v := .ref lB) rfl dX5_divide_9 ?_
  refine lv_sipush (v := nI 445) hx hb dX5_divide_12 rfl ?_
  refine lv_iconst (v := nI 0) hx hb dX5_divide_15 rfl ?_
  refine m_stB hok hx hb hK hM (by omega) (by omega) dX5_divide_16 (fun H locs hM => ?_)
  refine lv_aload_n hx hb dX5_divide_17 rfl (lv_at hl 0 rfl) ?_
  refine lv_sipush (v := nI 446) hx hb dX5_divide_18 rfl ?_
  refine z_callv0 (va_runV (As := [.int (nI 446)]) (rest := []) ⟨hx, hb, hml, hown, hts⟩ (m_clear l Γ hok G0 fl F1 L1 (va_up B1 445 0) _ 446 (by omega)) (cwV 1 hts gX5_divide_X5_clear rfl rfl rfl (by decide +kernel) ⟨Nat.le_of_ble_eq_true rfl, Nat.le_of_ble_eq_true rfl⟩) (zM.preV hK hM (md_o hok) rfl rfl) rfl rfl hl.1 rfl (lv_room (Nat.le_of_ble_eq_true rfl)) dX5_divide_21 ⟨Nat.le_of_ble_eq_true rfl, Nat.le_of_ble_eq_true rfl⟩) hM (fun G21 H locs hp21 hM => ?_)
  obtain rfl := hp21
  obtain ⟨L2, B2, hM, s2, r2, b2⟩ := clear_rel hM
  have sA : sm 445 447 F L B F1 L2 B2 := ((s1.wid (Nat.le_refl _) (by omega)).tr (smB.wid (Nat.le_refl _) (by omega))).tr (s2.wid (by omega) (Nat.le_refl _))
  have nq := s2.nv (Or.inl (by omega)) q1
  have na2 := sA.nv (Or.inl (by omega)) na
  have nb2 := sA.nv (Or.inl (by omega)) nb
  have n12 := sA.nv (Or.inr (by omega)) n1
  have hLa2 : L2 a = L a := sA.L (Or.inl (by omega))
  have hLb2 : L2 b = L b := sA.L (Or.inl (by omega))
  have hLq : L2 445 = L a := by rw [nq.1, ← na.1]
  have hb5 : B2 445 = 0 := (s2.B (Or.inl (by omega))).trans (va_up_self _ _ _)
  refine lv_aload_n hx hb dX5_divide_24 rfl (lv_at hl 0 rfl) ?_
  refine m_get hok hx hb hts hin5 hown hK hM 5 hf_length rfl (by decide) (v := .ref lL) rfl dX5_divide_25 ?_
  refine lv_iload_n hx hb dX5_divide_28 rfl (lv_at hl 2 rfl) ?_
  refine m_ldL hok hx hb hK hM (by omega) dX5_divide_29 ?_
  refine lv_iconst (v := nI 1) hx hb dX5_divide_30 rfl ?_
  refine z_icmp_ne (tgt := 146) hx hb (by omega) (by omega) dX5_divide_31 (by decide) (fun hc31 => ?_) (fun hc31 => ?_)
  · refine lv_aload_n hx hb dX5_divide_146 rfl (lv_at hl 0 rfl) ?_
    refine lv_iload_n hx hb dX5_divide_147 rfl (lv_at hl 1 rfl) ?_
    refine z_calli0 (va_runV (As := [.int (nI a)]) (rest := []) ⟨hx, hb, hml, hown, hts⟩ (m_bitsOf l Γ hok G0 fl F1 L2 B2 _ a va (by omega) na2) (cwV 1 hts gX5_divide_X5_bitsOf rfl rfl rfl (by decide +kernel) ⟨Nat.le_of_ble_eq_true rfl, Nat.le_of_ble_eq_true rfl⟩) (zM.preV hK hM (md_o hok) rfl rfl) rfl rfl hl.1 rfl (lv_room (Nat.le_of_ble_eq_true rfl)) dX5_divide_148 ⟨Nat.le_of_ble_eq_true rfl, Nat.le_of_ble_eq_true rfl⟩) hM (fun r148 G148 H locs hp148 hM => ?_)
    obtain ⟨⟨bt, rfl, hbt, hbt2⟩, rfl⟩ := hp148
    refine lv_iconst (v := nI 1) hx hb dX5_divide_151 rfl ?_
    refine lv_isub hx hb dX5_divide_152 ?_
    refine lv_istore_n (lv' := [(3, .int ((nI bt) - (nI 1))), (0, .ref o), (1, .int (nI a)), (2, .int (nI b))]) hx hb dX5_divide_153 rfl hl (by decide) rfl (fun ls hl => ?_)
    have lp : ∀ (μ : Nat) (k : Nat) (F2 : Nat → Nat) (L3 : Nat → Nat) (B3 : Nat → Nat), k = μ → (k ≤ 31 * L a) → (sm 445 447 F L B F2 L3 B3) → (L3 445 = L a) → (dg (fun j => F2 (72 * 445 + j)) (L a)) → (vl (fun j => F2 (72 * 445 + j)) (L a) = va / 2 ^ k / vb * 2 ^ k + va % 2 ^ k) → (nv F2 L3 446 (va / 2 ^ k % vb)) → (B3 445 = 0) → (B3 446 = 0) → ∀ (ls : Array Slot) (H : Heap) (locs : List Loc), lv_has ls 10 [(3, .int (nI k - 1)), (0, .ref o), (1, .int (nI a)), (2, .int (nI b))] → zM Γ A s.heap (md Γ o lF lL lB G0 fl F2 L3 B3) H locs → W p l e (zR 3) s m args below meth c H locs 0 0 Q (F0 m 154 ls []) := by
      intro μ
      induction μ using Nat.strongRecOn with
      | _ μ ihlp =>
        intro k F2 L3 B3 hμ hk j1 j2 j3 j4 j5 j6 j7 ls H locs hl hM
        rcases Nat.eq_zero_or_pos k with hk0 | hk0
        · subst hk0
          rw [show nI 0 - 1 = (-1 : Int32) from rfl] at hl
          refine lv_iload_n hx hb dX5_divide_154 rfl (lv_at hl 0 rfl) ?_
          refine lv_if_lt (tgt := 276) hx hb dX5_divide_155 (by decide) (fun hc155 => ?_) (fun hc155 => ?_)
          · simp only [Nat.pow_zero, Nat.div_one, Nat.mod_one, Nat.mul_one, Nat.add_zero] at j4 j5
            refine lv_aload_n hx hb dX5_divide_276 rfl (lv_at hl 1 rfl) ?_
            refine lv_sipush (v := nI 445) hx hb dX5_divide_277 rfl ?_
            refine z_callv0 (va_runV (As := [.int (nI 445)]) (rest := []) ⟨hx, hb, hml, hown, hts⟩ (m_trim2 l Γ hok G0 fl F2 L3 B3 _ 445 (L a) (va / vb) (by omega) j2 (by omega) j3 j4) (cwV 1 hts gX5_divide_X5_trim rfl rfl rfl (by decide +kernel) ⟨Nat.le_of_ble_eq_true rfl, Nat.le_of_ble_eq_true rfl⟩) (zM.preV hK hM (md_o hok) rfl rfl) rfl rfl hl.1 rfl (lv_room (Nat.le_of_ble_eq_true rfl)) dX5_divide_280 ⟨Nat.le_of_ble_eq_true rfl, Nat.le_of_ble_eq_true rfl⟩) hM (fun G280 H locs hp280 hM => ?_)
            obtain rfl := hp280
            obtain ⟨L5, B5, hM, s5, n5, b5⟩ := step_rel hM (fun _ _ => rfl) (nv_of j3 j4 (by omega))
            have e55 : B5 446 = B3 446 := s5.B (Or.inr (by omega))
            rw [hQ]
            rw [hAe] at hM
            exact z_vret hsz hx hb hr hlocks hK hM dX5_divide_283 (⟨_, _, _, rfl, j1.tr (s5.wid (Nat.le_refl _) (by omega)), n5, s5.nv (Or.inr (by omega)) j5, by omega, by omega⟩)
          · exact absurd (by decide) hc155
        · obtain ⟨q, rfl⟩ : ∃ q, k = q + 1 := ⟨k - 1, by omega⟩
          rw [nI_pred] at hl
          have hrm : va / 2 ^ (q + 1) % vb < vb := Nat.mod_lt _ hvb
          have hL6 : L3 446 ≤ L b := by rw [j5.1, nb.1]; exact nl_mono (by omega)
          have hb2 : va / 2 ^ q % 2 < 2 := Nat.mod_lt _ (by decide)
          have k194 : ∀ (F5 : Nat → Nat) (L5 : Nat → Nat) (B5 : Nat → Nat), (sm 445 447 F L B F5 L5 B5) → (L5 445 = L a) → (dg (fun j => F5 (72 * 445 + j)) (L a)) → (vl (fun j => F5 (72 * 445 + j)) (L a) = va / 2 ^ (q + 1) / vb * 2 ^ (q + 1) + va % 2 ^ (q + 1)) → (nv F5 L5 446 (2 * (va / 2 ^ (q + 1) % vb) + va / 2 ^ q % 2)) → (B5 445 = 0) → (B5 446 = 0) → ∀ (ls : Array Slot) (H : Heap) (locs : List Loc), lv_has ls 10 [(3, .int (nI q)), (0, .ref o), (1, .int (nI a)), (2, .int (nI b))] → zM Γ A s.heap (md Γ o lF lL lB G0 fl F5 L5 B5) H locs → W p l e (zR 3) s m args below meth c H locs 0 0 Q (F0 m 194 ls []) := by
            intro F5 L5 B5 t1 t2 t3 t4 t5 t6 t7 ls H locs hl hM
            have hqn : q / 31 < L a := by omega
            have hX := vl_bit (t := 445) (n := L a) (q := q) t3 hqn
            rw [t4, bd_X] at hX
            have hd0 : F5 (72 * 445 + q / 31) < 2147483648 := t3 _ hqn
            obtain ⟨d0, hde⟩ : ∃ d0, d0 = F5 (72 * 445 + q / 31) := ⟨_, rfl⟩
            rw [← hde] at hX hd0
            have hbd : va / 2 ^ q % 2 * 2 ^ (q % 31) ≤ d0 := by
              have g1 := Nat.div_add_mod d0 (2 ^ (q % 31))
              have g2 := mul_le_r (2 ^ (q % 31)) (show va / 2 ^ q % 2 ≤ d0 / 2 ^ (q % 31) by rw [← hX]; exact Nat.mod_le _ _)
              rw [Nat.mul_comm (d0 / 2 ^ (q % 31))] at g2
              omega
            refine lv_sipush (v := nI 32040) hx hb dX5_divide_194 rfl ?_
            refine lv_iload_n hx hb dX5_divide_197 rfl (lv_at hl 0 rfl) ?_
            refine lv_bipush (v := nI 31) hx hb dX5_divide_198 rfl ?_
            refine z_idiv hx hb (by omega) (by omega) (by omega) dX5_divide_200 ?_
            refine z_iadd hx hb dX5_divide_201 ?_
            refine z_asi (y := nI (72 * 445 + q / 31)) (congrArg nI (by omega)) ?_
            refine lv_istore (lv' := [(4, .int (nI (72 * 445 + q / 31))), (3, .int (nI q)), (0, .ref o), (1, .int (nI a)), (2, .int (nI b))]) hx hb dX5_divide_202 hl (by decide) rfl (fun ls hl => ?_)
            refine lv_iconst (v := nI 1) hx hb dX5_divide_204 rfl ?_
            refine lv_iload_n hx hb dX5_divide_205 rfl (lv_at hl 1 rfl) ?_
            refine lv_bipush (v := nI 31) hx hb dX5_divide_206 rfl ?_
            refine z_irem hx hb (by omega) (by omega) (by omega) dX5_divide_208 ?_
            refine lv_ishl hx hb dX5_divide_209 ?_
            refine z_asi (y := nI (2 ^ (q % 31))) (ni_shl _ (Nat.mod_lt _ (by decide))) ?_
            refine lv_istore (lv' := [(5, .int (nI (2 ^ (q % 31)))), (4, .int (nI (72 * 445 + q / 31))), (3, .int (nI q)), (0, .ref o), (1, .int (nI a)), (2, .int (nI b))]) hx hb dX5_divide_210 hl (by decide) rfl (fun ls hl => ?_)
            refine lv_aload_n hx hb dX5_divide_212 rfl (lv_at hl 3 rfl) ?_
            refine m_get hok hx hb hts hin5 hown hK hM 4 hf_limbs rfl (by decide) (v := .ref lF) rfl dX5_divide_213 ?_
            refine lv_iload hx hb dX5_divide_216 (lv_at hl 1 rfl) ?_
            refine lv_aload_n hx hb dX5_divide_218 rfl (lv_at hl 3 rfl) ?_
            refine m_get hok hx hb hts hin5 hown hK hM 4 hf_limbs rfl (by decide) (v := .ref lF) rfl dX5_divide_219 ?_
            refine lv_iload hx hb dX5_divide_222 (lv_at hl 1 rfl) ?_
            refine m_ldF hok hx hb hK hM (by omega) dX5_divide_224 ?_
            refine z_asi (y := nI d0) (congrArg nI hde.symm) ?_
            refine lv_iload hx hb dX5_divide_225 (lv_at hl 0 rfl) ?_
            refine lv_iconst (v := -1) hx hb dX5_divide_227 rfl ?_
            refine lv_ixor hx hb dX5_divide_228 ?_
            refine lv_iand hx hb dX5_divide_229 ?_
            refine z_asi ((ni_clr' (Nat.mod_lt _ (by decide))).trans (congrArg nI (by rw [hX]))) (y := nI (d0 - va / 2 ^ q % 2 * 2 ^ (q % 31))) ?_
            refine m_stF hok hx hb hK hM (by omega) dX5_divide_230 (fun H locs hM => ?_)
            obtain ⟨d1, hd1⟩ : ∃ d1, d1 = d0 - va / 2 ^ q % 2 * 2 ^ (q % 31) := ⟨_, rfl⟩
            rw [← hd1] at hM
            obtain ⟨F6, hF6⟩ : ∃ F6, F6 = va_up F5 (72 * 445 + q / 31) d1 := ⟨_, rfl⟩
            rw [← hF6] at hM
            have f6 : fr72 F5 F6 445 := fun j hj => by rw [hF6]; exact va_up_ne _ _ (by omega)
            have s6 := smF (L := L5) (B := B5) f6
            have n66 := s6.nv (Or.inr (by omega)) t5
            have nb6 := s6.nv (Or.inl (by omega)) (t1.nv (Or.inl (by omega)) nb)
            have d6 : dg (fun j => F6 (72 * 445 + j)) (L a) := fun j hj => by show F6 _ < _; rw [hF6]; by_cases hc : j = q / 31; subst hc; rw [va_up_self]; omega; rw [va_up_ne _ _ (by omega)]; exact t3 j hj
            have v6 : vl (fun j => F6 (72 * 445 + j)) (L a) = va / 2 ^ (q + 1) / vb * 2 ^ (q + 1) + va % 2 ^ q := by
              have g1 := vl_upd (F := F5) (t := 445) (i := q / 31) (x := d1) (n := L a) hqn
              rw [← hF6, t4, ← hde] at g1
              have g2 : d0 * bp (q / 31) = d1 * bp (q / 31) + va / 2 ^ q % 2 * 2 ^ q := by
                have g9 : d0 = d1 + va / 2 ^ q % 2 * 2 ^ (q % 31) := by omega
                have g8 : ∀ x, d0 = d1 + x * 2 ^ (q % 31) → d0 * bp (q / 31) = d1 * bp (q / 31) + x * 2 ^ q := fun x h => by rw [h, Nat.add_mul, Nat.mul_assoc, bp_q]
                exact g8 _ g9
              have g3 := bd_2 va q
              omega
            refine lv_aload_n hx hb dX5_divide_231 rfl (lv_at hl 3 rfl) ?_
            refine lv_sipush (v := nI 446) hx hb dX5_divide_232 rfl ?_
            refine lv_iload_n hx hb dX5_divide_235 rfl (lv_at hl 5 rfl) ?_
            refine z_calli0 (va_runV (As := [.int (nI 446), .int (nI b)]) (rest := []) ⟨hx, hb, hml, hown, hts⟩ (m_compareSizes l Γ hok G0 fl F6 L5 B5 _ 446 b _ vb (by omega) (by omega) n66 nb6) (cwV 2 hts gX5_divide_X5_compareSizes rfl rfl rfl (by decide +kernel) ⟨Nat.le_of_ble_eq_true rfl, Nat.le_of_ble_eq_true rfl⟩) (zM.preV hK hM (md_o hok) rfl rfl) rfl rfl hl.1 rfl (lv_room (Nat.le_of_ble_eq_true rfl)) dX5_divide_236 ⟨Nat.le_of_ble_eq_true rfl, Nat.le_of_ble_eq_true rfl⟩) hM (fun r236 G236 H locs hp236 hM => ?_)
            obtain ⟨rfl, rfl⟩ := hp236
            refine lv_if_lt (tgt := 270) hx hb dX5_divide_239 (by decide) (fun hc239 => ?_) (fun hc239 => ?_)
            · have hlo : 2 * (va / 2 ^ (q + 1) % vb) + va / 2 ^ q % 2 < vb := by
                rcases Nat.lt_or_ge (2 * (va / 2 ^ (q + 1) % vb) + va / 2 ^ q % 2) vb with g | g
                · exact g
                · rcases Nat.lt_or_ge vb (2 * (va / 2 ^ (q + 1) % vb) + va / 2 ^ q % 2) with g2 | g2
                  · rw [← cmp3_gt g2] at hc239; exact absurd hc239 (by decide)
                  · rw [← cmp3_eq (Nat.le_antisymm g2 g)] at hc239; exact absurd hc239 (by decide)
              obtain ⟨z1, z2⟩ := bd_lo hlo
              refine lv_iinc (v := nI q - 1) (lv' := [(3, .int (nI q - 1)), (5, .int (nI (2 ^ (q % 31)))), (4, .int (nI (72 * 445 + q / 31))), (0, .ref o), (1, .int (nI a)), (2, .int (nI b))]) hx hb dX5_divide_270 hl (k := 2) rfl (nI_dec _) (by decide) rfl (fun ls hl => ?_)
              refine lv_goto (tgt := 154) hx hb dX5_divide_273 (by decide) ?_
              exact ihlp _ (by omega) q F6 L5 B5 rfl (by omega) (t1.tr (s6.wid (Nat.le_refl _) (by omega))) (t2) (d6) (by rw [v6, z1, bd_c0]) (by rw [z2]; exact n66) (t6) (t7) ls _ _ (lv_sub hl [0, 3, 4, 5] rfl) hM
            · have hhi : vb ≤ 2 * (va / 2 ^ (q + 1) % vb) + va / 2 ^ q % 2 := by
                rcases Nat.lt_or_ge (2 * (va / 2 ^ (q + 1) % vb) + va / 2 ^ q % 2) vb with g | g
                · rw [← cmp3_lt g] at hc239; exact absurd (by decide) hc239
                · exact g
              obtain ⟨z1, z2⟩ := bd_hi hvb hhi
              refine lv_aload_n hx hb dX5_divide_242 rfl (lv_at hl 3 rfl) ?_
              refine lv_sipush (v := nI 446) hx hb dX5_divide_243 rfl ?_
              refine lv_sipush (v := nI 446) hx hb dX5_divide_246 rfl ?_
              refine lv_iload_n hx hb dX5_divide_249 rfl (lv_at hl 5 rfl) ?_
              refine z_callv0 (va_runV (As := [.int (nI 446), .int (nI 446), .int (nI b)]) (rest := []) ⟨hx, hb, hml, hown, hts⟩ (m_subtractSizes l Γ hok G0 fl F6 L5 B5 _ 446 446 b _ vb (by omega) (by omega) (by omega) n66 nb6 hhi) (cwV 3 hts gX5_divide_X5_subtractSizes rfl rfl rfl (by decide +kernel) ⟨Nat.le_of_ble_eq_true rfl, Nat.le_of_ble_eq_true rfl⟩) (zM.preV hK hM (md_o hok) rfl rfl) rfl rfl hl.1 rfl (lv_room (Nat.le_of_ble_eq_true rfl)) dX5_divide_250 ⟨Nat.le_of_ble_eq_true rfl, Nat.le_of_ble_eq_true rfl⟩) hM (fun G250 H locs hp250 hM => ?_)
              obtain ⟨F7, rfl, f7, n7⟩ := hp250
              obtain ⟨L7, B7, hM, s7, n7, b7⟩ := step_rel hM f7 n7
              have hd7 : F7 (72 * 445 + q / 31) = d1 := by rw [f7 _ (by omega), hF6, va_up_self]
              have d7 : dg (fun j => F7 (72 * 445 + j)) (L a) := fun j hj => by show F7 _ < _; rw [f7 _ (by omega)]; exact d6 j hj
              have v7 : vl (fun j => F7 (72 * 445 + j)) (L a) = va / 2 ^ (q + 1) / vb * 2 ^ (q + 1) + va % 2 ^ q := by rw [vl_congr (d' := fun j => F6 (72 * 445 + j)) (fun j hj => f7 _ (by omega))]; exact v6
              refine lv_aload_n hx hb dX5_divide_253 rfl (lv_at hl 3 rfl) ?_
              refine m_get hok hx hb hts hin5 hown hK hM 4 hf_limbs rfl (by decide) (v := .ref lF) rfl dX5_divide_254 ?_
              refine lv_iload hx hb dX5_divide_257 (lv_at hl 1 rfl) ?_
              refine lv_aload_n hx hb dX5_divide_259 rfl (lv_at hl 3 rfl) ?_
              refine m_get hok hx hb hts hin5 hown hK hM 4 hf_limbs rfl (by decide) (v := .ref lF) rfl dX5_divide_260 ?_
              refine lv_iload hx hb dX5_divide_263 (lv_at hl 1 rfl) ?_
              refine m_ldF hok hx hb hK hM (by omega) dX5_divide_265 ?_
              refine z_asi (y := nI d1) (congrArg nI hd7) ?_
              refine lv_iload hx hb dX5_divide_266 (lv_at hl 0 rfl) ?_
              refine lv_ior hx hb dX5_divide_268 ?_
              have hz1 : d1 / 2 ^ (q % 31) % 2 = 0 := by
                have g1 := vl_bit (t := 445) (n := L a) (q := q) d7 hqn
                rw [v7, hd7] at g1
                rw [g1, Nat.pow_succ, show va / (2 ^ q * 2) / vb * (2 ^ q * 2) + va % 2 ^ q = 2 ^ q * (2 * (va / (2 ^ q * 2) / vb) + 0) + va % 2 ^ q by rw [bd_ac]; omega, Nat.mul_add_div (Nat.pow_pos (by decide)), Nat.div_eq_of_lt (Nat.mod_lt _ (Nat.pow_pos (by decide)))]
                omega
              refine z_asi (ni_set' (Nat.mod_lt _ (by decide)) hz1) ?_
              refine m_stF hok hx hb hK hM (by omega) dX5_divide_269 (fun H locs hM => ?_)
              refine lv_iinc (v := nI q - 1) (lv' := [(3, .int (nI q - 1)), (5, .int (nI (2 ^ (q % 31)))), (4, .int (nI (72 * 445 + q / 31))), (0, .ref o), (1, .int (nI a)), (2, .int (nI b))]) hx hb dX5_divide_270 hl (k := 2) rfl (nI_dec _) (by decide) rfl (fun ls hl => ?_)
              refine lv_goto (tgt := 154) hx hb dX5_divide_273 (by decide) ?_
              obtain ⟨F8, hF8⟩ : ∃ F8, F8 = va_up F7 (72 * 445 + q / 31) (d1 + 2 ^ (q % 31)) := ⟨_, rfl⟩
              rw [← hF8] at hM
              have f8 : fr72 F7 F8 445 := fun j hj => by rw [hF8]; exact va_up_ne _ _ (by omega)
              have s8 := smF (L := L7) (B := B7) f8
              have v8 : vl (fun j => F8 (72 * 445 + j)) (L a) = va / 2 ^ q / vb * 2 ^ q + va % 2 ^ q := by
                have g1 := vl_upd (F := F7) (t := 445) (i := q / 31) (x := d1 + 2 ^ (q % 31)) (n := L a) hqn
                rw [← hF8, v7, hd7, Nat.add_mul, bp_q] at g1
                rw [z1, bd_c1]
                generalize va / 2 ^ (q + 1) / vb * 2 ^ (q + 1) = X1 at g1 ⊢
                generalize va % 2 ^ q = X2 at g1 ⊢
                generalize 2 ^ q = X3 at g1 ⊢
                omega
              have d8 : dg (fun j => F8 (72 * 445 + j)) (L a) := fun j hj => by
                show F8 _ < _; rw [hF8]; by_cases hc : j = q / 31
                · subst hc; rw [va_up_self]
                  have g0 := Nat.div_add_mod d1 (2 ^ (q % 31))
                  have g1 : d1 < 2147483648 := by rw [← hd7]; exact d7 _ hqn
                  exact set_lt (Nat.mod_lt _ (by decide)) hz1 g1
                · rw [va_up_ne _ _ (by omega)]; exact d7 j hj
              have e57 := s7.B (a := 445) (Or.inl (by omega))
              have l57 := s7.L (a := 445) (Or.inl (by omega))
              exact ihlp _ (by omega) q F8 L7 B7 rfl (by omega) (t1.tr ((s6.wid (Nat.le_refl _) (by omega)).tr ((s7.wid (by omega) (Nat.le_refl _)).tr (s8.wid (Nat.le_refl _) (by omega))))) (by omega) (d8) (v8) (by rw [z2]; exact s8.nv (Or.inr (by omega)) n7) (by omega) (by omega) ls _ _ (lv_sub hl [0, 3, 4, 5] rfl) hM
          refine lv_iload_n hx hb dX5_divide_154 rfl (lv_at hl 0 rfl) ?_
          refine z_if_ltN hx hb (by omega) dX5_divide_155 (tgt := 276) (by decide) ?_
          refine lv_aload_n hx hb dX5_divide_158 rfl (lv_at hl 1 rfl) ?_
          refine lv_sipush (v := nI 446) hx hb dX5_divide_159 rfl ?_
          refine lv_sipush (v := nI 446) hx hb dX5_divide_162 rfl ?_
          refine lv_sipush (v := nI 446) hx hb dX5_divide_165 rfl ?_
          refine z_callv0 (va_runV (As := [.int (nI 446), .int (nI 446), .int (nI 446)]) (rest := []) ⟨hx, hb, hml, hown, hts⟩ (m_addSizes l Γ hok G0 fl F2 L3 B3 _ 446 446 446 _ _ (by omega) (by omega) (by omega) j5 j5 (by omega) (by omega)) (cwV 3 hts gX5_divide_X5_addSizes rfl rfl rfl (by decide +kernel) ⟨Nat.le_of_ble_eq_true rfl, Nat.le_of_ble_eq_true rfl⟩) (zM.preV hK hM (md_o hok) rfl rfl) rfl rfl hl.1 rfl (lv_room (Nat.le_of_ble_eq_true rfl)) dX5_divide_168 ⟨Nat.le_of_ble_eq_true rfl, Nat.le_of_ble_eq_true rfl⟩) hM (fun G168 H locs hp168 hM => ?_)
          obtain ⟨F4, rfl, f4, n4⟩ := hp168
          obtain ⟨L4, B4, hM, s4, n4, b4⟩ := step_rel hM f4 n4
          have na4 := s4.nv (Or.inl (by omega)) (j1.nv (Or.inl (by omega)) na)
          have n14 := s4.nv (Or.inr (by omega)) (j1.nv (Or.inr (by omega)) n1)
          have hL44 : L4 446 ≤ L b + 1 := by
            rw [n4.1]; apply nl_le; rw [bp_s]; have := nb.lt; omega
          refine lv_aload_n hx hb dX5_divide_171 rfl (lv_at hl 1 rfl) ?_
          refine lv_iload_n hx hb dX5_divide_172 rfl (lv_at hl 2 rfl) ?_
          refine lv_iload_n hx hb dX5_divide_173 rfl (lv_at hl 0 rfl) ?_
          refine z_calli0 (va_runV (As := [.int (nI a), .int (nI q)]) (rest := []) ⟨hx, hb, hml, hown, hts⟩ (m_bitOf l Γ hok G0 fl F4 L4 B4 _ a q va (by omega) (by omega) na4) (cwV 2 hts gX5_divide_X5_bitOf rfl rfl rfl (by decide +kernel) ⟨Nat.le_of_ble_eq_true rfl, Nat.le_of_ble_eq_true rfl⟩) (zM.preV hK hM (md_o hok) rfl rfl) rfl rfl hl.1 rfl (lv_room (Nat.le_of_ble_eq_true rfl)) dX5_divide_174 ⟨Nat.le_of_ble_eq_true rfl, Nat.le_of_ble_eq_true rfl⟩) hM (fun r174 G174 H locs hp174 hM => ?_)
          obtain ⟨rfl, rfl⟩ := hp174
          refine lv_iconst (v := nI 1) hx hb dX5_divide_177 rfl ?_
          refine z_icmp_ne (tgt := 194) hx hb (by omega) (by omega) dX5_divide_178 (by decide) (fun hc178 => ?_) (fun hc178 => ?_)
          · have e43 := s4.B (a := 445) (Or.inl (by omega))
            have l43 := s4.L (a := 445) (Or.inl (by omega))
            have g45 : ∀ j, j < L a → F4 (72 * 445 + j) = F2 (72 * 445 + j) := fun j hj => f4 _ (by omega)
            exact k194 F4 L4 B4 (j1.tr (s4.wid (by omega) (Nat.le_refl _))) (by omega) (fun j hj => by show F4 _ < _; rw [g45 j hj]; exact j3 j hj) (by rw [vl_congr g45]; exact j4) (by rw [show 2 * (va / 2 ^ (q + 1) % vb) + va / 2 ^ q % 2 = va / 2 ^ (q + 1) % vb + va / 2 ^ (q + 1) % vb by omega]; exact n4) (by omega) (by omega) ls _ _ (lv_sub hl [0, 1, 2, 3] rfl) hM
          · refine lv_aload_n hx hb dX5_divide_181 rfl (lv_at hl 1 rfl) ?_
            refine lv_sipush (v := nI 446) hx hb dX5_divide_182 rfl ?_
            refine lv_sipush (v := nI 446) hx hb dX5_divide_185 rfl ?_
            refine lv_sipush (v := nI 447) hx hb dX5_divide_188 rfl ?_
            refine z_callv0 (va_runV (As := [.int (nI 446), .int (nI 446), .int (nI 447)]) (rest := []) ⟨hx, hb, hml, hown, hts⟩ (m_addSizes l Γ hok G0 fl F4 L4 B4 _ 446 446 447 _ _ (by omega) (by omega) (by omega) n4 n14 (by omega) (by rw [n14.1]; decide)) (cwV 3 hts gX5_divide_X5_addSizes rfl rfl rfl (by decide +kernel) ⟨Nat.le_of_ble_eq_true rfl, Nat.le_of_ble_eq_true rfl⟩) (zM.preV hK hM (md_o hok) rfl rfl) rfl rfl hl.1 rfl (lv_room (Nat.le_of_ble_eq_true rfl)) dX5_divide_191 ⟨Nat.le_of_ble_eq_true rfl, Nat.le_of_ble_eq_true rfl⟩) hM (fun G191 H locs hp191 hM => ?_)
            obtain ⟨F5, rfl, f5, n5⟩ := hp191
            obtain ⟨L5, B5, hM, s5, n5, b5⟩ := step_rel hM f5 n5
            have e54 := s5.B (a := 445) (Or.inl (by omega))
            have e43 := s4.B (a := 445) (Or.inl (by omega))
            have l54 := s5.L (a := 445) (Or.inl (by omega))
            have l43 := s4.L (a := 445) (Or.inl (by omega))
            have g45 : ∀ j, j < L a → F5 (72 * 445 + j) = F2 (72 * 445 + j) := fun j hj => (f5 _ (by omega)).trans (f4 _ (by omega))
            exact k194 F5 L5 B5 (j1.tr ((s4.wid (by omega) (Nat.le_refl _)).tr (s5.wid (by omega) (Nat.le_refl _)))) (by omega) (fun j hj => by show F5 _ < _; rw [g45 j hj]; exact j3 j hj) (by rw [vl_congr g45]; exact j4) (by rw [show 2 * (va / 2 ^ (q + 1) % vb) + va / 2 ^ q % 2 = va / 2 ^ (q + 1) % vb + va / 2 ^ (q + 1) % vb + 1 by omega]; exact n5) (by omega) (by omega) ls _ _ (lv_sub hl [0, 1, 2, 3] rfl) hM
    exact lp _ bt F1 L2 B2 rfl (by omega) sA hLq (fun j hj => nq.digs j (by omega)) (by rw [Nat.div_eq_of_lt hbt, Nat.zero_div, Nat.zero_mul, Nat.zero_add, Nat.mod_eq_of_lt hbt, ← hLq]; exact nq.val) (by rw [Nat.div_eq_of_lt hbt, Nat.zero_mod]; exact r2) hb5 b2 ls _ _ (lv_sub hl [0, 1, 2, 3] rfl) hM
  · have hvb1 : F1 (72 * b) = vb := by have := nb2.val; rw [hc31, vl_one] at this; exact this
    have hvbl : vb < 2147483648 := by rw [← hvb1]; exact nb2.digs 0 (by omega)
    refine lv_lconst (v := lN 0) hx hb dX5_divide_34 rfl ?_
    refine lv_lstore_n (lv' := [(3, .long (lN 0)), (0, .ref o), (1, .int (nI a)), (2, .int (nI b))]) hx hb dX5_divide_35 rfl hl (by decide) rfl (fun ls hl => ?_)
    refine lv_aload_n hx hb dX5_divide_36 rfl (lv_at hl 1 rfl) ?_
    refine m_get hok hx hb hts hin5 hown hK hM 4 hf_limbs rfl (by decide) (v := .ref lF) rfl dX5_divide_37 ?_
    refine lv_bipush (v := nI 72) hx hb dX5_divide_40 rfl ?_
    refine lv_iload_n hx hb dX5_divide_42 rfl (lv_at hl 3 rfl) ?_
    refine z_imul hx hb dX5_divide_43 ?_
    refine m_ldF hok hx hb hK hM (by omega) dX5_divide_44 ?_
    refine z_i2l hx hb (by omega) dX5_divide_45 ?_
    refine z_asl (y := lN vb) (congrArg lN hvb1) ?_
    refine lv_lstore (lv' := [(5, .long (lN vb)), (3, .long (lN 0)), (0, .ref o), (1, .int (nI a)), (2, .int (nI b))]) hx hb dX5_divide_46 hl (by decide) rfl (fun ls hl => ?_)
    refine lv_aload_n hx hb dX5_divide_48 rfl (lv_at hl 2 rfl) ?_
    refine m_get hok hx hb hts hin5 hown hK hM 5 hf_length rfl (by decide) (v := .ref lL) rfl dX5_divide_49 ?_
    refine lv_iload_n hx hb dX5_divide_52 rfl (lv_at hl 3 rfl) ?_
    refine m_ldL hok hx hb hK hM (by omega) dX5_divide_53 ?_
    refine z_asi (y := nI (L a)) (congrArg nI hLa2) ?_
    refine lv_iconst (v := nI 1) hx hb dX5_divide_54 rfl ?_
    refine lv_isub hx hb dX5_divide_55 ?_
    refine lv_istore (lv' := [(7, .int ((nI (L a)) - (nI 1))), (5, .long (lN vb)), (3, .long (lN 0)), (0, .ref o), (1, .int (nI a)), (2, .int (nI b))]) hx hb dX5_divide_56 hl (by decide) rfl (fun ls hl => ?_)
    have lp : ∀ (μ : Nat) (k : Nat) (left : Nat) (F2 : Nat → Nat), k = μ → (k ≤ L a) → (left < vb) → (fr72 F1 F2 445) → (dg (fun j => F2 (72 * 445 + j)) (L a)) → (vl (fun j => F2 (72 * 445 + (k + j))) (L a - k) = vl (fun j => F1 (72 * a + (k + j))) (L a - k) / vb ∧ left = vl (fun j => F1 (72 * a + (k + j))) (L a - k) % vb) → ∀ (ls : Array Slot) (H : Heap) (locs : List Loc), lv_has ls 10 [(7, .int (nI k - 1)), (5, .long (lN vb)), (3, .long (lN left)), (0, .ref o), (1, .int (nI a)), (2, .int (nI b))] → zM Γ A s.heap (md Γ o lF lL lB G0 fl F2 L2 B2) H locs → W p l e (zR 3) s m args below meth c H locs 0 0 Q (F0 m 58 ls []) := by
      intro μ
      induction μ using Nat.strongRecOn with
      | _ μ ihlp =>
        intro k left F2 hμ hk hlt h1 h2 h3 ls H locs hl hM
        rcases Nat.eq_zero_or_pos k with hk0 | hk0
        · subst hk0
          rw [show nI 0 - 1 = (-1 : Int32) from rfl] at hl
          refine lv_iload hx hb dX5_divide_58 (lv_at hl 0 rfl) ?_
          refine lv_if_lt (tgt := 112) hx hb dX5_divide_60 (by decide) (fun hc60 => ?_) (fun hc60 => ?_)
          · simp only [Nat.zero_add, Nat.sub_zero] at h3
            rw [show vl (fun j => F1 (72 * a + j)) (L a) = va by rw [← hLa2]; exact na2.val] at h3
            refine lv_aload_n hx hb dX5_divide_112 rfl (lv_at hl 3 rfl) ?_
            refine lv_sipush (v := nI 445) hx hb dX5_divide_113 rfl ?_
            refine z_callv0 (va_runV (As := [.int (nI 445)]) (rest := []) ⟨hx, hb, hml, hown, hts⟩ (m_trim2 l Γ hok G0 fl F2 L2 B2 _ 445 (L a) (va / vb) (by omega) hLq (by omega) h2 h3.1) (cwV 1 hts gX5_divide_X5_trim rfl rfl rfl (by decide +kernel) ⟨Nat.le_of_ble_eq_true rfl, Nat.le_of_ble_eq_true rfl⟩) (zM.preV hK hM (md_o hok) rfl rfl) rfl rfl hl.1 rfl (lv_room (Nat.le_of_ble_eq_true rfl)) dX5_divide_116 ⟨Nat.le_of_ble_eq_true rfl, Nat.le_of_ble_eq_true rfl⟩) hM (fun G116 H locs hp116 hM => ?_)
            obtain rfl := hp116
            obtain ⟨L3, B3, hM, s3, n3, b3⟩ := step_rel hM h1 (nv_of h2 h3.1 (by omega))
            refine lv_aload_n hx hb dX5_divide_119 rfl (lv_at hl 3 rfl) ?_
            refine m_get hok hx hb hts hin5 hown hK hM 4 hf_limbs rfl (by decide) (v := .ref lF) rfl dX5_divide_120 ?_
            refine lv_sipush (v := nI 32112) hx hb dX5_divide_123 rfl ?_
            refine lv_lload_n hx hb dX5_divide_126 rfl (lv_at hl 2 rfl) ?_
            refine z_l2i hx hb dX5_divide_127 ?_
            refine m_stF hok hx hb hK hM (by omega) dX5_divide_128 (fun H locs hM => ?_)
            refine lv_aload_n hx hb dX5_divide_129 rfl (lv_at hl 3 rfl) ?_
            refine m_get hok hx hb hts hin5 hown hK hM 5 hf_length rfl (by decide) (v := .ref lL) rfl dX5_divide_130 ?_
            refine lv_sipush (v := nI 446) hx hb dX5_divide_133 rfl ?_
            refine lv_iconst (v := nI 1) hx hb dX5_divide_136 rfl ?_
            refine m_stL hok hx hb hK hM (by omega) dX5_divide_137 (fun H locs hM => ?_)
            refine lv_aload_n hx hb dX5_divide_138 rfl (lv_at hl 3 rfl) ?_
            refine lv_sipush (v := nI 446) hx hb dX5_divide_139 rfl ?_
            have d4 : dg (fun k => va_up F2 32112 left (72 * 446 + k)) 1 := fun k hk => by rw [show k = 0 by omega]; show va_up F2 32112 left 32112 < _; rw [va_up_self]; omega
            have v4 : vl (fun k => va_up F2 32112 left (72 * 446 + k)) 1 = va % vb := by rw [vl_one]; show va_up F2 32112 left 32112 = _; rw [va_up_self]; exact h3.2
            refine z_callv0 (va_runV (As := [.int (nI 446)]) (rest := []) ⟨hx, hb, hml, hown, hts⟩ (m_trim2 l Γ hok G0 fl (va_up F2 32112 left) (va_up L3 446 1) B3 _ 446 1 (va % vb) (by omega) (va_up_self _ _ _) (by omega) d4 v4) (cwV 1 hts gX5_divide_X5_trim rfl rfl rfl (by decide +kernel) ⟨Nat.le_of_ble_eq_true rfl, Nat.le_of_ble_eq_true rfl⟩) (zM.preV hK hM (md_o hok) rfl rfl) rfl rfl hl.1 rfl (lv_room (Nat.le_of_ble_eq_true rfl)) dX5_divide_142 ⟨Nat.le_of_ble_eq_true rfl, Nat.le_of_ble_eq_true rfl⟩) hM (fun G142 H locs hp142 hM => ?_)
            obtain rfl := hp142
            have f4 : fr72 F2 (va_up F2 32112 left) 446 := fun j hj => va_up_ne _ _ (by omega)
            obtain ⟨L5, B5, hM, s5, n5, b5⟩ := step_rel hM f4 (nv_of d4 v4 (by omega))
            have sF : sm 445 447 F L B (va_up F2 32112 left) L5 B5 := (sA.tr (s3.wid (Nat.le_refl _) (by omega))).tr (((smL (x := 1)).wid (by omega) (Nat.le_refl _)).tr (s5.wid (by omega) (Nat.le_refl _)))
            have n55 := s5.nv (Or.inl (by omega)) ((smL (F := F2) (B := B3) (t := 446) (x := 1)).nv (Or.inl (by omega)) n3)
            have e35 : B3 446 = B2 446 := s3.B (Or.inr (by omega))
            have e55 : B5 445 = B3 445 := s5.B (Or.inl (by omega))
            rw [hQ]
            rw [hAe] at hM
            exact z_vret hsz hx hb hr hlocks hK hM dX5_divide_145 (⟨_, _, _, rfl, sF, n55, n5, by omega, by omega⟩)
          · exact absurd (by decide) hc60
        · obtain ⟨q, rfl⟩ : ∃ q, k = q + 1 := ⟨k - 1, by omega⟩
          rw [nI_pred] at hl
          have hq1 : F2 (72 * a + q) < 2147483648 := by rw [h1 _ (by omega)]; exact na2.digs q (by omega)
          have hlv : left * 2147483648 + F2 (72 * a + q) < vb * 2147483648 := by have := mul_le_r 2147483648 (show left + 1 ≤ vb by omega); omega
          have hdl := div_digit_lt hvb hlt hq1
          refine lv_iload hx hb dX5_divide_58 (lv_at hl 0 rfl) ?_
          refine z_if_ltN hx hb (by omega) dX5_divide_60 (tgt := 112) (by decide) ?_
          refine lv_lload_n hx hb dX5_divide_63 rfl (lv_at hl 2 rfl) ?_
          refine lv_bipush (v := nI 31) hx hb dX5_divide_64 rfl ?_
          refine z_lshl31 hx hb dX5_divide_66 ?_
          refine lv_aload_n hx hb dX5_divide_67 rfl (lv_at hl 3 rfl) ?_
          refine m_get hok hx hb hts hin5 hown hK hM 4 hf_limbs rfl (by decide) (v := .ref lF) rfl dX5_divide_68 ?_
          refine lv_bipush (v := nI 72) hx hb dX5_divide_71 rfl ?_
          refine lv_iload_n hx hb dX5_divide_73 rfl (lv_at hl 4 rfl) ?_
          refine z_imul hx hb dX5_divide_74 ?_
          refine lv_iload hx hb dX5_divide_75 (lv_at hl 0 rfl) ?_
          refine z_iadd hx hb dX5_divide_77 ?_
          refine m_ldF hok hx hb hK hM (by omega) dX5_divide_78 ?_
          refine z_i2l hx hb (hq1) dX5_divide_79 ?_
          refine z_lor31 hx hb (by omega) (by omega) dX5_divide_80 ?_
          refine lv_lstore (lv' := [(8, .long (lN (left * 2147483648 + (F2 (72 * a + q))))), (7, .int (nI q)), (5, .long (lN vb)), (3, .long (lN left)), (0, .ref o), (1, .int (nI a)), (2, .int (nI b))]) hx hb dX5_divide_81 hl (by decide) rfl (fun ls hl => ?_)
          refine lv_aload_n hx hb dX5_divide_83 rfl (lv_at hl 4 rfl) ?_
          refine m_get hok hx hb hts hin5 hown hK hM 4 hf_limbs rfl (by decide) (v := .ref lF) rfl dX5_divide_84 ?_
          refine lv_sipush (v := nI 32040) hx hb dX5_divide_87 rfl ?_
          refine lv_iload hx hb dX5_divide_90 (lv_at hl 1 rfl) ?_
          refine z_iadd hx hb dX5_divide_92 ?_
          refine z_asi (y := nI (72 * 445 + q)) (congrArg nI (by omega)) ?_
          refine lv_lload hx hb dX5_divide_93 (lv_at hl 0 rfl) ?_
          refine lv_lload hx hb dX5_divide_95 (lv_at hl 2 rfl) ?_
          refine z_ldiv hx hb (by omega) (by omega) (by omega) dX5_divide_97 ?_
          refine z_l2i hx hb dX5_divide_98 ?_
          refine m_stF hok hx hb hK hM (by omega) dX5_divide_99 (fun H locs hM => ?_)
          refine lv_lload hx hb dX5_divide_100 (lv_at hl 0 rfl) ?_
          refine lv_lload hx hb dX5_divide_102 (lv_at hl 2 rfl) ?_
          refine z_lrem hx hb (by omega) (by omega) (by omega) dX5_divide_104 ?_
          refine lv_lstore_n (lv' := [(3, .long (lN ((left * 2147483648 + (F2 (72 * a + q))) % vb))), (8, .long (lN (left * 2147483648 + (F2 (72 * a + q))))), (7, .int (nI q)), (5, .long (lN vb)), (0, .ref o), (1, .int (nI a)), (2, .int (nI b))]) hx hb dX5_divide_105 rfl hl (by decide) rfl (fun ls hl => ?_)
          refine lv_iinc (v := nI q - 1) (lv' := [(7, .int (nI q - 1)), (3, .long (lN ((left * 2147483648 + (F2 (72 * a + q))) % vb))), (8, .long (lN (left * 2147483648 + (F2 (72 * a + q))))), (5, .long (lN vb)), (0, .ref o), (1, .int (nI a)), (2, .int (nI b))]) hx hb dX5_divide_106 hl (k := 2) rfl (nI_dec _) (by decide) rfl (fun ls hl => ?_)
          refine lv_goto (tgt := 58) hx hb dX5_divide_109 (by decide) ?_
          exact ihlp _ (by omega) q ((left * 2147483648 + F2 (72 * a + q)) % vb) (va_up F2 (72 * 445 + q) ((left * 2147483648 + F2 (72 * a + q)) / vb)) rfl (by omega) (Nat.mod_lt _ hvb) (fun j hj => by rw [va_up_ne _ _ (by omega)]; exact h1 j (by omega)) (fun j hj => by show va_up F2 _ _ _ < _; by_cases hc : j = q; subst hc; rw [va_up_self]; exact hdl; rw [va_up_ne _ _ (by omega)]; exact h2 j hj) (divide_inv hvb hk h1 ha (by omega) h3) ls _ _ (lv_sub hl [0, 3, 1, 4, 5, 6] rfl) hM
    exact lp _ (L a) 0 F1 rfl (by omega) hvb (fun _ _ => rfl) (fun j hj => nq.digs j (by omega)) (by simp [vl_0]) ls _ _ (lv_sub hl [0, 1, 2, 3, 4, 5] rfl) hM
end
section
set_option maxRecDepth 100000 in
set_option maxHeartbeats 4000000 in
theorem m_common (l : Launch) (Γ : zT) {o lF lL lB : Nat} (hok : mdk o lF lL lB) (G0 : zG) (fl : Nat → Int32) (F L B : Nat → Nat) (sz : Nat) (a va x0 : Nat) (ha : a < 443) (na : nv F L a va) (nx : nv F L 443 x0) (hLx : L 443 ≤ 70) (hBa : B a < 2) (hBx : B 443 = 0) : zMv l yX5_common wsX5_common (zR 3) Γ (md Γ o lF lL lB G0 fl F L B) sz [.ref o, .int (nI a)] (fun G' => ∃ F' L' B', G' = md Γ o lF lL lB G0 fl F' L' B' ∧ sm 443 445 F L B F' L' B' ∧ nv F' L' 443 (Nat.gcd x0 va) ∧ B' 443 = 0 ∧ B' 444 = 0) 0 0 := by
  refine z_start (cc := cX5_common) (maxL := 4) (ret := none) (by decide) rfl (Nat.le_of_ble_eq_true rfl) ?_
  intro p e s m args below meth c ls Q hQ hsz hx hb hr hml hown hts hlocks hnm hK hM hl
  obtain ⟨A, hAe⟩ : ∃ A, A = zA (md Γ o lF lL lB G0 fl F L B) s.heap.size := ⟨_, rfl⟩
  rw [← hAe] at hM
  have hl : lv_has ls 4 [(0, .ref o), (1, .int (nI a))] := hl
  have hin5 : ∀ w ∈ wsX50, w ∈ wsX5_common := by decide +kernel
  have hf_length := hts (.fieldLink RX5 13 "CutRowsModel" "length" "[I") (by decide +kernel)
  have hf_isBelow := hts (.fieldLink RX5 16 "CutRowsModel" "isBelow" "[Z") (by decide +kernel)
  refine lv_aload_n hx hb dX5_common_0 rfl (lv_at hl 0 rfl) ?_
  refine lv_sipush (v := nI 444) hx hb dX5_common_1 rfl ?_
  refine lv_iload_n hx hb dX5_common_4 rfl (lv_at hl 1 rfl) ?_
  refine z_callv0 (va_runV (As := [.int (nI 444), .int (nI a)]) (rest := []) ⟨hx, hb, hml, hown, hts⟩ (m_copy l Γ hok G0 fl F L B _ 444 a (by omega) (by omega) (by omega) na.le hBa) (cwV 2 hts gX5_common_X5_copy rfl rfl rfl (by decide +kernel) ⟨Nat.le_of_ble_eq_true rfl, Nat.le_of_ble_eq_true rfl⟩) (zM.preV hK hM (md_o hok) rfl rfl) rfl rfl hl.1 rfl (lv_room (Nat.le_of_ble_eq_true rfl)) dX5_common_5 ⟨Nat.le_of_ble_eq_true rfl, Nat.le_of_ble_eq_true rfl⟩) hM (fun G5 H locs hp5 hM => ?_)
  obtain rfl := hp5
  obtain ⟨F1, L1, B0, hM, s1, q1, b1⟩ := copy_rel hM na
  refine lv_aload_n hx hb dX5_common_8 rfl (lv_at hl 0 rfl) ?_
  refine m_get hok hx hb hts hin5 hown hK hM 6 hf_isBelow rfl (by decide) (v := .ref lB) rfl dX5_common_9 ?_
  refine lv_sipush (v := nI 444) hx hb dX5_common_12 rfl ?_
  refine lv_iconst (v := nI 0) hx hb dX5_common_15 rfl ?_
  refine m_stB hok hx hb hK hM (by omega) (by omega) dX5_common_16 (fun H locs hM => ?_)
  obtain ⟨B1, hB1⟩ : ∃ B1, B1 = va_up B0 444 0 := ⟨_, rfl⟩
  rw [← hB1] at hM
  have sA : sm 443 445 F L B F1 L1 B1 := by rw [hB1]; exact (s1.wid (by omega) (Nat.le_refl _)).tr (smB.wid (by omega) (Nat.le_refl _))
  have hb3 : B1 443 = 0 := by rw [hB1, va_up_ne _ _ (by omega), s1.B (Or.inl (by omega))]; exact hBx
  have hb4 : B1 444 = 0 := by rw [hB1, va_up_self]
  have nx1 := s1.nv (Or.inl (by omega)) nx
  have hx72 := nx1.le
  have hy72 := q1.le
  refine lv_aload_n hx hb dX5_common_17 rfl (lv_at hl 0 rfl) ?_
  refine m_get hok hx hb hts hin5 hown hK hM 5 hf_length rfl (by decide) (v := .ref lL) rfl dX5_common_18 ?_
  refine lv_sipush (v := nI 443) hx hb dX5_common_21 rfl ?_
  refine m_ldL hok hx hb hK hM (by omega) dX5_common_24 ?_
  refine z_if_ne (tgt := 39) hx hb (by omega) dX5_common_25 (by decide) (fun hc25 => ?_) (fun hc25 => ?_)
  · refine lv_iconst (v := nI 0) hx hb dX5_common_39 rfl ?_
    refine lv_istore_n (lv' := [(2, .int (nI 0)), (0, .ref o), (1, .int (nI a))]) hx hb dX5_common_40 rfl hl (by decide) rfl (fun ls hl => ?_)
    have hx0p : 0 < x0 := by have := @nl_pos x0; have := nx1.1; omega
    have hx0l : x0 < 2 ^ 2170 := Nat.lt_of_lt_of_le nx.lt (by rw [bp_2]; exact Nat.pow_le_pow_right (by decide) (by omega))
    have hg0 : Nat.gcd x0 va ≤ x0 := Nat.gcd_le_left _ hx0p
    have lp1 : ∀ (μ : Nat) (x : Nat) (y : Nat) (tw : Nat) (F1 : Nat → Nat) (L1 : Nat → Nat) (B1 : Nat → Nat), y = μ → (sm 443 445 F L B F1 L1 B1) → (nv F1 L1 443 x) → (nv F1 L1 444 y) → (0 < x) → (Nat.gcd x y * 2 ^ tw = Nat.gcd x0 va) → (x * 2 ^ tw = x0) → (B1 443 = 0) → (B1 444 = 0) → ∀ (ls : Array Slot) (H : Heap) (locs : List Loc), lv_has ls 4 [(2, .int (nI tw)), (0, .ref o), (1, .int (nI a))] → zM Γ A s.heap (md Γ o lF lL lB G0 fl F1 L1 B1) H locs → W p l e (zR 3) s m args below meth c H locs 0 0 Q (F0 m 41 ls []) := by
      intro μ
      induction μ using Nat.strongRecOn with
      | _ μ ihlp1 =>
        intro x y tw F1 L1 B1 hμ c1 c2 c3 c4 c5 c6 c8 c9 ls H locs hl hM
        have htw : tw < 2170 := by
          have g1 : 2 ^ tw ≤ x0 := by rw [← c6]; exact Nat.le_mul_of_pos_left _ c4
          exact (Nat.pow_lt_pow_iff_right (by decide)).mp (Nat.lt_of_le_of_lt g1 hx0l)
        have lp2 : ∀ (μ : Nat) (x2 : Nat) (y2 : Nat) (F2 : Nat → Nat) (L2 : Nat → Nat) (B2 : Nat → Nat), x2 + y2 = μ → (sm 443 445 F L B F2 L2 B2) → (nv F2 L2 443 x2) → (nv F2 L2 444 y2) → (0 < x2) → (Nat.gcd x2 y2 * 2 ^ tw = Nat.gcd x0 va) → (y2 = 0 ∨ x2 % 2 = 1 ∨ y2 % 2 = 1) → (B2 443 = 0) → (B2 444 = 0) → ∀ (ls : Array Slot) (H : Heap) (locs : List Loc), lv_has ls 4 [(2, .int (nI tw)), (0, .ref o), (1, .int (nI a))] → zM Γ A s.heap (md Γ o lF lL lB G0 fl F2 L2 B2) H locs → W p l e (zR 3) s m args below meth c H locs 0 0 Q (F0 m 92 ls []) := by
          intro μ
          induction μ using Nat.strongRecOn with
          | _ μ ihlp2 =>
            intro x2 y2 F2 L2 B2 hμ e1 e2 e3 e4 e5 e7 e8 e9 ls H locs hl hM
            refine lv_aload_n hx hb dX5_common_92 rfl (lv_at hl 1 rfl) ?_
            refine m_get hok hx hb hts hin5 hown hK hM 5 hf_length rfl (by decide) (v := .ref lL) rfl dX5_common_93 ?_
            refine lv_sipush (v := nI 444) hx hb dX5_common_96 rfl ?_
            refine m_ldL hok hx hb hK hM (by omega) dX5_common_99 ?_
            refine z_if_le (tgt := 188) hx hb (by have := e3.le; omega) dX5_common_100 (by decide) (fun hc100 => ?_) (fun hc100 => ?_)
            · have hy0 : y2 = 0 := by have := @nl_pos y2; have := e3.1; omega
              refine lv_iconst (v := nI 0) hx hb dX5_common_188 rfl ?_
              refine lv_istore_n (lv' := [(3, .int (nI 0)), (2, .int (nI tw)), (0, .ref o), (1, .int (nI a))]) hx hb dX5_common_189 rfl hl (by decide) rfl (fun ls hl => ?_)
              rw [hy0, Nat.gcd_zero_right] at e5
              have lp5 : ∀ (μ : Nat) (k : Nat) (F5 : Nat → Nat) (L5 : Nat → Nat) (B5 : Nat → Nat), tw - k = μ → (k ≤ tw) → (sm 443 445 F L B F5 L5 B5) → (nv F5 L5 443 (x2 * 2 ^ k)) → (B5 443 = 0) → (B5 444 = 0) → ∀ (ls : Array Slot) (H : Heap) (locs : List Loc), lv_has ls 4 [(3, .int (nI k)), (2, .int (nI tw)), (0, .ref o), (1, .int (nI a))] → zM Γ A s.heap (md Γ o lF lL lB G0 fl F5 L5 B5) H locs → W p l e (zR 3) s m args below meth c H locs 0 0 Q (F0 m 190 ls []) := by
                intro μ
                induction μ using Nat.strongRecOn with
                | _ μ ihlp5 =>
                  intro k F5 L5 B5 hμ hk d1 d2 d3 d4 ls H locs hl hM
                  refine lv_iload_n hx hb dX5_common_190 rfl (lv_at hl 0 rfl) ?_
                  refine lv_iload_n hx hb dX5_common_191 rfl (lv_at hl 1 rfl) ?_
                  refine z_icmp_ge (tgt := 214) hx hb (by omega) (by omega) dX5_common_192 (by decide) (fun hc192 => ?_) (fun hc192 => ?_)
                  · rw [hQ]
                    rw [hAe] at hM
                    exact z_vret hsz hx hb hr hlocks hK hM dX5_common_214 (⟨_, _, _, rfl, d1, by rw [← e5, show tw = k by omega]; exact d2, d3, d4⟩)
                  · refine lv_aload_n hx hb dX5_common_195 rfl (lv_at hl 2 rfl) ?_
                    refine lv_sipush (v := nI 443) hx hb dX5_common_196 rfl ?_
                    refine lv_sipush (v := nI 443) hx hb dX5_common_199 rfl ?_
                    refine lv_sipush (v := nI 443) hx hb dX5_common_202 rfl ?_
                    have hk1 : x2 * 2 ^ k ≤ x0 := Nat.le_trans (Nat.mul_le_mul_left _ (Nat.pow_le_pow_right (by decide) hk)) (by rw [e5]; exact hg0)
                    have hl1 : L5 443 ≤ L 443 := by rw [d2.1, nx.1]; exact nl_mono hk1
                    refine z_callv0 (va_runV (As := [.int (nI 443), .int (nI 443), .int (nI 443)]) (rest := []) ⟨hx, hb, hml, hown, hts⟩ (m_addSizes l Γ hok G0 fl F5 L5 B5 _ 443 443 443 _ _ (by omega) (by omega) (by omega) d2 d2 (by omega) (by omega)) (cwV 3 hts gX5_common_X5_addSizes rfl rfl rfl (by decide +kernel) ⟨Nat.le_of_ble_eq_true rfl, Nat.le_of_ble_eq_true rfl⟩) (zM.preV hK hM (md_o hok) rfl rfl) rfl rfl hl.1 rfl (lv_room (Nat.le_of_ble_eq_true rfl)) dX5_common_205 ⟨Nat.le_of_ble_eq_true rfl, Nat.le_of_ble_eq_true rfl⟩) hM (fun G205 H locs hp205 hM => ?_)
                    obtain ⟨F6, rfl, f6, n6⟩ := hp205
                    obtain ⟨L6, B6, hM, s6, n6, b6⟩ := step_rel hM f6 n6
                    have e64 := s6.B (a := 444) (Or.inr (by omega))
                    refine z_iinc (v := (k + 1)) (lv' := [(3, .int (nI (k + 1))), (2, .int (nI tw)), (0, .ref o), (1, .int (nI a))]) hx hb dX5_common_208 hl (k := 0) rfl (nI_p1 _) (by decide) rfl (fun ls hl => ?_)
                    refine lv_goto (tgt := 190) hx hb dX5_common_211 (by decide) ?_
                    exact ihlp5 _ (by omega) (k + 1) F6 L6 B6 rfl (by omega) (d1.tr (s6.wid (Nat.le_refl _) (by omega))) (by rw [Nat.pow_succ, ← Nat.mul_assoc, Nat.mul_two]; exact n6) (by omega) (by omega) ls _ _ (lv_sub hl [0, 1, 2, 3] rfl) hM
              exact lp5 _ 0 F2 L2 B2 rfl (by omega) e1 (by rw [Nat.pow_zero, Nat.mul_one]; exact e2) e8 e9 ls _ _ (lv_sub hl [0, 1, 2, 3] rfl) hM
            · have hy2 : 0 < y2 := by have := @nl_pos y2; have := e3.1; omega
              have lp3 : ∀ (μ : Nat) (x3 : Nat) (F3 : Nat → Nat) (L3 : Nat → Nat) (B3 : Nat → Nat), x3 = μ → (sm 443 445 F L B F3 L3 B3) → (nv F3 L3 443 x3) → (nv F3 L3 444 y2) → (0 < x3) → (Nat.gcd x3 y2 * 2 ^ tw = Nat.gcd x0 va) → (x3 ≤ x2) → (x3 % 2 = 1 ∨ y2 % 2 = 1) → (B3 443 = 0) → (B3 444 = 0) → ∀ (ls : Array Slot) (H : Heap) (locs : List Loc), lv_has ls 4 [(2, .int (nI tw)), (0, .ref o), (1, .int (nI a))] → zM Γ A s.heap (md Γ o lF lL lB G0 fl F3 L3 B3) H locs → W p l e (zR 3) s m args below meth c H locs 0 0 Q (F0 m 103 ls []) := by
                intro μ
                induction μ using Nat.strongRecOn with
                | _ μ ihlp3 =>
                  intro x3 F3 L3 B3 hμ g1 g2 g3 g4 g5 g6 g7 g8 g9 ls H locs hl hM
                  refine lv_aload_n hx hb dX5_common_103 rfl (lv_at hl 1 rfl) ?_
                  refine lv_sipush (v := nI 443) hx hb dX5_common_104 rfl ?_
                  refine z_calli0 (va_runV (As := [.int (nI 443)]) (rest := []) ⟨hx, hb, hml, hown, hts⟩ (m_isEven l Γ hok G0 fl F3 L3 B3 _ 443 x3 (by omega) g2) (cwV 1 hts gX5_common_X5_isEven rfl rfl rfl (by decide +kernel) ⟨Nat.le_of_ble_eq_true rfl, Nat.le_of_ble_eq_true rfl⟩) (zM.preV hK hM (md_o hok) rfl rfl) rfl rfl hl.1 rfl (lv_room (Nat.le_of_ble_eq_true rfl)) dX5_common_107 ⟨Nat.le_of_ble_eq_true rfl, Nat.le_of_ble_eq_true rfl⟩) hM (fun r107 G107 H locs hp107 hM => ?_)
                  obtain ⟨rfl, rfl⟩ := hp107
                  refine z_if_eq (tgt := 123) hx hb (by split <;> omega) dX5_common_110 (by decide) (fun hc110 => ?_) (fun hc110 => ?_)
                  · have hox : x3 % 2 = 1 := by split at hc110 <;> omega
                    have lp4 : ∀ (μ : Nat) (y4 : Nat) (F4 : Nat → Nat) (L4 : Nat → Nat) (B4 : Nat → Nat), y4 = μ → (sm 443 445 F L B F4 L4 B4) → (nv F4 L4 443 x3) → (nv F4 L4 444 y4) → (0 < y4) → (Nat.gcd x3 y4 * 2 ^ tw = Nat.gcd x0 va) → (y4 ≤ y2) → (B4 443 = 0) → (B4 444 = 0) → ∀ (ls : Array Slot) (H : Heap) (locs : List Loc), lv_has ls 4 [(2, .int (nI tw)), (0, .ref o), (1, .int (nI a))] → zM Γ A s.heap (md Γ o lF lL lB G0 fl F4 L4 B4) H locs → W p l e (zR 3) s m args below meth c H locs 0 0 Q (F0 m 123 ls []) := by
                      intro μ
                      induction μ using Nat.strongRecOn with
                      | _ μ ihlp4 =>
                        intro y4 F4 L4 B4 hμ k1 k2 k3 k4 k5 k6 k8 k9 ls H locs hl hM
                        refine lv_aload_n hx hb dX5_common_123 rfl (lv_at hl 1 rfl) ?_
                        refine lv_sipush (v := nI 444) hx hb dX5_common_124 rfl ?_
                        refine z_calli0 (va_runV (As := [.int (nI 444)]) (rest := []) ⟨hx, hb, hml, hown, hts⟩ (m_isEven l Γ hok G0 fl F4 L4 B4 _ 444 y4 (by omega) k3) (cwV 1 hts gX5_common_X5_isEven rfl rfl rfl (by decide +kernel) ⟨Nat.le_of_ble_eq_true rfl, Nat.le_of_ble_eq_true rfl⟩) (zM.preV hK hM (md_o hok) rfl rfl) rfl rfl hl.1 rfl (lv_room (Nat.le_of_ble_eq_true rfl)) dX5_common_127 ⟨Nat.le_of_ble_eq_true rfl, Nat.le_of_ble_eq_true rfl⟩) hM (fun r127 G127 H locs hp127 hM => ?_)
                        obtain ⟨rfl, rfl⟩ := hp127
                        refine z_if_eq (tgt := 143) hx hb (by split <;> omega) dX5_common_130 (by decide) (fun hc130 => ?_) (fun hc130 => ?_)
                        · have hoy : y4 % 2 = 1 := by split at hc130 <;> omega
                          refine lv_aload_n hx hb dX5_common_143 rfl (lv_at hl 1 rfl) ?_
                          refine lv_sipush (v := nI 443) hx hb dX5_common_144 rfl ?_
                          refine lv_sipush (v := nI 444) hx hb dX5_common_147 rfl ?_
                          refine z_calli0 (va_runV (As := [.int (nI 443), .int (nI 444)]) (rest := []) ⟨hx, hb, hml, hown, hts⟩ (m_compareSizes l Γ hok G0 fl F4 L4 B4 _ 443 444 x3 y4 (by omega) (by omega) k2 k3) (cwV 2 hts gX5_common_X5_compareSizes rfl rfl rfl (by decide +kernel) ⟨Nat.le_of_ble_eq_true rfl, Nat.le_of_ble_eq_true rfl⟩) (zM.preV hK hM (md_o hok) rfl rfl) rfl rfl hl.1 rfl (lv_room (Nat.le_of_ble_eq_true rfl)) dX5_common_150 ⟨Nat.le_of_ble_eq_true rfl, Nat.le_of_ble_eq_true rfl⟩) hM (fun r150 G150 H locs hp150 hM => ?_)
                          obtain ⟨rfl, rfl⟩ := hp150
                          refine lv_if_le (tgt := 172) hx hb dX5_common_153 (by decide) (fun hc153 => ?_) (fun hc153 => ?_)
                          · have hle : x3 ≤ y4 := by
                              rcases Nat.lt_or_ge y4 x3 with g | g
                              · rw [← cmp3_gt g] at hc153; exact absurd hc153 (by decide)
                              · exact g
                            refine lv_aload_n hx hb dX5_common_172 rfl (lv_at hl 1 rfl) ?_
                            refine lv_sipush (v := nI 444) hx hb dX5_common_173 rfl ?_
                            refine lv_sipush (v := nI 444) hx hb dX5_common_176 rfl ?_
                            refine lv_sipush (v := nI 443) hx hb dX5_common_179 rfl ?_
                            refine z_callv0 (va_runV (As := [.int (nI 444), .int (nI 444), .int (nI 443)]) (rest := []) ⟨hx, hb, hml, hown, hts⟩ (m_subtractSizes l Γ hok G0 fl F4 L4 B4 _ 444 444 443 _ _ (by omega) (by omega) (by omega) k3 k2 (by omega)) (cwV 3 hts gX5_common_X5_subtractSizes rfl rfl rfl (by decide +kernel) ⟨Nat.le_of_ble_eq_true rfl, Nat.le_of_ble_eq_true rfl⟩) (zM.preV hK hM (md_o hok) rfl rfl) rfl rfl hl.1 rfl (lv_room (Nat.le_of_ble_eq_true rfl)) dX5_common_182 ⟨Nat.le_of_ble_eq_true rfl, Nat.le_of_ble_eq_true rfl⟩) hM (fun G182 H locs hp182 hM => ?_)
                            obtain ⟨F9, rfl, f9, n9⟩ := hp182
                            obtain ⟨L9, B9, hM, s9, n9, b9⟩ := step_rel hM f9 n9
                            refine lv_goto (tgt := 92) hx hb dX5_common_185 (by decide) ?_
                            have e93 := s9.B (a := 443) (Or.inl (by omega))
                            exact ihlp2 _ (by omega) x3 (y4 - x3) F9 L9 B9 rfl (k1.tr (s9.wid (by omega) (Nat.le_refl _))) (s9.nv (Or.inl (by omega)) k2) (n9) (by omega) (by rw [Nat.gcd_sub_self_right (by omega)]; exact k5) (Or.inr (Or.inl hox)) (by omega) (by omega) ls _ _ (lv_sub hl [0, 1, 2] rfl) hM
                          · have hgt : y4 < x3 := by
                              rcases Nat.lt_or_ge y4 x3 with g | g
                              · exact g
                              · rcases Nat.lt_or_ge x3 y4 with g2 | g2
                                · rw [← cmp3_lt g2] at hc153; exact absurd (by decide) hc153
                                · rw [← cmp3_eq (Nat.le_antisymm g g2)] at hc153; exact absurd (by decide) hc153
                            refine lv_aload_n hx hb dX5_common_156 rfl (lv_at hl 1 rfl) ?_
                            refine lv_sipush (v := nI 443) hx hb dX5_common_157 rfl ?_
                            refine lv_sipush (v := nI 443) hx hb dX5_common_160 rfl ?_
                            refine lv_sipush (v := nI 444) hx hb dX5_common_163 rfl ?_
                            refine z_callv0 (va_runV (As := [.int (nI 443), .int (nI 443), .int (nI 444)]) (rest := []) ⟨hx, hb, hml, hown, hts⟩ (m_subtractSizes l Γ hok G0 fl F4 L4 B4 _ 443 443 444 _ _ (by omega) (by omega) (by omega) k2 k3 (by omega)) (cwV 3 hts gX5_common_X5_subtractSizes rfl rfl rfl (by decide +kernel) ⟨Nat.le_of_ble_eq_true rfl, Nat.le_of_ble_eq_true rfl⟩) (zM.preV hK hM (md_o hok) rfl rfl) rfl rfl hl.1 rfl (lv_room (Nat.le_of_ble_eq_true rfl)) dX5_common_166 ⟨Nat.le_of_ble_eq_true rfl, Nat.le_of_ble_eq_true rfl⟩) hM (fun G166 H locs hp166 hM => ?_)
                            obtain ⟨F9, rfl, f9, n9⟩ := hp166
                            obtain ⟨L9, B9, hM, s9, n9, b9⟩ := step_rel hM f9 n9
                            refine lv_goto (tgt := 92) hx hb dX5_common_169 (by decide) ?_
                            have e94 := s9.B (a := 444) (Or.inr (by omega))
                            exact ihlp2 _ (by omega) (x3 - y4) y4 F9 L9 B9 rfl (k1.tr (s9.wid (Nat.le_refl _) (by omega))) (n9) (s9.nv (Or.inr (by omega)) k3) (by omega) (by rw [Nat.gcd_sub_self_left (by omega)]; exact k5) (Or.inr (Or.inr hoy)) (by omega) (by omega) ls _ _ (lv_sub hl [0, 1, 2] rfl) hM
                        · have hev : y4 % 2 = 0 := by split at hc130 <;> omega
                          refine lv_aload_n hx hb dX5_common_133 rfl (lv_at hl 1 rfl) ?_
                          refine lv_sipush (v := nI 444) hx hb dX5_common_134 rfl ?_
                          refine z_callv0 (va_runV (As := [.int (nI 444)]) (rest := []) ⟨hx, hb, hml, hown, hts⟩ (m_halve l Γ hok G0 fl F4 L4 B4 _ 444 y4 (by omega) k3) (cwV 1 hts gX5_common_X5_halve rfl rfl rfl (by decide +kernel) ⟨Nat.le_of_ble_eq_true rfl, Nat.le_of_ble_eq_true rfl⟩) (zM.preV hK hM (md_o hok) rfl rfl) rfl rfl hl.1 rfl (lv_room (Nat.le_of_ble_eq_true rfl)) dX5_common_137 ⟨Nat.le_of_ble_eq_true rfl, Nat.le_of_ble_eq_true rfl⟩) hM (fun G137 H locs hp137 hM => ?_)
                          obtain ⟨F8, rfl, f8, n8⟩ := hp137
                          obtain ⟨L8, B8, hM, s8, n8, b8⟩ := step_rel hM f8 n8
                          refine lv_goto (tgt := 123) hx hb dX5_common_140 (by decide) ?_
                          have e83 := s8.B (a := 443) (Or.inl (by omega))
                          exact ihlp4 _ (by omega) (y4 / 2) F8 L8 B8 rfl (k1.tr (s8.wid (by omega) (Nat.le_refl _))) (s8.nv (Or.inl (by omega)) k2) (n8) (by omega) (by rw [Nat.gcd_comm, gcd_half hev hox, Nat.gcd_comm]; exact k5) (by omega) (by omega) (by omega) ls _ _ (lv_sub hl [0, 1, 2] rfl) hM
                    exact lp4 _ y2 F3 L3 B3 rfl g1 g2 g3 hy2 g5 (Nat.le_refl _) g8 g9 ls _ _ (lv_sub hl [0, 1, 2] rfl) hM
                  · have hev : x3 % 2 = 0 := by split at hc110 <;> omega
                    have hod : y2 % 2 = 1 := by omega
                    refine lv_aload_n hx hb dX5_common_113 rfl (lv_at hl 1 rfl) ?_
                    refine lv_sipush (v := nI 443) hx hb dX5_common_114 rfl ?_
                    refine z_callv0 (va_runV (As := [.int (nI 443)]) (rest := []) ⟨hx, hb, hml, hown, hts⟩ (m_halve l Γ hok G0 fl F3 L3 B3 _ 443 x3 (by omega) g2) (cwV 1 hts gX5_common_X5_halve rfl rfl rfl (by decide +kernel) ⟨Nat.le_of_ble_eq_true rfl, Nat.le_of_ble_eq_true rfl⟩) (zM.preV hK hM (md_o hok) rfl rfl) rfl rfl hl.1 rfl (lv_room (Nat.le_of_ble_eq_true rfl)) dX5_common_117 ⟨Nat.le_of_ble_eq_true rfl, Nat.le_of_ble_eq_true rfl⟩) hM (fun G117 H locs hp117 hM => ?_)
                    obtain ⟨F7, rfl, f7, n7⟩ := hp117
                    obtain ⟨L7, B7, hM, s7, n7, b7⟩ := step_rel hM f7 n7
                    refine lv_goto (tgt := 103) hx hb dX5_common_120 (by decide) ?_
                    have e74 := s7.B (a := 444) (Or.inr (by omega))
                    exact ihlp3 _ (by omega) (x3 / 2) F7 L7 B7 rfl (g1.tr (s7.wid (Nat.le_refl _) (by omega))) (n7) (s7.nv (Or.inr (by omega)) g3) (by omega) (by rw [gcd_half hev hod]; exact g5) (by omega) (Or.inr hod) (by omega) (by omega) ls _ _ (lv_sub hl [0, 1, 2] rfl) hM
              exact lp3 _ x2 F2 L2 B2 rfl e1 e2 e3 e4 e5 (Nat.le_refl _) (by omega) e8 e9 ls _ _ (lv_sub hl [0, 1, 2] rfl) hM
        refine lv_aload_n hx hb dX5_common_41 rfl (lv_at hl 1 rfl) ?_
        refine m_get hok hx hb hts hin5 hown hK hM 5 hf_length rfl (by decide) (v := .ref lL) rfl dX5_common_42 ?_
        refine lv_sipush (v := nI 444) hx hb dX5_common_45 rfl ?_
        refine m_ldL hok hx hb hK hM (by omega) dX5_common_48 ?_
        refine z_if_le (tgt := 92) hx hb (by have := c3.le; omega) dX5_common_49 (by decide) (fun hc49 => ?_) (fun hc49 => ?_)
        · exact lp2 _ x y F1 L1 B1 rfl c1 c2 c3 c4 c5 (Or.inl (by have := @nl_pos y; have := c3.1; omega)) c8 c9 ls _ _ (lv_sub hl [0, 1, 2] rfl) hM
        · refine lv_aload_n hx hb dX5_common_52 rfl (lv_at hl 1 rfl) ?_
          refine lv_sipush (v := nI 443) hx hb dX5_common_53 rfl ?_
          refine z_calli0 (va_runV (As := [.int (nI 443)]) (rest := []) ⟨hx, hb, hml, hown, hts⟩ (m_isEven l Γ hok G0 fl F1 L1 B1 _ 443 x (by omega) c2) (cwV 1 hts gX5_common_X5_isEven rfl rfl rfl (by decide +kernel) ⟨Nat.le_of_ble_eq_true rfl, Nat.le_of_ble_eq_true rfl⟩) (zM.preV hK hM (md_o hok) rfl rfl) rfl rfl hl.1 rfl (lv_room (Nat.le_of_ble_eq_true rfl)) dX5_common_56 ⟨Nat.le_of_ble_eq_true rfl, Nat.le_of_ble_eq_true rfl⟩) hM (fun r56 G56 H locs hp56 hM => ?_)
          obtain ⟨rfl, rfl⟩ := hp56
          refine z_if_eq (tgt := 92) hx hb (by split <;> omega) dX5_common_59 (by decide) (fun hc59 => ?_) (fun hc59 => ?_)
          · exact lp2 _ x y F1 L1 B1 rfl c1 c2 c3 c4 c5 (Or.inr (Or.inl (by split at hc59 <;> omega))) c8 c9 ls _ _ (lv_sub hl [0, 1, 2] rfl) hM
          · refine lv_aload_n hx hb dX5_common_62 rfl (lv_at hl 1 rfl) ?_
            refine lv_sipush (v := nI 444) hx hb dX5_common_63 rfl ?_
            refine z_calli0 (va_runV (As := [.int (nI 444)]) (rest := []) ⟨hx, hb, hml, hown, hts⟩ (m_isEven l Γ hok G0 fl F1 L1 B1 _ 444 y (by omega) c3) (cwV 1 hts gX5_common_X5_isEven rfl rfl rfl (by decide +kernel) ⟨Nat.le_of_ble_eq_true rfl, Nat.le_of_ble_eq_true rfl⟩) (zM.preV hK hM (md_o hok) rfl rfl) rfl rfl hl.1 rfl (lv_room (Nat.le_of_ble_eq_true rfl)) dX5_common_66 ⟨Nat.le_of_ble_eq_true rfl, Nat.le_of_ble_eq_true rfl⟩) hM (fun r66 G66 H locs hp66 hM => ?_)
            obtain ⟨rfl, rfl⟩ := hp66
            refine z_if_eq (tgt := 92) hx hb (by split <;> omega) dX5_common_69 (by decide) (fun hc69 => ?_) (fun hc69 => ?_)
            · exact lp2 _ x y F1 L1 B1 rfl c1 c2 c3 c4 c5 (Or.inr (Or.inr (by split at hc69 <;> omega))) c8 c9 ls _ _ (lv_sub hl [0, 1, 2] rfl) hM
            · have hex : x % 2 = 0 := by split at hc59 <;> omega
              have hey : y % 2 = 0 := by split at hc69 <;> omega
              have hyp : 0 < y := by have := @nl_pos y; have := c3.1; omega
              refine lv_aload_n hx hb dX5_common_72 rfl (lv_at hl 1 rfl) ?_
              refine lv_sipush (v := nI 443) hx hb dX5_common_73 rfl ?_
              refine z_callv0 (va_runV (As := [.int (nI 443)]) (rest := []) ⟨hx, hb, hml, hown, hts⟩ (m_halve l Γ hok G0 fl F1 L1 B1 _ 443 x (by omega) c2) (cwV 1 hts gX5_common_X5_halve rfl rfl rfl (by decide +kernel) ⟨Nat.le_of_ble_eq_true rfl, Nat.le_of_ble_eq_true rfl⟩) (zM.preV hK hM (md_o hok) rfl rfl) rfl rfl hl.1 rfl (lv_room (Nat.le_of_ble_eq_true rfl)) dX5_common_76 ⟨Nat.le_of_ble_eq_true rfl, Nat.le_of_ble_eq_true rfl⟩) hM (fun G76 H locs hp76 hM => ?_)
              obtain ⟨F3, rfl, f3, n3⟩ := hp76
              obtain ⟨L3, B3, hM, s3, n3, b3⟩ := step_rel hM f3 n3
              refine lv_aload_n hx hb dX5_common_79 rfl (lv_at hl 1 rfl) ?_
              refine lv_sipush (v := nI 444) hx hb dX5_common_80 rfl ?_
              have c33 := s3.nv (Or.inr (by omega)) c3
              refine z_callv0 (va_runV (As := [.int (nI 444)]) (rest := []) ⟨hx, hb, hml, hown, hts⟩ (m_halve l Γ hok G0 fl F3 L3 B3 _ 444 y (by omega) c33) (cwV 1 hts gX5_common_X5_halve rfl rfl rfl (by decide +kernel) ⟨Nat.le_of_ble_eq_true rfl, Nat.le_of_ble_eq_true rfl⟩) (zM.preV hK hM (md_o hok) rfl rfl) rfl rfl hl.1 rfl (lv_room (Nat.le_of_ble_eq_true rfl)) dX5_common_83 ⟨Nat.le_of_ble_eq_true rfl, Nat.le_of_ble_eq_true rfl⟩) hM (fun G83 H locs hp83 hM => ?_)
              obtain ⟨F4, rfl, f4, n4⟩ := hp83
              obtain ⟨L4, B4, hM, s4, n4, b4⟩ := step_rel hM f4 n4
              have e34 := s3.B (a := 444) (Or.inr (by omega))
              have e43 := s4.B (a := 443) (Or.inl (by omega))
              refine z_iinc (v := (tw + 1)) (lv' := [(2, .int (nI (tw + 1))), (0, .ref o), (1, .int (nI a))]) hx hb dX5_common_86 hl (k := 0) rfl (nI_p1 _) (by decide) rfl (fun ls hl => ?_)
              refine lv_goto (tgt := 41) hx hb dX5_common_89 (by decide) ?_
              exact ihlp1 _ (by omega) (x / 2) (y / 2) (tw + 1) F4 L4 B4 rfl (c1.tr ((s3.wid (Nat.le_refl _) (by omega)).tr (s4.wid (by omega) (Nat.le_refl _)))) (s4.nv (Or.inl (by omega)) n3) (n4) (by omega) (by rw [← c5, ← gcd_half2 hex hey, Nat.pow_succ]; rw [Nat.mul_comm (2 ^ tw), ← Nat.mul_assoc, Nat.mul_comm _ 2]) (by rw [← c6, Nat.pow_succ, Nat.mul_comm (2 ^ tw), ← Nat.mul_assoc]; congr 1; omega) (by omega) (by omega) ls _ _ (lv_sub hl [0, 1, 2] rfl) hM
    exact lp1 _ x0 va 0 F1 L1 B1 rfl sA nx1 q1 hx0p (by rw [Nat.pow_zero, Nat.mul_one]) (by rw [Nat.pow_zero, Nat.mul_one]) hb3 hb4 ls _ _ (lv_sub hl [0, 1, 2] rfl) hM
  · refine lv_aload_n hx hb dX5_common_28 rfl (lv_at hl 0 rfl) ?_
    refine lv_sipush (v := nI 443) hx hb dX5_common_29 rfl ?_
    refine lv_sipush (v := nI 444) hx hb dX5_common_32 rfl ?_
    refine z_callv0 (va_runV (As := [.int (nI 443), .int (nI 444)]) (rest := []) ⟨hx, hb, hml, hown, hts⟩ (m_copy l Γ hok G0 fl F1 L1 B1 _ 443 444 (by omega) (by omega) (by omega) q1.le (by omega)) (cwV 2 hts gX5_common_X5_copy rfl rfl rfl (by decide +kernel) ⟨Nat.le_of_ble_eq_true rfl, Nat.le_of_ble_eq_true rfl⟩) (zM.preV hK hM (md_o hok) rfl rfl) rfl rfl hl.1 rfl (lv_room (Nat.le_of_ble_eq_true rfl)) dX5_common_35 ⟨Nat.le_of_ble_eq_true rfl, Nat.le_of_ble_eq_true rfl⟩) hM (fun G35 H locs hp35 hM => ?_)
    obtain rfl := hp35
    obtain ⟨F2, L2, B2, hM, s2, q2, b2⟩ := copy_rel hM q1
    have hx00 : x0 = 0 := by have := @nl_pos x0; have := nx1.1; omega
    have e44 := s2.B (a := 444) (Or.inr (by omega))
    rw [hQ]
    rw [hAe] at hM
    exact z_vret hsz hx hb hr hlocks hK hM dX5_common_38 (⟨_, _, _, rfl, sA.tr (s2.wid (Nat.le_refl _) (by omega)), by rw [hx00, Nat.gcd_zero_left]; exact q2, by omega, by omega⟩)
end
section
/-! what an object of the class, and of the reference, stands for: numbers as integers -/
abbrev AS : Type := (Nat × Nat × Nat) × (Nat × Nat × (Nat → Nat → Int)) × (Nat × (Nat → Int)) × (Nat × Nat × (Nat → Int)) × (Nat → Int) × (Nat × Int32 × Nat × (Nat → Nat) × Int)
/-- cells for the first n numbers of a row -/
def need (X : Nat → Int) : Nat → Nat
  | 0 => 0
  | n + 1 => need X n + 1 + nl (X n).natAbs
def fit48 (X : Nat → Int) : Nat → Bool
  | 0 => true
  | n + 1 => fit48 X n && decide (nl (X n).natAbs ≤ 48)
def zeroN (X : Nat → Int) : Nat → Bool
  | 0 => true
  | n + 1 => zeroN X n && decide (X n = 0)
def gcdN (X : Nat → Int) : Nat → Nat
  | 0 => 0
  | n + 1 => Nat.gcd (gcdN X n) (X n).natAbs
def dotN (X Y : Nat → Int) : Nat → Int
  | 0 => 0
  | n + 1 => dotN X Y n + X n * Y n
/-- a row that contradicts itself -/
def bot (X : Nat → Int) (vars : Nat) : Bool := decide (X vars < 0) && zeroN X vars
def anyBot (R : Nat → Nat → Int) (vars inp : Nat) : Nat → Bool
  | 0 => false
  | n + 1 => anyBot R vars inp n || (decide (inp ≤ n) && bot (R n) vars)
def allHold (R : Nat → Nat → Int) (P : Nat → Int) (vars : Nat) : Nat → Bool
  | 0 => true
  | n + 1 => allHold R P vars n && decide (dotN P (R n) vars ≤ R n vars)
def bI (b : Bool) : Int32 := nI (if b then 1 else 0)
def op_begin (sign : Int32) : AS → Int32 × AS
  | (A, B, C, D, P, (st, sg, gv, g, z)) => if sign < -1 ∨ 1 < sign then (nI 0, (A, B, C, D, P, (st, sg, gv, g, z))) else (nI 1, (A, B, C, D, P, (1, sign, 0, g, 0)))
def op_limb (w : Int32) : AS → Int32 × AS
  | (A, B, C, D, P, (st, sg, gv, g, z)) => if w < 0 ∨ st ≠ 1 ∨ gv = 20 then (nI 0, (A, B, C, D, P, (st, sg, gv, g, z))) else (nI 1, (A, B, C, D, P, (st, sg, gv + 1, va_up g gv w.toNatClampNeg, sg.toInt * (vl (va_up g gv w.toNatClampNeg) (gv + 1) : Nat))))
def op_endCoef : AS → Int32 × AS
  | ((vars, maxR, cells), B, (fil, V), D, P, (st, sg, gv, g, z)) => if st ≠ 1 ∨ fil = vars + 1 then (nI 0, ((vars, maxR, cells), B, (fil, V), D, P, (st, sg, gv, g, z))) else (nI 1, ((vars, maxR, cells), B, (fil + 1, va_up V fil z), D, P, (2, sg, gv, g, z)))
/-- a row is kept, or there is no room -/
def op_store (X : Nat → Int) : AS → Option Nat × AS
  | ((vars, maxR, cells), (nr, inp, R), C, D, P, E) => if nr = maxR ∨ cells < need X (vars + 1) then (none, ((vars, maxR, cells), (nr, inp, R), C, D, P, E)) else (some nr, ((vars, maxR, cells - need X (vars + 1)), (nr + 1, inp, va_up R nr X), C, D, P, E))
def op_endCons : AS → Int32 × AS
  | (A, B, (fil, V), (se, be, S), P, E) => if se = 1 then (-3, (A, B, (0, V), (se, be, S), P, E)) else if fil ≠ A.1 + 1 then (-2, (A, B, (0, V), (se, be, S), P, E)) else
      match op_store V (A, B, (0, V), (se, be, S), P, E) with
      | (none, σ) => (-4, σ)
      | (some n, (A', (nr, inp, R), C)) => (nI n, (A', (nr, inp + 1, R), C))
def op_seal : AS → Int32 × AS
  | (A, B, C, (se, be, S), P, E) => (nI (1 - se), (A, B, C, (1, be, S), P, E))
def op_start : AS → Int32 × AS
  | (A, B, C, (se, be, S), P, E) => if se = 0 then (nI 0, (A, B, C, (se, be, S), P, E)) else (nI 1, (A, B, C, (se, 1, fun _ => 0), P, E))
def op_add (row : Int32) : AS → Int32 × AS
  | (A, (nr, inp, R), C, (se, be, S), P, (st, sg, gv, g, z)) => if be = 0 then (-7, (A, (nr, inp, R), C, (se, be, S), P, (st, sg, gv, g, z))) else if row < 0 ∨ nI nr ≤ row then (-5, (A, (nr, inp, R), C, (se, be, S), P, (st, sg, gv, g, z))) else if st = 0 ∨ z < 0 then (-6, (A, (nr, inp, R), C, (se, be, S), P, (st, sg, gv, g, z))) else
      if fit48 (fun k => S k + z * R row.toNatClampNeg k) (A.1 + 1) then (nI 0, (A, (nr, inp, R), C, (se, be, fun k => S k + z * R row.toNatClampNeg k), P, (2, sg, gv, g, z))) else (-4, (A, (nr, inp, R), C, (se, be, S), P, (st, sg, gv, g, z)))
def op_end : AS → Int32 × AS
  | (A, B, C, (se, be, S), P, E) => if be = 0 then (-7, (A, B, C, (se, be, S), P, E)) else
      match op_store S (A, B, C, (se, be, S), P, E) with
      | (none, σ) => (-4, σ)
      | (some n, (A', B', C', (se', _, S'), E')) => (nI n, (A', B', C', (se', 0, S'), E'))
def op_divide (row : Int32) : AS → Int32 × AS
  | (A, (nr, inp, R), C, (se, be, S), P, E) => if row < 0 ∨ nI nr ≤ row ∨ se = 0 then (-5, (A, (nr, inp, R), C, (se, be, S), P, E)) else if gcdN (R row.toNatClampNeg) A.1 = 0 then (-8, (A, (nr, inp, R), C, (se, be, S), P, E)) else
      match op_store (fun k => R row.toNatClampNeg k / (gcdN (R row.toNatClampNeg) A.1 : Nat)) (A, (nr, inp, R), C, (se, be, S), P, E) with
      | (none, σ) => (-4, σ)
      | (some n, σ) => (nI n, σ)
def op_refuted : AS → Int32
  | (A, (nr, inp, R), _) => bI (anyBot R A.1 inp nr)
def op_rows : AS → Int32
  | (_, (nr, _, _), _) => nI nr
def op_evalStart : AS → Int32 × AS
  | (A, B, C, D, _, E) => (nI 1, (A, B, C, D, fun _ => 0, E))
def op_evalPoint (var : Int32) : AS → Int32 × AS
  | (A, B, C, D, P, (st, sg, gv, g, z)) => if var < 0 ∨ nI A.1 ≤ var ∨ st = 0 then (nI 0, (A, B, C, D, P, (st, sg, gv, g, z))) else (nI 1, (A, B, C, D, va_up P var.toNatClampNeg z, (2, sg, gv, g, z)))
def op_sat : AS → Int32
  | (A, (_, inp, R), _, _, P, _) => bI (allHold R P A.1 inp)
/-- cell: none where the class throws -/
def op_cell (row entry what : Int32) : AS → Option Int32
  | (A, (nr, _, R), _) => if row < 0 ∨ nI nr ≤ row ∨ entry < 0 ∨ nI A.1 < entry ∨ what < -2 then none else
      let z := R row.toNatClampNeg entry.toNatClampNeg
      if what = -1 then some (if z < 0 then -1 else if z = 0 then nI 0 else nI 1) else if what = -2 then some (nI (nl z.natAbs)) else some (nI (z.natAbs / bp what.toNatClampNeg % 2147483648))
def op_count (what : Int32) : AS → Option Int32
  | ((_, _, cells), (_, inp, _), (fil, _), (se, be, _), _, (st, _)) => if what < 0 ∨ 5 < what then none else if what = 0 then some (nI cells) else if what = 1 then some (nI inp) else if what = 2 then some (nI fil) else if what = 3 then some (nI se) else if what = 4 then some (nI be) else some (nI st)
/-- what always holds -/
def AI : AS → Prop
  | ((vars, maxR, cells), (nr, inp, R), (fil, V), (se, be, S), P, (st, sg, gv, g, z)) =>
    (1 ≤ vars ∧ vars ≤ 6 ∧ 1 ≤ maxR ∧ maxR ≤ 60 ∧ cells ≤ 4000) ∧ (nr ≤ maxR ∧ inp ≤ nr ∧ (se = 0 → inp = nr) ∧ ∀ r k, r < nr → k ≤ vars → nl (R r k).natAbs ≤ 48) ∧ (fil ≤ vars + 1 ∧ ∀ k, k < fil → nl (V k).natAbs ≤ 20) ∧ (se < 2 ∧ be < 2 ∧ (be = 1 → ∀ k, k ≤ vars → nl (S k).natAbs ≤ 48)) ∧ (∀ k, k < vars → nl (P k).natAbs ≤ 20) ∧ st < 3 ∧ gv ≤ 20 ∧ (sg = -1 ∨ sg = 0 ∨ sg = 1) ∧ (st = 1 → z = sg.toInt * (vl g gv : Nat)) ∧ (∀ j, j < gv → g j < 2147483648) ∧ nl z.natAbs ≤ 20
/-- number a holds z -/
def nz (F L B : Nat → Nat) (a : Nat) (z : Int) : Prop := nv F L a z.natAbs ∧ B a = sb z
/-- the reference's cells hold the state -/
def MRep (F L B : Nat → Nat) : AS → Prop
  | ((vars, _, _), (nr, _, R), (fil, V), (_, be, S), P, (st, _, gv, g, z)) =>
    (∀ r k, r < nr → k ≤ vars → nz F L B (7 * r + k) (R r k)) ∧ (∀ k, k < fil → nz F L B (420 + k) (V k)) ∧ (be = 1 → ∀ k, k ≤ vars → nz F L B (427 + k) (S k)) ∧ (∀ k, k < vars → nz F L B (434 + k) (P k)) ∧ (st = 1 → ∀ j, j < gv → F (72 * 440 + j) = g j) ∧ (st = 2 → nz F L B 440 z) ∧ nv F L 447 1
/-- its scalar fields -/
def mfs (rf : Int32) : AS → Nat → Int32
  | ((vars, maxR, cells), (nr, inp, _), (fil, _), (se, be, _), _, (st, sg, gv, _, _)) => mfl rf (nI vars) (nI maxR) (nI cells) (nI nr) (nI inp) (nI fil) (nI se) (nI be) (nI st) sg (nI gv)
end
section
theorem nz.sm {lo hi : Nat} {F L B F1 L1 B1 : Nat → Nat} {a : Nat} {z : Int} (h : nz F L B a z) (s : sm lo hi F L B F1 L1 B1) (ha : a < lo ∨ hi ≤ a) : nz F1 L1 B1 a z := ⟨s.nv ha h.1, by rw [s.B ha]; exact h.2⟩
theorem nz.B2 {F L B : Nat → Nat} {a : Nat} {z : Int} (h : nz F L B a z) : B a < 2 := by rw [h.2]; exact sb_lt z
theorem settle_B {B : Nat → Nat} {t x v : Nat} {z : Int} (hv : v = z.natAbs) (hx : z ≠ 0 → x = sb z) : bz (va_up B t x) t v = va_up B t (sb z) := by
  unfold bz
  have hp := @nl_pos v
  by_cases h : z = 0
  · rw [if_pos (by rw [hv, h]; rfl), va_up_up, h]; rfl
  · rw [if_neg (by omega), hx h]
/-- what the register holds while it is open -/
theorem reg_sz {sg : Int32} {g : Nat → Nat} {gv : Nat} (hsg : sg = -1 ∨ sg = 0 ∨ sg = 1) (hgv : gv ≤ 20) (hg : ∀ j, j < gv → g j < 2147483648) : nl (sg.toInt * (vl g gv : Nat)).natAbs ≤ 20 := by
  apply nl_le
  have h1 := Nat.lt_of_lt_of_le (vl_lt hg) (bp_le hgv)
  rcases hsg with rfl | rfl | rfl
  · rw [show (-1 : Int32).toInt = -1 from rfl]; omega
  · rw [show (0 : Int32).toInt = 0 from rfl]; omega
  · rw [show (1 : Int32).toInt = 1 from rfl]; omega
end
section
set_option maxRecDepth 100000 in
set_option maxHeartbeats 4000000 in
theorem m_thrown (l : Launch) (Γ : zT) {o lF lL lB : Nat} (hok : mdk o lF lL lB) (G0 : zG) (fl : Nat → Int32) (F L B : Nat → Nat) (sz : Nat)  : zMi l yX5_thrown wsX5_thrown (zR 1) Γ (md Γ o lF lL lB G0 fl F L B) sz [.ref o] (fun r G' => r = fl 0 ∧ G' = md Γ o lF lL lB G0 fl F L B) 0 0 := by
  refine z_start (cc := cX5_thrown) (maxL := 1) (ret := (some .int)) (by decide) rfl (Nat.le_of_ble_eq_true rfl) ?_
  intro p e s m args below meth c ls Q hQ hsz hx hb hr hml hown hts hlocks hnm hK hM hl
  obtain ⟨A, hAe⟩ : ∃ A, A = zA (md Γ o lF lL lB G0 fl F L B) s.heap.size := ⟨_, rfl⟩
  rw [← hAe] at hM
  have hl : lv_has ls 1 [(0, .ref o)] := hl
  have hin5 : ∀ w ∈ wsX50, w ∈ wsX5_thrown := by decide +kernel
  have hf_refusal := hts (.fieldLink RX5 34 "CutRowsModel" "refusal" "I") (by decide +kernel)
  refine lv_aload_n hx hb dX5_thrown_0 rfl (lv_at hl 0 rfl) ?_
  refine m_get hok hx hb hts hin5 hown hK hM 0 hf_refusal rfl (by decide) (v := .int (fl 0)) rfl dX5_thrown_1 ?_
  rw [hQ]
  rw [hAe] at hM
  exact z_iret hsz hx hb hr hlocks hK hM dX5_thrown_4 (⟨rfl, rfl⟩)

set_option maxRecDepth 100000 in
set_option maxHeartbeats 4000000 in
theorem m_placeOf (l : Launch) (Γ : zT) {o lF lL lB : Nat} (hok : mdk o lF lL lB) (G0 : zG) (fl : Nat → Int32) (F L B : Nat → Nat) (sz : Nat) (r k : Nat) : zMi l yX5_placeOf wsX5_placeOf (zR 1) Γ (md Γ o lF lL lB G0 fl F L B) sz [.int (nI r), .int (nI k)] (fun x G' => x = nI (7 * r + k) ∧ G' = md Γ o lF lL lB G0 fl F L B) 0 0 := by
  refine z_start (cc := cX5_placeOf) (maxL := 2) (ret := (some .int)) (by decide) rfl (Nat.le_of_ble_eq_true rfl) ?_
  intro p e s m args below meth c ls Q hQ hsz hx hb hr hml hown hts hlocks hnm hK hM hl
  obtain ⟨A, hAe⟩ : ∃ A, A = zA (md Γ o lF lL lB G0 fl F L B) s.heap.size := ⟨_, rfl⟩
  rw [← hAe] at hM
  have hl : lv_has ls 2 [(0, .int (nI r)), (1, .int (nI k))] := hl
  refine lv_bipush (v := nI 7) hx hb dX5_placeOf_0 rfl ?_
  refine lv_iload_n hx hb dX5_placeOf_2 rfl (lv_at hl 0 rfl) ?_
  refine z_imul hx hb dX5_placeOf_3 ?_
  refine lv_iload_n hx hb dX5_placeOf_4 rfl (lv_at hl 1 rfl) ?_
  refine z_iadd hx hb dX5_placeOf_5 ?_
  rw [hQ]
  rw [hAe] at hM
  exact z_iret hsz hx hb hr hlocks hK hM dX5_placeOf_6 (⟨rfl, rfl⟩)

set_option maxRecDepth 100000 in
set_option maxHeartbeats 4000000 in
theorem m_isRow (l : Launch) (Γ : zT) {o lF lL lB : Nat} (hok : mdk o lF lL lB) (G0 : zG) (fl : Nat → Int32) (F L B : Nat → Nat) (sz : Nat) (row : Int32) (nr : Nat) (hnr : fl 7 = nI nr) : zMi l yX5_isRow wsX5_isRow (zR 1) Γ (md Γ o lF lL lB G0 fl F L B) sz [.ref o, .int row] (fun x G' => x = nI (if row < 0 ∨ nI nr ≤ row then 0 else 1) ∧ G' = md Γ o lF lL lB G0 fl F L B) 0 0 := by
  refine z_start (cc := cX5_isRow) (maxL := 2) (ret := (some .boolean)) (by decide) rfl (Nat.le_of_ble_eq_true rfl) ?_
  intro p e s m args below meth c ls Q hQ hsz hx hb hr hml hown hts hlocks hnm hK hM hl
  obtain ⟨A, hAe⟩ : ∃ A, A = zA (md Γ o lF lL lB G0 fl F L B) s.heap.size := ⟨_, rfl⟩
  rw [← hAe] at hM
  have hl : lv_has ls 2 [(0, .ref o), (1, .int row)] := hl
  have hin5 : ∀ w ∈ wsX50, w ∈ wsX5_isRow := by decide +kernel
  have hf_rows := hts (.fieldLink RX5 96 "CutRowsModel" "rows" "I") (by decide +kernel)
  refine lv_iload_n hx hb dX5_isRow_0 rfl (lv_at hl 1 rfl) ?_
  refine lv_if_lt (tgt := 16) hx hb dX5_isRow_1 (by decide) (fun hc1 => ?_) (fun hc1 => ?_)
  · refine lv_iconst (v := nI 0) hx hb dX5_isRow_16 rfl ?_
    rw [hQ]
    rw [hAe] at hM
    exact z_zret (by omega) hsz hx hb hr hlocks hK hM dX5_isRow_17 (⟨congrArg nI ((if_pos (Or.inl hc1)).symm), rfl⟩)
  · refine lv_iload_n hx hb dX5_isRow_4 rfl (lv_at hl 1 rfl) ?_
    refine lv_aload_n hx hb dX5_isRow_5 rfl (lv_at hl 0 rfl) ?_
    refine m_get hok hx hb hts hin5 hown hK hM 7 hf_rows rfl (by decide) (v := .int (fl 7)) rfl dX5_isRow_6 ?_
    refine z_asi (y := nI nr) hnr ?_
    refine lv_icmp_ge (tgt := 16) hx hb dX5_isRow_9 (by decide) (fun hc9 => ?_) (fun hc9 => ?_)
    · refine lv_iconst (v := nI 0) hx hb dX5_isRow_16 rfl ?_
      rw [hQ]
      rw [hAe] at hM
      exact z_zret (by omega) hsz hx hb hr hlocks hK hM dX5_isRow_17 (⟨congrArg nI ((if_pos (Or.inr hc9)).symm), rfl⟩)
    · refine lv_iconst (v := nI 1) hx hb dX5_isRow_12 rfl ?_
      refine lv_goto (tgt := 17) hx hb dX5_isRow_13 (by decide) ?_
      rw [hQ]
      rw [hAe] at hM
      exact z_zret (by omega) hsz hx hb hr hlocks hK hM dX5_isRow_17 (⟨congrArg nI ((if_neg (fun h => h.elim hc1 hc9)).symm), rfl⟩)

set_option maxRecDepth 100000 in
set_option maxHeartbeats 4000000 in
theorem m_settle (l : Launch) (Γ : zT) {o lF lL lB : Nat} (hok : mdk o lF lL lB) (G0 : zG) (fl : Nat → Int32) (F L B : Nat → Nat) (sz : Nat) (sg : Int32) (gv : Nat) (h13 : fl 13 = sg) (h14 : fl 14 = nI gv) (hgv : gv ≤ 20) (hsg : sg = -1 ∨ sg = 0 ∨ sg = 1) (hd : dg (fun j => F (72 * 440 + j)) gv) : zMv l yX5_settle wsX5_settle (zR 2) Γ (md Γ o lF lL lB G0 fl F L B) sz [.ref o] (fun G' => G' = md Γ o lF lL lB G0 fl F (va_up L 440 (nl (sg.toInt * (vl (fun j => F (72 * 440 + j)) gv : Nat)).natAbs)) (va_up B 440 (sb (sg.toInt * (vl (fun j => F (72 * 440 + j)) gv : Nat)))) ∧ nv F (va_up L 440 (nl (sg.toInt * (vl (fun j => F (72 * 440 + j)) gv : Nat)).natAbs)) 440 (sg.toInt * (vl (fun j => F (72 * 440 + j)) gv : Nat)).natAbs) 0 0 := by
  refine z_start (cc := cX5_settle) (maxL := 1) (ret := none) (by decide) rfl (Nat.le_of_ble_eq_true rfl) ?_
  intro p e s m args below meth c ls Q hQ hsz hx hb hr hml hown hts hlocks hnm hK hM hl
  obtain ⟨A, hAe⟩ : ∃ A, A = zA (md Γ o lF lL lB G0 fl F L B) s.heap.size := ⟨_, rfl⟩
  rw [← hAe] at hM
  have hl : lv_has ls 1 [(0, .ref o)] := hl
  have hin5 : ∀ w ∈ wsX50, w ∈ wsX5_settle := by decide +kernel
  have hf_length := hts (.fieldLink RX5 13 "CutRowsModel" "length" "[I") (by decide +kernel)
  have hf_isBelow := hts (.fieldLink RX5 16 "CutRowsModel" "isBelow" "[Z") (by decide +kernel)
  have hf_sign := hts (.fieldLink RX5 81 "CutRowsModel" "sign" "I") (by decide +kernel)
  have hf_given := hts (.fieldLink RX5 87 "CutRowsModel" "given" "I") (by decide +kernel)
  refine lv_aload_n hx hb dX5_settle_0 rfl (lv_at hl 0 rfl) ?_
  refine m_get hok hx hb hts hin5 hown hK hM 5 hf_length rfl (by decide) (v := .ref lL) rfl dX5_settle_1 ?_
  refine lv_sipush (v := nI 440) hx hb dX5_settle_4 rfl ?_
  refine lv_aload_n hx hb dX5_settle_7 rfl (lv_at hl 0 rfl) ?_
  refine m_get hok hx hb hts hin5 hown hK hM 13 hf_sign rfl (by decide) (v := .int (fl 13)) rfl dX5_settle_8 ?_
  refine z_asi (y := sg) (h13) ?_
  refine lv_if_ne (tgt := 18) hx hb dX5_settle_11 (by decide) (fun hc11 => ?_) (fun hc11 => ?_)
  · refine lv_aload_n hx hb dX5_settle_18 rfl (lv_at hl 0 rfl) ?_
    refine m_get hok hx hb hts hin5 hown hK hM 14 hf_given rfl (by decide) (v := .int (fl 14)) rfl dX5_settle_19 ?_
    refine z_asi (y := nI gv) (h14) ?_
    refine m_stL hok hx hb hK hM (by omega) dX5_settle_22 (fun H locs hM => ?_)
    refine lv_aload_n hx hb dX5_settle_23 rfl (lv_at hl 0 rfl) ?_
    refine m_get hok hx hb hts hin5 hown hK hM 6 hf_isBelow rfl (by decide) (v := .ref lB) rfl dX5_settle_24 ?_
    refine lv_sipush (v := nI 440) hx hb dX5_settle_27 rfl ?_
    refine lv_aload_n hx hb dX5_settle_30 rfl (lv_at hl 0 rfl) ?_
    refine m_get hok hx hb hts hin5 hown hK hM 13 hf_sign rfl (by decide) (v := .int (fl 13)) rfl dX5_settle_31 ?_
    refine z_asi (y := sg) (h13) ?_
    refine lv_if_ge (tgt := 41) hx hb dX5_settle_34 (by decide) (fun hc34 => ?_) (fun hc34 => ?_)
    · refine lv_iconst (v := nI 0) hx hb dX5_settle_41 rfl ?_
      refine m_stB hok hx hb hK hM (by omega) (by omega) dX5_settle_42 (fun H locs hM => ?_)
      refine lv_aload_n hx hb dX5_settle_43 rfl (lv_at hl 0 rfl) ?_
      refine lv_sipush (v := nI 440) hx hb dX5_settle_44 rfl ?_
      have hd2 : dg (fun k => F (72 * 440 + k)) gv := hd
      refine z_callv0 (va_runV (As := [.int (nI 440)]) (rest := []) ⟨hx, hb, hml, hown, hts⟩ (m_trim2 l Γ hok G0 fl F (va_up L 440 gv) (va_up B 440 0) _ 440 gv _ (by omega) (va_up_self _ _ _) (by omega) hd2 rfl) (cwV 1 hts gX5_settle_X5_trim rfl rfl rfl (by decide +kernel) ⟨Nat.le_of_ble_eq_true rfl, Nat.le_of_ble_eq_true rfl⟩) (zM.preV hK hM (md_o hok) rfl rfl) rfl rfl hl.1 rfl (lv_room (Nat.le_of_ble_eq_true rfl)) dX5_settle_47 ⟨Nat.le_of_ble_eq_true rfl, Nat.le_of_ble_eq_true rfl⟩) hM (fun G47 H locs hp47 hM => ?_)
      obtain rfl := hp47
      rw [hQ]
      rw [hAe] at hM
      exact z_vret hsz hx hb hr hlocks hK hM dX5_settle_50 (by
            have hv : vl (fun j => F (72 * 440 + j)) gv = (sg.toInt * (vl (fun j => F (72 * 440 + j)) gv : Nat)).natAbs := by
              rcases hsg with rfl | rfl | rfl
              · rw [show (-1 : Int32).toInt = -1 from rfl]; omega
              · exact absurd rfl hc11
              · rw [show (1 : Int32).toInt = 1 from rfl]; omega
            have hx3 : sg.toInt * (vl (fun j => F (72 * 440 + j)) gv : Nat) ≠ 0 → 0 = sb (sg.toInt * (vl (fun j => F (72 * 440 + j)) gv : Nat)) := by
              intro hz
              have e3 := sb_or (sg.toInt * (vl (fun j => F (72 * 440 + j)) gv : Nat))
              rcases hsg with rfl | rfl | rfl
              · exact absurd hc34 (by decide)
              · rw [show (0 : Int32).toInt = 0 from rfl] at hz; omega
              · rw [show (1 : Int32).toInt = 1 from rfl] at e3 hz ⊢; omega
            exact ⟨by rw [va_up_up, ← hv, settle_B hv hx3], nv_of hd2 hv (by omega)⟩)
    · refine lv_iconst (v := nI 1) hx hb dX5_settle_37 rfl ?_
      refine lv_goto (tgt := 42) hx hb dX5_settle_38 (by decide) ?_
      refine m_stB hok hx hb hK hM (by omega) (by omega) dX5_settle_42 (fun H locs hM => ?_)
      refine lv_aload_n hx hb dX5_settle_43 rfl (lv_at hl 0 rfl) ?_
      refine lv_sipush (v := nI 440) hx hb dX5_settle_44 rfl ?_
      have hd2 : dg (fun k => F (72 * 440 + k)) gv := hd
      refine z_callv0 (va_runV (As := [.int (nI 440)]) (rest := []) ⟨hx, hb, hml, hown, hts⟩ (m_trim2 l Γ hok G0 fl F (va_up L 440 gv) (va_up B 440 1) _ 440 gv _ (by omega) (va_up_self _ _ _) (by omega) hd2 rfl) (cwV 1 hts gX5_settle_X5_trim rfl rfl rfl (by decide +kernel) ⟨Nat.le_of_ble_eq_true rfl, Nat.le_of_ble_eq_true rfl⟩) (zM.preV hK hM (md_o hok) rfl rfl) rfl rfl hl.1 rfl (lv_room (Nat.le_of_ble_eq_true rfl)) dX5_settle_47 ⟨Nat.le_of_ble_eq_true rfl, Nat.le_of_ble_eq_true rfl⟩) hM (fun G47 H locs hp47 hM => ?_)
      obtain rfl := hp47
      rw [hQ]
      rw [hAe] at hM
      exact z_vret hsz hx hb hr hlocks hK hM dX5_settle_50 (by
            have hv : vl (fun j => F (72 * 440 + j)) gv = (sg.toInt * (vl (fun j => F (72 * 440 + j)) gv : Nat)).natAbs := by
              rcases hsg with rfl | rfl | rfl
              · rw [show (-1 : Int32).toInt = -1 from rfl]; omega
              · exact absurd rfl hc11
              · rw [show (1 : Int32).toInt = 1 from rfl]; omega
            have hx3 : sg.toInt * (vl (fun j => F (72 * 440 + j)) gv : Nat) ≠ 0 → 1 = sb (sg.toInt * (vl (fun j => F (72 * 440 + j)) gv : Nat)) := by
              intro hz
              have e3 := sb_or (sg.toInt * (vl (fun j => F (72 * 440 + j)) gv : Nat))
              rcases hsg with rfl | rfl | rfl
              · rw [show (-1 : Int32).toInt = -1 from rfl] at e3 hz ⊢; omega
              · exact absurd (by decide) hc34
              · exact absurd (by decide) hc34
            exact ⟨by rw [va_up_up, ← hv, settle_B hv hx3], nv_of hd2 hv (by omega)⟩)
  · refine lv_iconst (v := nI 0) hx hb dX5_settle_14 rfl ?_
    refine lv_goto (tgt := 22) hx hb dX5_settle_15 (by decide) ?_
    refine m_stL hok hx hb hK hM (by omega) dX5_settle_22 (fun H locs hM => ?_)
    refine lv_aload_n hx hb dX5_settle_23 rfl (lv_at hl 0 rfl) ?_
    refine m_get hok hx hb hts hin5 hown hK hM 6 hf_isBelow rfl (by decide) (v := .ref lB) rfl dX5_settle_24 ?_
    refine lv_sipush (v := nI 440) hx hb dX5_settle_27 rfl ?_
    refine lv_aload_n hx hb dX5_settle_30 rfl (lv_at hl 0 rfl) ?_
    refine m_get hok hx hb hts hin5 hown hK hM 13 hf_sign rfl (by decide) (v := .int (fl 13)) rfl dX5_settle_31 ?_
    refine z_asi (y := sg) (h13) ?_
    refine lv_if_ge (tgt := 41) hx hb dX5_settle_34 (by decide) (fun hc34 => ?_) (fun hc34 => ?_)
    · refine lv_iconst (v := nI 0) hx hb dX5_settle_41 rfl ?_
      refine m_stB hok hx hb hK hM (by omega) (by omega) dX5_settle_42 (fun H locs hM => ?_)
      refine lv_aload_n hx hb dX5_settle_43 rfl (lv_at hl 0 rfl) ?_
      refine lv_sipush (v := nI 440) hx hb dX5_settle_44 rfl ?_
      have hd2 : dg (fun k => F (72 * 440 + k)) 0 := fun k hk => by omega
      refine z_callv0 (va_runV (As := [.int (nI 440)]) (rest := []) ⟨hx, hb, hml, hown, hts⟩ (m_trim2 l Γ hok G0 fl F (va_up L 440 0) (va_up B 440 0) _ 440 0 _ (by omega) (va_up_self _ _ _) (by omega) hd2 rfl) (cwV 1 hts gX5_settle_X5_trim rfl rfl rfl (by decide +kernel) ⟨Nat.le_of_ble_eq_true rfl, Nat.le_of_ble_eq_true rfl⟩) (zM.preV hK hM (md_o hok) rfl rfl) rfl rfl hl.1 rfl (lv_room (Nat.le_of_ble_eq_true rfl)) dX5_settle_47 ⟨Nat.le_of_ble_eq_true rfl, Nat.le_of_ble_eq_true rfl⟩) hM (fun G47 H locs hp47 hM => ?_)
      obtain rfl := hp47
      rw [hQ]
      rw [hAe] at hM
      exact z_vret hsz hx hb hr hlocks hK hM dX5_settle_50 (by
            have hv : vl (fun j => F (72 * 440 + j)) 0 = (sg.toInt * (vl (fun j => F (72 * 440 + j)) gv : Nat)).natAbs := by
              rcases hsg with rfl | rfl | rfl
              · exact absurd hc11 (by decide)
              · rw [show (0 : Int32).toInt = 0 from rfl]; rw [vl_0]; omega
              · exact absurd hc11 (by decide)
            have hx3 : sg.toInt * (vl (fun j => F (72 * 440 + j)) gv : Nat) ≠ 0 → 0 = sb (sg.toInt * (vl (fun j => F (72 * 440 + j)) gv : Nat)) := by
              intro hz
              have e3 := sb_or (sg.toInt * (vl (fun j => F (72 * 440 + j)) gv : Nat))
              rcases hsg with rfl | rfl | rfl
              · exact absurd hc34 (by decide)
              · rw [show (0 : Int32).toInt = 0 from rfl] at hz; omega
              · rw [show (1 : Int32).toInt = 1 from rfl] at e3 hz ⊢; omega
            exact ⟨by rw [va_up_up, ← hv, settle_B hv hx3], nv_of hd2 hv (by omega)⟩)
    · refine lv_iconst (v := nI 1) hx hb dX5_settle_37 rfl ?_
      refine lv_goto (tgt := 42) hx hb dX5_settle_38 (by decide) ?_
      refine m_stB hok hx hb hK hM (by omega) (by omega) dX5_settle_42 (fun H locs hM => ?_)
      refine lv_aload_n hx hb dX5_settle_43 rfl (lv_at hl 0 rfl) ?_
      refine lv_sipush (v := nI 440) hx hb dX5_settle_44 rfl ?_
      have hd2 : dg (fun k => F (72 * 440 + k)) 0 := fun k hk => by omega
      refine z_callv0 (va_runV (As := [.int (nI 440)]) (rest := []) ⟨hx, hb, hml, hown, hts⟩ (m_trim2 l Γ hok G0 fl F (va_up L 440 0) (va_up B 440 1) _ 440 0 _ (by omega) (va_up_self _ _ _) (by omega) hd2 rfl) (cwV 1 hts gX5_settle_X5_trim rfl rfl rfl (by decide +kernel) ⟨Nat.le_of_ble_eq_true rfl, Nat.le_of_ble_eq_true rfl⟩) (zM.preV hK hM (md_o hok) rfl rfl) rfl rfl hl.1 rfl (lv_room (Nat.le_of_ble_eq_true rfl)) dX5_settle_47 ⟨Nat.le_of_ble_eq_true rfl, Nat.le_of_ble_eq_true rfl⟩) hM (fun G47 H locs hp47 hM => ?_)
      obtain rfl := hp47
      rw [hQ]
      rw [hAe] at hM
      exact z_vret hsz hx hb hr hlocks hK hM dX5_settle_50 (by
            have hv : vl (fun j => F (72 * 440 + j)) 0 = (sg.toInt * (vl (fun j => F (72 * 440 + j)) gv : Nat)).natAbs := by
              rcases hsg with rfl | rfl | rfl
              · exact absurd hc11 (by decide)
              · rw [show (0 : Int32).toInt = 0 from rfl]; rw [vl_0]; omega
              · exact absurd hc11 (by decide)
            have hx3 : sg.toInt * (vl (fun j => F (72 * 440 + j)) gv : Nat) ≠ 0 → 1 = sb (sg.toInt * (vl (fun j => F (72 * 440 + j)) gv : Nat)) := by
              intro hz
              have e3 := sb_or (sg.toInt * (vl (fun j => F (72 * 440 + j)) gv : Nat))
              rcases hsg with rfl | rfl | rfl
              · rw [show (-1 : Int32).toInt = -1 from rfl] at e3 hz ⊢; omega
              · exact absurd (by decide) hc34
              · exact absurd (by decide) hc34
            exact ⟨by rw [va_up_up, ← hv, settle_B hv hx3], nv_of hd2 hv (by omega)⟩)
end
section
set_option maxRecDepth 100000 in
set_option maxHeartbeats 4000000 in
theorem m_beginNumber (l : Launch) (Γ : zT) {o lF lL lB : Nat} (hok : mdk o lF lL lB) (G0 : zG) (F L B : Nat → Nat) (sz : Nat) (rf : Int32) (σ : AS) (sign : Int32) (hA : AI σ) (hR : MRep F L B σ) : zMi l yX5_beginNumber wsX5_beginNumber (zR 2) Γ (md Γ o lF lL lB G0 (mfs rf σ) F L B) sz [.ref o, .int sign] (fun r G' => ∃ F' L' B', G' = md Γ o lF lL lB G0 (mfs (nI 0) (op_begin sign σ).2) F' L' B' ∧ r = (op_begin sign σ).1 ∧ MRep F' L' B' (op_begin sign σ).2) 0 0 := by
  obtain ⟨⟨vars, maxR, cells⟩, ⟨nr, inp, R⟩, ⟨fil, V⟩, ⟨se, be, S⟩, P, ⟨st, sg, gv, g, z⟩⟩ := σ
  obtain ⟨⟨hv1, hv6, hm1, hm60, hc4⟩, ⟨hnr, hinp, hsei, hRs⟩, ⟨hfil, hVs⟩, ⟨hse, hbe, hSs⟩, hPs, hst, hgv, hsg, hz1, hgd, hz20⟩ := id hA
  obtain ⟨mR, mV, mS, mP, mg, mz, m1⟩ := id hR
  refine z_start (cc := cX5_beginNumber) (maxL := 2) (ret := (some .boolean)) (by decide) rfl (Nat.le_of_ble_eq_true rfl) ?_
  intro p e s m args below meth c ls Q hQ hsz hx hb hr hml hown hts hlocks hnm hK hM hl
  obtain ⟨A, hAe⟩ : ∃ A, A = zA (md Γ o lF lL lB G0 (mfl rf (nI vars) (nI maxR) (nI cells) (nI nr) (nI inp) (nI fil) (nI se) (nI be) (nI st) sg (nI gv)) F L B) s.heap.size := ⟨_, rfl⟩
  have hM : zM Γ A s.heap (md Γ o lF lL lB G0 (mfl rf (nI vars) (nI maxR) (nI cells) (nI nr) (nI inp) (nI fil) (nI se) (nI be) (nI st) sg (nI gv)) F L B) s.heap [] := by rw [hAe]; exact hM
  have hl : lv_has ls 2 [(0, .ref o), (1, .int sign)] := hl
  have hin5 : ∀ w ∈ wsX50, w ∈ wsX5_beginNumber := by decide +kernel
  have hf_refusal := hts (.fieldLink RX5 34 "CutRowsModel" "refusal" "I") (by decide +kernel)
  have hf_sign := hts (.fieldLink RX5 81 "CutRowsModel" "sign" "I") (by decide +kernel)
  have hf_state := hts (.fieldLink RX5 84 "CutRowsModel" "state" "I") (by decide +kernel)
  have hf_given := hts (.fieldLink RX5 87 "CutRowsModel" "given" "I") (by decide +kernel)
  refine lv_aload_n hx hb dX5_beginNumber_0 rfl (lv_at hl 0 rfl) ?_
  refine lv_iconst (v := nI 0) hx hb dX5_beginNumber_1 rfl ?_
  refine m_put hok hx hb hts hin5 hown hK hM 0 hf_refusal rfl (by decide) rfl (rfl) (rfl) (fl' := mfl (nI 0) (nI vars) (nI maxR) (nI cells) (nI nr) (nI inp) (nI fil) (nI se) (nI be) (nI st) sg (nI gv)) rfl dX5_beginNumber_2 (fun H locs hM => ?_)
  refine lv_iload_n hx hb dX5_beginNumber_5 rfl (lv_at hl 1 rfl) ?_
  refine lv_iconst (v := -1) hx hb dX5_beginNumber_6 rfl ?_
  refine lv_icmp_lt (tgt := 15) hx hb dX5_beginNumber_7 (by decide) (fun hc7 => ?_) (fun hc7 => ?_)
  · refine lv_iconst (v := nI 0) hx hb dX5_beginNumber_15 rfl ?_
    rw [hQ]
    rw [hAe] at hM
    exact z_zret (by omega) hsz hx hb hr hlocks hK hM dX5_beginNumber_16 (by simp only [op_begin]; rw [if_pos (Or.inl hc7)]; exact ⟨F, L, B, rfl, rfl, hR⟩)
  · refine lv_iload_n hx hb dX5_beginNumber_10 rfl (lv_at hl 1 rfl) ?_
    refine lv_iconst (v := nI 1) hx hb dX5_beginNumber_11 rfl ?_
    refine lv_icmp_le (tgt := 17) hx hb dX5_beginNumber_12 (by decide) (fun hc12 => ?_) (fun hc12 => ?_)
    · refine lv_aload_n hx hb dX5_beginNumber_17 rfl (lv_at hl 0 rfl) ?_
      refine lv_iload_n hx hb dX5_beginNumber_18 rfl (lv_at hl 1 rfl) ?_
      refine m_put hok hx hb hts hin5 hown hK hM 13 hf_sign rfl (by decide) rfl (rfl) (rfl) (fl' := mfl (nI 0) (nI vars) (nI maxR) (nI cells) (nI nr) (nI inp) (nI fil) (nI se) (nI be) (nI st) sign (nI gv)) rfl dX5_beginNumber_19 (fun H locs hM => ?_)
      refine lv_aload_n hx hb dX5_beginNumber_22 rfl (lv_at hl 0 rfl) ?_
      refine lv_iconst (v := nI 1) hx hb dX5_beginNumber_23 rfl ?_
      refine m_put hok hx hb hts hin5 hown hK hM 12 hf_state rfl (by decide) rfl (rfl) (rfl) (fl' := mfl (nI 0) (nI vars) (nI maxR) (nI cells) (nI nr) (nI inp) (nI fil) (nI se) (nI be) (nI 1) sign (nI gv)) rfl dX5_beginNumber_24 (fun H locs hM => ?_)
      refine lv_aload_n hx hb dX5_beginNumber_27 rfl (lv_at hl 0 rfl) ?_
      refine lv_iconst (v := nI 0) hx hb dX5_beginNumber_28 rfl ?_
      refine m_put hok hx hb hts hin5 hown hK hM 14 hf_given rfl (by decide) rfl (rfl) (rfl) (fl' := mfl (nI 0) (nI vars) (nI maxR) (nI cells) (nI nr) (nI inp) (nI fil) (nI se) (nI be) (nI 1) sign (nI 0)) rfl dX5_beginNumber_29 (fun H locs hM => ?_)
      refine lv_aload_n hx hb dX5_beginNumber_32 rfl (lv_at hl 0 rfl) ?_
      refine lv_sipush (v := nI 440) hx hb dX5_beginNumber_33 rfl ?_
      refine z_callv0 (va_runV (As := [.int (nI 440)]) (rest := []) ⟨hx, hb, hml, hown, hts⟩ (m_clear l Γ hok G0 _ F L B _ 440 (by omega)) (cwV 1 hts gX5_beginNumber_X5_clear rfl rfl rfl (by decide +kernel) ⟨Nat.le_of_ble_eq_true rfl, Nat.le_of_ble_eq_true rfl⟩) (zM.preV hK hM (md_o hok) rfl rfl) rfl rfl hl.1 rfl (lv_room (Nat.le_of_ble_eq_true rfl)) dX5_beginNumber_36 ⟨Nat.le_of_ble_eq_true rfl, Nat.le_of_ble_eq_true rfl⟩) hM (fun G36 H locs hp36 hM => ?_)
      obtain rfl := hp36
      obtain ⟨L1, B1, hM, s1, n1, b1⟩ := clear_rel hM
      refine lv_iconst (v := nI 1) hx hb dX5_beginNumber_39 rfl ?_
      rw [hQ]
      rw [hAe] at hM
      exact z_zret (by omega) hsz hx hb hr hlocks hK hM dX5_beginNumber_40 (by simp only [op_begin]; rw [if_neg (fun h => h.elim hc7 (fun h2 => absurd hc12 (Int32.not_le.mpr h2)))]; exact ⟨F, L1, B1, rfl, rfl, fun r k h1 h2 => (mR r k h1 h2).sm s1 (Or.inl (by omega)), fun k h1 => (mV k h1).sm s1 (Or.inl (by omega)), fun h0 k h1 => (mS h0 k h1).sm s1 (Or.inl (by omega)), fun k h1 => (mP k h1).sm s1 (Or.inl (by omega)), fun _ j hj => by omega, fun h => absurd h (by decide), s1.nv (Or.inr (by omega)) m1⟩)
    · refine lv_iconst (v := nI 0) hx hb dX5_beginNumber_15 rfl ?_
      rw [hQ]
      rw [hAe] at hM
      exact z_zret (by omega) hsz hx hb hr hlocks hK hM dX5_beginNumber_16 (by simp only [op_begin]; rw [if_pos (Or.inr (show (1 : Int32) < sign from Int32.not_le.mp hc12))]; exact ⟨F, L, B, rfl, rfl, hR⟩)

set_option maxRecDepth 100000 in
set_option maxHeartbeats 4000000 in
theorem m_limb (l : Launch) (Γ : zT) {o lF lL lB : Nat} (hok : mdk o lF lL lB) (G0 : zG) (F L B : Nat → Nat) (sz : Nat) (rf : Int32) (σ : AS) (ww : Int32) (hA : AI σ) (hR : MRep F L B σ) : zMi l yX5_limb wsX5_limb (zR 1) Γ (md Γ o lF lL lB G0 (mfs rf σ) F L B) sz [.ref o, .int ww] (fun r G' => ∃ F' L' B', G' = md Γ o lF lL lB G0 (mfs (nI 0) (op_limb ww σ).2) F' L' B' ∧ r = (op_limb ww σ).1 ∧ MRep F' L' B' (op_limb ww σ).2) 0 0 := by
  obtain ⟨⟨vars, maxR, cells⟩, ⟨nr, inp, R⟩, ⟨fil, V⟩, ⟨se, be, S⟩, P, ⟨st, sg, gv, g, z⟩⟩ := σ
  obtain ⟨⟨hv1, hv6, hm1, hm60, hc4⟩, ⟨hnr, hinp, hsei, hRs⟩, ⟨hfil, hVs⟩, ⟨hse, hbe, hSs⟩, hPs, hst, hgv, hsg, hz1, hgd, hz20⟩ := id hA
  obtain ⟨mR, mV, mS, mP, mg, mz, m1⟩ := id hR
  refine z_start (cc := cX5_limb) (maxL := 2) (ret := (some .boolean)) (by decide) rfl (Nat.le_of_ble_eq_true rfl) ?_
  intro p e s m args below meth c ls Q hQ hsz hx hb hr hml hown hts hlocks hnm hK hM hl
  obtain ⟨A, hAe⟩ : ∃ A, A = zA (md Γ o lF lL lB G0 (mfl rf (nI vars) (nI maxR) (nI cells) (nI nr) (nI inp) (nI fil) (nI se) (nI be) (nI st) sg (nI gv)) F L B) s.heap.size := ⟨_, rfl⟩
  have hM : zM Γ A s.heap (md Γ o lF lL lB G0 (mfl rf (nI vars) (nI maxR) (nI cells) (nI nr) (nI inp) (nI fil) (nI se) (nI be) (nI st) sg (nI gv)) F L B) s.heap [] := by rw [hAe]; exact hM
  have hl : lv_has ls 2 [(0, .ref o), (1, .int ww)] := hl
  have hin5 : ∀ w ∈ wsX50, w ∈ wsX5_limb := by decide +kernel
  have hf_limbs := hts (.fieldLink RX5 7 "CutRowsModel" "limbs" "[I") (by decide +kernel)
  have hf_refusal := hts (.fieldLink RX5 34 "CutRowsModel" "refusal" "I") (by decide +kernel)
  have hf_state := hts (.fieldLink RX5 84 "CutRowsModel" "state" "I") (by decide +kernel)
  have hf_given := hts (.fieldLink RX5 87 "CutRowsModel" "given" "I") (by decide +kernel)
  refine lv_aload_n hx hb dX5_limb_0 rfl (lv_at hl 0 rfl) ?_
  refine lv_iconst (v := nI 0) hx hb dX5_limb_1 rfl ?_
  refine m_put hok hx hb hts hin5 hown hK hM 0 hf_refusal rfl (by decide) rfl (rfl) (rfl) (fl' := mfl (nI 0) (nI vars) (nI maxR) (nI cells) (nI nr) (nI inp) (nI fil) (nI se) (nI be) (nI st) sg (nI gv)) rfl dX5_limb_2 (fun H locs hM => ?_)
  refine lv_iload_n hx hb dX5_limb_5 rfl (lv_at hl 1 rfl) ?_
  refine lv_if_lt (tgt := 26) hx hb dX5_limb_6 (by decide) (fun hc6 => ?_) (fun hc6 => ?_)
  · refine lv_iconst (v := nI 0) hx hb dX5_limb_26 rfl ?_
    rw [hQ]
    rw [hAe] at hM
    exact z_zret (by omega) hsz hx hb hr hlocks hK hM dX5_limb_27 (by simp only [op_limb]; rw [if_pos (Or.inl hc6)]; exact ⟨F, L, B, rfl, rfl, hR⟩)
  · refine lv_aload_n hx hb dX5_limb_9 rfl (lv_at hl 0 rfl) ?_
    refine m_get hok hx hb hts hin5 hown hK hM 12 hf_state rfl (by decide) (v := .int (nI st)) rfl dX5_limb_10 ?_
    refine lv_iconst (v := nI 1) hx hb dX5_limb_13 rfl ?_
    refine z_icmp_ne (tgt := 26) hx hb (by omega) (by omega) dX5_limb_14 (by decide) (fun hc14 => ?_) (fun hc14 => ?_)
    · refine lv_iconst (v := nI 0) hx hb dX5_limb_26 rfl ?_
      rw [hQ]
      rw [hAe] at hM
      exact z_zret (by omega) hsz hx hb hr hlocks hK hM dX5_limb_27 (by simp only [op_limb]; rw [if_pos (Or.inr (Or.inl hc14))]; exact ⟨F, L, B, rfl, rfl, hR⟩)
    · refine lv_aload_n hx hb dX5_limb_17 rfl (lv_at hl 0 rfl) ?_
      refine m_get hok hx hb hts hin5 hown hK hM 14 hf_given rfl (by decide) (v := .int (nI gv)) rfl dX5_limb_18 ?_
      refine lv_bipush (v := nI 20) hx hb dX5_limb_21 rfl ?_
      refine z_icmp_ne (tgt := 28) hx hb (by omega) (by omega) dX5_limb_23 (by decide) (fun hc23 => ?_) (fun hc23 => ?_)
      · obtain ⟨wn, hwn, rfl⟩ : ∃ j : Nat, j < 2 ^ 31 ∧ ww = nI j := nI_of hc6
        refine lv_aload_n hx hb dX5_limb_28 rfl (lv_at hl 0 rfl) ?_
        refine m_get hok hx hb hts hin5 hown hK hM 4 hf_limbs rfl (by decide) (v := .ref lF) rfl dX5_limb_29 ?_
        refine lv_sipush (v := nI 31680) hx hb dX5_limb_32 rfl ?_
        refine lv_aload_n hx hb dX5_limb_35 rfl (lv_at hl 0 rfl) ?_
        refine m_get hok hx hb hts hin5 hown hK hM 14 hf_given rfl (by decide) (v := .int (nI gv)) rfl dX5_limb_36 ?_
        refine z_iadd hx hb dX5_limb_39 ?_
        refine z_asi (y := nI (72 * 440 + gv)) (congrArg nI (by omega)) ?_
        refine lv_iload_n hx hb dX5_limb_40 rfl (lv_at hl 1 rfl) ?_
        refine m_stF hok hx hb hK hM (by omega) dX5_limb_41 (fun H locs hM => ?_)
        refine lv_aload_n hx hb dX5_limb_42 rfl (lv_at hl 0 rfl) ?_
        refine lv_dup hx hb dX5_limb_43 rfl ?_
        refine m_get hok hx hb hts hin5 hown hK hM 14 hf_given rfl (by decide) (v := .int (nI gv)) rfl dX5_limb_44 ?_
        refine lv_iconst (v := nI 1) hx hb dX5_limb_47 rfl ?_
        refine z_iadd hx hb dX5_limb_48 ?_
        refine m_put hok hx hb hts hin5 hown hK hM 14 hf_given rfl (by decide) rfl (rfl) (rfl) (fl' := mfl (nI 0) (nI vars) (nI maxR) (nI cells) (nI nr) (nI inp) (nI fil) (nI se) (nI be) (nI st) sg (nI (gv + 1))) rfl dX5_limb_49 (fun H locs hM => ?_)
        refine lv_iconst (v := nI 1) hx hb dX5_limb_52 rfl ?_
        rw [hQ]
        rw [hAe] at hM
        exact z_zret (by omega) hsz hx hb hr hlocks hK hM dX5_limb_53 (by
              have hneg : ¬ (nI wn < 0 ∨ st ≠ 1 ∨ gv = 20) := by rintro (h | h | h); exact hc6 h; omega; omega
              have s1 : sm 440 441 F L B (va_up F (72 * 440 + gv) wn) L B := smF (fun j hj => va_up_ne _ _ (by omega))
              simp only [op_limb]; rw [if_neg hneg, nI_clamp hwn]; exact ⟨va_up F (72 * 440 + gv) wn, L, B, rfl, rfl, fun r k h1 h2 => (mR r k h1 h2).sm s1 (Or.inl (by omega)), fun k h1 => (mV k h1).sm s1 (Or.inl (by omega)), fun h0 k h1 => (mS h0 k h1).sm s1 (Or.inl (by omega)), fun k h1 => (mP k h1).sm s1 (Or.inl (by omega)), fun h j hj => by by_cases hc : j = gv; subst hc; rw [va_up_self, va_up_self]; rw [va_up_ne _ _ (by omega), va_up_ne _ _ hc]; exact mg h j (by omega), fun h => by omega, s1.nv (Or.inr (by omega)) m1⟩)
      · refine lv_iconst (v := nI 0) hx hb dX5_limb_26 rfl ?_
        rw [hQ]
        rw [hAe] at hM
        exact z_zret (by omega) hsz hx hb hr hlocks hK hM dX5_limb_27 (by simp only [op_limb]; rw [if_pos (Or.inr (Or.inr hc23))]; exact ⟨F, L, B, rfl, rfl, hR⟩)

set_option maxRecDepth 100000 in
set_option maxHeartbeats 4000000 in
theorem m_endCoefficient (l : Launch) (Γ : zT) {o lF lL lB : Nat} (hok : mdk o lF lL lB) (G0 : zG) (F L B : Nat → Nat) (sz : Nat) (rf : Int32) (σ : AS)  (hA : AI σ) (hR : MRep F L B σ) : zMi l yX5_endCoefficient wsX5_endCoefficient (zR 3) Γ (md Γ o lF lL lB G0 (mfs rf σ) F L B) sz [.ref o] (fun r G' => ∃ F' L' B', G' = md Γ o lF lL lB G0 (mfs (nI 0) (op_endCoef σ).2) F' L' B' ∧ r = (op_endCoef σ).1 ∧ MRep F' L' B' (op_endCoef σ).2) 0 0 := by
  obtain ⟨⟨vars, maxR, cells⟩, ⟨nr, inp, R⟩, ⟨fil, V⟩, ⟨se, be, S⟩, P, ⟨st, sg, gv, g, z⟩⟩ := σ
  obtain ⟨⟨hv1, hv6, hm1, hm60, hc4⟩, ⟨hnr, hinp, hsei, hRs⟩, ⟨hfil, hVs⟩, ⟨hse, hbe, hSs⟩, hPs, hst, hgv, hsg, hz1, hgd, hz20⟩ := id hA
  obtain ⟨mR, mV, mS, mP, mg, mz, m1⟩ := id hR
  refine z_start (cc := cX5_endCoefficient) (maxL := 1) (ret := (some .boolean)) (by decide) rfl (Nat.le_of_ble_eq_true rfl) ?_
  intro p e s m args below meth c ls Q hQ hsz hx hb hr hml hown hts hlocks hnm hK hM hl
  obtain ⟨A, hAe⟩ : ∃ A, A = zA (md Γ o lF lL lB G0 (mfl rf (nI vars) (nI maxR) (nI cells) (nI nr) (nI inp) (nI fil) (nI se) (nI be) (nI st) sg (nI gv)) F L B) s.heap.size := ⟨_, rfl⟩
  have hM : zM Γ A s.heap (md Γ o lF lL lB G0 (mfl rf (nI vars) (nI maxR) (nI cells) (nI nr) (nI inp) (nI fil) (nI se) (nI be) (nI st) sg (nI gv)) F L B) s.heap [] := by rw [hAe]; exact hM
  have hl : lv_has ls 1 [(0, .ref o)] := hl
  have hin5 : ∀ w ∈ wsX50, w ∈ wsX5_endCoefficient := by decide +kernel
  have hf_vars := hts (.fieldLink RX5 24 "CutRowsModel" "vars" "I") (by decide +kernel)
  have hf_refusal := hts (.fieldLink RX5 34 "CutRowsModel" "refusal" "I") (by decide +kernel)
  have hf_state := hts (.fieldLink RX5 84 "CutRowsModel" "state" "I") (by decide +kernel)
  have hf_filled := hts (.fieldLink RX5 90 "CutRowsModel" "filled" "I") (by decide +kernel)
  refine lv_aload_n hx hb dX5_endCoefficient_0 rfl (lv_at hl 0 rfl) ?_
  refine lv_iconst (v := nI 0) hx hb dX5_endCoefficient_1 rfl ?_
  refine m_put hok hx hb hts hin5 hown hK hM 0 hf_refusal rfl (by decide) rfl (rfl) (rfl) (fl' := mfl (nI 0) (nI vars) (nI maxR) (nI cells) (nI nr) (nI inp) (nI fil) (nI se) (nI be) (nI st) sg (nI gv)) rfl dX5_endCoefficient_2 (fun H locs hM => ?_)
  refine lv_aload_n hx hb dX5_endCoefficient_5 rfl (lv_at hl 0 rfl) ?_
  refine m_get hok hx hb hts hin5 hown hK hM 12 hf_state rfl (by decide) (v := .int (nI st)) rfl dX5_endCoefficient_6 ?_
  refine lv_iconst (v := nI 1) hx hb dX5_endCoefficient_9 rfl ?_
  refine z_icmp_ne (tgt := 26) hx hb (by omega) (by omega) dX5_endCoefficient_10 (by decide) (fun hc10 => ?_) (fun hc10 => ?_)
  · refine lv_iconst (v := nI 0) hx hb dX5_endCoefficient_26 rfl ?_
    rw [hQ]
    rw [hAe] at hM
    exact z_zret (by omega) hsz hx hb hr hlocks hK hM dX5_endCoefficient_27 (by simp only [op_endCoef]; rw [if_pos (Or.inl hc10)]; exact ⟨F, L, B, rfl, rfl, hR⟩)
  · refine lv_aload_n hx hb dX5_endCoefficient_13 rfl (lv_at hl 0 rfl) ?_
    refine m_get hok hx hb hts hin5 hown hK hM 9 hf_filled rfl (by decide) (v := .int (nI fil)) rfl dX5_endCoefficient_14 ?_
    refine lv_aload_n hx hb dX5_endCoefficient_17 rfl (lv_at hl 0 rfl) ?_
    refine m_get hok hx hb hts hin5 hown hK hM 1 hf_vars rfl (by decide) (v := .int (nI vars)) rfl dX5_endCoefficient_18 ?_
    refine lv_iconst (v := nI 1) hx hb dX5_endCoefficient_21 rfl ?_
    refine z_iadd hx hb dX5_endCoefficient_22 ?_
    refine z_icmp_ne (tgt := 28) hx hb (by omega) (by omega) dX5_endCoefficient_23 (by decide) (fun hc23 => ?_) (fun hc23 => ?_)
    · refine lv_aload_n hx hb dX5_endCoefficient_28 rfl (lv_at hl 0 rfl) ?_
      have hst1 : st = 1 := by omega
      have hdg : dg (fun j => F (72 * 440 + j)) gv := fun j hj => by show F _ < _; rw [mg hst1 j hj]; exact hgd j hj
      have hzz : sg.toInt * (vl (fun j => F (72 * 440 + j)) gv : Nat) = z := by rw [hz1 hst1, vl_congr (fun j hj => mg hst1 j hj)]
      refine z_callv0 (va_runV (As := []) (rest := []) ⟨hx, hb, hml, hown, hts⟩ (m_settle l Γ hok G0 _ F L B _ sg gv rfl rfl hgv hsg hdg) (cwV 0 hts gX5_endCoefficient_X5_settle rfl rfl rfl (by decide +kernel) ⟨Nat.le_of_ble_eq_true rfl, Nat.le_of_ble_eq_true rfl⟩) (zM.preV hK hM (md_o hok) rfl rfl) rfl rfl hl.1 rfl (lv_room (Nat.le_of_ble_eq_true rfl)) dX5_endCoefficient_29 ⟨Nat.le_of_ble_eq_true rfl, Nat.le_of_ble_eq_true rfl⟩) hM (fun G29 H locs hp29 hM => ?_)
      obtain ⟨rfl, hns⟩ := hp29
      rw [hzz] at hM hns
      obtain ⟨L1, B1, hM, s1, n1, b1⟩ := sign_rel (F := F) hM (fun _ _ => rfl) hns
      refine lv_aload_n hx hb dX5_endCoefficient_32 rfl (lv_at hl 0 rfl) ?_
      refine lv_iconst (v := nI 2) hx hb dX5_endCoefficient_33 rfl ?_
      refine m_put hok hx hb hts hin5 hown hK hM 12 hf_state rfl (by decide) rfl (rfl) (rfl) (fl' := mfl (nI 0) (nI vars) (nI maxR) (nI cells) (nI nr) (nI inp) (nI fil) (nI se) (nI be) (nI 2) sg (nI gv)) rfl dX5_endCoefficient_34 (fun H locs hM => ?_)
      refine lv_aload_n hx hb dX5_endCoefficient_37 rfl (lv_at hl 0 rfl) ?_
      refine lv_sipush (v := nI 420) hx hb dX5_endCoefficient_38 rfl ?_
      refine lv_aload_n hx hb dX5_endCoefficient_41 rfl (lv_at hl 0 rfl) ?_
      refine m_get hok hx hb hts hin5 hown hK hM 9 hf_filled rfl (by decide) (v := .int (nI fil)) rfl dX5_endCoefficient_42 ?_
      refine z_iadd hx hb dX5_endCoefficient_45 ?_
      refine lv_sipush (v := nI 440) hx hb dX5_endCoefficient_46 rfl ?_
      refine z_callv0 (va_runV (As := [.int (nI (420 + fil)), .int (nI 440)]) (rest := []) ⟨hx, hb, hml, hown, hts⟩ (m_copy l Γ hok G0 _ F L1 B1 _ (420 + fil) 440 (by omega) (by omega) (by omega) n1.le (by rw [b1]; exact sb_lt z)) (cwV 2 hts gX5_endCoefficient_X5_copy rfl rfl rfl (by decide +kernel) ⟨Nat.le_of_ble_eq_true rfl, Nat.le_of_ble_eq_true rfl⟩) (zM.preV hK hM (md_o hok) rfl rfl) rfl rfl hl.1 rfl (lv_room (Nat.le_of_ble_eq_true rfl)) dX5_endCoefficient_49 ⟨Nat.le_of_ble_eq_true rfl, Nat.le_of_ble_eq_true rfl⟩) hM (fun G49 H locs hp49 hM => ?_)
      obtain rfl := hp49
      obtain ⟨F2, L2, B2, hM, s2, n2, b2⟩ := copy_rel hM n1
      refine lv_aload_n hx hb dX5_endCoefficient_52 rfl (lv_at hl 0 rfl) ?_
      refine lv_dup hx hb dX5_endCoefficient_53 rfl ?_
      refine m_get hok hx hb hts hin5 hown hK hM 9 hf_filled rfl (by decide) (v := .int (nI fil)) rfl dX5_endCoefficient_54 ?_
      refine lv_iconst (v := nI 1) hx hb dX5_endCoefficient_57 rfl ?_
      refine z_iadd hx hb dX5_endCoefficient_58 ?_
      refine m_put hok hx hb hts hin5 hown hK hM 9 hf_filled rfl (by decide) rfl (rfl) (rfl) (fl' := mfl (nI 0) (nI vars) (nI maxR) (nI cells) (nI nr) (nI inp) (nI (fil + 1)) (nI se) (nI be) (nI 2) sg (nI gv)) rfl dX5_endCoefficient_59 (fun H locs hM => ?_)
      refine lv_iconst (v := nI 1) hx hb dX5_endCoefficient_62 rfl ?_
      rw [hQ]
      rw [hAe] at hM
      exact z_zret (by omega) hsz hx hb hr hlocks hK hM dX5_endCoefficient_63 (by
            simp only [op_endCoef]; rw [if_neg (by omega)]
            exact ⟨F2, L2, B2, rfl, rfl, fun r k h1 h2 => ((mR r k h1 h2).sm s1 (Or.inl (by omega))).sm s2 (Or.inl (by omega)), fun k h1 => by by_cases hc : k = fil; subst hc; rw [va_up_self]; exact ⟨n2, by rw [b2, b1]⟩; rw [va_up_ne _ _ hc]; exact ((mV k (by omega)).sm s1 (Or.inl (by omega))).sm s2 (by omega), fun h0 k h1 => ((mS h0 k h1).sm s1 (Or.inl (by omega))).sm s2 (by omega), fun k h1 => ((mP k h1).sm s1 (Or.inl (by omega))).sm s2 (by omega), fun h => absurd h (by decide), fun _ => nz.sm ⟨n1, b1⟩ s2 (by omega), s2.nv (by omega) (s1.nv (by omega) m1)⟩)
    · refine lv_iconst (v := nI 0) hx hb dX5_endCoefficient_26 rfl ?_
      rw [hQ]
      rw [hAe] at hM
      exact z_zret (by omega) hsz hx hb hr hlocks hK hM dX5_endCoefficient_27 (by simp only [op_endCoef]; rw [if_pos (Or.inr hc23)]; exact ⟨F, L, B, rfl, rfl, hR⟩)

set_option maxRecDepth 100000 in
set_option maxHeartbeats 4000000 in
theorem m_store (l : Launch) (Γ : zT) {o lF lL lB : Nat} (hok : mdk o lF lL lB) (G0 : zG) (F L B : Nat → Nat) (sz : Nat) (rf : Int32) (σ : AS) (X : Nat → Int) (fr : Nat) (hfr : 420 ≤ fr) (hfr2 : fr ≤ 448) (hX : ∀ k, k ≤ σ.1.1 → nz F L B (fr + k) (X k)) (hX48 : ∀ k, k ≤ σ.1.1 → nl (X k).natAbs ≤ 48) (hA : AI σ) (hR : MRep F L B σ) : zMi l yX5_store wsX5_store (zR 2) Γ (md Γ o lF lL lB G0 (mfs rf σ) F L B) sz [.ref o, .int (nI fr)] (fun r G' => ∃ F' L' B', G' = md Γ o lF lL lB G0 (mfs rf (op_store X σ).2) F' L' B' ∧ r = (match (op_store X σ).1 with | none => -4 | some n => nI n) ∧ MRep F' L' B' (op_store X σ).2 ∧ sm 0 420 F L B F' L' B') 0 0 := by
  obtain ⟨⟨vars, maxR, cells⟩, ⟨nr, inp, R⟩, ⟨fil, V⟩, ⟨se, be, S⟩, P, ⟨st, sg, gv, g, z⟩⟩ := σ
  obtain ⟨⟨hv1, hv6, hm1, hm60, hc4⟩, ⟨hnr, hinp, hsei, hRs⟩, ⟨hfil, hVs⟩, ⟨hse, hbe, hSs⟩, hPs, hst, hgv, hsg, hz1, hgd, hz20⟩ := id hA
  obtain ⟨mR, mV, mS, mP, mg, mz, m1⟩ := id hR
  refine z_start (cc := cX5_store) (maxL := 4) (ret := (some .int)) (by decide) rfl (Nat.le_of_ble_eq_true rfl) ?_
  intro p e s m args below meth c ls Q hQ hsz hx hb hr hml hown hts hlocks hnm hK hM hl
  obtain ⟨A, hAe⟩ : ∃ A, A = zA (md Γ o lF lL lB G0 (mfl rf (nI vars) (nI maxR) (nI cells) (nI nr) (nI inp) (nI fil) (nI se) (nI be) (nI st) sg (nI gv)) F L B) s.heap.size := ⟨_, rfl⟩
  have hM : zM Γ A s.heap (md Γ o lF lL lB G0 (mfl rf (nI vars) (nI maxR) (nI cells) (nI nr) (nI inp) (nI fil) (nI se) (nI be) (nI st) sg (nI gv)) F L B) s.heap [] := by rw [hAe]; exact hM
  have hl : lv_has ls 4 [(0, .ref o), (1, .int (nI fr))] := hl
  have hin5 : ∀ w ∈ wsX50, w ∈ wsX5_store := by decide +kernel
  have hf_length := hts (.fieldLink RX5 13 "CutRowsModel" "length" "[I") (by decide +kernel)
  have hf_vars := hts (.fieldLink RX5 24 "CutRowsModel" "vars" "I") (by decide +kernel)
  have hf_maxRows := hts (.fieldLink RX5 28 "CutRowsModel" "maxRows" "I") (by decide +kernel)
  have hf_cells := hts (.fieldLink RX5 31 "CutRowsModel" "cells" "I") (by decide +kernel)
  have hf_rows := hts (.fieldLink RX5 96 "CutRowsModel" "rows" "I") (by decide +kernel)
  have hX : ∀ k, k ≤ vars → nz F L B (fr + k) (X k) := hX
  have hX48 : ∀ k, k ≤ vars → nl (X k).natAbs ≤ 48 := hX48
  have hneed : ∀ k, k ≤ vars + 1 → need X k ≤ 49 * k := by
    intro k; induction k with
    | zero => intro _; exact Nat.le_refl 0
    | succ k ih => intro hk; have := ih (by omega); have := hX48 k (by omega); simp only [need]; omega
  refine lv_iconst (v := nI 0) hx hb dX5_store_0 rfl ?_
  refine lv_istore_n (lv' := [(2, .int (nI 0)), (0, .ref o), (1, .int (nI fr))]) hx hb dX5_store_1 rfl hl (by decide) rfl (fun ls hl => ?_)
  refine lv_iconst (v := nI 0) hx hb dX5_store_2 rfl ?_
  refine lv_istore_n (lv' := [(3, .int (nI 0)), (2, .int (nI 0)), (0, .ref o), (1, .int (nI fr))]) hx hb dX5_store_3 rfl hl (by decide) rfl (fun ls hl => ?_)
  have lp : ∀ (μ : Nat) (k : Nat), vars + 1 - k = μ → (k ≤ vars + 1) → ∀ (ls : Array Slot) (H : Heap) (locs : List Loc), lv_has ls 4 [(3, .int (nI k)), (2, .int (nI (need X k))), (0, .ref o), (1, .int (nI fr))] → zM Γ A s.heap (md Γ o lF lL lB G0 (mfl rf (nI vars) (nI maxR) (nI cells) (nI nr) (nI inp) (nI fil) (nI se) (nI be) (nI st) sg (nI gv)) F L B) H locs → W p l e (zR 2) s m args below meth c H locs 0 0 Q (F0 m 4 ls []) := by
    intro μ
    induction μ using Nat.strongRecOn with
    | _ μ ihlp =>
      intro k hμ hk ls H locs hl hM
      refine lv_iload_n hx hb dX5_store_4 rfl (lv_at hl 0 rfl) ?_
      refine lv_aload_n hx hb dX5_store_5 rfl (lv_at hl 2 rfl) ?_
      refine m_get hok hx hb hts hin5 hown hK hM 1 hf_vars rfl (by decide) (v := .int (nI vars)) rfl dX5_store_6 ?_
      refine z_icmp_gt (tgt := 31) hx hb (by omega) (by omega) dX5_store_9 (by decide) (fun hc9 => ?_) (fun hc9 => ?_)
      · have hkv : k = vars + 1 := by omega
        subst hkv
        have hnd := hneed (vars + 1) (Nat.le_refl _)
        refine lv_aload_n hx hb dX5_store_31 rfl (lv_at hl 2 rfl) ?_
        refine m_get hok hx hb hts hin5 hown hK hM 7 hf_rows rfl (by decide) (v := .int (nI nr)) rfl dX5_store_32 ?_
        refine lv_aload_n hx hb dX5_store_35 rfl (lv_at hl 2 rfl) ?_
        refine m_get hok hx hb hts hin5 hown hK hM 2 hf_maxRows rfl (by decide) (v := .int (nI maxR)) rfl dX5_store_36 ?_
        refine z_icmp_eq (tgt := 50) hx hb (by omega) (by omega) dX5_store_39 (by decide) (fun hc39 => ?_) (fun hc39 => ?_)
        · refine lv_bipush (v := -4) hx hb dX5_store_50 rfl ?_
          rw [hQ]
          rw [hAe] at hM
          exact z_iret hsz hx hb hr hlocks hK hM dX5_store_52 (by
                simp only [op_store]; rw [if_pos (Or.inl hc39)]; exact ⟨F, L, B, rfl, rfl, hR, sm.rf⟩)
        · refine lv_iload_n hx hb dX5_store_42 rfl (lv_at hl 1 rfl) ?_
          refine lv_aload_n hx hb dX5_store_43 rfl (lv_at hl 2 rfl) ?_
          refine m_get hok hx hb hts hin5 hown hK hM 3 hf_cells rfl (by decide) (v := .int (nI cells)) rfl dX5_store_44 ?_
          refine z_icmp_le (tgt := 53) hx hb (by omega) (by omega) dX5_store_47 (by decide) (fun hc47 => ?_) (fun hc47 => ?_)
          · refine lv_iconst (v := nI 0) hx hb dX5_store_53 rfl ?_
            refine lv_istore_n (lv' := [(3, .int (nI 0)), (2, .int (nI (need X (vars + 1)))), (0, .ref o), (1, .int (nI fr))]) hx hb dX5_store_54 rfl hl (by decide) rfl (fun ls hl => ?_)
            have lq : ∀ (μ : Nat) (k : Nat) (F1 : Nat → Nat) (L1 : Nat → Nat) (B1 : Nat → Nat), vars + 1 - k = μ → (k ≤ vars + 1) → (sm (7 * nr) (7 * nr + 7) F L B F1 L1 B1) → (∀ j, j < k → nz F1 L1 B1 (7 * nr + j) (X j)) → ∀ (ls : Array Slot) (H : Heap) (locs : List Loc), lv_has ls 4 [(3, .int (nI k)), (2, .int (nI (need X (vars + 1)))), (0, .ref o), (1, .int (nI fr))] → zM Γ A s.heap (md Γ o lF lL lB G0 (mfl rf (nI vars) (nI maxR) (nI cells) (nI nr) (nI inp) (nI fil) (nI se) (nI be) (nI st) sg (nI gv)) F1 L1 B1) H locs → W p l e (zR 2) s m args below meth c H locs 0 0 Q (F0 m 55 ls []) := by
              intro μ
              induction μ using Nat.strongRecOn with
              | _ μ ihlq =>
                intro k F1 L1 B1 hμ hk u1 u2 ls H locs hl hM
                refine lv_iload_n hx hb dX5_store_55 rfl (lv_at hl 0 rfl) ?_
                refine lv_aload_n hx hb dX5_store_56 rfl (lv_at hl 2 rfl) ?_
                refine m_get hok hx hb hts hin5 hown hK hM 1 hf_vars rfl (by decide) (v := .int (nI vars)) rfl dX5_store_57 ?_
                refine z_icmp_gt (tgt := 84) hx hb (by omega) (by omega) dX5_store_60 (by decide) (fun hc60 => ?_) (fun hc60 => ?_)
                · refine lv_aload_n hx hb dX5_store_84 rfl (lv_at hl 2 rfl) ?_
                  refine lv_aload_n hx hb dX5_store_85 rfl (lv_at hl 2 rfl) ?_
                  refine m_get hok hx hb hts hin5 hown hK hM 3 hf_cells rfl (by decide) (v := .int (nI cells)) rfl dX5_store_86 ?_
                  refine lv_iload_n hx hb dX5_store_89 rfl (lv_at hl 1 rfl) ?_
                  refine z_isub hx hb (by omega) dX5_store_90 ?_
                  refine m_put hok hx hb hts hin5 hown hK hM 3 hf_cells rfl (by decide) rfl (rfl) (rfl) (fl' := mfl rf (nI vars) (nI maxR) (nI (cells - (need X (vars + 1)))) (nI nr) (nI inp) (nI fil) (nI se) (nI be) (nI st) sg (nI gv)) rfl dX5_store_91 (fun H locs hM => ?_)
                  refine lv_aload_n hx hb dX5_store_94 rfl (lv_at hl 2 rfl) ?_
                  refine lv_dup hx hb dX5_store_95 rfl ?_
                  refine m_get hok hx hb hts hin5 hown hK hM 7 hf_rows rfl (by decide) (v := .int (nI nr)) rfl dX5_store_96 ?_
                  refine lv_iconst (v := nI 1) hx hb dX5_store_99 rfl ?_
                  refine z_iadd hx hb dX5_store_100 ?_
                  refine m_put hok hx hb hts hin5 hown hK hM 7 hf_rows rfl (by decide) rfl (rfl) (rfl) (fl' := mfl rf (nI vars) (nI maxR) (nI (cells - (need X (vars + 1)))) (nI (nr + 1)) (nI inp) (nI fil) (nI se) (nI be) (nI st) sg (nI gv)) rfl dX5_store_101 (fun H locs hM => ?_)
                  refine lv_aload_n hx hb dX5_store_104 rfl (lv_at hl 2 rfl) ?_
                  refine m_get hok hx hb hts hin5 hown hK hM 7 hf_rows rfl (by decide) (v := .int (nI (nr + 1))) rfl dX5_store_105 ?_
                  refine lv_iconst (v := nI 1) hx hb dX5_store_108 rfl ?_
                  refine z_isub hx hb (by omega) dX5_store_109 ?_
                  refine z_asi (y := nI nr) (congrArg nI (by omega)) ?_
                  rw [hQ]
                  rw [hAe] at hM
                  exact z_iret hsz hx hb hr hlocks hK hM dX5_store_110 (by
                        have hno : ¬ (nr = maxR ∨ cells < need X (vars + 1)) := by omega
                        simp only [op_store]; rw [if_neg hno]
                        exact ⟨F1, L1, B1, rfl, rfl, ⟨fun r j h1 h2 => by by_cases hc : r = nr; subst hc; rw [va_up_self]; exact u2 j (by omega); rw [va_up_ne _ _ hc]; exact (mR r j (by omega) h2).sm u1 (by omega), fun j h1 => (mV j h1).sm u1 (by omega), fun h0 j h1 => (mS h0 j h1).sm u1 (by omega), fun j h1 => (mP j h1).sm u1 (by omega), fun h j hj => (((u1 440 (by omega)).2.2 j (by omega)).trans (mg h j hj)), fun h => (mz h).sm u1 (by omega), u1.nv (by omega) m1⟩, u1.wid (by omega) (by omega)⟩)
                · refine lv_aload_n hx hb dX5_store_63 rfl (lv_at hl 2 rfl) ?_
                  refine lv_aload_n hx hb dX5_store_64 rfl (lv_at hl 2 rfl) ?_
                  refine m_get hok hx hb hts hin5 hown hK hM 7 hf_rows rfl (by decide) (v := .int (nI nr)) rfl dX5_store_65 ?_
                  refine lv_iload_n hx hb dX5_store_68 rfl (lv_at hl 0 rfl) ?_
                  refine z_calli0 (va_runS (As := [.int (nI nr), .int (nI k)]) (rest := [.ref o]) ⟨hx, hb, hml, hown, hts⟩ (m_placeOf l Γ hok G0 _ F1 L1 B1 _ nr k) (va_cwS 2 hts gX5_store_X5_placeOf rfl rfl rfl (by decide +kernel) ⟨Nat.le_of_ble_eq_true rfl, Nat.le_of_ble_eq_true rfl⟩) (zM.pre hK hM) rfl rfl hl.1 rfl (lv_room (Nat.le_of_ble_eq_true rfl)) dX5_store_69 ⟨Nat.le_of_ble_eq_true rfl, Nat.le_of_ble_eq_true rfl⟩) hM (fun r69 G69 H locs hp69 hM => ?_)
                  obtain ⟨rfl, rfl⟩ := hp69
                  refine lv_iload_n hx hb dX5_store_72 rfl (lv_at hl 3 rfl) ?_
                  refine lv_iload_n hx hb dX5_store_73 rfl (lv_at hl 0 rfl) ?_
                  refine z_iadd hx hb dX5_store_74 ?_
                  have hXk := (hX k (by omega)).sm u1 (by omega)
                  refine z_callv0 (va_runV (As := [.int (nI (7 * nr + k)), .int (nI (fr + k))]) (rest := []) ⟨hx, hb, hml, hown, hts⟩ (m_copy l Γ hok G0 _ F1 L1 B1 _ (7 * nr + k) (fr + k) (by omega) (by omega) (by omega) hXk.1.le hXk.B2) (cwV 2 hts gX5_store_X5_copy rfl rfl rfl (by decide +kernel) ⟨Nat.le_of_ble_eq_true rfl, Nat.le_of_ble_eq_true rfl⟩) (zM.preV hK hM (md_o hok) rfl rfl) rfl rfl hl.1 rfl (lv_room (Nat.le_of_ble_eq_true rfl)) dX5_store_75 ⟨Nat.le_of_ble_eq_true rfl, Nat.le_of_ble_eq_true rfl⟩) hM (fun G75 H locs hp75 hM => ?_)
                  obtain rfl := hp75
                  obtain ⟨F2, L2, B2, hM, s2, n2, b2⟩ := copy_rel hM hXk.1
                  refine z_iinc (v := (k + 1)) (lv' := [(3, .int (nI (k + 1))), (2, .int (nI (need X (vars + 1)))), (0, .ref o), (1, .int (nI fr))]) hx hb dX5_store_78 hl (k := 0) rfl (nI_p1 _) (by decide) rfl (fun ls hl => ?_)
                  refine lv_goto (tgt := 55) hx hb dX5_store_81 (by decide) ?_
                  exact ihlq _ (by omega) (k + 1) F2 L2 B2 rfl (by omega) (u1.tr (s2.wid (by omega) (by omega))) (fun j hj => by by_cases hc : j = k; subst hc; exact ⟨n2, by rw [b2]; exact hXk.2⟩; exact (u2 j (by omega)).sm s2 (by omega)) ls _ _ (lv_sub hl [0, 1, 2, 3] rfl) hM
            exact lq _ 0 F L B rfl (by omega) sm.rf (fun j hj => by omega) ls _ _ (lv_sub hl [0, 1, 2, 3] rfl) hM
          · refine lv_bipush (v := -4) hx hb dX5_store_50 rfl ?_
            rw [hQ]
            rw [hAe] at hM
            exact z_iret hsz hx hb hr hlocks hK hM dX5_store_52 (by
                  simp only [op_store]; rw [if_pos (Or.inr hc47)]; exact ⟨F, L, B, rfl, rfl, hR, sm.rf⟩)
      · refine lv_iload_n hx hb dX5_store_12 rfl (lv_at hl 1 rfl) ?_
        refine lv_iconst (v := nI 1) hx hb dX5_store_13 rfl ?_
        refine z_iadd hx hb dX5_store_14 ?_
        refine lv_aload_n hx hb dX5_store_15 rfl (lv_at hl 2 rfl) ?_
        refine m_get hok hx hb hts hin5 hown hK hM 5 hf_length rfl (by decide) (v := .ref lL) rfl dX5_store_16 ?_
        refine lv_iload_n hx hb dX5_store_19 rfl (lv_at hl 3 rfl) ?_
        refine lv_iload_n hx hb dX5_store_20 rfl (lv_at hl 0 rfl) ?_
        refine z_iadd hx hb dX5_store_21 ?_
        refine m_ldL hok hx hb hK hM (by omega) dX5_store_22 ?_
        refine z_asi (y := nI (nl (X k).natAbs)) (congrArg nI (hX k (by omega)).1.1) ?_
        refine z_iadd hx hb dX5_store_23 ?_
        have hnk := hneed k (by omega)
        refine z_asi (y := nI (need X (k + 1))) (rfl) ?_
        refine lv_istore_n (lv' := [(2, .int (nI (need X (k + 1)))), (3, .int (nI k)), (0, .ref o), (1, .int (nI fr))]) hx hb dX5_store_24 rfl hl (by decide) rfl (fun ls hl => ?_)
        refine z_iinc (v := (k + 1)) (lv' := [(3, .int (nI (k + 1))), (2, .int (nI (need X (k + 1)))), (0, .ref o), (1, .int (nI fr))]) hx hb dX5_store_25 hl (k := 1) rfl (nI_p1 _) (by decide) rfl (fun ls hl => ?_)
        refine lv_goto (tgt := 4) hx hb dX5_store_28 (by decide) ?_
        exact ihlp _ (by omega) (k + 1) rfl (by omega) ls _ _ (lv_sub hl [0, 1, 2, 3] rfl) hM
  exact lp _ 0 rfl (by omega) ls _ _ (lv_sub hl [0, 1, 2, 3] rfl) hM
end
