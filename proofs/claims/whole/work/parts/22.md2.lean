def cmp3 (x y : Nat) : Int32 := if x < y then -1 else if x = y then nI 0 else nI 1
theorem cmp3_lt {x y : Nat} (h : x < y) : -1 = cmp3 x y := by unfold cmp3; rw [if_pos h]
theorem cmp3_gt {x y : Nat} (h : y < x) : nI 1 = cmp3 x y := by unfold cmp3; rw [if_neg (by omega), if_neg (by omega)]
theorem cmp3_eq {x y : Nat} (h : x = y) : nI 0 = cmp3 x y := by unfold cmp3; rw [if_neg (by omega), if_pos h]
theorem nI_dec (q : Nat) : nI q + Int32.ofInt (-1) = nI q - 1 := by
  cases q with
  | zero => rfl
  | succ q => rw [nI_m1 (by omega), nI_pred]; rfl
theorem nv_lt_len {F L : Nat → Nat} {a b va vb : Nat} (na : nv F L a va) (nb : nv F L b vb) (h : L a < L b) : va < vb := by
  rw [← na.val, ← nb.val]
  exact vl_cmp_len na.digs nb.top h
theorem nv_lt_dig {F L : Nat → Nat} {a b va vb q : Nat} (na : nv F L a va) (nb : nv F L b vb) (h : L a = L b) (hq : q < L a) (he : ∀ j, q < j → j < L a → F (72 * a + j) = F (72 * b + j)) (hl : F (72 * a + q) < F (72 * b + q)) : va < vb := by
  rw [← na.val, ← nb.val, ← h]
  exact vl_cmp_lt hq na.digs (fun k hk => nb.digs k (by omega)) he hl
theorem nv_eq {F L : Nat → Nat} {a b va vb : Nat} (na : nv F L a va) (nb : nv F L b vb) (h : L a = L b) (he : ∀ j, j < L a → F (72 * a + j) = F (72 * b + j)) : va = vb := by
  rw [← na.val, ← nb.val, ← h]
  exact vl_congr he
