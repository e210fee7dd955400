theorem nl_quo {z : Int} {g n : Nat} (hg : 0 < g) (h : nl z.natAbs ≤ n) : nl (z / (g : Nat)).natAbs ≤ n := Nat.le_trans (fl_nl hg) h
