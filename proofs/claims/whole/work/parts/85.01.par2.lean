/-! the reference's goals, one by one -/
section RE
variable {g : Nat → Int32} {sg : Int32} {told lo : Nat → Int32}
def MS.push2 (m : MS) (c : Nat) (a b : Int32) : MS := mkMS m.tk m.at_ m.pl m.kd m.vl m.js m.sz m.ks m.vs m.co m.dp (nI (c + 2)) (upd (upd m.go c a) (c + 1) b) (upd (upd m.wi c 0) (c + 1) 0)
def MS.push2w (m : MS) (c : Nat) (a w b : Int32) : MS := mkMS m.tk m.at_ m.pl m.kd m.vl m.js m.sz m.ks m.vs m.co m.dp (nI (c + 2)) (upd (upd m.go c a) (c + 1) b) (upd (upd m.wi c w) (c + 1) 0)
def MS.push3 (m : MS) (c : Nat) (a b w p : Int32) : MS := mkMS m.tk m.at_ m.pl m.kd m.vl m.js m.sz m.ks m.vs m.co m.dp (nI (c + 3)) (upd (upd (upd m.go c a) (c + 1) b) (c + 2) p) (upd (upd (upd m.wi c 0) (c + 1) w) (c + 2) 0)
def MS.lay (m : MS) (s : Nat) (x z : Int32) : MS := mkMS m.tk m.at_ m.pl m.kd m.vl m.js (nI (s + 2)) m.ks m.vs (upd (upd m.co s x) (s + 1) z) m.dp m.gc m.go m.wi
def MS.gcTo (m : MS) (c : Nat) : MS := mkMS m.tk m.at_ m.pl m.kd m.vl m.js m.sz m.ks m.vs m.co m.dp (nI c) m.go m.wi
def MS.dpTo (m : MS) (d : Int32) : MS := mkMS m.tk m.at_ m.pl m.kd m.vl m.js m.sz m.ks m.vs m.co (d) m.gc m.go m.wi
def MS.jsTo (m : MS) (j : Int32) : MS := mkMS m.tk m.at_ m.pl m.kd m.vl (j) m.sz m.ks m.vs m.co m.dp m.gc m.go m.wi
theorem re_1 {m : MS} {c : Nat} {w : Int32} (hc : c < 2 ^ 30) : mre g sg told lo m (nI c) 1 w = (m.push2 c 2 3).tup 1 := by
  unfold mre s_Mo_reach
  refine Eq.trans (if_pos rfl) ?_
  rw [nI_1, nI_1, nI_clamp (by omega), nI_clamp (by omega)]
  rfl
theorem re_3 {m : MS} {c : Nat} {w : Int32} (hc : c < 2 ^ 30) : mre g sg told lo m (nI c) 3 w = (m.push2 c 4 5).tup 1 := by
  unfold mre s_Mo_reach
  refine Eq.trans (if_neg (by decide)) ?_
  refine Eq.trans (if_neg (by decide)) ?_
  refine Eq.trans (if_pos rfl) ?_
  rw [nI_1, nI_1, nI_clamp (by omega), nI_clamp (by omega)]
  rfl
theorem re_6 {m : MS} {c : Nat} {w : Int32} (hc : c < 2 ^ 30) : mre g sg told lo m (nI c) 6 w = (m.push2 c 7 8).tup 1 := by
  unfold mre s_Mo_reach
  refine Eq.trans (if_neg (by decide)) ?_
  refine Eq.trans (if_neg (by decide)) ?_
  refine Eq.trans (if_neg (by decide)) ?_
  refine Eq.trans (if_neg (by decide)) ?_
  refine Eq.trans (if_neg (by decide)) ?_
  refine Eq.trans (if_pos rfl) ?_
  rw [nI_1, nI_1, nI_clamp (by omega), nI_clamp (by omega)]
  rfl
theorem re_8 {m : MS} {c : Nat} {w : Int32} (hc : c < 2 ^ 30) : mre g sg told lo m (nI c) 8 w = (m.push2 c 9 10).tup 1 := by
  unfold mre s_Mo_reach
  refine Eq.trans (if_neg (by decide)) ?_
  refine Eq.trans (if_neg (by decide)) ?_
  refine Eq.trans (if_neg (by decide)) ?_
  refine Eq.trans (if_neg (by decide)) ?_
  refine Eq.trans (if_neg (by decide)) ?_
  refine Eq.trans (if_neg (by decide)) ?_
  refine Eq.trans (if_neg (by decide)) ?_
  refine Eq.trans (if_pos rfl) ?_
  rw [nI_1, nI_1, nI_clamp (by omega), nI_clamp (by omega)]
  rfl
end RE
