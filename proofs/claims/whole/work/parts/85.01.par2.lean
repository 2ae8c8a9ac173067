/-! the reference's goals, one by one -/
section RE
variable {g : Nat → Int32} {sg : Int32} {told lo : Nat → Int32}
def MS.push2 (m : MS) (c : Nat) (a b : Int32) : MS := mkMS m.tk m.at_ m.pl m.kd m.vl m.js m.sz m.ks m.vs m.co m.dp (nI (c + 2)) (upd (upd m.go c a) (c + 1) b) (upd (upd m.wi c 0) (c + 1) 0)
def MS.push2w (m : MS) (c : Nat) (a w b : Int32) : MS := mkMS m.tk m.at_ m.pl m.kd m.vl m.js m.sz m.ks m.vs m.co m.dp (nI (c + 2)) (upd (upd m.go c a) (c + 1) b) (upd (upd m.wi c w) (c + 1) 0)
def MS.push3 (m : MS) (c : Nat) (a b w p : Int32) : MS := mkMS m.tk m.at_ m.pl m.kd m.vl m.js m.sz m.ks m.vs m.co m.dp (nI (c + 3)) (upd (upd (upd m.go c a) (c + 1) b) (c + 2) p) (upd (upd (upd m.wi c 0) (c + 1) w) (c + 2) 0)
def MS.lay (m : MS) (s : Nat) (x z : Int32) : MS := mkMS m.tk m.at_ m.pl m.kd m.vl m.js (nI (s + 2)) m.ks m.vs (upd (upd m.co s x) (s + 1) z) m.dp m.gc m.go m.wi
def MS.gcTo (m : MS) (c : Nat) : MS := mkMS m.tk m.at_ m.pl m.kd m.vl m.js m.sz m.ks m.vs m.co m.dp (nI c) m.go m.wi
def MS.dpTo (m : MS) (d : Int32) : MS := mkMS m.tk m.at_ m.pl m.kd m.vl m.js m.sz m.ks m.vs m.co (d) m.gc m.go m.wi
def MS.jsTo (m : MS) (j : Int32) : MS := mkMS m.tk m.at_ m.pl m.kd m.vl (j) m.sz m.ks m.vs m.co m.dp m.gc m.go m.wi
theorem re_1 {m : MS} {c : Nat} {w : Int32} (hc : c < 2 ^ 30) : mre g sg told lo m (nI c) 1 w = (m.push2 c 2 3).tup 1 := by
  unfold mre s_Mo_reach
  rw [if_pos rfl, nI_1, nI_1, nI_clamp (by omega), nI_clamp (by omega)]
  rfl
theorem re_3 {m : MS} {c : Nat} {w : Int32} (hc : c < 2 ^ 30) : mre g sg told lo m (nI c) 3 w = (m.push2 c 4 5).tup 1 := by
  unfold mre s_Mo_reach
  rw [if_neg (by decide), if_neg (by decide), if_pos rfl, nI_1, nI_1, nI_clamp (by omega), nI_clamp (by omega)]
  rfl
theorem re_6 {m : MS} {c : Nat} {w : Int32} (hc : c < 2 ^ 30) : mre g sg told lo m (nI c) 6 w = (m.push2 c 7 8).tup 1 := by
  unfold mre s_Mo_reach
  rw [if_neg (by decide), if_neg (by decide), if_neg (by decide), if_neg (by decide), if_neg (by decide), if_pos rfl, nI_1, nI_1, nI_clamp (by omega), nI_clamp (by omega)]
  rfl
theorem re_8 {m : MS} {c : Nat} {w : Int32} (hc : c < 2 ^ 30) : mre g sg told lo m (nI c) 8 w = (m.push2 c 9 10).tup 1 := by
  unfold mre s_Mo_reach
  rw [if_neg (by decide), if_neg (by decide), if_neg (by decide), if_neg (by decide), if_neg (by decide), if_neg (by decide), if_neg (by decide), if_pos rfl, nI_1, nI_1, nI_clamp (by omega), nI_clamp (by omega)]
  rfl
theorem re_12 {m : MS} {c s : Nat} {w : Int32} (hs : m.sz = nI s) (hb : s < 2 ^ 30) : mre g sg told lo m (nI c) 12 w = ((m.lay s w 0).gcTo c).tup 1 := by
  unfold mre s_Mo_reach s_Mo_lay
  rw [if_neg (by decide), if_neg (by decide), if_neg (by decide), if_neg (by decide), if_neg (by decide), if_neg (by decide), if_neg (by decide), if_neg (by decide), if_neg (by decide), if_neg (by decide), if_neg (by decide), if_pos rfl, hs, nI_clamp (by omega), nI_1, nI_clamp (by omega), show nI s + 2 = nI (s + 2) from nI_add s 2]
  rfl
theorem re_15 {m : MS} {c d : Nat} {w : Int32} (hd : m.dp = nI (d + 1)) : mre g sg told lo m (nI c) 15 w = ((m.dpTo (nI d)).gcTo c).tup 1 := by
  unfold mre s_Mo_reach
  rw [if_neg (by decide), if_neg (by decide), if_neg (by decide), if_neg (by decide), if_neg (by decide), if_neg (by decide), if_neg (by decide), if_neg (by decide), if_neg (by decide), if_neg (by decide), if_neg (by decide), if_neg (by decide), if_neg (by decide), if_neg (by decide), hd, nI_pred]
  rfl
theorem re_13y {m : MS} {c d : Nat} {w : Int32} (hd : m.dp = nI (d + 1)) (hk : m.kd = 27) : mre g sg told lo m (nI c) 13 w = (((m.next g sg).dpTo (nI d)).gcTo c).tup 1 := by
  unfold mre s_Mo_reach s_Mo_close s_Mo_passOne
  rw [if_neg (by decide), if_neg (by decide), if_neg (by decide), if_neg (by decide), if_neg (by decide), if_neg (by decide), if_neg (by decide), if_neg (by decide), if_neg (by decide), if_neg (by decide), if_neg (by decide), if_neg (by decide), if_pos rfl, hd, nI_pred, if_pos hk, pass_eq]
  rfl
theorem re_13n {m : MS} {c d : Nat} {w : Int32} (hd : m.dp = nI (d + 1)) (hk : ¬ m.kd = 27) : mre g sg told lo m (nI c) 13 w = ((m.dpTo (nI d)).gcTo c).tup 0 := by
  unfold mre s_Mo_reach s_Mo_close s_Mo_passOne
  rw [if_neg (by decide), if_neg (by decide), if_neg (by decide), if_neg (by decide), if_neg (by decide), if_neg (by decide), if_neg (by decide), if_neg (by decide), if_neg (by decide), if_neg (by decide), if_neg (by decide), if_neg (by decide), if_pos rfl, hd, nI_pred, if_neg hk]
  rfl
theorem re_14y {m : MS} {c d : Nat} {w : Int32} (hd : m.dp = nI (d + 1)) (hk : m.kd = 29) : mre g sg told lo m (nI c) 14 w = (((m.next g sg).dpTo (nI d)).gcTo c).tup 1 := by
  unfold mre s_Mo_reach s_Mo_close s_Mo_passOne
  rw [if_neg (by decide), if_neg (by decide), if_neg (by decide), if_neg (by decide), if_neg (by decide), if_neg (by decide), if_neg (by decide), if_neg (by decide), if_neg (by decide), if_neg (by decide), if_neg (by decide), if_neg (by decide), if_neg (by decide), if_pos rfl, hd, nI_pred, if_pos hk, pass_eq]
  rfl
theorem re_14n {m : MS} {c d : Nat} {w : Int32} (hd : m.dp = nI (d + 1)) (hk : ¬ m.kd = 29) : mre g sg told lo m (nI c) 14 w = ((m.dpTo (nI d)).gcTo c).tup 0 := by
  unfold mre s_Mo_reach s_Mo_close s_Mo_passOne
  rw [if_neg (by decide), if_neg (by decide), if_neg (by decide), if_neg (by decide), if_neg (by decide), if_neg (by decide), if_neg (by decide), if_neg (by decide), if_neg (by decide), if_neg (by decide), if_neg (by decide), if_neg (by decide), if_neg (by decide), if_pos rfl, hd, nI_pred, if_neg hk]
  rfl
theorem re_2_y {m : MS} {c j : Nat} {w : Int32} (hc : c < 2 ^ 30) (hk : m.kd = 12) (hj : m.js = nI j) (hj2 : j < 150) : mre g sg told lo m (nI c) 2 w = (((m.next g sg).jsTo (nI (j + 1))).push3 c 2 12 12 3).tup 1 := by
  unfold mre s_Mo_reach s_Mo_more s_Mo_ask
  rw [if_neg (by decide), if_pos rfl, if_pos hk, if_neg (by decide), hj, if_neg (neR (N := 150) (j := 150) rfl (by omega) (by decide) (by omega)), pass_eq, nI_1, nI_1, nI_1, nI_1, nI_clamp (by omega), nI_clamp (by omega), nI_clamp (by omega), hk]
  rfl
theorem re_2_n {m : MS} {c : Nat} {w : Int32} (hc : c < 2 ^ 30) (hk : m.kd = 12) (hj : m.js = nI 150) : mre g sg told lo m (nI c) 2 w = (m.push3 c 2 12 12 3).tup 0 := by
  unfold mre s_Mo_reach s_Mo_more s_Mo_ask
  rw [if_neg (by decide), if_pos rfl, if_pos hk, if_neg (by decide), if_pos hj, nI_1, nI_1, nI_1, nI_clamp (by omega), nI_clamp (by omega), nI_clamp (by omega), hk]
  rfl
theorem re_2_0 {m : MS} {c : Nat} {w : Int32} (hk : ¬ m.kd = 12) (hk2 : ¬ m.kd = 12) : mre g sg told lo m (nI c) 2 w = (m.gcTo c).tup 1 := by
  unfold mre s_Mo_reach s_Mo_more
  rw [if_neg (by decide), if_pos rfl, if_neg hk, if_neg hk2]
  rfl
theorem re_4_y {m : MS} {c j : Nat} {w : Int32} (hc : c < 2 ^ 30) (hk : m.kd = 11) (hj : m.js = nI j) (hj2 : j < 150) : mre g sg told lo m (nI c) 4 w = (((m.next g sg).jsTo (nI (j + 1))).push3 c 4 12 11 5).tup 1 := by
  unfold mre s_Mo_reach s_Mo_more s_Mo_ask
  rw [if_neg (by decide), if_neg (by decide), if_neg (by decide), if_pos rfl, if_pos hk, if_neg (by decide), hj, if_neg (neR (N := 150) (j := 150) rfl (by omega) (by decide) (by omega)), pass_eq, nI_1, nI_1, nI_1, nI_1, nI_clamp (by omega), nI_clamp (by omega), nI_clamp (by omega), hk]
  rfl
theorem re_4_n {m : MS} {c : Nat} {w : Int32} (hc : c < 2 ^ 30) (hk : m.kd = 11) (hj : m.js = nI 150) : mre g sg told lo m (nI c) 4 w = (m.push3 c 4 12 11 5).tup 0 := by
  unfold mre s_Mo_reach s_Mo_more s_Mo_ask
  rw [if_neg (by decide), if_neg (by decide), if_neg (by decide), if_pos rfl, if_pos hk, if_neg (by decide), if_pos hj, nI_1, nI_1, nI_1, nI_clamp (by omega), nI_clamp (by omega), nI_clamp (by omega), hk]
  rfl
theorem re_4_0 {m : MS} {c : Nat} {w : Int32} (hk : ¬ m.kd = 11) (hk2 : ¬ m.kd = 11) : mre g sg told lo m (nI c) 4 w = (m.gcTo c).tup 1 := by
  unfold mre s_Mo_reach s_Mo_more
  rw [if_neg (by decide), if_neg (by decide), if_neg (by decide), if_pos rfl, if_neg hk, if_neg hk2]
  rfl
theorem re_7_23 {m : MS} {c : Nat} {w : Int32} (hc : c < 2 ^ 30) (hk : m.kd = 23) : mre g sg told lo m (nI c) 7 w = ((m.next g sg).push3 c 7 12 23 8).tup 1 := by
  unfold mre s_Mo_reach s_Mo_more
  rw [if_neg (by decide), if_neg (by decide), if_neg (by decide), if_neg (by decide), if_neg (by decide), if_neg (by decide), if_pos rfl, if_pos hk, if_pos rfl, pass_eq, nI_1, nI_1, nI_1, nI_clamp (by omega), nI_clamp (by omega), nI_clamp (by omega), hk]
  rfl
theorem re_7_24 {m : MS} {c : Nat} {w : Int32} (hc : c < 2 ^ 30) (hk : m.kd = 24) : mre g sg told lo m (nI c) 7 w = ((m.next g sg).push3 c 7 12 24 8).tup 1 := by
  unfold mre s_Mo_reach s_Mo_more
  rw [if_neg (by decide), if_neg (by decide), if_neg (by decide), if_neg (by decide), if_neg (by decide), if_neg (by decide), if_pos rfl, if_neg (by rw [hk]; decide), if_pos hk, if_pos rfl, pass_eq, nI_1, nI_1, nI_1, nI_clamp (by omega), nI_clamp (by omega), nI_clamp (by omega), hk]
  rfl
theorem re_7_0 {m : MS} {c : Nat} {w : Int32} (hk : ¬ m.kd = 23) (hk2 : ¬ m.kd = 24) : mre g sg told lo m (nI c) 7 w = (m.gcTo c).tup 1 := by
  unfold mre s_Mo_reach s_Mo_more
  rw [if_neg (by decide), if_neg (by decide), if_neg (by decide), if_neg (by decide), if_neg (by decide), if_neg (by decide), if_pos rfl, if_neg hk, if_neg hk2]
  rfl
theorem re_9_25 {m : MS} {c : Nat} {w : Int32} (hc : c < 2 ^ 30) (hk : m.kd = 25) : mre g sg told lo m (nI c) 9 w = ((m.next g sg).push3 c 9 12 25 10).tup 1 := by
  unfold mre s_Mo_reach s_Mo_more
  rw [if_neg (by decide), if_neg (by decide), if_neg (by decide), if_neg (by decide), if_neg (by decide), if_neg (by decide), if_neg (by decide), if_neg (by decide), if_pos rfl, if_pos hk, if_pos rfl, pass_eq, nI_1, nI_1, nI_1, nI_clamp (by omega), nI_clamp (by omega), nI_clamp (by omega), hk]
  rfl
theorem re_9_0 {m : MS} {c : Nat} {w : Int32} (hk : ¬ m.kd = 25) (hk2 : ¬ m.kd = 25) : mre g sg told lo m (nI c) 9 w = (m.gcTo c).tup 1 := by
  unfold mre s_Mo_reach s_Mo_more
  rw [if_neg (by decide), if_neg (by decide), if_neg (by decide), if_neg (by decide), if_neg (by decide), if_neg (by decide), if_neg (by decide), if_neg (by decide), if_pos rfl, if_neg hk, if_neg hk2]
  rfl
theorem re_10_15 {m : MS} {c s : Nat} {w : Int32} (hs : m.sz = nI s) (hb : s < 2 ^ 30) (hk : m.kd = 15) : mre g sg told lo m (nI c) 10 w = (((m.next g sg).lay s 15 m.vl).gcTo c).tup 1 := by
  unfold mre s_Mo_reach s_Mo_readFactor s_Mo_lay
  rw [if_neg (by decide), if_neg (by decide), if_neg (by decide), if_neg (by decide), if_neg (by decide), if_neg (by decide), if_neg (by decide), if_neg (by decide), if_neg (by decide), if_pos rfl, if_pos hk, hs, nI_clamp (by omega), nI_1, nI_clamp (by omega), show nI s + 2 = nI (s + 2) from nI_add s 2, pass_eq, hk]
  rfl
theorem re_10_13 {m : MS} {c s : Nat} {w : Int32} (hs : m.sz = nI s) (hb : s < 2 ^ 30) (hk : m.kd = 13) : mre g sg told lo m (nI c) 10 w = (((m.next g sg).lay s 13 m.vl).gcTo c).tup 1 := by
  unfold mre s_Mo_reach s_Mo_readFactor s_Mo_lay
  rw [if_neg (by decide), if_neg (by decide), if_neg (by decide), if_neg (by decide), if_neg (by decide), if_neg (by decide), if_neg (by decide), if_neg (by decide), if_neg (by decide), if_pos rfl, if_neg (by rw [hk]; decide), if_pos hk, hs, nI_clamp (by omega), nI_1, nI_clamp (by omega), show nI s + 2 = nI (s + 2) from nI_add s 2, pass_eq, hk]
  rfl
theorem re_10_24y {m : MS} {c d : Nat} {w : Int32} (hc : c < 2 ^ 30) (hk : m.kd = 24) (hd : m.dp = nI d) (hd2 : d < 20) : mre g sg told lo m (nI c) 10 w = (((m.next g sg).dpTo (nI (d + 1))).push3 c 15 12 41 10).tup 1 := by
  unfold mre s_Mo_reach s_Mo_readFactor s_Mo_deeper
  rw [if_neg (by decide), if_neg (by decide), if_neg (by decide), if_neg (by decide), if_neg (by decide), if_neg (by decide), if_neg (by decide), if_neg (by decide), if_neg (by decide), if_pos rfl, if_neg (by rw [hk]; decide), if_neg (by rw [hk]; decide), if_pos hk, hd, if_neg (neR (N := 20) (j := 20) rfl (by omega) (by decide) (by omega)), pass_eq, nI_1, nI_1, nI_1, nI_1, nI_clamp (by omega), nI_clamp (by omega), nI_clamp (by omega)]
  rfl
theorem re_10_24n {m : MS} {c : Nat} {w : Int32} (hc : c < 2 ^ 30) (hk : m.kd = 24) (hd : m.dp = nI 20) : mre g sg told lo m (nI c) 10 w = (m.push3 c 15 12 41 10).tup 0 := by
  unfold mre s_Mo_reach s_Mo_readFactor s_Mo_deeper
  rw [if_neg (by decide), if_neg (by decide), if_neg (by decide), if_neg (by decide), if_neg (by decide), if_neg (by decide), if_neg (by decide), if_neg (by decide), if_neg (by decide), if_pos rfl, if_neg (by rw [hk]; decide), if_neg (by rw [hk]; decide), if_pos hk, if_pos hd, nI_1, nI_1, nI_1, nI_clamp (by omega), nI_clamp (by omega), nI_clamp (by omega)]
  rfl
theorem re_10_26y {m : MS} {c d : Nat} {w : Int32} (hc : c < 2 ^ 30) (hk : m.kd = 26) (hd : m.dp = nI d) (hd2 : d < 20) : mre g sg told lo m (nI c) 10 w = (((m.next g sg).dpTo (nI (d + 1))).push2 c 13 6).tup 1 := by
  unfold mre s_Mo_reach s_Mo_readFactor s_Mo_deeper
  rw [if_neg (by decide), if_neg (by decide), if_neg (by decide), if_neg (by decide), if_neg (by decide), if_neg (by decide), if_neg (by decide), if_neg (by decide), if_neg (by decide), if_pos rfl, if_neg (by rw [hk]; decide), if_neg (by rw [hk]; decide), if_neg (by rw [hk]; decide), if_pos hk, hd, if_neg (neR (N := 20) (j := 20) rfl (by omega) (by decide) (by omega)), pass_eq, nI_1, nI_1, nI_1, nI_clamp (by omega), nI_clamp (by omega)]
  rfl
theorem re_10_26n {m : MS} {c : Nat} {w : Int32} (hc : c < 2 ^ 30) (hk : m.kd = 26) (hd : m.dp = nI 20) : mre g sg told lo m (nI c) 10 w = (m.push2 c 13 6).tup 0 := by
  unfold mre s_Mo_reach s_Mo_readFactor s_Mo_deeper
  rw [if_neg (by decide), if_neg (by decide), if_neg (by decide), if_neg (by decide), if_neg (by decide), if_neg (by decide), if_neg (by decide), if_neg (by decide), if_neg (by decide), if_pos rfl, if_neg (by rw [hk]; decide), if_neg (by rw [hk]; decide), if_neg (by rw [hk]; decide), if_pos hk, if_pos hd, nI_1, nI_1, nI_clamp (by omega), nI_clamp (by omega)]
  rfl
theorem re_10_n {m : MS} {c : Nat} {w : Int32} (h1 : ¬ m.kd = 15) (h2 : ¬ m.kd = 13) (h3 : ¬ m.kd = 24) (h4 : ¬ m.kd = 26) : mre g sg told lo m (nI c) 10 w = (m.gcTo c).tup 0 := by
  unfold mre s_Mo_reach s_Mo_readFactor
  rw [if_neg (by decide), if_neg (by decide), if_neg (by decide), if_neg (by decide), if_neg (by decide), if_neg (by decide), if_neg (by decide), if_neg (by decide), if_neg (by decide), if_pos rfl, if_neg h1, if_neg h2, if_neg h3, if_neg h4]
  rfl
theorem re_11_y {m : MS} {c j : Nat} {w : Int32} (hc : c < 2 ^ 30) (hk : ¬ s_Mo_in m.kd 17 22 = 0) (hj : m.js = nI j) (hj2 : j < 150) : mre g sg told lo m (nI c) 11 w = (((m.next g sg).jsTo (nI (j + 1))).push2w c 12 m.kd 6).tup 1 := by
  unfold mre s_Mo_reach s_Mo_readSign s_Mo_ask
  rw [if_neg (by decide), if_neg (by decide), if_neg (by decide), if_neg (by decide), if_neg (by decide), if_neg (by decide), if_neg (by decide), if_neg (by decide), if_neg (by decide), if_neg (by decide), if_pos rfl]
  dsimp only
  rw [if_neg hk, hj, if_neg (neR (N := 150) (j := 150) rfl (by omega) (by decide) (by omega)), pass_eq, nI_1, nI_1, nI_1, nI_clamp (by omega), nI_clamp (by omega)]
  rfl
theorem re_11_n {m : MS} {c : Nat} {w : Int32} (hc : c < 2 ^ 30) (hk : ¬ s_Mo_in m.kd 17 22 = 0) (hj : m.js = nI 150) : mre g sg told lo m (nI c) 11 w = (m.push2w c 12 m.kd 6).tup 0 := by
  unfold mre s_Mo_reach s_Mo_readSign s_Mo_ask
  rw [if_neg (by decide), if_neg (by decide), if_neg (by decide), if_neg (by decide), if_neg (by decide), if_neg (by decide), if_neg (by decide), if_neg (by decide), if_neg (by decide), if_neg (by decide), if_pos rfl]
  dsimp only
  rw [if_neg hk, if_pos hj, nI_1, nI_1, nI_clamp (by omega), nI_clamp (by omega)]
  rfl
theorem re_11_0 {m : MS} {c : Nat} {w : Int32} (hk : s_Mo_in m.kd 17 22 = 0) : mre g sg told lo m (nI c) 11 w = (m.gcTo c).tup 0 := by
  unfold mre s_Mo_reach s_Mo_readSign
  rw [if_neg (by decide), if_neg (by decide), if_neg (by decide), if_neg (by decide), if_neg (by decide), if_neg (by decide), if_neg (by decide), if_neg (by decide), if_neg (by decide), if_neg (by decide), if_pos rfl]
  dsimp only
  rw [hk, if_pos rfl]
  rfl
theorem re_5_10y {m : MS} {c d : Nat} {w : Int32} (hc : c < 2 ^ 30) (hk : m.kd = 10) (hd : m.dp = nI d) (hd2 : d < 20) : mre g sg told lo m (nI c) 5 w = (((m.next g sg).dpTo (nI (d + 1))).push3 c 15 12 10 5).tup 1 := by
  unfold mre s_Mo_reach s_Mo_readNot s_Mo_deeper
  rw [if_neg (by decide), if_neg (by decide), if_neg (by decide), if_neg (by decide), if_pos rfl, if_pos hk, hd, if_neg (neR (N := 20) (j := 20) rfl (by omega) (by decide) (by omega)), pass_eq, nI_1, nI_1, nI_1, nI_1, nI_clamp (by omega), nI_clamp (by omega), nI_clamp (by omega)]
  rfl
theorem re_5_10n {m : MS} {c : Nat} {w : Int32} (hc : c < 2 ^ 30) (hk : m.kd = 10) (hd : m.dp = nI 20) : mre g sg told lo m (nI c) 5 w = (m.push3 c 15 12 10 5).tup 0 := by
  unfold mre s_Mo_reach s_Mo_readNot s_Mo_deeper
  rw [if_neg (by decide), if_neg (by decide), if_neg (by decide), if_neg (by decide), if_pos rfl, if_pos hk, if_pos hd, nI_1, nI_1, nI_1, nI_clamp (by omega), nI_clamp (by omega), nI_clamp (by omega)]
  rfl
theorem re_5_28y {m : MS} {c d : Nat} {w : Int32} (hc : c < 2 ^ 30) (hk : m.kd = 28) (hd : m.dp = nI d) (hd2 : d < 20) : mre g sg told lo m (nI c) 5 w = (((m.next g sg).dpTo (nI (d + 1))).push2 c 14 1).tup 1 := by
  unfold mre s_Mo_reach s_Mo_readNot s_Mo_deeper
  rw [if_neg (by decide), if_neg (by decide), if_neg (by decide), if_neg (by decide), if_pos rfl, if_neg (by rw [hk]; decide), if_pos hk, hd, if_neg (neR (N := 20) (j := 20) rfl (by omega) (by decide) (by omega)), pass_eq, nI_1, nI_1, nI_1, nI_clamp (by omega), nI_clamp (by omega)]
  rfl
theorem re_5_28n {m : MS} {c : Nat} {w : Int32} (hc : c < 2 ^ 30) (hk : m.kd = 28) (hd : m.dp = nI 20) : mre g sg told lo m (nI c) 5 w = (m.push2 c 14 1).tup 0 := by
  unfold mre s_Mo_reach s_Mo_readNot s_Mo_deeper
  rw [if_neg (by decide), if_neg (by decide), if_neg (by decide), if_neg (by decide), if_pos rfl, if_neg (by rw [hk]; decide), if_pos hk, if_pos hd, nI_1, nI_1, nI_clamp (by omega), nI_clamp (by omega)]
  rfl
theorem re_5_14u {m : MS} {c v : Nat} {w : Int32} (hk : m.kd = 14) (hv : m.vl = nI v) (hv2 : v < 26) (ht : told v = 0) : mre g sg told lo m (nI c) 5 w = (m.gcTo c).tup 0 := by
  unfold mre s_Mo_reach s_Mo_readNot
  rw [if_neg (by decide), if_neg (by decide), if_neg (by decide), if_neg (by decide), if_pos rfl, if_neg (by rw [hk]; decide), if_neg (by rw [hk]; decide), if_pos hk, hv, nI_clamp (by omega), if_pos ht, ← hv]
  rfl
theorem re_5_14y {m : MS} {c v s j : Nat} {w : Int32} (hk : m.kd = 14) (hv : m.vl = nI v) (hv2 : v < 26) (ht : ¬ told v = 0) (hs : m.sz = nI s) (hb : s < 2 ^ 30) (hj : m.js = nI j) (hj2 : j < 150) : mre g sg told lo m (nI c) 5 w = ((((m.next g sg).lay s 40 (lo v)).jsTo (nI (j + 1))).gcTo c).tup 1 := by
  have hx : m.vl.toNatClampNeg = v := by rw [hv]; exact nI_clamp (by omega)
  unfold mre s_Mo_reach s_Mo_readNot s_Mo_lay s_Mo_ask
  rw [if_neg (by decide), if_neg (by decide), if_neg (by decide), if_neg (by decide), if_pos rfl, if_neg (by rw [hk]; decide), if_neg (by rw [hk]; decide), if_pos hk, hx, if_neg ht, hs, nI_clamp (by omega), nI_1, nI_clamp (by omega), show nI s + 2 = nI (s + 2) from nI_add s 2, hj, if_neg (neR (N := 150) (j := 150) rfl (by omega) (by decide) (by omega)), pass_eq, nI_1]
  rfl
theorem re_5_14n {m : MS} {c v s : Nat} {w : Int32} (hk : m.kd = 14) (hv : m.vl = nI v) (hv2 : v < 26) (ht : ¬ told v = 0) (hs : m.sz = nI s) (hb : s < 2 ^ 30) (hj : m.js = nI 150) : mre g sg told lo m (nI c) 5 w = ((m.lay s 40 (lo v)).gcTo c).tup 0 := by
  have hx : m.vl.toNatClampNeg = v := by rw [hv]; exact nI_clamp (by omega)
  unfold mre s_Mo_reach s_Mo_readNot s_Mo_lay s_Mo_ask
  rw [if_neg (by decide), if_neg (by decide), if_neg (by decide), if_neg (by decide), if_pos rfl, if_neg (by rw [hk]; decide), if_neg (by rw [hk]; decide), if_pos hk, hx, if_neg ht, hs, nI_clamp (by omega), nI_1, nI_clamp (by omega), show nI s + 2 = nI (s + 2) from nI_add s 2, if_pos hj]
  rfl
theorem re_5_sy {m : MS} {c : Nat} {w : Int32} (hc : c < 2 ^ 30) (h1 : ¬ m.kd = 10) (h2 : ¬ m.kd = 28) (h3 : ¬ m.kd = 14) (hk : ¬ s_Mo_isSumStart m.kd = 0) : mre g sg told lo m (nI c) 5 w = (m.push2 c 11 6).tup 1 := by
  unfold mre s_Mo_reach s_Mo_readNot
  rw [if_neg (by decide), if_neg (by decide), if_neg (by decide), if_neg (by decide), if_pos rfl, if_neg h1, if_neg h2, if_neg h3]
  dsimp only
  rw [if_neg hk, nI_1, nI_1, nI_clamp (by omega), nI_clamp (by omega)]
  rfl
theorem re_5_sn {m : MS} {c : Nat} {w : Int32} (hc : c < 2 ^ 30) (h1 : ¬ m.kd = 10) (h2 : ¬ m.kd = 28) (h3 : ¬ m.kd = 14) (hk : s_Mo_isSumStart m.kd = 0) : mre g sg told lo m (nI c) 5 w = (m.gcTo c).tup 0 := by
  unfold mre s_Mo_reach s_Mo_readNot
  rw [if_neg (by decide), if_neg (by decide), if_neg (by decide), if_neg (by decide), if_pos rfl, if_neg h1, if_neg h2, if_neg h3]
  dsimp only
  rw [if_pos hk]
  rfl
end RE
