/-! the reference's goals, one by one -/
section RE
variable {g : Nat → Int32} {sg : Int32} {told lo : Nat → Int32}
def MS.push2 (m : MS) (c : Nat) (a b : Int32) : MS := mkMS m.tk m.at_ m.pl m.kd m.vl m.js m.sz m.ks m.vs m.co m.dp (nI (c + 2)) (upd (upd m.go c a) (c + 1) b) (upd (upd m.wi c 0) (c + 1) 0)
def MS.push2w (m : MS) (c : Nat) (a w b : Int32) : MS := mkMS m.tk m.at_ m.pl m.kd m.vl m.js m.sz m.ks m.vs m.co m.dp (nI (c + 2)) (upd (upd m.go c a) (c + 1) b) (upd (upd m.wi c w) (c + 1) 0)
def MS.push3 (m : MS) (c : Nat) (a b w p : Int32) : MS := mkMS m.tk m.at_ m.pl m.kd m.vl m.js m.sz m.ks m.vs m.co m.dp (nI (c + 3)) (upd (upd (upd m.go c a) (c + 1) b) (c + 2) p) (upd (upd (upd m.wi c 0) (c + 1) w) (c + 2) 0)
def MS.lay (m : MS) (s : Nat) (x z : Int32) : MS := mkMS m.tk m.at_ m.pl m.kd m.vl m.js (nI (s + 2)) m.ks m.vs (upd (upd m.co s x) (s + 1) z) m.dp m.gc m.go m.wi
def MS.gcTo (m : MS) (c : Nat) : MS := mkMS m.tk m.at_ m.pl m.kd m.vl m.js m.sz m.ks m.vs m.co m.dp (nI c) m.go m.wi
def MS.dpTo (m : MS) (d : Int32) : MS := mkMS m.tk m.at_ m.pl m.kd m.vl m.js m.sz m.ks m.vs m.co (d) m.gc m.go m.wi
def MS.jsTo (m : MS) (j : Int32) : MS := mkMS m.tk m.at_ m.pl m.kd m.vl (j) m.sz m.ks m.vs m.co m.dp m.gc m.go m.wi
theorem one_y {m : MS} {x : Int32} (h : m.kd = x) : s_Mo_passOne g sg m.ks m.vs m.tk m.at_ m.pl m.kd m.vl x = (1, (m.next g sg).tk, (m.next g sg).at_, (m.next g sg).pl, (m.next g sg).kd, (m.next g sg).vl, (m.next g sg).ks, (m.next g sg).vs) := by
  unfold s_Mo_passOne
  rw [if_pos h]
  rfl
theorem one_n {m : MS} {x : Int32} (h : ¬ m.kd = x) : s_Mo_passOne g sg m.ks m.vs m.tk m.at_ m.pl m.kd m.vl x = (0, m.tk, m.at_, m.pl, m.kd, m.vl, m.ks, m.vs) := by
  unfold s_Mo_passOne
  rw [if_neg h]
theorem close_y {m : MS} {d : Nat} {x : Int32} (hd : m.dp = nI (d + 1)) (hk : m.kd = x) : s_Mo_close g sg m.ks m.vs m.tk m.at_ m.pl m.kd m.vl m.dp x = (1, (m.next g sg).tk, (m.next g sg).at_, (m.next g sg).pl, (m.next g sg).kd, (m.next g sg).vl, nI d, (m.next g sg).ks, (m.next g sg).vs) := by
  unfold s_Mo_close
  rw [one_y hk, hd, nI_pred]
theorem close_n {m : MS} {d : Nat} {x : Int32} (hd : m.dp = nI (d + 1)) (hk : ¬ m.kd = x) : s_Mo_close g sg m.ks m.vs m.tk m.at_ m.pl m.kd m.vl m.dp x = (0, m.tk, m.at_, m.pl, m.kd, m.vl, nI d, m.ks, m.vs) := by
  unfold s_Mo_close
  rw [one_n hk, hd, nI_pred]
theorem f_next_js (m : MS) : (m.next g sg).js = m.js := by
  unfold MS.js MS.next mkMS MS.p
  rfl
theorem f_next_sz (m : MS) : (m.next g sg).sz = m.sz := by
  unfold MS.sz MS.next mkMS MS.p
  rfl
theorem f_next_co (m : MS) : (m.next g sg).co = m.co := by
  unfold MS.co MS.next mkMS MS.p
  rfl
theorem f_next_dp (m : MS) : (m.next g sg).dp = m.dp := by
  unfold MS.dp MS.next mkMS MS.p
  rfl
theorem f_next_gc (m : MS) : (m.next g sg).gc = m.gc := by
  unfold MS.gc MS.next mkMS MS.p
  rfl
theorem f_next_go (m : MS) : (m.next g sg).go = m.go := by
  unfold MS.go MS.next mkMS MS.p
  rfl
theorem f_next_wi (m : MS) : (m.next g sg).wi = m.wi := by
  unfold MS.wi MS.next mkMS MS.p
  rfl
theorem f_push2_tk (m : MS) (c : Nat) (a b : Int32) : (m.push2 c a b).tk = m.tk := rfl
theorem f_push2_at_ (m : MS) (c : Nat) (a b : Int32) : (m.push2 c a b).at_ = m.at_ := rfl
theorem f_push2_pl (m : MS) (c : Nat) (a b : Int32) : (m.push2 c a b).pl = m.pl := rfl
theorem f_push2_kd (m : MS) (c : Nat) (a b : Int32) : (m.push2 c a b).kd = m.kd := rfl
theorem f_push2_vl (m : MS) (c : Nat) (a b : Int32) : (m.push2 c a b).vl = m.vl := rfl
theorem f_push2_js (m : MS) (c : Nat) (a b : Int32) : (m.push2 c a b).js = m.js := rfl
theorem f_push2_sz (m : MS) (c : Nat) (a b : Int32) : (m.push2 c a b).sz = m.sz := rfl
theorem f_push2_ks (m : MS) (c : Nat) (a b : Int32) : (m.push2 c a b).ks = m.ks := rfl
theorem f_push2_vs (m : MS) (c : Nat) (a b : Int32) : (m.push2 c a b).vs = m.vs := rfl
theorem f_push2_co (m : MS) (c : Nat) (a b : Int32) : (m.push2 c a b).co = m.co := rfl
theorem f_push2_dp (m : MS) (c : Nat) (a b : Int32) : (m.push2 c a b).dp = m.dp := rfl
theorem f_push2_gc (m : MS) (c : Nat) (a b : Int32) : (m.push2 c a b).gc = nI (c + 2) := rfl
theorem f_push2_go (m : MS) (c : Nat) (a b : Int32) : (m.push2 c a b).go = upd (upd m.go c a) (c + 1) b := rfl
theorem f_push2_wi (m : MS) (c : Nat) (a b : Int32) : (m.push2 c a b).wi = upd (upd m.wi c 0) (c + 1) 0 := rfl
theorem f_push2w_tk (m : MS) (c : Nat) (a w b : Int32) : (m.push2w c a w b).tk = m.tk := rfl
theorem f_push2w_at_ (m : MS) (c : Nat) (a w b : Int32) : (m.push2w c a w b).at_ = m.at_ := rfl
theorem f_push2w_pl (m : MS) (c : Nat) (a w b : Int32) : (m.push2w c a w b).pl = m.pl := rfl
theorem f_push2w_kd (m : MS) (c : Nat) (a w b : Int32) : (m.push2w c a w b).kd = m.kd := rfl
theorem f_push2w_vl (m : MS) (c : Nat) (a w b : Int32) : (m.push2w c a w b).vl = m.vl := rfl
theorem f_push2w_js (m : MS) (c : Nat) (a w b : Int32) : (m.push2w c a w b).js = m.js := rfl
theorem f_push2w_sz (m : MS) (c : Nat) (a w b : Int32) : (m.push2w c a w b).sz = m.sz := rfl
theorem f_push2w_ks (m : MS) (c : Nat) (a w b : Int32) : (m.push2w c a w b).ks = m.ks := rfl
theorem f_push2w_vs (m : MS) (c : Nat) (a w b : Int32) : (m.push2w c a w b).vs = m.vs := rfl
theorem f_push2w_co (m : MS) (c : Nat) (a w b : Int32) : (m.push2w c a w b).co = m.co := rfl
theorem f_push2w_dp (m : MS) (c : Nat) (a w b : Int32) : (m.push2w c a w b).dp = m.dp := rfl
theorem f_push2w_gc (m : MS) (c : Nat) (a w b : Int32) : (m.push2w c a w b).gc = nI (c + 2) := rfl
theorem f_push2w_go (m : MS) (c : Nat) (a w b : Int32) : (m.push2w c a w b).go = upd (upd m.go c a) (c + 1) b := rfl
theorem f_push2w_wi (m : MS) (c : Nat) (a w b : Int32) : (m.push2w c a w b).wi = upd (upd m.wi c w) (c + 1) 0 := rfl
theorem f_push3_tk (m : MS) (c : Nat) (a b w p : Int32) : (m.push3 c a b w p).tk = m.tk := rfl
theorem f_push3_at_ (m : MS) (c : Nat) (a b w p : Int32) : (m.push3 c a b w p).at_ = m.at_ := rfl
theorem f_push3_pl (m : MS) (c : Nat) (a b w p : Int32) : (m.push3 c a b w p).pl = m.pl := rfl
theorem f_push3_kd (m : MS) (c : Nat) (a b w p : Int32) : (m.push3 c a b w p).kd = m.kd := rfl
theorem f_push3_vl (m : MS) (c : Nat) (a b w p : Int32) : (m.push3 c a b w p).vl = m.vl := rfl
theorem f_push3_js (m : MS) (c : Nat) (a b w p : Int32) : (m.push3 c a b w p).js = m.js := rfl
theorem f_push3_sz (m : MS) (c : Nat) (a b w p : Int32) : (m.push3 c a b w p).sz = m.sz := rfl
theorem f_push3_ks (m : MS) (c : Nat) (a b w p : Int32) : (m.push3 c a b w p).ks = m.ks := rfl
theorem f_push3_vs (m : MS) (c : Nat) (a b w p : Int32) : (m.push3 c a b w p).vs = m.vs := rfl
theorem f_push3_co (m : MS) (c : Nat) (a b w p : Int32) : (m.push3 c a b w p).co = m.co := rfl
theorem f_push3_dp (m : MS) (c : Nat) (a b w p : Int32) : (m.push3 c a b w p).dp = m.dp := rfl
theorem f_push3_gc (m : MS) (c : Nat) (a b w p : Int32) : (m.push3 c a b w p).gc = nI (c + 3) := rfl
theorem f_push3_go (m : MS) (c : Nat) (a b w p : Int32) : (m.push3 c a b w p).go = upd (upd (upd m.go c a) (c + 1) b) (c + 2) p := rfl
theorem f_push3_wi (m : MS) (c : Nat) (a b w p : Int32) : (m.push3 c a b w p).wi = upd (upd (upd m.wi c 0) (c + 1) w) (c + 2) 0 := rfl
theorem f_lay_tk (m : MS) (s : Nat) (x z : Int32) : (m.lay s x z).tk = m.tk := rfl
theorem f_lay_at_ (m : MS) (s : Nat) (x z : Int32) : (m.lay s x z).at_ = m.at_ := rfl
theorem f_lay_pl (m : MS) (s : Nat) (x z : Int32) : (m.lay s x z).pl = m.pl := rfl
theorem f_lay_kd (m : MS) (s : Nat) (x z : Int32) : (m.lay s x z).kd = m.kd := rfl
theorem f_lay_vl (m : MS) (s : Nat) (x z : Int32) : (m.lay s x z).vl = m.vl := rfl
theorem f_lay_js (m : MS) (s : Nat) (x z : Int32) : (m.lay s x z).js = m.js := rfl
theorem f_lay_sz (m : MS) (s : Nat) (x z : Int32) : (m.lay s x z).sz = nI (s + 2) := rfl
theorem f_lay_ks (m : MS) (s : Nat) (x z : Int32) : (m.lay s x z).ks = m.ks := rfl
theorem f_lay_vs (m : MS) (s : Nat) (x z : Int32) : (m.lay s x z).vs = m.vs := rfl
theorem f_lay_co (m : MS) (s : Nat) (x z : Int32) : (m.lay s x z).co = upd (upd m.co s x) (s + 1) z := rfl
theorem f_lay_dp (m : MS) (s : Nat) (x z : Int32) : (m.lay s x z).dp = m.dp := rfl
theorem f_lay_gc (m : MS) (s : Nat) (x z : Int32) : (m.lay s x z).gc = m.gc := rfl
theorem f_lay_go (m : MS) (s : Nat) (x z : Int32) : (m.lay s x z).go = m.go := rfl
theorem f_lay_wi (m : MS) (s : Nat) (x z : Int32) : (m.lay s x z).wi = m.wi := rfl
theorem f_gcTo_tk (m : MS) (c : Nat) : (m.gcTo c).tk = m.tk := rfl
theorem f_gcTo_at_ (m : MS) (c : Nat) : (m.gcTo c).at_ = m.at_ := rfl
theorem f_gcTo_pl (m : MS) (c : Nat) : (m.gcTo c).pl = m.pl := rfl
theorem f_gcTo_kd (m : MS) (c : Nat) : (m.gcTo c).kd = m.kd := rfl
theorem f_gcTo_vl (m : MS) (c : Nat) : (m.gcTo c).vl = m.vl := rfl
theorem f_gcTo_js (m : MS) (c : Nat) : (m.gcTo c).js = m.js := rfl
theorem f_gcTo_sz (m : MS) (c : Nat) : (m.gcTo c).sz = m.sz := rfl
theorem f_gcTo_ks (m : MS) (c : Nat) : (m.gcTo c).ks = m.ks := rfl
theorem f_gcTo_vs (m : MS) (c : Nat) : (m.gcTo c).vs = m.vs := rfl
theorem f_gcTo_co (m : MS) (c : Nat) : (m.gcTo c).co = m.co := rfl
theorem f_gcTo_dp (m : MS) (c : Nat) : (m.gcTo c).dp = m.dp := rfl
theorem f_gcTo_gc (m : MS) (c : Nat) : (m.gcTo c).gc = nI c := rfl
theorem f_gcTo_go (m : MS) (c : Nat) : (m.gcTo c).go = m.go := rfl
theorem f_gcTo_wi (m : MS) (c : Nat) : (m.gcTo c).wi = m.wi := rfl
theorem f_dpTo_tk (m : MS) (d : Int32) : (m.dpTo d).tk = m.tk := rfl
theorem f_dpTo_at_ (m : MS) (d : Int32) : (m.dpTo d).at_ = m.at_ := rfl
theorem f_dpTo_pl (m : MS) (d : Int32) : (m.dpTo d).pl = m.pl := rfl
theorem f_dpTo_kd (m : MS) (d : Int32) : (m.dpTo d).kd = m.kd := rfl
theorem f_dpTo_vl (m : MS) (d : Int32) : (m.dpTo d).vl = m.vl := rfl
theorem f_dpTo_js (m : MS) (d : Int32) : (m.dpTo d).js = m.js := rfl
theorem f_dpTo_sz (m : MS) (d : Int32) : (m.dpTo d).sz = m.sz := rfl
theorem f_dpTo_ks (m : MS) (d : Int32) : (m.dpTo d).ks = m.ks := rfl
theorem f_dpTo_vs (m : MS) (d : Int32) : (m.dpTo d).vs = m.vs := rfl
theorem f_dpTo_co (m : MS) (d : Int32) : (m.dpTo d).co = m.co := rfl
theorem f_dpTo_dp (m : MS) (d : Int32) : (m.dpTo d).dp = d := rfl
theorem f_dpTo_gc (m : MS) (d : Int32) : (m.dpTo d).gc = m.gc := rfl
theorem f_dpTo_go (m : MS) (d : Int32) : (m.dpTo d).go = m.go := rfl
theorem f_dpTo_wi (m : MS) (d : Int32) : (m.dpTo d).wi = m.wi := rfl
theorem f_jsTo_tk (m : MS) (j : Int32) : (m.jsTo j).tk = m.tk := rfl
theorem f_jsTo_at_ (m : MS) (j : Int32) : (m.jsTo j).at_ = m.at_ := rfl
theorem f_jsTo_pl (m : MS) (j : Int32) : (m.jsTo j).pl = m.pl := rfl
theorem f_jsTo_kd (m : MS) (j : Int32) : (m.jsTo j).kd = m.kd := rfl
theorem f_jsTo_vl (m : MS) (j : Int32) : (m.jsTo j).vl = m.vl := rfl
theorem f_jsTo_js (m : MS) (j : Int32) : (m.jsTo j).js = j := rfl
theorem f_jsTo_sz (m : MS) (j : Int32) : (m.jsTo j).sz = m.sz := rfl
theorem f_jsTo_ks (m : MS) (j : Int32) : (m.jsTo j).ks = m.ks := rfl
theorem f_jsTo_vs (m : MS) (j : Int32) : (m.jsTo j).vs = m.vs := rfl
theorem f_jsTo_co (m : MS) (j : Int32) : (m.jsTo j).co = m.co := rfl
theorem f_jsTo_dp (m : MS) (j : Int32) : (m.jsTo j).dp = m.dp := rfl
theorem f_jsTo_gc (m : MS) (j : Int32) : (m.jsTo j).gc = m.gc := rfl
theorem f_jsTo_go (m : MS) (j : Int32) : (m.jsTo j).go = m.go := rfl
theorem f_jsTo_wi (m : MS) (j : Int32) : (m.jsTo j).wi = m.wi := rfl
theorem re_1 {m : MS} {c : Nat} {w : Int32} (hc : c < 2 ^ 30) : mre g sg told lo m (nI c) 1 w = (m.push2 c 2 3).tup 1 := by
  unfold mre s_Mo_reach
  refine Eq.trans (if_pos rfl) ?_
  rw [nI_1, nI_1, nI_clamp (by omega), nI_clamp (by omega)]
  unfold MS.tup
  rw [f_push2_tk, f_push2_at_, f_push2_pl, f_push2_kd, f_push2_vl, f_push2_dp, f_push2_js, f_push2_sz, f_push2_gc, f_push2_ks, f_push2_vs, f_push2_co, f_push2_go, f_push2_wi]
  try rfl
theorem re_3 {m : MS} {c : Nat} {w : Int32} (hc : c < 2 ^ 30) : mre g sg told lo m (nI c) 3 w = (m.push2 c 4 5).tup 1 := by
  unfold mre s_Mo_reach
  refine Eq.trans (if_neg (by decide)) ?_
  refine Eq.trans (if_neg (by decide)) ?_
  refine Eq.trans (if_pos rfl) ?_
  rw [nI_1, nI_1, nI_clamp (by omega), nI_clamp (by omega)]
  unfold MS.tup
  rw [f_push2_tk, f_push2_at_, f_push2_pl, f_push2_kd, f_push2_vl, f_push2_dp, f_push2_js, f_push2_sz, f_push2_gc, f_push2_ks, f_push2_vs, f_push2_co, f_push2_go, f_push2_wi]
  try rfl
theorem re_6 {m : MS} {c : Nat} {w : Int32} (hc : c < 2 ^ 30) : mre g sg told lo m (nI c) 6 w = (m.push2 c 7 8).tup 1 := by
  unfold mre s_Mo_reach
  refine Eq.trans (if_neg (by decide)) ?_
  refine Eq.trans (if_neg (by decide)) ?_
  refine Eq.trans (if_neg (by decide)) ?_
  refine Eq.trans (if_neg (by decide)) ?_
  refine Eq.trans (if_neg (by decide)) ?_
  refine Eq.trans (if_pos rfl) ?_
  rw [nI_1, nI_1, nI_clamp (by omega), nI_clamp (by omega)]
  unfold MS.tup
  rw [f_push2_tk, f_push2_at_, f_push2_pl, f_push2_kd, f_push2_vl, f_push2_dp, f_push2_js, f_push2_sz, f_push2_gc, f_push2_ks, f_push2_vs, f_push2_co, f_push2_go, f_push2_wi]
  try rfl
theorem re_8 {m : MS} {c : Nat} {w : Int32} (hc : c < 2 ^ 30) : mre g sg told lo m (nI c) 8 w = (m.push2 c 9 10).tup 1 := by
  unfold mre s_Mo_reach
  refine Eq.trans (if_neg (by decide)) ?_
  refine Eq.trans (if_neg (by decide)) ?_
  refine Eq.trans (if_neg (by decide)) ?_
  refine Eq.trans (if_neg (by decide)) ?_
  refine Eq.trans (if_neg (by decide)) ?_
  refine Eq.trans (if_neg (by decide)) ?_
  refine Eq.trans (if_neg (by decide)) ?_
  refine Eq.trans (if_pos rfl) ?_
  rw [nI_1, nI_1, nI_clamp (by omega), nI_clamp (by omega)]
  unfold MS.tup
  rw [f_push2_tk, f_push2_at_, f_push2_pl, f_push2_kd, f_push2_vl, f_push2_dp, f_push2_js, f_push2_sz, f_push2_gc, f_push2_ks, f_push2_vs, f_push2_co, f_push2_go, f_push2_wi]
  try rfl
theorem re_12 {m : MS} {c s : Nat} {w : Int32} (hs : m.sz = nI s) (hb : s < 2 ^ 30) : mre g sg told lo m (nI c) 12 w = ((m.lay s w 0).gcTo c).tup 1 := by
  unfold mre s_Mo_reach
  refine Eq.trans (if_neg (by decide)) ?_
  refine Eq.trans (if_neg (by decide)) ?_
  refine Eq.trans (if_neg (by decide)) ?_
  refine Eq.trans (if_neg (by decide)) ?_
  refine Eq.trans (if_neg (by decide)) ?_
  refine Eq.trans (if_neg (by decide)) ?_
  refine Eq.trans (if_neg (by decide)) ?_
  refine Eq.trans (if_neg (by decide)) ?_
  refine Eq.trans (if_neg (by decide)) ?_
  refine Eq.trans (if_neg (by decide)) ?_
  refine Eq.trans (if_neg (by decide)) ?_
  refine Eq.trans (if_pos rfl) ?_
  unfold s_Mo_lay
  rw [hs, nI_clamp (by omega), nI_1, nI_clamp (by omega), show nI s + 2 = nI (s + 2) from nI_add s 2]
  unfold MS.tup
  rw [f_gcTo_tk, f_lay_tk, f_gcTo_at_, f_lay_at_, f_gcTo_pl, f_lay_pl, f_gcTo_kd, f_lay_kd, f_gcTo_vl, f_lay_vl, f_gcTo_dp, f_lay_dp, f_gcTo_js, f_lay_js, f_gcTo_sz, f_lay_sz, f_gcTo_gc, f_gcTo_ks, f_lay_ks, f_gcTo_vs, f_lay_vs, f_gcTo_co, f_lay_co, f_gcTo_go, f_lay_go, f_gcTo_wi, f_lay_wi]
  try rfl
theorem re_15 {m : MS} {c d : Nat} {w : Int32} (hd : m.dp = nI (d + 1)) : mre g sg told lo m (nI c) 15 w = ((m.dpTo (nI d)).gcTo c).tup 1 := by
  unfold mre s_Mo_reach
  refine Eq.trans (if_neg (by decide)) ?_
  refine Eq.trans (if_neg (by decide)) ?_
  refine Eq.trans (if_neg (by decide)) ?_
  refine Eq.trans (if_neg (by decide)) ?_
  refine Eq.trans (if_neg (by decide)) ?_
  refine Eq.trans (if_neg (by decide)) ?_
  refine Eq.trans (if_neg (by decide)) ?_
  refine Eq.trans (if_neg (by decide)) ?_
  refine Eq.trans (if_neg (by decide)) ?_
  refine Eq.trans (if_neg (by decide)) ?_
  refine Eq.trans (if_neg (by decide)) ?_
  refine Eq.trans (if_neg (by decide)) ?_
  refine Eq.trans (if_neg (by decide)) ?_
  refine Eq.trans (if_neg (by decide)) ?_
  rw [hd, nI_pred]
  unfold MS.tup
  rw [f_gcTo_tk, f_dpTo_tk, f_gcTo_at_, f_dpTo_at_, f_gcTo_pl, f_dpTo_pl, f_gcTo_kd, f_dpTo_kd, f_gcTo_vl, f_dpTo_vl, f_gcTo_dp, f_dpTo_dp, f_gcTo_js, f_dpTo_js, f_gcTo_sz, f_dpTo_sz, f_gcTo_gc, f_gcTo_ks, f_dpTo_ks, f_gcTo_vs, f_dpTo_vs, f_gcTo_co, f_dpTo_co, f_gcTo_go, f_dpTo_go, f_gcTo_wi, f_dpTo_wi]
  try rfl
theorem re_13y {m : MS} {c d : Nat} {w : Int32} (hd : m.dp = nI (d + 1)) (hk : m.kd = 27) : mre g sg told lo m (nI c) 13 w = (((m.next g sg).dpTo (nI d)).gcTo c).tup 1 := by
  unfold mre s_Mo_reach
  refine Eq.trans (if_neg (by decide)) ?_
  refine Eq.trans (if_neg (by decide)) ?_
  refine Eq.trans (if_neg (by decide)) ?_
  refine Eq.trans (if_neg (by decide)) ?_
  refine Eq.trans (if_neg (by decide)) ?_
  refine Eq.trans (if_neg (by decide)) ?_
  refine Eq.trans (if_neg (by decide)) ?_
  refine Eq.trans (if_neg (by decide)) ?_
  refine Eq.trans (if_neg (by decide)) ?_
  refine Eq.trans (if_neg (by decide)) ?_
  refine Eq.trans (if_neg (by decide)) ?_
  refine Eq.trans (if_neg (by decide)) ?_
  refine Eq.trans (if_pos rfl) ?_
  rw [close_y hd hk]
  unfold MS.tup
  rw [f_gcTo_tk, f_dpTo_tk, f_gcTo_at_, f_dpTo_at_, f_gcTo_pl, f_dpTo_pl, f_gcTo_kd, f_dpTo_kd, f_gcTo_vl, f_dpTo_vl, f_gcTo_dp, f_dpTo_dp, f_gcTo_js, f_dpTo_js, f_next_js, f_gcTo_sz, f_dpTo_sz, f_next_sz, f_gcTo_gc, f_gcTo_ks, f_dpTo_ks, f_gcTo_vs, f_dpTo_vs, f_gcTo_co, f_dpTo_co, f_next_co, f_gcTo_go, f_dpTo_go, f_next_go, f_gcTo_wi, f_dpTo_wi, f_next_wi]
  try rfl
theorem re_13n {m : MS} {c d : Nat} {w : Int32} (hd : m.dp = nI (d + 1)) (hk : ¬ m.kd = 27) : mre g sg told lo m (nI c) 13 w = ((m.dpTo (nI d)).gcTo c).tup 0 := by
  unfold mre s_Mo_reach
  refine Eq.trans (if_neg (by decide)) ?_
  refine Eq.trans (if_neg (by decide)) ?_
  refine Eq.trans (if_neg (by decide)) ?_
  refine Eq.trans (if_neg (by decide)) ?_
  refine Eq.trans (if_neg (by decide)) ?_
  refine Eq.trans (if_neg (by decide)) ?_
  refine Eq.trans (if_neg (by decide)) ?_
  refine Eq.trans (if_neg (by decide)) ?_
  refine Eq.trans (if_neg (by decide)) ?_
  refine Eq.trans (if_neg (by decide)) ?_
  refine Eq.trans (if_neg (by decide)) ?_
  refine Eq.trans (if_neg (by decide)) ?_
  refine Eq.trans (if_pos rfl) ?_
  rw [close_n hd hk]
  unfold MS.tup
  rw [f_gcTo_tk, f_dpTo_tk, f_gcTo_at_, f_dpTo_at_, f_gcTo_pl, f_dpTo_pl, f_gcTo_kd, f_dpTo_kd, f_gcTo_vl, f_dpTo_vl, f_gcTo_dp, f_dpTo_dp, f_gcTo_js, f_dpTo_js, f_gcTo_sz, f_dpTo_sz, f_gcTo_gc, f_gcTo_ks, f_dpTo_ks, f_gcTo_vs, f_dpTo_vs, f_gcTo_co, f_dpTo_co, f_gcTo_go, f_dpTo_go, f_gcTo_wi, f_dpTo_wi]
  try rfl
theorem re_14y {m : MS} {c d : Nat} {w : Int32} (hd : m.dp = nI (d + 1)) (hk : m.kd = 29) : mre g sg told lo m (nI c) 14 w = (((m.next g sg).dpTo (nI d)).gcTo c).tup 1 := by
  unfold mre s_Mo_reach
  refine Eq.trans (if_neg (by decide)) ?_
  refine Eq.trans (if_neg (by decide)) ?_
  refine Eq.trans (if_neg (by decide)) ?_
  refine Eq.trans (if_neg (by decide)) ?_
  refine Eq.trans (if_neg (by decide)) ?_
  refine Eq.trans (if_neg (by decide)) ?_
  refine Eq.trans (if_neg (by decide)) ?_
  refine Eq.trans (if_neg (by decide)) ?_
  refine Eq.trans (if_neg (by decide)) ?_
  refine Eq.trans (if_neg (by decide)) ?_
  refine Eq.trans (if_neg (by decide)) ?_
  refine Eq.trans (if_neg (by decide)) ?_
  refine Eq.trans (if_neg (by decide)) ?_
  refine Eq.trans (if_pos rfl) ?_
  rw [close_y hd hk]
  unfold MS.tup
  rw [f_gcTo_tk, f_dpTo_tk, f_gcTo_at_, f_dpTo_at_, f_gcTo_pl, f_dpTo_pl, f_gcTo_kd, f_dpTo_kd, f_gcTo_vl, f_dpTo_vl, f_gcTo_dp, f_dpTo_dp, f_gcTo_js, f_dpTo_js, f_next_js, f_gcTo_sz, f_dpTo_sz, f_next_sz, f_gcTo_gc, f_gcTo_ks, f_dpTo_ks, f_gcTo_vs, f_dpTo_vs, f_gcTo_co, f_dpTo_co, f_next_co, f_gcTo_go, f_dpTo_go, f_next_go, f_gcTo_wi, f_dpTo_wi, f_next_wi]
  try rfl
theorem re_14n {m : MS} {c d : Nat} {w : Int32} (hd : m.dp = nI (d + 1)) (hk : ¬ m.kd = 29) : mre g sg told lo m (nI c) 14 w = ((m.dpTo (nI d)).gcTo c).tup 0 := by
  unfold mre s_Mo_reach
  refine Eq.trans (if_neg (by decide)) ?_
  refine Eq.trans (if_neg (by decide)) ?_
  refine Eq.trans (if_neg (by decide)) ?_
  refine Eq.trans (if_neg (by decide)) ?_
  refine Eq.trans (if_neg (by decide)) ?_
  refine Eq.trans (if_neg (by decide)) ?_
  refine Eq.trans (if_neg (by decide)) ?_
  refine Eq.trans (if_neg (by decide)) ?_
  refine Eq.trans (if_neg (by decide)) ?_
  refine Eq.trans (if_neg (by decide)) ?_
  refine Eq.trans (if_neg (by decide)) ?_
  refine Eq.trans (if_neg (by decide)) ?_
  refine Eq.trans (if_neg (by decide)) ?_
  refine Eq.trans (if_pos rfl) ?_
  rw [close_n hd hk]
  unfold MS.tup
  rw [f_gcTo_tk, f_dpTo_tk, f_gcTo_at_, f_dpTo_at_, f_gcTo_pl, f_dpTo_pl, f_gcTo_kd, f_dpTo_kd, f_gcTo_vl, f_dpTo_vl, f_gcTo_dp, f_dpTo_dp, f_gcTo_js, f_dpTo_js, f_gcTo_sz, f_dpTo_sz, f_gcTo_gc, f_gcTo_ks, f_dpTo_ks, f_gcTo_vs, f_dpTo_vs, f_gcTo_co, f_dpTo_co, f_gcTo_go, f_dpTo_go, f_gcTo_wi, f_dpTo_wi]
  try rfl
theorem re_2_y {m : MS} {c j : Nat} {w : Int32} (hc : c < 2 ^ 30) (hk : m.kd = 12) (hj : m.js = nI j) (hj2 : j < 150) : mre g sg told lo m (nI c) 2 w = (((m.next g sg).jsTo (nI (j + 1))).push3 c 2 12 12 3).tup 1 := by
  unfold mre s_Mo_reach
  refine Eq.trans (if_neg (by decide)) ?_
  refine Eq.trans (if_pos rfl) ?_
  unfold s_Mo_more s_Mo_ask
  rw [if_pos hk, if_neg (by decide), hj, if_neg (neR (N := 150) (j := 150) rfl (by omega) (by decide) (by omega)), pass_eq, nI_1, nI_1, nI_1, nI_1, nI_clamp (by omega), nI_clamp (by omega), nI_clamp (by omega), hk]
  unfold MS.tup
  rw [f_push3_tk, f_jsTo_tk, f_push3_at_, f_jsTo_at_, f_push3_pl, f_jsTo_pl, f_push3_kd, f_jsTo_kd, f_push3_vl, f_jsTo_vl, f_push3_dp, f_jsTo_dp, f_next_dp, f_push3_js, f_jsTo_js, f_push3_sz, f_jsTo_sz, f_next_sz, f_push3_gc, f_push3_ks, f_jsTo_ks, f_push3_vs, f_jsTo_vs, f_push3_co, f_jsTo_co, f_next_co, f_push3_go, f_jsTo_go, f_next_go, f_push3_wi, f_jsTo_wi, f_next_wi]
  try rfl
theorem re_2_n {m : MS} {c : Nat} {w : Int32} (hc : c < 2 ^ 30) (hk : m.kd = 12) (hj : m.js = nI 150) : mre g sg told lo m (nI c) 2 w = (m.push3 c 2 12 12 3).tup 0 := by
  unfold mre s_Mo_reach
  refine Eq.trans (if_neg (by decide)) ?_
  refine Eq.trans (if_pos rfl) ?_
  unfold s_Mo_more s_Mo_ask
  rw [if_pos hk, if_neg (by decide), if_pos (show m.js = 150 from hj), nI_1, nI_1, nI_1, nI_clamp (by omega), nI_clamp (by omega), nI_clamp (by omega), hk]
  unfold MS.tup
  rw [f_push3_tk, f_push3_at_, f_push3_pl, f_push3_kd, f_push3_vl, f_push3_dp, f_push3_js, f_push3_sz, f_push3_gc, f_push3_ks, f_push3_vs, f_push3_co, f_push3_go, f_push3_wi]
  rw [hk]
  try rfl
theorem re_2_0 {m : MS} {c : Nat} {w : Int32} (hk : ¬ m.kd = 12) (hk2 : ¬ m.kd = 12) : mre g sg told lo m (nI c) 2 w = (m.gcTo c).tup 1 := by
  unfold mre s_Mo_reach
  refine Eq.trans (if_neg (by decide)) ?_
  refine Eq.trans (if_pos rfl) ?_
  unfold s_Mo_more
  rw [if_neg hk, if_neg hk2]
  unfold MS.tup
  rw [f_gcTo_tk, f_gcTo_at_, f_gcTo_pl, f_gcTo_kd, f_gcTo_vl, f_gcTo_dp, f_gcTo_js, f_gcTo_sz, f_gcTo_gc, f_gcTo_ks, f_gcTo_vs, f_gcTo_co, f_gcTo_go, f_gcTo_wi]
  try rfl
theorem re_4_y {m : MS} {c j : Nat} {w : Int32} (hc : c < 2 ^ 30) (hk : m.kd = 11) (hj : m.js = nI j) (hj2 : j < 150) : mre g sg told lo m (nI c) 4 w = (((m.next g sg).jsTo (nI (j + 1))).push3 c 4 12 11 5).tup 1 := by
  unfold mre s_Mo_reach
  refine Eq.trans (if_neg (by decide)) ?_
  refine Eq.trans (if_neg (by decide)) ?_
  refine Eq.trans (if_neg (by decide)) ?_
  refine Eq.trans (if_pos rfl) ?_
  unfold s_Mo_more s_Mo_ask
  rw [if_pos hk, if_neg (by decide), hj, if_neg (neR (N := 150) (j := 150) rfl (by omega) (by decide) (by omega)), pass_eq, nI_1, nI_1, nI_1, nI_1, nI_clamp (by omega), nI_clamp (by omega), nI_clamp (by omega), hk]
  unfold MS.tup
  rw [f_push3_tk, f_jsTo_tk, f_push3_at_, f_jsTo_at_, f_push3_pl, f_jsTo_pl, f_push3_kd, f_jsTo_kd, f_push3_vl, f_jsTo_vl, f_push3_dp, f_jsTo_dp, f_next_dp, f_push3_js, f_jsTo_js, f_push3_sz, f_jsTo_sz, f_next_sz, f_push3_gc, f_push3_ks, f_jsTo_ks, f_push3_vs, f_jsTo_vs, f_push3_co, f_jsTo_co, f_next_co, f_push3_go, f_jsTo_go, f_next_go, f_push3_wi, f_jsTo_wi, f_next_wi]
  try rfl
theorem re_4_n {m : MS} {c : Nat} {w : Int32} (hc : c < 2 ^ 30) (hk : m.kd = 11) (hj : m.js = nI 150) : mre g sg told lo m (nI c) 4 w = (m.push3 c 4 12 11 5).tup 0 := by
  unfold mre s_Mo_reach
  refine Eq.trans (if_neg (by decide)) ?_
  refine Eq.trans (if_neg (by decide)) ?_
  refine Eq.trans (if_neg (by decide)) ?_
  refine Eq.trans (if_pos rfl) ?_
  unfold s_Mo_more s_Mo_ask
  rw [if_pos hk, if_neg (by decide), if_pos (show m.js = 150 from hj), nI_1, nI_1, nI_1, nI_clamp (by omega), nI_clamp (by omega), nI_clamp (by omega), hk]
  unfold MS.tup
  rw [f_push3_tk, f_push3_at_, f_push3_pl, f_push3_kd, f_push3_vl, f_push3_dp, f_push3_js, f_push3_sz, f_push3_gc, f_push3_ks, f_push3_vs, f_push3_co, f_push3_go, f_push3_wi]
  rw [hk]
  try rfl
theorem re_4_0 {m : MS} {c : Nat} {w : Int32} (hk : ¬ m.kd = 11) (hk2 : ¬ m.kd = 11) : mre g sg told lo m (nI c) 4 w = (m.gcTo c).tup 1 := by
  unfold mre s_Mo_reach
  refine Eq.trans (if_neg (by decide)) ?_
  refine Eq.trans (if_neg (by decide)) ?_
  refine Eq.trans (if_neg (by decide)) ?_
  refine Eq.trans (if_pos rfl) ?_
  unfold s_Mo_more
  rw [if_neg hk, if_neg hk2]
  unfold MS.tup
  rw [f_gcTo_tk, f_gcTo_at_, f_gcTo_pl, f_gcTo_kd, f_gcTo_vl, f_gcTo_dp, f_gcTo_js, f_gcTo_sz, f_gcTo_gc, f_gcTo_ks, f_gcTo_vs, f_gcTo_co, f_gcTo_go, f_gcTo_wi]
  try rfl
theorem re_7_23 {m : MS} {c : Nat} {w : Int32} (hc : c < 2 ^ 30) (hk : m.kd = 23) : mre g sg told lo m (nI c) 7 w = ((m.next g sg).push3 c 7 12 23 8).tup 1 := by
  unfold mre s_Mo_reach
  refine Eq.trans (if_neg (by decide)) ?_
  refine Eq.trans (if_neg (by decide)) ?_
  refine Eq.trans (if_neg (by decide)) ?_
  refine Eq.trans (if_neg (by decide)) ?_
  refine Eq.trans (if_neg (by decide)) ?_
  refine Eq.trans (if_neg (by decide)) ?_
  refine Eq.trans (if_pos rfl) ?_
  unfold s_Mo_more
  rw [if_pos hk, if_pos rfl, pass_eq, nI_1, nI_1, nI_1, nI_clamp (by omega), nI_clamp (by omega), nI_clamp (by omega), hk]
  unfold MS.tup
  rw [f_push3_tk, f_push3_at_, f_push3_pl, f_push3_kd, f_push3_vl, f_push3_dp, f_next_dp, f_push3_js, f_next_js, f_push3_sz, f_next_sz, f_push3_gc, f_push3_ks, f_push3_vs, f_push3_co, f_next_co, f_push3_go, f_next_go, f_push3_wi, f_next_wi]
  try rfl
theorem re_7_24 {m : MS} {c : Nat} {w : Int32} (hc : c < 2 ^ 30) (hk : m.kd = 24) : mre g sg told lo m (nI c) 7 w = ((m.next g sg).push3 c 7 12 24 8).tup 1 := by
  unfold mre s_Mo_reach
  refine Eq.trans (if_neg (by decide)) ?_
  refine Eq.trans (if_neg (by decide)) ?_
  refine Eq.trans (if_neg (by decide)) ?_
  refine Eq.trans (if_neg (by decide)) ?_
  refine Eq.trans (if_neg (by decide)) ?_
  refine Eq.trans (if_neg (by decide)) ?_
  refine Eq.trans (if_pos rfl) ?_
  unfold s_Mo_more
  rw [if_neg (by rw [hk]; decide), if_pos hk, if_pos rfl, pass_eq, nI_1, nI_1, nI_1, nI_clamp (by omega), nI_clamp (by omega), nI_clamp (by omega), hk]
  unfold MS.tup
  rw [f_push3_tk, f_push3_at_, f_push3_pl, f_push3_kd, f_push3_vl, f_push3_dp, f_next_dp, f_push3_js, f_next_js, f_push3_sz, f_next_sz, f_push3_gc, f_push3_ks, f_push3_vs, f_push3_co, f_next_co, f_push3_go, f_next_go, f_push3_wi, f_next_wi]
  try rfl
theorem re_7_0 {m : MS} {c : Nat} {w : Int32} (hk : ¬ m.kd = 23) (hk2 : ¬ m.kd = 24) : mre g sg told lo m (nI c) 7 w = (m.gcTo c).tup 1 := by
  unfold mre s_Mo_reach
  refine Eq.trans (if_neg (by decide)) ?_
  refine Eq.trans (if_neg (by decide)) ?_
  refine Eq.trans (if_neg (by decide)) ?_
  refine Eq.trans (if_neg (by decide)) ?_
  refine Eq.trans (if_neg (by decide)) ?_
  refine Eq.trans (if_neg (by decide)) ?_
  refine Eq.trans (if_pos rfl) ?_
  unfold s_Mo_more
  rw [if_neg hk, if_neg hk2]
  unfold MS.tup
  rw [f_gcTo_tk, f_gcTo_at_, f_gcTo_pl, f_gcTo_kd, f_gcTo_vl, f_gcTo_dp, f_gcTo_js, f_gcTo_sz, f_gcTo_gc, f_gcTo_ks, f_gcTo_vs, f_gcTo_co, f_gcTo_go, f_gcTo_wi]
  try rfl
theorem re_9_25 {m : MS} {c : Nat} {w : Int32} (hc : c < 2 ^ 30) (hk : m.kd = 25) : mre g sg told lo m (nI c) 9 w = ((m.next g sg).push3 c 9 12 25 10).tup 1 := by
  unfold mre s_Mo_reach
  refine Eq.trans (if_neg (by decide)) ?_
  refine Eq.trans (if_neg (by decide)) ?_
  refine Eq.trans (if_neg (by decide)) ?_
  refine Eq.trans (if_neg (by decide)) ?_
  refine Eq.trans (if_neg (by decide)) ?_
  refine Eq.trans (if_neg (by decide)) ?_
  refine Eq.trans (if_neg (by decide)) ?_
  refine Eq.trans (if_neg (by decide)) ?_
  refine Eq.trans (if_pos rfl) ?_
  unfold s_Mo_more
  rw [if_pos hk, if_pos rfl, pass_eq, nI_1, nI_1, nI_1, nI_clamp (by omega), nI_clamp (by omega), nI_clamp (by omega), hk]
  unfold MS.tup
  rw [f_push3_tk, f_push3_at_, f_push3_pl, f_push3_kd, f_push3_vl, f_push3_dp, f_next_dp, f_push3_js, f_next_js, f_push3_sz, f_next_sz, f_push3_gc, f_push3_ks, f_push3_vs, f_push3_co, f_next_co, f_push3_go, f_next_go, f_push3_wi, f_next_wi]
  try rfl
theorem re_9_0 {m : MS} {c : Nat} {w : Int32} (hk : ¬ m.kd = 25) (hk2 : ¬ m.kd = 25) : mre g sg told lo m (nI c) 9 w = (m.gcTo c).tup 1 := by
  unfold mre s_Mo_reach
  refine Eq.trans (if_neg (by decide)) ?_
  refine Eq.trans (if_neg (by decide)) ?_
  refine Eq.trans (if_neg (by decide)) ?_
  refine Eq.trans (if_neg (by decide)) ?_
  refine Eq.trans (if_neg (by decide)) ?_
  refine Eq.trans (if_neg (by decide)) ?_
  refine Eq.trans (if_neg (by decide)) ?_
  refine Eq.trans (if_neg (by decide)) ?_
  refine Eq.trans (if_pos rfl) ?_
  unfold s_Mo_more
  rw [if_neg hk, if_neg hk2]
  unfold MS.tup
  rw [f_gcTo_tk, f_gcTo_at_, f_gcTo_pl, f_gcTo_kd, f_gcTo_vl, f_gcTo_dp, f_gcTo_js, f_gcTo_sz, f_gcTo_gc, f_gcTo_ks, f_gcTo_vs, f_gcTo_co, f_gcTo_go, f_gcTo_wi]
  try rfl
theorem re_10_15 {m : MS} {c s : Nat} {w : Int32} (hs : m.sz = nI s) (hb : s < 2 ^ 30) (hk : m.kd = 15) : mre g sg told lo m (nI c) 10 w = (((m.next g sg).lay s 15 m.vl).gcTo c).tup 1 := by
  unfold mre s_Mo_reach
  refine Eq.trans (if_neg (by decide)) ?_
  refine Eq.trans (if_neg (by decide)) ?_
  refine Eq.trans (if_neg (by decide)) ?_
  refine Eq.trans (if_neg (by decide)) ?_
  refine Eq.trans (if_neg (by decide)) ?_
  refine Eq.trans (if_neg (by decide)) ?_
  refine Eq.trans (if_neg (by decide)) ?_
  refine Eq.trans (if_neg (by decide)) ?_
  refine Eq.trans (if_neg (by decide)) ?_
  refine Eq.trans (if_pos rfl) ?_
  unfold s_Mo_readFactor s_Mo_lay
  rw [if_pos hk, hs, nI_clamp (by omega), nI_1, nI_clamp (by omega), show nI s + 2 = nI (s + 2) from nI_add s 2, pass_eq, hk]
  unfold MS.tup
  rw [f_gcTo_tk, f_lay_tk, f_gcTo_at_, f_lay_at_, f_gcTo_pl, f_lay_pl, f_gcTo_kd, f_lay_kd, f_gcTo_vl, f_lay_vl, f_gcTo_dp, f_lay_dp, f_next_dp, f_gcTo_js, f_lay_js, f_next_js, f_gcTo_sz, f_lay_sz, f_gcTo_gc, f_gcTo_ks, f_lay_ks, f_gcTo_vs, f_lay_vs, f_gcTo_co, f_lay_co, f_next_co, f_gcTo_go, f_lay_go, f_next_go, f_gcTo_wi, f_lay_wi, f_next_wi]
  try rfl
theorem re_10_13 {m : MS} {c s : Nat} {w : Int32} (hs : m.sz = nI s) (hb : s < 2 ^ 30) (hk : m.kd = 13) : mre g sg told lo m (nI c) 10 w = (((m.next g sg).lay s 13 m.vl).gcTo c).tup 1 := by
  unfold mre s_Mo_reach
  refine Eq.trans (if_neg (by decide)) ?_
  refine Eq.trans (if_neg (by decide)) ?_
  refine Eq.trans (if_neg (by decide)) ?_
  refine Eq.trans (if_neg (by decide)) ?_
  refine Eq.trans (if_neg (by decide)) ?_
  refine Eq.trans (if_neg (by decide)) ?_
  refine Eq.trans (if_neg (by decide)) ?_
  refine Eq.trans (if_neg (by decide)) ?_
  refine Eq.trans (if_neg (by decide)) ?_
  refine Eq.trans (if_pos rfl) ?_
  unfold s_Mo_readFactor s_Mo_lay
  rw [if_neg (by rw [hk]; decide), if_pos hk, hs, nI_clamp (by omega), nI_1, nI_clamp (by omega), show nI s + 2 = nI (s + 2) from nI_add s 2, pass_eq, hk]
  unfold MS.tup
  rw [f_gcTo_tk, f_lay_tk, f_gcTo_at_, f_lay_at_, f_gcTo_pl, f_lay_pl, f_gcTo_kd, f_lay_kd, f_gcTo_vl, f_lay_vl, f_gcTo_dp, f_lay_dp, f_next_dp, f_gcTo_js, f_lay_js, f_next_js, f_gcTo_sz, f_lay_sz, f_gcTo_gc, f_gcTo_ks, f_lay_ks, f_gcTo_vs, f_lay_vs, f_gcTo_co, f_lay_co, f_next_co, f_gcTo_go, f_lay_go, f_next_go, f_gcTo_wi, f_lay_wi, f_next_wi]
  try rfl
theorem re_10_24y {m : MS} {c d : Nat} {w : Int32} (hc : c < 2 ^ 30) (hk : m.kd = 24) (hd : m.dp = nI d) (hd2 : d < 20) : mre g sg told lo m (nI c) 10 w = (((m.next g sg).dpTo (nI (d + 1))).push3 c 15 12 41 10).tup 1 := by
  unfold mre s_Mo_reach
  refine Eq.trans (if_neg (by decide)) ?_
  refine Eq.trans (if_neg (by decide)) ?_
  refine Eq.trans (if_neg (by decide)) ?_
  refine Eq.trans (if_neg (by decide)) ?_
  refine Eq.trans (if_neg (by decide)) ?_
  refine Eq.trans (if_neg (by decide)) ?_
  refine Eq.trans (if_neg (by decide)) ?_
  refine Eq.trans (if_neg (by decide)) ?_
  refine Eq.trans (if_neg (by decide)) ?_
  refine Eq.trans (if_pos rfl) ?_
  unfold s_Mo_readFactor s_Mo_deeper
  rw [if_neg (by rw [hk]; decide), if_neg (by rw [hk]; decide), if_pos hk, hd, if_neg (neR (N := 20) (j := 20) rfl (by omega) (by decide) (by omega)), pass_eq, nI_1, nI_1, nI_1, nI_1, nI_clamp (by omega), nI_clamp (by omega), nI_clamp (by omega)]
  unfold MS.tup
  rw [f_push3_tk, f_dpTo_tk, f_push3_at_, f_dpTo_at_, f_push3_pl, f_dpTo_pl, f_push3_kd, f_dpTo_kd, f_push3_vl, f_dpTo_vl, f_push3_dp, f_dpTo_dp, f_push3_js, f_dpTo_js, f_next_js, f_push3_sz, f_dpTo_sz, f_next_sz, f_push3_gc, f_push3_ks, f_dpTo_ks, f_push3_vs, f_dpTo_vs, f_push3_co, f_dpTo_co, f_next_co, f_push3_go, f_dpTo_go, f_next_go, f_push3_wi, f_dpTo_wi, f_next_wi]
  try rfl
theorem re_10_24n {m : MS} {c : Nat} {w : Int32} (hc : c < 2 ^ 30) (hk : m.kd = 24) (hd : m.dp = nI 20) : mre g sg told lo m (nI c) 10 w = (m.push3 c 15 12 41 10).tup 0 := by
  unfold mre s_Mo_reach
  refine Eq.trans (if_neg (by decide)) ?_
  refine Eq.trans (if_neg (by decide)) ?_
  refine Eq.trans (if_neg (by decide)) ?_
  refine Eq.trans (if_neg (by decide)) ?_
  refine Eq.trans (if_neg (by decide)) ?_
  refine Eq.trans (if_neg (by decide)) ?_
  refine Eq.trans (if_neg (by decide)) ?_
  refine Eq.trans (if_neg (by decide)) ?_
  refine Eq.trans (if_neg (by decide)) ?_
  refine Eq.trans (if_pos rfl) ?_
  unfold s_Mo_readFactor s_Mo_deeper
  rw [if_neg (by rw [hk]; decide), if_neg (by rw [hk]; decide), if_pos hk, if_pos (show m.dp = 20 from hd), nI_1, nI_1, nI_1, nI_clamp (by omega), nI_clamp (by omega), nI_clamp (by omega)]
  unfold MS.tup
  rw [f_push3_tk, f_push3_at_, f_push3_pl, f_push3_kd, f_push3_vl, f_push3_dp, f_push3_js, f_push3_sz, f_push3_gc, f_push3_ks, f_push3_vs, f_push3_co, f_push3_go, f_push3_wi]
  try rfl
theorem re_10_26y {m : MS} {c d : Nat} {w : Int32} (hc : c < 2 ^ 30) (hk : m.kd = 26) (hd : m.dp = nI d) (hd2 : d < 20) : mre g sg told lo m (nI c) 10 w = (((m.next g sg).dpTo (nI (d + 1))).push2 c 13 6).tup 1 := by
  unfold mre s_Mo_reach
  refine Eq.trans (if_neg (by decide)) ?_
  refine Eq.trans (if_neg (by decide)) ?_
  refine Eq.trans (if_neg (by decide)) ?_
  refine Eq.trans (if_neg (by decide)) ?_
  refine Eq.trans (if_neg (by decide)) ?_
  refine Eq.trans (if_neg (by decide)) ?_
  refine Eq.trans (if_neg (by decide)) ?_
  refine Eq.trans (if_neg (by decide)) ?_
  refine Eq.trans (if_neg (by decide)) ?_
  refine Eq.trans (if_pos rfl) ?_
  unfold s_Mo_readFactor s_Mo_deeper
  rw [if_neg (by rw [hk]; decide), if_neg (by rw [hk]; decide), if_neg (by rw [hk]; decide), if_pos hk, hd, if_neg (neR (N := 20) (j := 20) rfl (by omega) (by decide) (by omega)), pass_eq, nI_1, nI_1, nI_1, nI_clamp (by omega), nI_clamp (by omega)]
  unfold MS.tup
  rw [f_push2_tk, f_dpTo_tk, f_push2_at_, f_dpTo_at_, f_push2_pl, f_dpTo_pl, f_push2_kd, f_dpTo_kd, f_push2_vl, f_dpTo_vl, f_push2_dp, f_dpTo_dp, f_push2_js, f_dpTo_js, f_next_js, f_push2_sz, f_dpTo_sz, f_next_sz, f_push2_gc, f_push2_ks, f_dpTo_ks, f_push2_vs, f_dpTo_vs, f_push2_co, f_dpTo_co, f_next_co, f_push2_go, f_dpTo_go, f_next_go, f_push2_wi, f_dpTo_wi, f_next_wi]
  try rfl
theorem re_10_26n {m : MS} {c : Nat} {w : Int32} (hc : c < 2 ^ 30) (hk : m.kd = 26) (hd : m.dp = nI 20) : mre g sg told lo m (nI c) 10 w = (m.push2 c 13 6).tup 0 := by
  unfold mre s_Mo_reach
  refine Eq.trans (if_neg (by decide)) ?_
  refine Eq.trans (if_neg (by decide)) ?_
  refine Eq.trans (if_neg (by decide)) ?_
  refine Eq.trans (if_neg (by decide)) ?_
  refine Eq.trans (if_neg (by decide)) ?_
  refine Eq.trans (if_neg (by decide)) ?_
  refine Eq.trans (if_neg (by decide)) ?_
  refine Eq.trans (if_neg (by decide)) ?_
  refine Eq.trans (if_neg (by decide)) ?_
  refine Eq.trans (if_pos rfl) ?_
  unfold s_Mo_readFactor s_Mo_deeper
  rw [if_neg (by rw [hk]; decide), if_neg (by rw [hk]; decide), if_neg (by rw [hk]; decide), if_pos hk, if_pos (show m.dp = 20 from hd), nI_1, nI_1, nI_clamp (by omega), nI_clamp (by omega)]
  unfold MS.tup
  rw [f_push2_tk, f_push2_at_, f_push2_pl, f_push2_kd, f_push2_vl, f_push2_dp, f_push2_js, f_push2_sz, f_push2_gc, f_push2_ks, f_push2_vs, f_push2_co, f_push2_go, f_push2_wi]
  try rfl
theorem re_10_n {m : MS} {c : Nat} {w : Int32} (h1 : ¬ m.kd = 15) (h2 : ¬ m.kd = 13) (h3 : ¬ m.kd = 24) (h4 : ¬ m.kd = 26) : mre g sg told lo m (nI c) 10 w = (m.gcTo c).tup 0 := by
  unfold mre s_Mo_reach
  refine Eq.trans (if_neg (by decide)) ?_
  refine Eq.trans (if_neg (by decide)) ?_
  refine Eq.trans (if_neg (by decide)) ?_
  refine Eq.trans (if_neg (by decide)) ?_
  refine Eq.trans (if_neg (by decide)) ?_
  refine Eq.trans (if_neg (by decide)) ?_
  refine Eq.trans (if_neg (by decide)) ?_
  refine Eq.trans (if_neg (by decide)) ?_
  refine Eq.trans (if_neg (by decide)) ?_
  refine Eq.trans (if_pos rfl) ?_
  unfold s_Mo_readFactor
  rw [if_neg h1, if_neg h2, if_neg h3, if_neg h4]
  unfold MS.tup
  rw [f_gcTo_tk, f_gcTo_at_, f_gcTo_pl, f_gcTo_kd, f_gcTo_vl, f_gcTo_dp, f_gcTo_js, f_gcTo_sz, f_gcTo_gc, f_gcTo_ks, f_gcTo_vs, f_gcTo_co, f_gcTo_go, f_gcTo_wi]
  try rfl
theorem re_11_y {m : MS} {c j : Nat} {w : Int32} (hc : c < 2 ^ 30) (hk : ¬ s_Mo_in m.kd 17 22 = 0) (hj : m.js = nI j) (hj2 : j < 150) : mre g sg told lo m (nI c) 11 w = (((m.next g sg).jsTo (nI (j + 1))).push2w c 12 m.kd 6).tup 1 := by
  unfold mre s_Mo_reach
  refine Eq.trans (if_neg (by decide)) ?_
  refine Eq.trans (if_neg (by decide)) ?_
  refine Eq.trans (if_neg (by decide)) ?_
  refine Eq.trans (if_neg (by decide)) ?_
  refine Eq.trans (if_neg (by decide)) ?_
  refine Eq.trans (if_neg (by decide)) ?_
  refine Eq.trans (if_neg (by decide)) ?_
  refine Eq.trans (if_neg (by decide)) ?_
  refine Eq.trans (if_neg (by decide)) ?_
  refine Eq.trans (if_neg (by decide)) ?_
  refine Eq.trans (if_pos rfl) ?_
  unfold s_Mo_readSign s_Mo_ask
  dsimp only
  rw [if_neg hk, hj, if_neg (neR (N := 150) (j := 150) rfl (by omega) (by decide) (by omega)), pass_eq, nI_1, nI_1, nI_1, nI_clamp (by omega), nI_clamp (by omega)]
  unfold MS.tup
  rw [f_push2w_tk, f_jsTo_tk, f_push2w_at_, f_jsTo_at_, f_push2w_pl, f_jsTo_pl, f_push2w_kd, f_jsTo_kd, f_push2w_vl, f_jsTo_vl, f_push2w_dp, f_jsTo_dp, f_next_dp, f_push2w_js, f_jsTo_js, f_push2w_sz, f_jsTo_sz, f_next_sz, f_push2w_gc, f_push2w_ks, f_jsTo_ks, f_push2w_vs, f_jsTo_vs, f_push2w_co, f_jsTo_co, f_next_co, f_push2w_go, f_jsTo_go, f_next_go, f_push2w_wi, f_jsTo_wi, f_next_wi]
  try rfl
theorem re_11_n {m : MS} {c : Nat} {w : Int32} (hc : c < 2 ^ 30) (hk : ¬ s_Mo_in m.kd 17 22 = 0) (hj : m.js = nI 150) : mre g sg told lo m (nI c) 11 w = (m.push2w c 12 m.kd 6).tup 0 := by
  unfold mre s_Mo_reach
  refine Eq.trans (if_neg (by decide)) ?_
  refine Eq.trans (if_neg (by decide)) ?_
  refine Eq.trans (if_neg (by decide)) ?_
  refine Eq.trans (if_neg (by decide)) ?_
  refine Eq.trans (if_neg (by decide)) ?_
  refine Eq.trans (if_neg (by decide)) ?_
  refine Eq.trans (if_neg (by decide)) ?_
  refine Eq.trans (if_neg (by decide)) ?_
  refine Eq.trans (if_neg (by decide)) ?_
  refine Eq.trans (if_neg (by decide)) ?_
  refine Eq.trans (if_pos rfl) ?_
  unfold s_Mo_readSign s_Mo_ask
  dsimp only
  rw [if_neg hk, if_pos (show m.js = 150 from hj), nI_1, nI_1, nI_clamp (by omega), nI_clamp (by omega)]
  unfold MS.tup
  rw [f_push2w_tk, f_push2w_at_, f_push2w_pl, f_push2w_kd, f_push2w_vl, f_push2w_dp, f_push2w_js, f_push2w_sz, f_push2w_gc, f_push2w_ks, f_push2w_vs, f_push2w_co, f_push2w_go, f_push2w_wi]
  try rfl
theorem re_11_0 {m : MS} {c : Nat} {w : Int32} (hk : s_Mo_in m.kd 17 22 = 0) : mre g sg told lo m (nI c) 11 w = (m.gcTo c).tup 0 := by
  unfold mre s_Mo_reach
  refine Eq.trans (if_neg (by decide)) ?_
  refine Eq.trans (if_neg (by decide)) ?_
  refine Eq.trans (if_neg (by decide)) ?_
  refine Eq.trans (if_neg (by decide)) ?_
  refine Eq.trans (if_neg (by decide)) ?_
  refine Eq.trans (if_neg (by decide)) ?_
  refine Eq.trans (if_neg (by decide)) ?_
  refine Eq.trans (if_neg (by decide)) ?_
  refine Eq.trans (if_neg (by decide)) ?_
  refine Eq.trans (if_neg (by decide)) ?_
  refine Eq.trans (if_pos rfl) ?_
  unfold s_Mo_readSign
  dsimp only
  rw [hk, if_pos rfl]
  unfold MS.tup
  rw [f_gcTo_tk, f_gcTo_at_, f_gcTo_pl, f_gcTo_kd, f_gcTo_vl, f_gcTo_dp, f_gcTo_js, f_gcTo_sz, f_gcTo_gc, f_gcTo_ks, f_gcTo_vs, f_gcTo_co, f_gcTo_go, f_gcTo_wi]
  try rfl
theorem re_5_10y {m : MS} {c d : Nat} {w : Int32} (hc : c < 2 ^ 30) (hk : m.kd = 10) (hd : m.dp = nI d) (hd2 : d < 20) : mre g sg told lo m (nI c) 5 w = (((m.next g sg).dpTo (nI (d + 1))).push3 c 15 12 10 5).tup 1 := by
  unfold mre s_Mo_reach
  refine Eq.trans (if_neg (by decide)) ?_
  refine Eq.trans (if_neg (by decide)) ?_
  refine Eq.trans (if_neg (by decide)) ?_
  refine Eq.trans (if_neg (by decide)) ?_
  refine Eq.trans (if_pos rfl) ?_
  unfold s_Mo_readNot s_Mo_deeper
  rw [if_pos hk, hd, if_neg (neR (N := 20) (j := 20) rfl (by omega) (by decide) (by omega)), pass_eq, nI_1, nI_1, nI_1, nI_1, nI_clamp (by omega), nI_clamp (by omega), nI_clamp (by omega)]
  unfold MS.tup
  rw [f_push3_tk, f_dpTo_tk, f_push3_at_, f_dpTo_at_, f_push3_pl, f_dpTo_pl, f_push3_kd, f_dpTo_kd, f_push3_vl, f_dpTo_vl, f_push3_dp, f_dpTo_dp, f_push3_js, f_dpTo_js, f_next_js, f_push3_sz, f_dpTo_sz, f_next_sz, f_push3_gc, f_push3_ks, f_dpTo_ks, f_push3_vs, f_dpTo_vs, f_push3_co, f_dpTo_co, f_next_co, f_push3_go, f_dpTo_go, f_next_go, f_push3_wi, f_dpTo_wi, f_next_wi]
  try rfl
theorem re_5_10n {m : MS} {c : Nat} {w : Int32} (hc : c < 2 ^ 30) (hk : m.kd = 10) (hd : m.dp = nI 20) : mre g sg told lo m (nI c) 5 w = (m.push3 c 15 12 10 5).tup 0 := by
  unfold mre s_Mo_reach
  refine Eq.trans (if_neg (by decide)) ?_
  refine Eq.trans (if_neg (by decide)) ?_
  refine Eq.trans (if_neg (by decide)) ?_
  refine Eq.trans (if_neg (by decide)) ?_
  refine Eq.trans (if_pos rfl) ?_
  unfold s_Mo_readNot s_Mo_deeper
  rw [if_pos hk, if_pos (show m.dp = 20 from hd), nI_1, nI_1, nI_1, nI_clamp (by omega), nI_clamp (by omega), nI_clamp (by omega)]
  unfold MS.tup
  rw [f_push3_tk, f_push3_at_, f_push3_pl, f_push3_kd, f_push3_vl, f_push3_dp, f_push3_js, f_push3_sz, f_push3_gc, f_push3_ks, f_push3_vs, f_push3_co, f_push3_go, f_push3_wi]
  try rfl
theorem re_5_28y {m : MS} {c d : Nat} {w : Int32} (hc : c < 2 ^ 30) (hk : m.kd = 28) (hd : m.dp = nI d) (hd2 : d < 20) : mre g sg told lo m (nI c) 5 w = (((m.next g sg).dpTo (nI (d + 1))).push2 c 14 1).tup 1 := by
  unfold mre s_Mo_reach
  refine Eq.trans (if_neg (by decide)) ?_
  refine Eq.trans (if_neg (by decide)) ?_
  refine Eq.trans (if_neg (by decide)) ?_
  refine Eq.trans (if_neg (by decide)) ?_
  refine Eq.trans (if_pos rfl) ?_
  unfold s_Mo_readNot s_Mo_deeper
  rw [if_neg (by rw [hk]; decide), if_pos hk, hd, if_neg (neR (N := 20) (j := 20) rfl (by omega) (by decide) (by omega)), pass_eq, nI_1, nI_1, nI_1, nI_clamp (by omega), nI_clamp (by omega)]
  unfold MS.tup
  rw [f_push2_tk, f_dpTo_tk, f_push2_at_, f_dpTo_at_, f_push2_pl, f_dpTo_pl, f_push2_kd, f_dpTo_kd, f_push2_vl, f_dpTo_vl, f_push2_dp, f_dpTo_dp, f_push2_js, f_dpTo_js, f_next_js, f_push2_sz, f_dpTo_sz, f_next_sz, f_push2_gc, f_push2_ks, f_dpTo_ks, f_push2_vs, f_dpTo_vs, f_push2_co, f_dpTo_co, f_next_co, f_push2_go, f_dpTo_go, f_next_go, f_push2_wi, f_dpTo_wi, f_next_wi]
  try rfl
theorem re_5_28n {m : MS} {c : Nat} {w : Int32} (hc : c < 2 ^ 30) (hk : m.kd = 28) (hd : m.dp = nI 20) : mre g sg told lo m (nI c) 5 w = (m.push2 c 14 1).tup 0 := by
  unfold mre s_Mo_reach
  refine Eq.trans (if_neg (by decide)) ?_
  refine Eq.trans (if_neg (by decide)) ?_
  refine Eq.trans (if_neg (by decide)) ?_
  refine Eq.trans (if_neg (by decide)) ?_
  refine Eq.trans (if_pos rfl) ?_
  unfold s_Mo_readNot s_Mo_deeper
  rw [if_neg (by rw [hk]; decide), if_pos hk, if_pos (show m.dp = 20 from hd), nI_1, nI_1, nI_clamp (by omega), nI_clamp (by omega)]
  unfold MS.tup
  rw [f_push2_tk, f_push2_at_, f_push2_pl, f_push2_kd, f_push2_vl, f_push2_dp, f_push2_js, f_push2_sz, f_push2_gc, f_push2_ks, f_push2_vs, f_push2_co, f_push2_go, f_push2_wi]
  try rfl
theorem re_5_14u {m : MS} {c v : Nat} {w : Int32} (hk : m.kd = 14) (hv : m.vl = nI v) (hv2 : v < 26) (ht : told v = 0) : mre g sg told lo m (nI c) 5 w = (m.gcTo c).tup 0 := by
  unfold mre s_Mo_reach
  refine Eq.trans (if_neg (by decide)) ?_
  refine Eq.trans (if_neg (by decide)) ?_
  refine Eq.trans (if_neg (by decide)) ?_
  refine Eq.trans (if_neg (by decide)) ?_
  refine Eq.trans (if_pos rfl) ?_
  unfold s_Mo_readNot
  rw [if_neg (by rw [hk]; decide), if_neg (by rw [hk]; decide), if_pos hk, hv, nI_clamp (by omega), if_pos ht, ← hv]
  unfold MS.tup
  rw [f_gcTo_tk, f_gcTo_at_, f_gcTo_pl, f_gcTo_kd, f_gcTo_vl, f_gcTo_dp, f_gcTo_js, f_gcTo_sz, f_gcTo_gc, f_gcTo_ks, f_gcTo_vs, f_gcTo_co, f_gcTo_go, f_gcTo_wi]
  try rfl
theorem re_5_14y {m : MS} {c v s j : Nat} {w : Int32} (hk : m.kd = 14) (hv : m.vl = nI v) (hv2 : v < 26) (ht : ¬ told v = 0) (hs : m.sz = nI s) (hb : s < 2 ^ 30) (hj : m.js = nI j) (hj2 : j < 150) : mre g sg told lo m (nI c) 5 w = ((((m.next g sg).lay s 40 (lo v)).jsTo (nI (j + 1))).gcTo c).tup 1 := by
  have hx : m.vl.toNatClampNeg = v := by rw [hv]; exact nI_clamp (by omega)
  unfold mre s_Mo_reach
  refine Eq.trans (if_neg (by decide)) ?_
  refine Eq.trans (if_neg (by decide)) ?_
  refine Eq.trans (if_neg (by decide)) ?_
  refine Eq.trans (if_neg (by decide)) ?_
  refine Eq.trans (if_pos rfl) ?_
  unfold s_Mo_readNot s_Mo_lay s_Mo_ask
  rw [if_neg (by rw [hk]; decide), if_neg (by rw [hk]; decide), if_pos hk, hx, if_neg ht, hs, nI_clamp (by omega), nI_1, nI_clamp (by omega), show nI s + 2 = nI (s + 2) from nI_add s 2, hj, if_neg (neR (N := 150) (j := 150) rfl (by omega) (by decide) (by omega)), pass_eq, nI_1]
  unfold MS.tup
  rw [f_gcTo_tk, f_jsTo_tk, f_lay_tk, f_gcTo_at_, f_jsTo_at_, f_lay_at_, f_gcTo_pl, f_jsTo_pl, f_lay_pl, f_gcTo_kd, f_jsTo_kd, f_lay_kd, f_gcTo_vl, f_jsTo_vl, f_lay_vl, f_gcTo_dp, f_jsTo_dp, f_lay_dp, f_next_dp, f_gcTo_js, f_jsTo_js, f_gcTo_sz, f_jsTo_sz, f_lay_sz, f_gcTo_gc, f_gcTo_ks, f_jsTo_ks, f_lay_ks, f_gcTo_vs, f_jsTo_vs, f_lay_vs, f_gcTo_co, f_jsTo_co, f_lay_co, f_next_co, f_gcTo_go, f_jsTo_go, f_lay_go, f_next_go, f_gcTo_wi, f_jsTo_wi, f_lay_wi, f_next_wi]
  try rfl
theorem re_5_14n {m : MS} {c v s : Nat} {w : Int32} (hk : m.kd = 14) (hv : m.vl = nI v) (hv2 : v < 26) (ht : ¬ told v = 0) (hs : m.sz = nI s) (hb : s < 2 ^ 30) (hj : m.js = nI 150) : mre g sg told lo m (nI c) 5 w = ((m.lay s 40 (lo v)).gcTo c).tup 0 := by
  have hx : m.vl.toNatClampNeg = v := by rw [hv]; exact nI_clamp (by omega)
  unfold mre s_Mo_reach
  refine Eq.trans (if_neg (by decide)) ?_
  refine Eq.trans (if_neg (by decide)) ?_
  refine Eq.trans (if_neg (by decide)) ?_
  refine Eq.trans (if_neg (by decide)) ?_
  refine Eq.trans (if_pos rfl) ?_
  unfold s_Mo_readNot s_Mo_lay s_Mo_ask
  rw [if_neg (by rw [hk]; decide), if_neg (by rw [hk]; decide), if_pos hk, hx, if_neg ht, hs, nI_clamp (by omega), nI_1, nI_clamp (by omega), show nI s + 2 = nI (s + 2) from nI_add s 2, if_pos (show m.js = 150 from hj)]
  unfold MS.tup
  rw [f_gcTo_tk, f_lay_tk, f_gcTo_at_, f_lay_at_, f_gcTo_pl, f_lay_pl, f_gcTo_kd, f_lay_kd, f_gcTo_vl, f_lay_vl, f_gcTo_dp, f_lay_dp, f_gcTo_js, f_lay_js, f_gcTo_sz, f_lay_sz, f_gcTo_gc, f_gcTo_ks, f_lay_ks, f_gcTo_vs, f_lay_vs, f_gcTo_co, f_lay_co, f_gcTo_go, f_lay_go, f_gcTo_wi, f_lay_wi]
  try rfl
theorem re_5_sy {m : MS} {c : Nat} {w : Int32} (hc : c < 2 ^ 30) (h1 : ¬ m.kd = 10) (h2 : ¬ m.kd = 28) (h3 : ¬ m.kd = 14) (hk : ¬ s_Mo_isSumStart m.kd = 0) : mre g sg told lo m (nI c) 5 w = (m.push2 c 11 6).tup 1 := by
  unfold mre s_Mo_reach
  refine Eq.trans (if_neg (by decide)) ?_
  refine Eq.trans (if_neg (by decide)) ?_
  refine Eq.trans (if_neg (by decide)) ?_
  refine Eq.trans (if_neg (by decide)) ?_
  refine Eq.trans (if_pos rfl) ?_
  unfold s_Mo_readNot
  rw [if_neg h1, if_neg h2, if_neg h3]
  dsimp only
  rw [if_neg hk, nI_1, nI_1, nI_clamp (by omega), nI_clamp (by omega)]
  unfold MS.tup
  rw [f_push2_tk, f_push2_at_, f_push2_pl, f_push2_kd, f_push2_vl, f_push2_dp, f_push2_js, f_push2_sz, f_push2_gc, f_push2_ks, f_push2_vs, f_push2_co, f_push2_go, f_push2_wi]
  try rfl
theorem re_5_sn {m : MS} {c : Nat} {w : Int32} (hc : c < 2 ^ 30) (h1 : ¬ m.kd = 10) (h2 : ¬ m.kd = 28) (h3 : ¬ m.kd = 14) (hk : s_Mo_isSumStart m.kd = 0) : mre g sg told lo m (nI c) 5 w = (m.gcTo c).tup 0 := by
  unfold mre s_Mo_reach
  refine Eq.trans (if_neg (by decide)) ?_
  refine Eq.trans (if_neg (by decide)) ?_
  refine Eq.trans (if_neg (by decide)) ?_
  refine Eq.trans (if_neg (by decide)) ?_
  refine Eq.trans (if_pos rfl) ?_
  unfold s_Mo_readNot
  rw [if_neg h1, if_neg h2, if_neg h3]
  dsimp only
  rw [if_pos hk]
  unfold MS.tup
  rw [f_gcTo_tk, f_gcTo_at_, f_gcTo_pl, f_gcTo_kd, f_gcTo_vl, f_gcTo_dp, f_gcTo_js, f_gcTo_sz, f_gcTo_gc, f_gcTo_ks, f_gcTo_vs, f_gcTo_co, f_gcTo_go, f_gcTo_wi]
  try rfl
end RE
