/-! conditions -/
section CON
variable {g K V P : Nat → Int32} {N n : Nat} {e pos : Nat → Nat} {LO told lo : Nat → Int32} {tru : RcF} {okt : RcO} {d Lc : Nat}
theorem cc_14n {f it t cs : Nat} {fl : Int32} {S W : Nat → Int32} (hit : it < 2000) (ht : t ≤ 2000) (hK : K t = nI 14) :
    lp_Par_condition_14 tru K V LO (nI d) (f + 1) fl (nI it) (nI t) (nI 150) (nI cs) S W = (0, nI t, nI 150, nI cs, S, W) ∧ oklp_Par_condition_14 tru okt K V LO (nI d) (f + 1) fl (nI it) (nI t) (nI 150) (nI cs) S W := by
  have h1 : ¬ (2000 : Int32) ≤ nI it := geL (N := 2000) (b := 2000) rfl hit (by decide)
  have h14 : (nI 14 : Int32) = 14 := rfl
  have hup : up (nI t) 2001 := up_of (by omega) (by decide)
  have h00 : (0 : Int32) = 0 := rfl
  constructor
  · rw [lp_Par_condition_14, if_neg h1]
    dsimp only
    rw [par_kind ht, hK, joint_n]
    try dsimp only
    by_cases c : fl = 0
    · skip
      simp only [if_pos c, if_pos h14, if_pos h00, if_true]
    · skip
      simp only [if_neg c, if_pos h14, if_pos h00, if_true]
  · skip
    rw [oklp_Par_condition_14, if_neg h1]
    dsimp only
    rw [par_kind ht, hK, joint_n]
    try dsimp only
    by_cases c : fl = 0
    · skip
      simp only [if_pos c, if_pos h14, if_pos h00, if_true]
      exact ⟨hup, trivial⟩
    · skip
      simp only [if_neg c, if_pos h14, if_pos h00, if_true]
      exact ⟨hup, trivial⟩
theorem cc_14 {f it t j cs : Nat} {fl : Int32} {S W : Nat → Int32} {r : CR} (hit : it < 2000) (ht : t ≤ 2000) (hj : j < 150) (hK : K t = nI 14) (hr : tru K V S W (nI cs) LO (nI (t + 1)) (nI (j + 1)) (nI d) = r) :
    lp_Par_condition_14 tru K V LO (nI d) (f + 1) fl (nI it) (nI t) (nI j) (nI cs) S W = (if r.1 = 0 then (0, r.2.1, r.2.2.1, r.2.2.2.1, r.2.2.2.2.1, r.2.2.2.2.2) else lp_Par_condition_14 tru K V LO (nI d) f fl (nI (it + 1)) r.2.1 r.2.2.1 (s_Cond_add r.2.2.2.2.1 r.2.2.2.2.2 r.2.2.2.1 14 0).1 (s_Cond_add r.2.2.2.2.1 r.2.2.2.2.2 r.2.2.2.1 14 0).2.1 (s_Cond_add r.2.2.2.2.1 r.2.2.2.2.2 r.2.2.2.1 14 0).2.2) ∧
    ((okt K V S W (nI cs) LO (nI (t + 1)) (nI (j + 1)) (nI d) ∧ (¬ r.1 = 0 → up r.2.2.2.1 2000 ∧ oklp_Par_condition_14 tru okt K V LO (nI d) f fl (nI (it + 1)) r.2.1 r.2.2.1 (s_Cond_add r.2.2.2.2.1 r.2.2.2.2.2 r.2.2.2.1 14 0).1 (s_Cond_add r.2.2.2.2.1 r.2.2.2.2.2 r.2.2.2.1 14 0).2.1 (s_Cond_add r.2.2.2.2.1 r.2.2.2.2.2 r.2.2.2.1 14 0).2.2)) → oklp_Par_condition_14 tru okt K V LO (nI d) (f + 1) fl (nI it) (nI t) (nI j) (nI cs) S W) := by
  have h1 : ¬ (2000 : Int32) ≤ nI it := geL (N := 2000) (b := 2000) rfl hit (by decide)
  have h14 : (nI 14 : Int32) = 14 := rfl
  have hup : up (nI t) 2001 := up_of (by omega) (by decide)
  have h10 : ¬ (1 : Int32) = 0 := by decide
  constructor
  · rw [lp_Par_condition_14, if_neg h1]
    dsimp only
    rw [par_kind ht, hK, joint_y hj]
    try dsimp only
    rw [hr, nI_1 it]
    by_cases c : fl = 0
    · by_cases r0 : r.1 = 0
      · skip
        simp only [if_pos c, if_pos h14, if_neg h10, if_pos r0]
      · skip
        simp only [if_pos c, if_pos h14, if_neg h10, if_neg r0]
    · by_cases r0 : r.1 = 0
      · skip
        simp only [if_neg c, if_pos h14, if_neg h10, if_pos r0]
      · skip
        simp only [if_neg c, if_pos h14, if_neg h10, if_neg r0]
  · intro z
    rw [oklp_Par_condition_14, if_neg h1]
    dsimp only
    rw [par_kind ht, hK, joint_y hj]
    try dsimp only
    rw [hr, nI_1 it]
    by_cases c : fl = 0
    · by_cases r0 : r.1 = 0
      · skip
        simp only [if_pos c, if_pos h14, if_neg h10, if_pos r0]
        exact ⟨hup, z.1, trivial⟩
      · skip
        simp only [if_pos c, if_pos h14, if_neg h10, if_neg r0]
        exact ⟨hup, z.1, (z.2 r0).1, (z.2 r0).2⟩
    · by_cases r0 : r.1 = 0
      · skip
        simp only [if_neg c, if_pos h14, if_neg h10, if_pos r0]
        exact ⟨hup, z.1, trivial⟩
      · skip
        simp only [if_neg c, if_pos h14, if_neg h10, if_neg r0]
        exact ⟨hup, z.1, (z.2 r0).1, (z.2 r0).2⟩
def oS (fl : Int32) (cs : Nat) (S : Nat → Int32) : Nat → Int32 := if fl = 0 then S else upd S cs 15
def oW (fl : Int32) (cs : Nat) (W : Nat → Int32) : Nat → Int32 := if fl = 0 then W else upd W cs 0
def oC (fl : Int32) (cs : Nat) : Nat := if fl = 0 then cs else cs + 1
theorem cc_15n {f it t cs : Nat} {fl : Int32} {S W : Nat → Int32} (hit : it < 2000) (ht : t ≤ 2000) (hcs : cs < 2000) (hK : K t = nI 15) :
    lp_Par_condition_14 tru K V LO (nI d) (f + 1) fl (nI it) (nI t) (nI 150) (nI cs) S W = (0, nI t, nI 150, nI (oC fl cs), oS fl cs S, oW fl cs W) ∧ oklp_Par_condition_14 tru okt K V LO (nI d) (f + 1) fl (nI it) (nI t) (nI 150) (nI cs) S W := by
  have h1 : ¬ (2000 : Int32) ≤ nI it := geL (N := 2000) (b := 2000) rfl hit (by decide)
  have h14 : ¬ (nI 15 : Int32) = 14 := by decide
  have h15 : (nI 15 : Int32) = 15 := rfl
  have h00 : (0 : Int32) = 0 := rfl
  have hup : up (nI t) 2001 := up_of (by omega) (by decide)
  have hup2 : up (nI cs) 2000 := up_of (by omega) (by decide)
  by_cases c : fl = 0
  · have eS : oS fl cs S = S := if_pos c
    have eW : oW fl cs W = W := if_pos c
    have eC : oC fl cs = cs := if_pos c
    rw [eS, eW, eC]
    constructor
    · rw [lp_Par_condition_14, if_neg h1]
      dsimp only
      rw [par_kind ht, hK, joint_n]
      try dsimp only
      simp only [if_pos c, if_neg h14, if_pos h15, if_pos h00, if_true]
    · skip
      rw [oklp_Par_condition_14, if_neg h1]
      dsimp only
      rw [par_kind ht, hK, joint_n]
      try dsimp only
      simp only [if_pos c, if_neg h14, if_pos h15, if_pos h00, if_true]
      exact ⟨hup, trivial⟩
  · have eS : oS fl cs S = upd S cs 15 := if_neg c
    have eW : oW fl cs W = upd W cs 0 := if_neg c
    have eC : oC fl cs = cs + 1 := if_neg c
    rw [eS, eW, eC]
    constructor
    · rw [lp_Par_condition_14, if_neg h1]
      dsimp only
      rw [par_kind ht, hK, joint_n, cond_add hcs]
      try dsimp only
      simp only [if_neg c, if_neg h14, if_pos h15, if_pos h00, if_true]
    · skip
      rw [oklp_Par_condition_14, if_neg h1]
      dsimp only
      rw [par_kind ht, hK, joint_n, cond_add hcs]
      try dsimp only
      simp only [if_neg c, if_neg h14, if_pos h15, if_pos h00, if_true]
      exact ⟨hup, hup2, trivial⟩
theorem cc_15 {f it t j cs : Nat} {fl : Int32} {S W : Nat → Int32} {r : CR} (hit : it < 2000) (ht : t ≤ 2000) (hcs : cs < 2000) (hj : j < 150) (hK : K t = nI 15) (hr : tru K V (oS fl cs S) (oW fl cs W) (nI (oC fl cs)) LO (nI (t + 1)) (nI (j + 1)) (nI d) = r) :
    lp_Par_condition_14 tru K V LO (nI d) (f + 1) fl (nI it) (nI t) (nI j) (nI cs) S W = (if r.1 = 0 then (0, r.2.1, r.2.2.1, r.2.2.2.1, r.2.2.2.2.1, r.2.2.2.2.2) else lp_Par_condition_14 tru K V LO (nI d) f 1 (nI (it + 1)) r.2.1 r.2.2.1 r.2.2.2.1 r.2.2.2.2.1 r.2.2.2.2.2) ∧
    ((okt K V (oS fl cs S) (oW fl cs W) (nI (oC fl cs)) LO (nI (t + 1)) (nI (j + 1)) (nI d) ∧ (¬ r.1 = 0 → oklp_Par_condition_14 tru okt K V LO (nI d) f 1 (nI (it + 1)) r.2.1 r.2.2.1 r.2.2.2.1 r.2.2.2.2.1 r.2.2.2.2.2)) → oklp_Par_condition_14 tru okt K V LO (nI d) (f + 1) fl (nI it) (nI t) (nI j) (nI cs) S W) := by
  have h1 : ¬ (2000 : Int32) ≤ nI it := geL (N := 2000) (b := 2000) rfl hit (by decide)
  have h14 : ¬ (nI 15 : Int32) = 14 := by decide
  have h15 : (nI 15 : Int32) = 15 := rfl
  have h10 : ¬ (1 : Int32) = 0 := by decide
  have hup : up (nI t) 2001 := up_of (by omega) (by decide)
  have hup2 : up (nI cs) 2000 := up_of (by omega) (by decide)
  by_cases c : fl = 0
  · have eS : oS fl cs S = S := if_pos c
    have eW : oW fl cs W = W := if_pos c
    have eC : oC fl cs = cs := if_pos c
    rw [eS, eW, eC] at hr ⊢
    constructor
    · rw [lp_Par_condition_14, if_neg h1]
      dsimp only
      rw [par_kind ht, hK, joint_y hj, nI_1 it]
      try dsimp only
      by_cases r0 : r.1 = 0
      · skip
        simp only [if_pos c, if_neg h14, if_pos h15, if_neg h10, hr, if_pos r0]
      · skip
        simp only [if_pos c, if_neg h14, if_pos h15, if_neg h10, hr, if_neg r0]
    · intro z
      rw [oklp_Par_condition_14, if_neg h1]
      dsimp only
      rw [par_kind ht, hK, joint_y hj, nI_1 it]
      try dsimp only
      by_cases r0 : r.1 = 0
      · skip
        simp only [if_pos c, if_neg h14, if_pos h15, if_neg h10, hr, if_pos r0]
        exact ⟨hup, z.1, trivial⟩
      · skip
        simp only [if_pos c, if_neg h14, if_pos h15, if_neg h10, hr, if_neg r0]
        exact ⟨hup, z.1, z.2 r0⟩
  · have eS : oS fl cs S = upd S cs 15 := if_neg c
    have eW : oW fl cs W = upd W cs 0 := if_neg c
    have eC : oC fl cs = cs + 1 := if_neg c
    rw [eS, eW, eC] at hr ⊢
    constructor
    · rw [lp_Par_condition_14, if_neg h1]
      dsimp only
      rw [par_kind ht, hK, joint_y hj, nI_1 it, cond_add hcs]
      try dsimp only
      by_cases r0 : r.1 = 0
      · skip
        simp only [if_neg c, if_neg h14, if_pos h15, if_neg h10, hr, if_pos r0]
      · skip
        simp only [if_neg c, if_neg h14, if_pos h15, if_neg h10, hr, if_neg r0]
    · intro z
      rw [oklp_Par_condition_14, if_neg h1]
      dsimp only
      rw [par_kind ht, hK, joint_y hj, nI_1 it, cond_add hcs]
      try dsimp only
      by_cases r0 : r.1 = 0
      · skip
        simp only [if_neg c, if_neg h14, if_pos h15, if_neg h10, hr, if_pos r0]
        exact ⟨hup, hup2, z.1, trivial⟩
      · skip
        simp only [if_neg c, if_neg h14, if_pos h15, if_neg h10, hr, if_neg r0]
        exact ⟨hup, hup2, z.1, z.2 r0⟩
theorem cc_e {f it t j cs k : Nat} {fl : Int32} {S W : Nat → Int32} (hit : it < 2000) (ht : t ≤ 2000) (hcs : cs < 2000) (hk31 : k < 31) (hk1 : k ≠ 14) (hk2 : k ≠ 15) (hK : K t = nI k) :
    lp_Par_condition_14 tru K V LO (nI d) (f + 1) fl (nI it) (nI t) (nI j) (nI cs) S W = (1, nI t, nI j, nI (oC fl cs), oS fl cs S, oW fl cs W) ∧ oklp_Par_condition_14 tru okt K V LO (nI d) (f + 1) fl (nI it) (nI t) (nI j) (nI cs) S W := by
  have h1 : ¬ (2000 : Int32) ≤ nI it := geL (N := 2000) (b := 2000) rfl hit (by decide)
  have h14 : ¬ (nI k : Int32) = 14 := neR (N := 14) (j := 14) rfl (by omega) (by decide) hk1
  have h15 : ¬ (nI k : Int32) = 15 := neR (N := 15) (j := 15) rfl (by omega) (by decide) hk2
  have hup : up (nI t) 2001 := up_of (by omega) (by decide)
  have hup2 : up (nI cs) 2000 := up_of (by omega) (by decide)
  by_cases c : fl = 0
  · have eS : oS fl cs S = S := if_pos c
    have eW : oW fl cs W = W := if_pos c
    have eC : oC fl cs = cs := if_pos c
    rw [eS, eW, eC]
    constructor
    · rw [lp_Par_condition_14, if_neg h1]
      dsimp only
      rw [par_kind ht, hK]
      try dsimp only
      simp only [if_pos c, if_neg h14, if_neg h15]
    · skip
      rw [oklp_Par_condition_14, if_neg h1]
      dsimp only
      rw [par_kind ht, hK]
      try dsimp only
      simp only [if_pos c, if_neg h14, if_neg h15]
      exact ⟨hup, trivial⟩
  · have eS : oS fl cs S = upd S cs 15 := if_neg c
    have eW : oW fl cs W = upd W cs 0 := if_neg c
    have eC : oC fl cs = cs + 1 := if_neg c
    rw [eS, eW, eC]
    constructor
    · rw [lp_Par_condition_14, if_neg h1]
      dsimp only
      rw [par_kind ht, hK, cond_add hcs]
      try dsimp only
      simp only [if_neg c, if_neg h14, if_neg h15]
    · skip
      rw [oklp_Par_condition_14, if_neg h1]
      dsimp only
      rw [par_kind ht, hK]
      try dsimp only
      simp only [if_neg c, if_neg h14, if_neg h15]
      exact ⟨hup, hup2, trivial⟩
def HdC (L : Nat) (m : MS) (c cs0 cs q t d : Nat) (fl : Int32) (S W : Nat → Int32) : Prop :=
  (fl = 0 ∧ cs + q ≤ t ∧ m.gc = nI (c + 2) ∧ m.go c = 2 ∧ m.go (c + 1) = 4 ∧ ∃ h, BooD S W m.co L cs0 cs h ∧ h ≤ 5 + 2 * (20 - d)) ∨
  (∃ b h1 h2 : Nat, fl = 1 ∧ cs + 1 + q ≤ t ∧ m.gc = nI (c + 3) ∧ m.go c = 2 ∧ m.go (c + 1) = 12 ∧ m.wi (c + 1) = 12 ∧ m.go (c + 2) = 4 ∧ BooD S W m.co L cs0 b h1 ∧ h1 ≤ 6 + 2 * (20 - d) ∧ BooD S W m.co L b cs h2 ∧ h2 ≤ 5 + 2 * (20 - d))
theorem hc_close (L : LexR g K V P N n e pos) {m : MS} {c cs0 cs q t k : Nat} {fl : Int32} {S W : Nat → Int32} (hat : At g K V N n e m t) (hsz : m.sz = nI (2 * cs)) (hq : 1 ≤ q) (hc : c + 10 ≤ 996) (hkd : m.kd = nI (km k)) (hk : k < 31) (hk14 : k ≠ 14) (h : HdC Lc m c cs0 cs q t d fl S W) :
    ∃ (r : Nat) (m1 : MS), Run g (nI N) told lo r m m1 ∧ r ≤ 2 ∧ At g K V N n e m1 t ∧ m1.kd = m.kd ∧ m1.js = m.js ∧ m1.dp = m.dp ∧ m1.sz = nI (2 * oC fl cs) ∧ oC fl cs + q ≤ t ∧ m1.gc = nI (c + 1) ∧ m1.go c = 2 ∧ (∀ i, i < c → m1.go i = m.go i) ∧ (∀ i, i < c → m1.wi i = m.wi i) ∧ (∀ i, i < 2 * cs → m1.co i = m.co i) ∧ cs ≤ oC fl cs ∧ (∀ i, i < cs → oS fl cs S i = S i) ∧ (∀ i, i < cs → oW fl cs W i = W i) ∧ m1.pl = m.pl ∧ ∃ h, BooD (oS fl cs S) (oW fl cs W) m1.co Lc cs0 (oC fl cs) h ∧ h ≤ 6 + 2 * (20 - d) := by
  have hne : ¬ m.kd = 11 := kd_ne (x := 14) hkd hk (by decide) hk14
  rcases h with ⟨rfl, h1, h2, h3, h4, h5, h6, h7⟩ | ⟨b, h1, h2, rfl, e1, e2, e3, e4, e5, e6, e7, e8, e9, e10⟩
  · have hf : Fit (nI N) m (c + 1) := fit_of L hat hsz (by omega) (by omega)
    have r1 : Run g (nI N) told lo 1 m (m.gcTo (c + 1)) := Run.one hf h2 (by rw [h4]; exact re_4_0 hne hne)
    obtain ⟨m1, hm1⟩ : ∃ m1, m.gcTo (c + 1) = m1 := ⟨_, rfl⟩
    rw [hm1] at r1
    have m1_tk : m1.tk = m.tk := by rw [← hm1, f_gcTo_tk]
    have m1_at_ : m1.at_ = m.at_ := by rw [← hm1, f_gcTo_at_]
    have m1_pl : m1.pl = m.pl := by rw [← hm1, f_gcTo_pl]
    have m1_kd : m1.kd = m.kd := by rw [← hm1, f_gcTo_kd]
    have m1_vl : m1.vl = m.vl := by rw [← hm1, f_gcTo_vl]
    have m1_js : m1.js = m.js := by rw [← hm1, f_gcTo_js]
    have m1_sz : m1.sz = m.sz := by rw [← hm1, f_gcTo_sz]
    have m1_ks : m1.ks = m.ks := by rw [← hm1, f_gcTo_ks]
    have m1_vs : m1.vs = m.vs := by rw [← hm1, f_gcTo_vs]
    have m1_co : m1.co = m.co := by rw [← hm1, f_gcTo_co]
    have m1_dp : m1.dp = m.dp := by rw [← hm1, f_gcTo_dp]
    have m1_gc : m1.gc = nI (c + 1) := by rw [← hm1, f_gcTo_gc]
    have m1_go : m1.go = m.go := by rw [← hm1, f_gcTo_go]
    have m1_wi : m1.wi = m.wi := by rw [← hm1, f_gcTo_wi]
    have m1_A := hat.cong m1_tk m1_at_ m1_pl m1_kd m1_vl m1_ks m1_vs
    exact ⟨1, m1, r1, by omega, m1_A, m1_kd, m1_js, m1_dp, m1_sz.trans hsz, h1, m1_gc, by rw [m1_go]; exact h3, fun i _ => by rw [m1_go], fun i _ => by rw [m1_wi], fun i _ => by rw [m1_co], Nat.le_refl _, fun i _ => rfl, fun i _ => rfl, m1_pl, h5, by rw [m1_co]; exact h6, by omega⟩
  · have hw : ¬ (1 : Int32) = 0 := by decide
    have hf : Fit (nI N) m (c + 2) := fit_of L hat hsz (by omega) (by omega)
    have r1 : Run g (nI N) told lo 1 m (m.gcTo (c + 2)) := Run.one hf e2 (by rw [e6]; exact re_4_0 hne hne)
    obtain ⟨m1, hm1⟩ : ∃ m1, m.gcTo (c + 2) = m1 := ⟨_, rfl⟩
    rw [hm1] at r1
    have m1_tk : m1.tk = m.tk := by rw [← hm1, f_gcTo_tk]
    have m1_at_ : m1.at_ = m.at_ := by rw [← hm1, f_gcTo_at_]
    have m1_pl : m1.pl = m.pl := by rw [← hm1, f_gcTo_pl]
    have m1_kd : m1.kd = m.kd := by rw [← hm1, f_gcTo_kd]
    have m1_vl : m1.vl = m.vl := by rw [← hm1, f_gcTo_vl]
    have m1_js : m1.js = m.js := by rw [← hm1, f_gcTo_js]
    have m1_sz : m1.sz = m.sz := by rw [← hm1, f_gcTo_sz]
    have m1_ks : m1.ks = m.ks := by rw [← hm1, f_gcTo_ks]
    have m1_vs : m1.vs = m.vs := by rw [← hm1, f_gcTo_vs]
    have m1_co : m1.co = m.co := by rw [← hm1, f_gcTo_co]
    have m1_dp : m1.dp = m.dp := by rw [← hm1, f_gcTo_dp]
    have m1_gc : m1.gc = nI (c + 2) := by rw [← hm1, f_gcTo_gc]
    have m1_go : m1.go = m.go := by rw [← hm1, f_gcTo_go]
    have m1_wi : m1.wi = m.wi := by rw [← hm1, f_gcTo_wi]
    have m1_A := hat.cong m1_tk m1_at_ m1_pl m1_kd m1_vl m1_ks m1_vs
    have hf2 : Fit (nI N) m1 (c + 1) := fit_of L m1_A (m1_sz.trans hsz) (by omega) (by omega)
    have r2 : Run g (nI N) told lo 1 m1 ((m1.lay (2 * cs) 12 0).gcTo (c + 1)) := Run.one hf2 m1_gc (by
      rw [m1_go, m1_wi, e4, e5]
      exact re_12 (m1_sz.trans hsz) (by have := hat.1; have := L.le; have := L.hN; omega))
    obtain ⟨m2, hm2⟩ : ∃ m2, (m1.lay (2 * cs) 12 0).gcTo (c + 1) = m2 := ⟨_, rfl⟩
    rw [hm2] at r2
    have m2_tk : m2.tk = m1.tk := by rw [← hm2, f_gcTo_tk, f_lay_tk]
    have m2_at_ : m2.at_ = m1.at_ := by rw [← hm2, f_gcTo_at_, f_lay_at_]
    have m2_pl : m2.pl = m1.pl := by rw [← hm2, f_gcTo_pl, f_lay_pl]
    have m2_kd : m2.kd = m1.kd := by rw [← hm2, f_gcTo_kd, f_lay_kd]
    have m2_vl : m2.vl = m1.vl := by rw [← hm2, f_gcTo_vl, f_lay_vl]
    have m2_js : m2.js = m1.js := by rw [← hm2, f_gcTo_js, f_lay_js]
    have m2_sz : m2.sz = nI ((2 * cs) + 2) := by rw [← hm2, f_gcTo_sz, f_lay_sz]
    have m2_ks : m2.ks = m1.ks := by rw [← hm2, f_gcTo_ks, f_lay_ks]
    have m2_vs : m2.vs = m1.vs := by rw [← hm2, f_gcTo_vs, f_lay_vs]
    have m2_co : m2.co = upd (upd m1.co (2 * cs) 12) ((2 * cs) + 1) 0 := by rw [← hm2, f_gcTo_co, f_lay_co]
    have m2_dp : m2.dp = m1.dp := by rw [← hm2, f_gcTo_dp, f_lay_dp]
    have m2_gc : m2.gc = nI (c + 1) := by rw [← hm2, f_gcTo_gc]
    have m2_go : m2.go = m1.go := by rw [← hm2, f_gcTo_go, f_lay_go]
    have m2_wi : m2.wi = m1.wi := by rw [← hm2, f_gcTo_wi, f_lay_wi]
    have m2_A := m1_A.cong m2_tk m2_at_ m2_pl m2_kd m2_vl m2_ks m2_vs
    have ewC : oC 1 cs = cs + 1 := if_neg hw
    have ewS : oS 1 cs S = upd S cs 15 := if_neg hw
    have ewW : oW 1 cs W = upd W cs 0 := if_neg hw
    rw [ewC, ewS, ewW]
    have l1 := e7.lt
    have l2 := e9.lt
    have hco : ∀ i, i < 2 * cs → m2.co i = m.co i := fun i hi => (lay_lo m2_co hi).trans (by rw [m1_co])
    refine ⟨1 + 1, m2, r1.trans r2, by omega, m2_A, m2_kd.trans m1_kd, m2_js.trans m1_js, m2_dp.trans m1_dp, two_up m2_sz, by omega, m2_gc, by rw [m2_go, m1_go]; exact e3, fun i _ => by rw [m2_go, m1_go], fun i _ => by rw [m2_wi, m1_wi], hco, by omega, fun i hi => pk_un (by omega), fun i hi => pk_un (by omega), m2_pl.trans m1_pl, max h1 (h2 + 1), ?_, by omega⟩
    exact .bin (k := 15) (e7.move (n := cs) (Nat.le_refl _) (by omega) (fun i hi => pk_un (by omega)) (fun i hi => pk_un (by omega)) hco) (e9.move (n := cs) (Nat.le_refl _) (Nat.le_refl _) (fun i hi => pk_un (by omega)) (fun i hi => pk_un (by omega)) hco) (by decide) (by decide) pk_us (lay_s m2_co).1
theorem con_lp (L : LexR g K V P N n e pos) (hT : SimH g K V P N n e LO told lo 5 12 7 (DTru Lc) tru okt d) (hd : d ≤ 20) {c cs0 q : Nat} (hcb : c + 10 * (25 - d) + 12 ≤ 900) (hq : 1 ≤ q) : ∀ (R : Nat) (m : MS) (t j cs it f : Nat) (fl : Int32) (S W : Nat → Int32), n - t ≤ R → At g K V N n e m t → m.js = nI j → j ≤ 150 → m.sz = nI (2 * cs) → m.dp = nI d → it < t → it + f = 2001 → cs0 ≤ cs → HdC Lc m c cs0 cs q t d fl S W →
    oklp_Par_condition_14 tru okt K V LO (nI d) f fl (nI it) (nI t) (nI j) (nI cs) S W ∧ Out g K V P N n e told lo c m t cs0 q 5 S W (DCon Lc d) (lp_Par_condition_14 tru K V LO (nI d) f fl (nI it) (nI t) (nI j) (nI cs) S W) := by
  have hN := L.hN
  have hl := L.le
  intro R
  induction R with
  | zero =>
    intro m t j cs it f fl S W hR hat hjs hj hsz hdp hit hf hcs0 hd0
    have ht := hat.1
    obtain ⟨k, hk, hK, hkd, hpl, htok, hlt⟩ := L.kind ht
    rw [hat.2.2.1] at hkd hpl htok
    have hkd : m.kd = nI (km k) := hkd
    have hk2 : k < 2 := by
      rcases Nat.lt_or_ge k 2 with h | h
      · exact h
      · have := (htok h).1
        omega
    have hcq : cs + 1 ≤ t := by rcases hd0 with h | ⟨b, h1, h2, h⟩ <;> omega
    obtain ⟨f', rfl⟩ : ∃ f', f = f' + 1 := ⟨f - 1, by omega⟩
    obtain ⟨a1, a2⟩ := cc_e (tru := tru) (okt := okt) (V := V) (LO := LO) (d := d) (f := f') (it := it) (j := j) (cs := cs) (fl := fl) (S := S) (W := W) (by omega) (show t ≤ 2000 by omega) (by omega) hk (by omega) (by omega) hK
    obtain ⟨r, m1, b1, b2, b3, b4, b5, b6, b7, b8, b9, b10, b11, b12, b13, b14, b15, b16, b16', b17⟩ := hc_close (told := told) (lo := lo) L hat hsz hq (by omega) hkd hk (by omega) hd0
    have hf1 : Fit (nI N) m1 c := fit_of L b3 b7 (by omega) (by omega)
    have r2 : Run g (nI N) told lo 1 m1 (m1.gcTo c) := Run.one hf1 b9 (by rw [b10]; exact re_2_0 (kd_ne (x := 15) (b4.trans hkd) hk (by decide) (by omega)) (kd_ne (x := 15) (b4.trans hkd) hk (by decide) (by omega)))
    obtain ⟨m2, hm2⟩ : ∃ m2, m1.gcTo c = m2 := ⟨_, rfl⟩
    rw [hm2] at r2
    have m2_tk : m2.tk = m1.tk := by rw [← hm2, f_gcTo_tk]
    have m2_at_ : m2.at_ = m1.at_ := by rw [← hm2, f_gcTo_at_]
    have m2_pl : m2.pl = m1.pl := by rw [← hm2, f_gcTo_pl]
    have m2_kd : m2.kd = m1.kd := by rw [← hm2, f_gcTo_kd]
    have m2_vl : m2.vl = m1.vl := by rw [← hm2, f_gcTo_vl]
    have m2_js : m2.js = m1.js := by rw [← hm2, f_gcTo_js]
    have m2_sz : m2.sz = m1.sz := by rw [← hm2, f_gcTo_sz]
    have m2_ks : m2.ks = m1.ks := by rw [← hm2, f_gcTo_ks]
    have m2_vs : m2.vs = m1.vs := by rw [← hm2, f_gcTo_vs]
    have m2_co : m2.co = m1.co := by rw [← hm2, f_gcTo_co]
    have m2_dp : m2.dp = m1.dp := by rw [← hm2, f_gcTo_dp]
    have m2_gc : m2.gc = nI c := by rw [← hm2, f_gcTo_gc]
    have m2_go : m2.go = m1.go := by rw [← hm2, f_gcTo_go]
    have m2_wi : m2.wi = m1.wi := by rw [← hm2, f_gcTo_wi]
    have m2_A := b3.cong m2_tk m2_at_ m2_pl m2_kd m2_vl m2_ks m2_vs
    refine ⟨a2, Or.inl ⟨t, j, oC fl cs, r + 1, oS fl cs S, oW fl cs W, m2, a1, Nat.le_refl _, by omega, b8, hj, fun i hi => b15 i (by omega), fun i hi => b16 i (by omega), b1.trans r2, by omega, m2_A, m2_js.trans (b5.trans hjs), m2_sz.trans b7, m2_dp.trans b6, m2_gc, fun i hi => by rw [m2_go]; exact b11 i hi, fun i hi => by rw [m2_wi]; exact b12 i hi, fun i hi => by rw [m2_co]; exact b13 i (by omega), by rw [m2_co]; exact b17⟩⟩
  | succ R ih =>
    intro m t j cs it f fl S W hR hat hjs hj hsz hdp hit hf hcs0 hd0
    have ht := hat.1
    obtain ⟨k, hk, hK, hkd, hpl, htok, hlt⟩ := L.kind ht
    rw [hat.2.2.1] at hkd hpl htok
    have hkd : m.kd = nI (km k) := hkd
    have hpl : m.pl = P t := hpl
    have hcq : cs + 1 ≤ t := by rcases hd0 with h | ⟨b, h1, h2, h⟩ <;> omega
    obtain ⟨f', rfl⟩ : ∃ f', f = f' + 1 := ⟨f - 1, by omega⟩
    by_cases k14 : k = 14
    · subst k14
      have htn := (htok (by decide)).1
      have hn := hat.next L hK (by decide) (by decide)
      obtain ⟨ct, qq, hct, hgct, hgo, hqq, hqq1, hqq2⟩ : ∃ ct qq : Nat, (ct = c + 1 ∨ ct = c + 2) ∧ m.gc = nI (ct + 1) ∧ m.go ct = 4 ∧ cs + qq ≤ t ∧ 1 ≤ qq ∧ (ct = c + 1 → qq = q) ∧ (ct = c + 2 → qq = q + 1) := by
        rcases hd0 with ⟨h0, h1, h2, h3, h4, h5⟩ | ⟨b, h1, h2, h0, e1, e2, e3, e4, e5, e6, e7⟩
        · exact ⟨c + 1, q, Or.inl rfl, h2, h4, h1, hq, fun _ => rfl, fun z => by omega⟩
        · exact ⟨c + 2, q + 1, Or.inr rfl, e2, e6, by omega, by omega, fun z => by omega, fun _ => rfl⟩
      have hfit : Fit (nI N) m ct := fit_of L hat hsz (by omega) (by omega)
      by_cases j150 : j = 150
      · subst j150
        obtain ⟨a1, a2⟩ := cc_14n (tru := tru) (okt := okt) (V := V) (LO := LO) (d := d) (f := f') (it := it) (t := t) (cs := cs) (fl := fl) (S := S) (W := W) (by omega) (by omega) hK
        rw [a1]
        exact ⟨a2, Or.inr ⟨t, 1, rfl, rfl, Nat.le_refl _, ht, Fail.one hfit hgct (by rw [hgo]; exact re_4_n (by omega) (by rw [hkd]; rfl) hjs) (by simp only [f_push3_pl, f_push2_pl, f_push2w_pl, f_gcTo_pl, f_dpTo_pl, f_lay_pl, f_jsTo_pl]; exact hpl), by omega⟩⟩
      · have r1 : Run g (nI N) told lo 1 m (((m.next g (nI N)).jsTo (nI (j + 1))).push3 ct 4 12 11 5) := Run.one hfit hgct (by rw [hgo]; exact re_4_y (by omega) (by rw [hkd]; rfl) hjs (by omega))
        obtain ⟨m1, hm1⟩ : ∃ m1, ((m.next g (nI N)).jsTo (nI (j + 1))).push3 ct 4 12 11 5 = m1 := ⟨_, rfl⟩
        have m1_tk : m1.tk = (m.next g (nI N)).tk := by rw [← hm1, f_push3_tk, f_jsTo_tk]
        have m1_at_ : m1.at_ = (m.next g (nI N)).at_ := by rw [← hm1, f_push3_at_, f_jsTo_at_]
        have m1_pl : m1.pl = (m.next g (nI N)).pl := by rw [← hm1, f_push3_pl, f_jsTo_pl]
        have m1_kd : m1.kd = (m.next g (nI N)).kd := by rw [← hm1, f_push3_kd, f_jsTo_kd]
        have m1_vl : m1.vl = (m.next g (nI N)).vl := by rw [← hm1, f_push3_vl, f_jsTo_vl]
        have m1_js : m1.js = (nI (j + 1)) := by rw [← hm1, f_push3_js, f_jsTo_js]
        have m1_sz : m1.sz = m.sz := by rw [← hm1, f_push3_sz, f_jsTo_sz, f_next_sz]
        have m1_ks : m1.ks = (m.next g (nI N)).ks := by rw [← hm1, f_push3_ks, f_jsTo_ks]
        have m1_vs : m1.vs = (m.next g (nI N)).vs := by rw [← hm1, f_push3_vs, f_jsTo_vs]
        have m1_co : m1.co = m.co := by rw [← hm1, f_push3_co, f_jsTo_co, f_next_co]
        have m1_dp : m1.dp = m.dp := by rw [← hm1, f_push3_dp, f_jsTo_dp, f_next_dp]
        have m1_gc : m1.gc = nI (ct + 3) := by rw [← hm1, f_push3_gc]
        have m1_go : m1.go = upd (upd (upd m.go ct 4) (ct + 1) 12) (ct + 2) 5 := by rw [← hm1, f_push3_go, f_jsTo_go, f_next_go]
        have m1_wi : m1.wi = upd (upd (upd m.wi ct 0) (ct + 1) 11) (ct + 2) 0 := by rw [← hm1, f_push3_wi, f_jsTo_wi, f_next_wi]
        rw [hm1] at r1
        have a1 : At g K V N n e m1 (t + 1) := hn.cong m1_tk m1_at_ m1_pl m1_kd m1_vl m1_ks m1_vs
        have g0 : m1.go ct = 4 := by rw [m1_go]; rw [pk_un (by omega), pk_un (by omega), pk_us]
        have g1 : m1.go (ct + 1) = 12 := by rw [m1_go]; rw [pk_un (by omega), pk_us]
        have w1 : m1.wi (ct + 1) = 11 := by rw [m1_wi]; rw [pk_un (by omega), pk_us]
        have gl : ∀ i, i < ct → m1.go i = m.go i := fun i hi => by rw [m1_go]; rw [pk_un (by omega), pk_un (by omega), pk_un (by omega)]
        have wl : ∀ i, i < ct → m1.wi i = m.wi i := fun i hi => by rw [m1_wi]; rw [pk_un (by omega), pk_un (by omega), pk_un (by omega)]
        have p1 : Pre g K V N n e m1 (t + 1) (j + 1) cs (qq + 1) (ct + 2) 5 := ⟨a1, m1_js, by omega, (m1_sz).trans (hsz), by omega, by omega, m1_gc, by rw [m1_go]; rw [pk_us]⟩
        have dp1 : m1.dp = nI d := (m1_dp).trans (hdp)
        have co1 : m1.co = m.co := m1_co
        obtain ⟨o1, o2⟩ := hT m1 (t + 1) (j + 1) cs (qq + 1) (ct + 2) S W p1 dp1 (by omega)
        obtain ⟨c1, c2⟩ := cc_14 (tru := tru) (okt := okt) (V := V) (LO := LO) (d := d) (f := f') (it := it) (t := t) (j := j) (cs := cs) (fl := fl) (S := S) (W := W) (by omega) (by omega) (by omega) hK rfl
        rw [c1]
        rcases o2 with ⟨t', j', cs', k, S', W', m', e1, e2, e3, e4, e5, e6, e7, e8, e9, e10, e11, e12, e13, e14, e15, e16, e17, h', e18, e19⟩ | ⟨t', k, f1, f2, f3, f4, f5, f6⟩
        · rw [e1] at c2 ⊢
          have hcs' : cs' < 2000 := by have := e10.1; omega
          dsimp only at c2 ⊢
          rw [cond_add hcs'] at c2 ⊢
          rw [if10]
          have fit2 : Fit (nI N) m' (ct + 1) := fit_of L e10 e12 (by omega) (by omega)
          have r2 : Run g (nI N) told lo 1 m' ((m'.lay (2 * cs') 11 0).gcTo (ct + 1)) := Run.one fit2 (by rw [e14]) (by rw [e15 (ct + 1) (by omega), e16 (ct + 1) (by omega), g1, w1]; exact re_12 e12 (by omega))
          obtain ⟨m2, hm2⟩ : ∃ m2, (m'.lay (2 * cs') 11 0).gcTo (ct + 1) = m2 := ⟨_, rfl⟩
          rw [hm2] at r2
          have m2_tk : m2.tk = m'.tk := by rw [← hm2, f_gcTo_tk, f_lay_tk]
          have m2_at_ : m2.at_ = m'.at_ := by rw [← hm2, f_gcTo_at_, f_lay_at_]
          have m2_pl : m2.pl = m'.pl := by rw [← hm2, f_gcTo_pl, f_lay_pl]
          have m2_kd : m2.kd = m'.kd := by rw [← hm2, f_gcTo_kd, f_lay_kd]
          have m2_vl : m2.vl = m'.vl := by rw [← hm2, f_gcTo_vl, f_lay_vl]
          have m2_js : m2.js = m'.js := by rw [← hm2, f_gcTo_js, f_lay_js]
          have m2_sz : m2.sz = nI ((2 * cs') + 2) := by rw [← hm2, f_gcTo_sz, f_lay_sz]
          have m2_ks : m2.ks = m'.ks := by rw [← hm2, f_gcTo_ks, f_lay_ks]
          have m2_vs : m2.vs = m'.vs := by rw [← hm2, f_gcTo_vs, f_lay_vs]
          have m2_co : m2.co = upd (upd m'.co (2 * cs') 11) ((2 * cs') + 1) 0 := by rw [← hm2, f_gcTo_co, f_lay_co]
          have m2_dp : m2.dp = m'.dp := by rw [← hm2, f_gcTo_dp, f_lay_dp]
          have m2_gc : m2.gc = nI (ct + 1) := by rw [← hm2, f_gcTo_gc]
          have m2_go : m2.go = m'.go := by rw [← hm2, f_gcTo_go, f_lay_go]
          have m2_wi : m2.wi = m'.wi := by rw [← hm2, f_gcTo_wi, f_lay_wi]
          have m2_A := e10.cong m2_tk m2_at_ m2_pl m2_kd m2_vl m2_ks m2_vs
          have hlo : ∀ i, i < 2 * cs → m2.co i = m.co i := fun i hi => (lay_lo m2_co (by omega)).trans ((e17 i hi).trans (by rw [co1]))
          have mv : ∀ {a b h : Nat}, BooD S W m.co Lc a b h → b ≤ cs → BooD (upd S' cs' 14) (upd W' cs' 0) m2.co Lc a b h := fun D hb => D.move (n := cs) (Nat.le_refl _) hb (fun i hi => by rw [pk_un (by omega)]; exact e6 i hi) (fun i hi => by rw [pk_un (by omega)]; exact e7 i hi) hlo
          have nd : BooD (upd S' cs' 14) (upd W' cs' 0) m2.co Lc cs cs' h' := e18.move (n := cs') (Nat.le_refl _) (Nat.le_refl _) (fun i hi => pk_un (by omega)) (fun i hi => pk_un (by omega)) (fun i hi => lay_lo m2_co hi)
          have sC : m2.co (2 * cs') = nI (km 14) := (lay_s m2_co).1
          have hd1 : HdC Lc m2 c cs0 (cs' + 1) q t' d fl (upd S' cs' 14) (upd W' cs' 0) := by
            rcases hd0 with ⟨h0, h1, h2, h3, h4, h5, h6, h7⟩ | ⟨b, h1, h2, h0, z1, z2, z3, z4, z5, z6, z7, z8, z9, z10⟩
            · have hct1 : ct = c + 1 := by
                have := hgct.symm.trans h2
                have := (nI_eq (by omega) (by omega)).mp this
                omega
              have hq9 := hqq2.1 hct1
              subst hct1
              refine Or.inl ⟨h0, by omega, m2_gc, ?_, ?_, max h5 (h' + 1), .bin (k := 14) (mv h6 (Nat.le_refl _)) nd (by decide) (by decide) pk_us sC, by omega⟩
              · rw [m2_go]
                exact (e15 c (by omega)).trans ((gl c (by omega)).trans h3)
              · rw [m2_go]
                exact (e15 (c + 1) (by omega)).trans g0
            · have hct1 : ct = c + 2 := by
                have := hgct.symm.trans z2
                have := (nI_eq (by omega) (by omega)).mp this
                omega
              have hq9 := hqq2.2 hct1
              subst hct1
              have lz := z9.lt
              refine Or.inr ⟨b, h1, max h2 (h' + 1), h0, by omega, m2_gc, ?_, ?_, ?_, ?_, mv z7 (by omega), z8, .bin (k := 14) (mv z9 (Nat.le_refl _)) nd (by decide) (by decide) pk_us sC, by omega⟩
              · rw [m2_go]
                exact (e15 c (by omega)).trans ((gl c (by omega)).trans z3)
              · rw [m2_go]
                exact (e15 (c + 1) (by omega)).trans ((gl (c + 1) (by omega)).trans z4)
              · rw [m2_wi]
                exact (e16 (c + 1) (by omega)).trans ((wl (c + 1) (by omega)).trans z5)
              · rw [m2_go]
                exact (e15 (c + 2) (by omega)).trans g0
          obtain ⟨i1, i2⟩ := ih m2 t' j' (cs' + 1) (it + 1) f' fl (upd S' cs' 14) (upd W' cs' 0) (by omega) m2_A (m2_js.trans e11) e5 (two_up m2_sz) (m2_dp.trans (e13.trans dp1)) (by omega) (by omega) (by omega) hd1
          refine ⟨c2 ⟨o1, fun _ => ⟨up_of (by omega) (by decide), i1⟩⟩, ?_⟩
          rcases i2 with ⟨t2, j2, cs2, k2, S2, W2, m9, x1, x2, x3, x4, x5, x6, x7, x8, x9, x10, x11, x12, x13, x14, x15, x16, x17, x18⟩ | ⟨t2, k2, x1, x2, x3, x4, x5, x6⟩
          · refine Or.inl ⟨t2, j2, cs2, 1 + k + 1 + k2, S2, W2, m9, x1, by omega, by omega, x4, x5, fun i hi => ?_, fun i hi => ?_, ((r1.trans e8).trans r2).trans x8, by omega, x10, x11, x12, x13.trans (m2_dp.trans (e13.trans (dp1.trans hdp.symm))), x14, fun i hi => (x15 i hi).trans (by rw [m2_go]; exact (e15 i (by omega)).trans (gl i (by omega))), fun i hi => (x16 i hi).trans (by rw [m2_wi]; exact (e16 i (by omega)).trans (wl i (by omega))), fun i hi => (x17 i hi).trans (hlo i (by omega)), x18⟩
            · rw [x6 i hi, pk_un (by omega)]
              exact e6 i (by omega)
            · rw [x7 i hi, pk_un (by omega)]
              exact e7 i (by omega)
          · exact Or.inr ⟨t2, 1 + k + 1 + k2, x1, x2, by omega, x4, ((r1.trans e8).trans r2).fail x5, by omega⟩
        · rw [if_pos f1]
          exact ⟨c2 ⟨o1, fun z => absurd f1 z⟩, Or.inr ⟨t', 1 + k, rfl, f2, by omega, f4, r1.fail f5, by omega⟩⟩
    · obtain ⟨r, m1, b1, b2, b3, b4, b5, b6, b7, b8, b9, b10, b11, b12, b13, b14, b15, b16, b16', b17⟩ := hc_close (told := told) (lo := lo) L hat hsz hq (by omega) hkd hk k14 hd0
      have hf1 : Fit (nI N) m1 c := fit_of L b3 b7 (by omega) (by omega)
      have hkd1 : m1.kd = nI (km k) := b4.trans hkd
      by_cases k15 : k = 15
      · subst k15
        have htn := (htok (by decide)).1
        by_cases j150 : j = 150
        · subst j150
          obtain ⟨a1, a2⟩ := cc_15n (tru := tru) (okt := okt) (V := V) (LO := LO) (d := d) (f := f') (it := it) (t := t) (cs := cs) (fl := fl) (S := S) (W := W) (by omega) (by omega) (by omega) hK
          rw [a1]
          have r2 : Fail g (nI N) told lo 1 m1 (P t) := Fail.one hf1 b9 (by rw [b10]; exact re_2_n (by omega) (by rw [hkd1]; rfl) (b5.trans hjs)) (by simp only [f_push3_pl, f_push2_pl, f_push2w_pl, f_gcTo_pl, f_dpTo_pl, f_lay_pl, f_jsTo_pl]; exact (b16'.trans hpl))
          exact ⟨a2, Or.inr ⟨t, r + 1, rfl, rfl, Nat.le_refl _, ht, b1.fail r2, by omega⟩⟩
        · have hn := b3.next L hK (by decide) (by decide)
          have r2 : Run g (nI N) told lo 1 m1 (((m1.next g (nI N)).jsTo (nI (j + 1))).push3 c 2 12 12 3) := Run.one hf1 b9 (by rw [b10]; exact re_2_y (by omega) (by rw [hkd1]; rfl) (b5.trans hjs) (by omega))
          obtain ⟨m2, hm2⟩ : ∃ m2, ((m1.next g (nI N)).jsTo (nI (j + 1))).push3 c 2 12 12 3 = m2 := ⟨_, rfl⟩
          have m2_tk : m2.tk = (m1.next g (nI N)).tk := by rw [← hm2, f_push3_tk, f_jsTo_tk]
          have m2_at_ : m2.at_ = (m1.next g (nI N)).at_ := by rw [← hm2, f_push3_at_, f_jsTo_at_]
          have m2_pl : m2.pl = (m1.next g (nI N)).pl := by rw [← hm2, f_push3_pl, f_jsTo_pl]
          have m2_kd : m2.kd = (m1.next g (nI N)).kd := by rw [← hm2, f_push3_kd, f_jsTo_kd]
          have m2_vl : m2.vl = (m1.next g (nI N)).vl := by rw [← hm2, f_push3_vl, f_jsTo_vl]
          have m2_js : m2.js = (nI (j + 1)) := by rw [← hm2, f_push3_js, f_jsTo_js]
          have m2_sz : m2.sz = m1.sz := by rw [← hm2, f_push3_sz, f_jsTo_sz, f_next_sz]
          have m2_ks : m2.ks = (m1.next g (nI N)).ks := by rw [← hm2, f_push3_ks, f_jsTo_ks]
          have m2_vs : m2.vs = (m1.next g (nI N)).vs := by rw [← hm2, f_push3_vs, f_jsTo_vs]
          have m2_co : m2.co = m1.co := by rw [← hm2, f_push3_co, f_jsTo_co, f_next_co]
          have m2_dp : m2.dp = m1.dp := by rw [← hm2, f_push3_dp, f_jsTo_dp, f_next_dp]
          have m2_gc : m2.gc = nI (c + 3) := by rw [← hm2, f_push3_gc]
          have m2_go : m2.go = upd (upd (upd m1.go c 2) (c + 1) 12) (c + 2) 3 := by rw [← hm2, f_push3_go, f_jsTo_go, f_next_go]
          have m2_wi : m2.wi = upd (upd (upd m1.wi c 0) (c + 1) 12) (c + 2) 0 := by rw [← hm2, f_push3_wi, f_jsTo_wi, f_next_wi]
          rw [hm2] at r2
          have a2 : At g K V N n e m2 (t + 1) := hn.cong m2_tk m2_at_ m2_pl m2_kd m2_vl m2_ks m2_vs
          have s2 : m2.sz = nI (2 * oC fl cs) := (m2_sz).trans (b7)
          have gg0 : m2.go c = 2 := by rw [m2_go]; rw [pk_un (by omega), pk_un (by omega), pk_us]
          have gg1 : m2.go (c + 1) = 12 := by rw [m2_go]; rw [pk_un (by omega), pk_us]
          have ww1 : m2.wi (c + 1) = 12 := by rw [m2_wi]; rw [pk_un (by omega), pk_us]
          have gg2 : m2.go (c + 2) = 3 := by rw [m2_go]; rw [pk_us]
          have gl2 : ∀ i, i < c → m2.go i = m.go i := fun i hi => by rw [m2_go]; rw [pk_un (by omega), pk_un (by omega), pk_un (by omega)]; exact b11 i hi
          have wl2 : ∀ i, i < c → m2.wi i = m.wi i := fun i hi => by rw [m2_wi]; rw [pk_un (by omega), pk_un (by omega), pk_un (by omega)]; exact b12 i hi
          have co2 : m2.co = m1.co := m2_co
          have hf2 : Fit (nI N) m2 (c + 2) := fit_of L a2 s2 (by omega) (by omega)
          have r3 : Run g (nI N) told lo 1 m2 (m2.push2 (c + 2) 4 5) := Run.one hf2 m2_gc (by rw [gg2]; exact re_3 (by omega))
          obtain ⟨m3, hm3⟩ : ∃ m3, m2.push2 (c + 2) 4 5 = m3 := ⟨_, rfl⟩
          have m3_tk : m3.tk = m2.tk := by rw [← hm3, f_push2_tk]
          have m3_at_ : m3.at_ = m2.at_ := by rw [← hm3, f_push2_at_]
          have m3_pl : m3.pl = m2.pl := by rw [← hm3, f_push2_pl]
          have m3_kd : m3.kd = m2.kd := by rw [← hm3, f_push2_kd]
          have m3_vl : m3.vl = m2.vl := by rw [← hm3, f_push2_vl]
          have m3_js : m3.js = m2.js := by rw [← hm3, f_push2_js]
          have m3_sz : m3.sz = m2.sz := by rw [← hm3, f_push2_sz]
          have m3_ks : m3.ks = m2.ks := by rw [← hm3, f_push2_ks]
          have m3_vs : m3.vs = m2.vs := by rw [← hm3, f_push2_vs]
          have m3_co : m3.co = m2.co := by rw [← hm3, f_push2_co]
          have m3_dp : m3.dp = m2.dp := by rw [← hm3, f_push2_dp]
          have m3_gc : m3.gc = nI ((c + 2) + 2) := by rw [← hm3, f_push2_gc]
          have m3_go : m3.go = upd (upd m2.go (c + 2) 4) ((c + 2) + 1) 5 := by rw [← hm3, f_push2_go]
          have m3_wi : m3.wi = upd (upd m2.wi (c + 2) 0) ((c + 2) + 1) 0 := by rw [← hm3, f_push2_wi]
          rw [hm3] at r3
          have p3 : Pre g K V N n e m3 (t + 1) (j + 1) (oC fl cs) (q + 1) (c + 3) 5 := ⟨a2.cong m3_tk m3_at_ m3_pl m3_kd m3_vl m3_ks m3_vs, m3_js.trans m2_js, by omega, (m3_sz).trans (s2), by omega, by omega, m3_gc, by rw [m3_go]; rw [pk_us]⟩
          have dp3 : m3.dp = nI d := ((m3_dp).trans m2_dp).trans (b6.trans hdp)
          have g30 : m3.go c = 2 := by rw [m3_go]; rw [pk_un (by omega), pk_un (by omega)]; exact gg0
          have g31 : m3.go (c + 1) = 12 := by rw [m3_go]; rw [pk_un (by omega), pk_un (by omega)]; exact gg1
          have w31 : m3.wi (c + 1) = 12 := by rw [m3_wi]; rw [pk_un (by omega), pk_un (by omega)]; exact ww1
          have g32 : m3.go (c + 2) = 4 := by rw [m3_go]; rw [pk_un (by omega), pk_us]
          have gl3 : ∀ i, i < c → m3.go i = m.go i := fun i hi => by rw [m3_go]; rw [pk_un (by omega), pk_un (by omega)]; exact gl2 i hi
          have wl3 : ∀ i, i < c → m3.wi i = m.wi i := fun i hi => by rw [m3_wi]; rw [pk_un (by omega), pk_un (by omega)]; exact wl2 i hi
          have co3 : m3.co = m1.co := (m3_co).trans (co2)
          obtain ⟨o1, o2⟩ := hT m3 (t + 1) (j + 1) (oC fl cs) (q + 1) (c + 3) (oS fl cs S) (oW fl cs W) p3 dp3 (by omega)
          obtain ⟨c1, c2⟩ := cc_15 (tru := tru) (okt := okt) (V := V) (LO := LO) (d := d) (f := f') (it := it) (t := t) (j := j) (cs := cs) (fl := fl) (S := S) (W := W) (by omega) (by omega) (by omega) (by omega) hK rfl
          rw [c1]
          obtain ⟨hh, nh, nh2⟩ := b17
          rcases o2 with ⟨t', j', cs', kk, S', W', m', e1, e2, e3, e4, e5, e6, e7, e8, e9, e10, e11, e12, e13, e14, e15, e16, e17, h', e18, e19⟩ | ⟨t', kk, f1, f2, f3, f4, f5, f6⟩
          · rw [e1] at c2 ⊢
            dsimp only at c2 ⊢
            rw [if10]
            have hlo : ∀ i, i < 2 * oC fl cs → m'.co i = m1.co i := fun i hi => (e17 i hi).trans (by rw [co3])
            have hd1 : HdC Lc m' c cs0 cs' q t' d 1 S' W' := by
              refine Or.inr ⟨oC fl cs, hh, h', rfl, by omega, e14, ?_, ?_, ?_, ?_, nh.move (n := oC fl cs) (Nat.le_refl _) (Nat.le_refl _) e6 e7 hlo, nh2, e18, by omega⟩
              · exact (e15 c (by omega)).trans g30
              · exact (e15 (c + 1) (by omega)).trans g31
              · exact (e16 (c + 1) (by omega)).trans w31
              · exact (e15 (c + 2) (by omega)).trans g32
            obtain ⟨i1, i2⟩ := ih m' t' j' cs' (it + 1) f' 1 S' W' (by omega) e10 e11 e5 e12 (e13.trans dp3) (by omega) (by omega) (by omega) hd1
            refine ⟨c2 ⟨o1, fun _ => i1⟩, ?_⟩
            rcases i2 with ⟨t2, j2, cs2, k2, S2, W2, m9, x1, x2, x3, x4, x5, x6, x7, x8, x9, x10, x11, x12, x13, x14, x15, x16, x17, x18⟩ | ⟨t2, k2, x1, x2, x3, x4, x5, x6⟩
            · refine Or.inl ⟨t2, j2, cs2, r + 1 + 1 + kk + k2, S2, W2, m9, x1, by omega, by omega, x4, x5, fun i hi => (x6 i hi).trans ((e6 i (by omega)).trans (b15 i (by omega))), fun i hi => (x7 i hi).trans ((e7 i (by omega)).trans (b16 i (by omega))), (((b1.trans r2).trans r3).trans e8).trans x8, by omega, x10, x11, x12, x13.trans (e13.trans (dp3.trans hdp.symm)), x14, fun i hi => (x15 i hi).trans ((e15 i (by omega)).trans (gl3 i hi)), fun i hi => (x16 i hi).trans ((e16 i (by omega)).trans (wl3 i hi)), fun i hi => (x17 i hi).trans ((hlo i (by omega)).trans (b13 i (by omega))), x18⟩
            · exact Or.inr ⟨t2, r + 1 + 1 + kk + k2, x1, x2, by omega, x4, (((b1.trans r2).trans r3).trans e8).fail x5, by omega⟩
          · rw [if_pos f1]
            exact ⟨c2 ⟨o1, fun z => absurd f1 z⟩, Or.inr ⟨t', r + 1 + 1 + kk, rfl, f2, by omega, f4, ((b1.trans r2).trans r3).fail f5, by omega⟩⟩
      · obtain ⟨a1, a2⟩ := cc_e (tru := tru) (okt := okt) (V := V) (LO := LO) (d := d) (f := f') (it := it) (j := j) (cs := cs) (fl := fl) (S := S) (W := W) (by omega) (show t ≤ 2000 by omega) (by omega) hk k14 k15 hK
        have r2 : Run g (nI N) told lo 1 m1 (m1.gcTo c) := Run.one hf1 b9 (by rw [b10]; exact re_2_0 (kd_ne (x := 15) hkd1 hk (by decide) k15) (kd_ne (x := 15) hkd1 hk (by decide) k15))
        obtain ⟨m2, hm2⟩ : ∃ m2, m1.gcTo c = m2 := ⟨_, rfl⟩
        rw [hm2] at r2
        have m2_tk : m2.tk = m1.tk := by rw [← hm2, f_gcTo_tk]
        have m2_at_ : m2.at_ = m1.at_ := by rw [← hm2, f_gcTo_at_]
        have m2_pl : m2.pl = m1.pl := by rw [← hm2, f_gcTo_pl]
        have m2_kd : m2.kd = m1.kd := by rw [← hm2, f_gcTo_kd]
        have m2_vl : m2.vl = m1.vl := by rw [← hm2, f_gcTo_vl]
        have m2_js : m2.js = m1.js := by rw [← hm2, f_gcTo_js]
        have m2_sz : m2.sz = m1.sz := by rw [← hm2, f_gcTo_sz]
        have m2_ks : m2.ks = m1.ks := by rw [← hm2, f_gcTo_ks]
        have m2_vs : m2.vs = m1.vs := by rw [← hm2, f_gcTo_vs]
        have m2_co : m2.co = m1.co := by rw [← hm2, f_gcTo_co]
        have m2_dp : m2.dp = m1.dp := by rw [← hm2, f_gcTo_dp]
        have m2_gc : m2.gc = nI c := by rw [← hm2, f_gcTo_gc]
        have m2_go : m2.go = m1.go := by rw [← hm2, f_gcTo_go]
        have m2_wi : m2.wi = m1.wi := by rw [← hm2, f_gcTo_wi]
        have m2_A := b3.cong m2_tk m2_at_ m2_pl m2_kd m2_vl m2_ks m2_vs
        refine ⟨a2, Or.inl ⟨t, j, oC fl cs, r + 1, oS fl cs S, oW fl cs W, m2, a1, Nat.le_refl _, by omega, b8, hj, fun i hi => b15 i (by omega), fun i hi => b16 i (by omega), b1.trans r2, by omega, m2_A, m2_js.trans (b5.trans hjs), m2_sz.trans b7, m2_dp.trans b6, m2_gc, fun i hi => by rw [m2_go]; exact b11 i hi, fun i hi => by rw [m2_wi]; exact b12 i hi, fun i hi => by rw [m2_co]; exact b13 i (by omega), by rw [m2_co]; exact b17⟩⟩
theorem con_sim (L : LexR g K V P N n e pos) (hT : SimH g K V P N n e LO told lo 5 12 7 (DTru Lc) tru okt d) (hd : d ≤ 20) : SimH g K V P N n e LO told lo 1 20 12 (DCon Lc) (B_con tru) (okB_con tru okt) d := by
  intro m t j cs q c S W hp hdp hcb
  have hN := L.hN
  have hl := L.le
  have hfit := hp.fit L (show c ≤ 996 by omega)
  obtain ⟨hat, hjs, hj, hsz, hcq, hq, hgc, hgo⟩ := hp
  have ht := hat.1
  have r1 : Run g (nI N) told lo 1 m (m.push2 c 2 3) := Run.one hfit hgc (by rw [hgo]; exact re_1 (by omega))
  obtain ⟨m1, hm1⟩ : ∃ m1, m.push2 c 2 3 = m1 := ⟨_, rfl⟩
  have m1_tk : m1.tk = m.tk := by rw [← hm1, f_push2_tk]
  have m1_at_ : m1.at_ = m.at_ := by rw [← hm1, f_push2_at_]
  have m1_pl : m1.pl = m.pl := by rw [← hm1, f_push2_pl]
  have m1_kd : m1.kd = m.kd := by rw [← hm1, f_push2_kd]
  have m1_vl : m1.vl = m.vl := by rw [← hm1, f_push2_vl]
  have m1_js : m1.js = m.js := by rw [← hm1, f_push2_js]
  have m1_sz : m1.sz = m.sz := by rw [← hm1, f_push2_sz]
  have m1_ks : m1.ks = m.ks := by rw [← hm1, f_push2_ks]
  have m1_vs : m1.vs = m.vs := by rw [← hm1, f_push2_vs]
  have m1_co : m1.co = m.co := by rw [← hm1, f_push2_co]
  have m1_dp : m1.dp = m.dp := by rw [← hm1, f_push2_dp]
  have m1_gc : m1.gc = nI (c + 2) := by rw [← hm1, f_push2_gc]
  have m1_go : m1.go = upd (upd m.go c 2) (c + 1) 3 := by rw [← hm1, f_push2_go]
  have m1_wi : m1.wi = upd (upd m.wi c 0) (c + 1) 0 := by rw [← hm1, f_push2_wi]
  rw [hm1] at r1
  have a1 : At g K V N n e m1 t := hat.cong m1_tk m1_at_ m1_pl m1_kd m1_vl m1_ks m1_vs
  have s1 : m1.sz = nI (2 * cs) := (m1_sz).trans (hsz)
  have gg0 : m1.go c = 2 := by rw [m1_go]; rw [pk_un (by omega), pk_us]
  have gg1 : m1.go (c + 1) = 3 := by rw [m1_go]; rw [pk_us]
  have gl : ∀ i, i < c → m1.go i = m.go i := fun i hi => by rw [m1_go]; rw [pk_un (by omega), pk_un (by omega)]
  have wl : ∀ i, i < c → m1.wi i = m.wi i := fun i hi => by rw [m1_wi]; rw [pk_un (by omega), pk_un (by omega)]
  have hf1 : Fit (nI N) m1 (c + 1) := fit_of L a1 s1 (by omega) (by omega)
  have r2 : Run g (nI N) told lo 1 m1 (m1.push2 (c + 1) 4 5) := Run.one hf1 m1_gc (by rw [gg1]; exact re_3 (by omega))
  obtain ⟨m2, hm2⟩ : ∃ m2, m1.push2 (c + 1) 4 5 = m2 := ⟨_, rfl⟩
  have m2_tk : m2.tk = m1.tk := by rw [← hm2, f_push2_tk]
  have m2_at_ : m2.at_ = m1.at_ := by rw [← hm2, f_push2_at_]
  have m2_pl : m2.pl = m1.pl := by rw [← hm2, f_push2_pl]
  have m2_kd : m2.kd = m1.kd := by rw [← hm2, f_push2_kd]
  have m2_vl : m2.vl = m1.vl := by rw [← hm2, f_push2_vl]
  have m2_js : m2.js = m1.js := by rw [← hm2, f_push2_js]
  have m2_sz : m2.sz = m1.sz := by rw [← hm2, f_push2_sz]
  have m2_ks : m2.ks = m1.ks := by rw [← hm2, f_push2_ks]
  have m2_vs : m2.vs = m1.vs := by rw [← hm2, f_push2_vs]
  have m2_co : m2.co = m1.co := by rw [← hm2, f_push2_co]
  have m2_dp : m2.dp = m1.dp := by rw [← hm2, f_push2_dp]
  have m2_gc : m2.gc = nI ((c + 1) + 2) := by rw [← hm2, f_push2_gc]
  have m2_go : m2.go = upd (upd m1.go (c + 1) 4) ((c + 1) + 1) 5 := by rw [← hm2, f_push2_go]
  have m2_wi : m2.wi = upd (upd m1.wi (c + 1) 0) ((c + 1) + 1) 0 := by rw [← hm2, f_push2_wi]
  rw [hm2] at r2
  have p2 : Pre g K V N n e m2 t j cs q (c + 2) 5 := ⟨a1.cong m2_tk m2_at_ m2_pl m2_kd m2_vl m2_ks m2_vs, (m2_js.trans m1_js).trans (hjs), hj, (m2_sz).trans (s1), hcq, hq, m2_gc, by rw [m2_go]; rw [pk_us]⟩
  have dp2 : m2.dp = nI d := ((m2_dp).trans m1_dp).trans (hdp)
  have g20 : m2.go c = 2 := by rw [m2_go]; rw [pk_un (by omega), pk_un (by omega)]; exact gg0
  have g21 : m2.go (c + 1) = 4 := by rw [m2_go]; rw [pk_un (by omega), pk_us]
  have gl2 : ∀ i, i < c → m2.go i = m.go i := fun i hi => by rw [m2_go]; rw [pk_un (by omega), pk_un (by omega)]; exact gl i hi
  have wl2 : ∀ i, i < c → m2.wi i = m.wi i := fun i hi => by rw [m2_wi]; rw [pk_un (by omega), pk_un (by omega)]; exact wl i hi
  have co2 : m2.co = m.co := (m2_co).trans m1_co
  obtain ⟨o1, o2⟩ := hT m2 t j cs q (c + 2) S W p2 dp2 (by omega)
  show ok_Par_condition tru okt K V S W (nI cs) LO (nI t) (nI j) (nI d) ∧ Out g K V P N n e told lo c m t cs q 20 S W (DCon Lc d) (s_Par_condition tru K V S W (nI cs) LO (nI t) (nI j) (nI d))
  unfold ok_Par_condition s_Par_condition
  dsimp only
  rcases o2 with ⟨t', j', cs', k, S', W', m', e1, e2, e3, e4, e5, e6, e7, e8, e9, e10, e11, e12, e13, e14, e15, e16, e17, h', e18, e19⟩ | ⟨t', k, f1, f2, f3, f4, f5, f6⟩
  · rw [e1]
    dsimp only
    rw [if10, if10]
    have hd1 : HdC Lc m' c cs cs' q t' d 0 S' W' := Or.inl ⟨rfl, e4, e14, (e15 c (by omega)).trans g20, (e15 (c + 1) (by omega)).trans g21, h', e18, by omega⟩
    obtain ⟨i1, i2⟩ := con_lp L hT hd hcb hq (n - t') m' t' j' cs' 0 2001 0 S' W' (Nat.le_refl _) e10 e11 e5 e12 (e13.trans dp2) (by omega) rfl e3 hd1
    refine ⟨⟨o1, i1⟩, ?_⟩
    rcases i2 with ⟨t2, j2, cs2, k2, S2, W2, m9, x1, x2, x3, x4, x5, x6, x7, x8, x9, x10, x11, x12, x13, x14, x15, x16, x17, x18⟩ | ⟨t2, k2, x1, x2, x3, x4, x5, x6⟩
    · exact Or.inl ⟨t2, j2, cs2, 1 + 1 + k + k2, S2, W2, m9, x1, by omega, by omega, x4, x5, fun i hi => (x6 i hi).trans (e6 i hi), fun i hi => (x7 i hi).trans (e7 i hi), ((r1.trans r2).trans e8).trans x8, by omega, x10, x11, x12, x13.trans (e13.trans (dp2.trans hdp.symm)), x14, fun i hi => (x15 i hi).trans ((e15 i (by omega)).trans (gl2 i hi)), fun i hi => (x16 i hi).trans ((e16 i (by omega)).trans (wl2 i hi)), fun i hi => (x17 i hi).trans ((e17 i hi).trans (by rw [co2])), x18⟩
    · exact Or.inr ⟨t2, 1 + 1 + k + k2, x1, x2, by omega, x4, ((r1.trans r2).trans e8).fail x5, by omega⟩
  · rw [if_pos f1, if_pos f1]
    exact ⟨⟨o1, trivial⟩, Or.inr ⟨t', 1 + 1 + k, rfl, f2, f3, f4, (r1.trans r2).fail f5, by omega⟩⟩
theorem tru_all (L : LexR g K V P N n e pos) (R : LetR LO told lo Lc) : ∀ (k d : Nat), d ≤ 20 → 21 ≤ k + d → SimH g K V P N n e LO told lo 5 12 7 (DTru Lc) (K_tru k) (okK_tru k) d := by
  intro k
  induction k with
  | zero => intro d h1 h2; omega
  | succ k ih =>
    intro d h1 h2
    exact tru_sim L R h1 (fun h => ih (d + 1) (by omega) (by omega)) (fun h => con_sim L (ih (d + 1) (by omega) (by omega)) (by omega)) (sum_all L h1 (by omega)) (sum_bad (by have := L.le; have := L.hN; omega))
theorem con_all (L : LexR g K V P N n e pos) (R : LetR LO told lo Lc) : SimH g K V P N n e LO told lo 1 20 12 (DCon Lc) (K_con 22) (okK_con 22) 0 := con_sim L (tru_all L R 22 0 (by decide) (by decide)) (by decide)
end CON
