/-! factors and sums: the class's methods beside the reference's goals -/
abbrev CR : Type := Int32 × Int32 × Int32 × Int32 × (Nat → Int32) × (Nat → Int32)
abbrev DD : Type := (Nat → Int32) → (Nat → Int32) → (Nat → Int32) → Nat → Nat → Prop
/-- how a method ends: it stands there, and both sides have laid the same; or it does not, and both are at the same token -/
def Out (g K V P : Nat → Int32) (N n : Nat) (e : Nat → Nat) (told lo : Nat → Int32) (c : Nat) (m : MS) (t cs q B : Nat) (S W : Nat → Int32) (D : DD) (r : CR) : Prop :=
  (∃ (t' j' cs' k : Nat) (S' W' : Nat → Int32) (m' : MS), r = (1, nI t', nI j', nI cs', S', W') ∧ t ≤ t' ∧ cs ≤ cs' ∧ cs' + q ≤ t' ∧ j' ≤ 150 ∧ (∀ i, i < cs → S' i = S i) ∧ (∀ i, i < cs → W' i = W i) ∧ Run g (nI N) told lo k m m' ∧ k ≤ 20 * (t' - t) + B ∧ At g K V N n e m' t' ∧ m'.js = nI j' ∧ m'.sz = nI (2 * cs') ∧ m'.dp = m.dp ∧ m'.gc = nI c ∧ (∀ i, i < c → m'.go i = m.go i) ∧ (∀ i, i < c → m'.wi i = m.wi i) ∧ (∀ i, i < 2 * cs → m'.co i = m.co i) ∧ D S' W' m'.co cs cs') ∨
  (∃ t' k : Nat, r.1 = 0 ∧ r.2.1 = nI t' ∧ t ≤ t' ∧ t' ≤ n ∧ Fail g (nI N) told lo k m (P t') ∧ k ≤ 20 * (t' - t) + B)
def Pre (g K V : Nat → Int32) (N n : Nat) (e : Nat → Nat) (m : MS) (t j cs q c : Nat) (goal : Int32) : Prop := At g K V N n e m t ∧ m.js = nI j ∧ j ≤ 150 ∧ m.sz = nI (2 * cs) ∧ cs + q ≤ t ∧ 1 ≤ q ∧ m.gc = nI (c + 1) ∧ m.go c = goal
theorem Pre.at_ {g K V : Nat → Int32} {N n : Nat} {e : Nat → Nat} {m : MS} {t j cs q c : Nat} {goal : Int32} (h : Pre g K V N n e m t j cs q c goal) : At g K V N n e m t := h.1
theorem Pre.js {g K V : Nat → Int32} {N n : Nat} {e : Nat → Nat} {m : MS} {t j cs q c : Nat} {goal : Int32} (h : Pre g K V N n e m t j cs q c goal) : m.js = nI j := h.2.1
theorem Pre.j150 {g K V : Nat → Int32} {N n : Nat} {e : Nat → Nat} {m : MS} {t j cs q c : Nat} {goal : Int32} (h : Pre g K V N n e m t j cs q c goal) : j ≤ 150 := h.2.2.1
theorem Pre.sz {g K V : Nat → Int32} {N n : Nat} {e : Nat → Nat} {m : MS} {t j cs q c : Nat} {goal : Int32} (h : Pre g K V N n e m t j cs q c goal) : m.sz = nI (2 * cs) := h.2.2.2.1
theorem Pre.cq {g K V : Nat → Int32} {N n : Nat} {e : Nat → Nat} {m : MS} {t j cs q c : Nat} {goal : Int32} (h : Pre g K V N n e m t j cs q c goal) : cs + q ≤ t := h.2.2.2.2.1
theorem Pre.q1 {g K V : Nat → Int32} {N n : Nat} {e : Nat → Nat} {m : MS} {t j cs q c : Nat} {goal : Int32} (h : Pre g K V N n e m t j cs q c goal) : 1 ≤ q := h.2.2.2.2.2.1
theorem Pre.gc {g K V : Nat → Int32} {N n : Nat} {e : Nat → Nat} {m : MS} {t j cs q c : Nat} {goal : Int32} (h : Pre g K V N n e m t j cs q c goal) : m.gc = nI (c + 1) := h.2.2.2.2.2.2.1
theorem Pre.go {g K V : Nat → Int32} {N n : Nat} {e : Nat → Nat} {m : MS} {t j cs q c : Nat} {goal : Int32} (h : Pre g K V N n e m t j cs q c goal) : m.go c = goal := h.2.2.2.2.2.2.2
def SimH (g K V P : Nat → Int32) (N n : Nat) (e : Nat → Nat) (LO told lo : Nat → Int32) (goal : Int32) (B slack : Nat) (D : Nat → DD) (f : RcF) (okf : RcO) (d : Nat) : Prop :=
  ∀ (m : MS) (t j cs q c : Nat) (S W : Nat → Int32), Pre g K V N n e m t j cs q c goal → m.dp = nI d → c + 10 * (25 - d) + slack ≤ 900 →
    okf K V S W (nI cs) LO (nI t) (nI j) (nI d) ∧ Out g K V P N n e told lo c m t cs q B S W (D d) (f K V S W (nI cs) LO (nI t) (nI j) (nI d))
def DFac (d : Nat) : DD := fun S W C a b => ∃ h, NumD S W C a b h ∧ h ≤ 1 + 2 * (20 - d)
def DSum (d : Nat) : DD := fun S W C a b => ∃ h, NumD S W C a b h ∧ h ≤ 3 + 2 * (20 - d)
def DTru (L : Nat) (d : Nat) : DD := fun S W C a b => ∃ h, BooD S W C L a b h ∧ h ≤ 4 + 2 * (20 - d)
def DCon (L : Nat) (d : Nat) : DD := fun S W C a b => ∃ h, BooD S W C L a b h ∧ h ≤ 6 + 2 * (20 - d)
section SIM
variable {g K V P : Nat → Int32} {N n : Nat} {e pos : Nat → Nat} {LO told lo : Nat → Int32}
theorem At.cong {m m1 : MS} {t : Nat} (h : At g K V N n e m t) (h1 : m1.tk = m.tk) (h2 : m1.at_ = m.at_) (h3 : m1.pl = m.pl) (h4 : m1.kd = m.kd) (h5 : m1.vl = m.vl) (h6 : m1.ks = m.ks) (h7 : m1.vs = m.vs) : At g K V N n e m1 t := by
  unfold At at h ⊢
  rw [h1, h2, h3, h4, h5, h6, h7]
  exact h
theorem Pre.fit (L : LexR g K V P N n e pos) {m : MS} {t j cs q c : Nat} {goal : Int32} (h : Pre g K V N n e m t j cs q c goal) (hc : c ≤ 996) : Fit (nI N) m c := by
  have h1 := L.le
  have h2 := L.hN
  have h3 := h.at_.1
  have h4 := h.cq
  have h5 := h.q1
  exact ⟨hc, h.at_.pi L, by rw [h.sz]; exact up_of (by omega) (by decide)⟩
theorem fit_of (L : LexR g K V P N n e pos) {m : MS} {t cs c : Nat} (h : At g K V N n e m t) (hs : m.sz = nI (2 * cs)) (hq : cs + 1 ≤ t) (hc : c ≤ 996) : Fit (nI N) m c := by
  have h1 := L.le
  have h2 := L.hN
  have h3 := h.1
  exact ⟨hc, h.pi L, by rw [hs]; exact up_of (by omega) (by decide)⟩
theorem cond_add {S W : Nat → Int32} {cs : Nat} {x z : Int32} (h : cs < 2000) : s_Cond_add S W (nI cs) x z = (nI (cs + 1), upd S cs x, upd W cs z) := by
  unfold s_Cond_add
  have h1 : ¬ (2000 : Int32) ≤ nI cs := geL (N := 2000) (b := 2000) rfl h (by decide)
  rw [if_neg h1, if_neg h1, nI_1, nI_clamp (by omega)]
theorem deeper_y {t d : Nat} (h : d < 20) : s_Par_takeDeeper (nI t) (nI d) = (1, nI (t + 1)) := by
  unfold s_Par_takeDeeper
  rw [if_pos (ltR (N := 20) (b := 20) rfl h (by decide)), nI_1]
theorem deeper_n {t : Nat} : s_Par_takeDeeper (nI t) (nI 20) = (0, nI t) := by
  unfold s_Par_takeDeeper
  rw [if_neg (by decide)]
theorem joint_y {t j : Nat} (h : j < 150) : s_Par_takeJoint (nI t) (nI j) = (1, nI (t + 1), nI (j + 1)) := by
  unfold s_Par_takeJoint
  rw [if_pos (ltR (N := 150) (b := 150) rfl h (by decide)), nI_1, nI_1]
theorem joint_n {t : Nat} : s_Par_takeJoint (nI t) (nI 150) = (0, nI t, nI 150) := by
  unfold s_Par_takeJoint
  rw [if_neg (by decide)]
theorem kd_ne {m : MS} {k x : Nat} (h : m.kd = nI (km k)) (hk : k < 31) (hx : x < 31) (hne : k ≠ x) : ¬ m.kd = nI (km x) := by
  rw [h]
  exact fun q => hne ((km_eq hk hx).mp q)
theorem lay_lo {C C' : Nat → Int32} {s : Nat} {x z : Int32} (h : C = upd (upd C' s x) (s + 1) z) {i : Nat} (hi : i < s) : C i = C' i := by
  rw [h, pk_un (by omega), pk_un (by omega)]
theorem lay_s {C C' : Nat → Int32} {s : Nat} {x z : Int32} (h : C = upd (upd C' s x) (s + 1) z) : C s = x ∧ C (s + 1) = z := by
  constructor
  · rw [h, pk_un (by omega), pk_us]
  · rw [h, pk_us]
theorem two_up {x : Int32} {c : Nat} (h : x = nI (2 * c + 2)) : x = nI (2 * (c + 1)) := h.trans (congrArg nI (by omega))
theorem fac_sim (L : LexR g K V P N n e pos) {fac sm : RcF} {okf oks : RcO} {d : Nat} (hd : d ≤ 20) (hF : d < 20 → SimH g K V P N n e LO told lo 10 2 0 DFac fac okf (d + 1)) (hS : d < 20 → SimH g K V P N n e LO told lo 6 9 5 DSum sm oks (d + 1)) : SimH g K V P N n e LO told lo 10 2 0 DFac (B_fac fac sm) (okB_fac fac okf sm oks) d := by
  intro m t j cs q c S W hp hdp hcb
  have hN := L.hN
  have hl := L.le
  have hfit := hp.fit L (show c ≤ 996 by omega)
  obtain ⟨hat, hjs, hj, hsz, hcq, hq, hgc, hgo⟩ := hp
  have ht := hat.1
  obtain ⟨k, hk, hK, hkd, hpl, htok, hlt⟩ := L.kind ht
  rw [hat.2.2.1] at hkd hpl htok
  have hkd : m.kd = nI (km k) := hkd
  have hpl : m.pl = P t := hpl
  have hup : up (nI t) 2001 := up_of (by omega) (by decide)
  have hup2 : up (nI cs) 2000 := up_of (by omega) (by decide)
  show ok_Par_factor fac okf sm oks K V S W (nI cs) LO (nI t) (nI j) (nI d) ∧ Out g K V P N n e told lo c m t cs q 2 S W (DFac d) (s_Par_factor fac sm K V S W (nI cs) LO (nI t) (nI j) (nI d))
  unfold ok_Par_factor s_Par_factor
  dsimp only
  rw [par_kind (by omega), par_value (by omega), hK]
  by_cases k2 : k = 2
  · subst k2
    obtain ⟨ht', hvl, hat1, v, hv, hVt⟩ := htok (by decide)
    have hvl : m.vl = V t := hvl
    have hn := hat.next L hK (by decide) (by decide)
    have hrun : Run g (nI N) told lo 1 m (((m.next g (nI N)).lay (2 * cs) 15 m.vl).gcTo c) := Run.one hfit hgc (by rw [hgo]; exact re_10_15 hsz (by omega) (by rw [hkd]; rfl))
    obtain ⟨m1, hm1⟩ : ∃ m1, ((m.next g (nI N)).lay (2 * cs) 15 m.vl).gcTo c = m1 := ⟨_, rfl⟩
    rw [hm1] at hrun
    have m1_tk : m1.tk = (m.next g (nI N)).tk := by rw [← hm1, f_gcTo_tk, f_lay_tk]
    have m1_at_ : m1.at_ = (m.next g (nI N)).at_ := by rw [← hm1, f_gcTo_at_, f_lay_at_]
    have m1_pl : m1.pl = (m.next g (nI N)).pl := by rw [← hm1, f_gcTo_pl, f_lay_pl]
    have m1_kd : m1.kd = (m.next g (nI N)).kd := by rw [← hm1, f_gcTo_kd, f_lay_kd]
    have m1_vl : m1.vl = (m.next g (nI N)).vl := by rw [← hm1, f_gcTo_vl, f_lay_vl]
    have m1_js : m1.js = m.js := by rw [← hm1, f_gcTo_js, f_lay_js, f_next_js]
    have m1_sz : m1.sz = nI ((2 * cs) + 2) := by rw [← hm1, f_gcTo_sz, f_lay_sz]
    have m1_ks : m1.ks = (m.next g (nI N)).ks := by rw [← hm1, f_gcTo_ks, f_lay_ks]
    have m1_vs : m1.vs = (m.next g (nI N)).vs := by rw [← hm1, f_gcTo_vs, f_lay_vs]
    have m1_co : m1.co = upd (upd m.co (2 * cs) 15) ((2 * cs) + 1) m.vl := by rw [← hm1, f_gcTo_co, f_lay_co, f_next_co]
    have m1_dp : m1.dp = m.dp := by rw [← hm1, f_gcTo_dp, f_lay_dp, f_next_dp]
    have m1_gc : m1.gc = nI c := by rw [← hm1, f_gcTo_gc]
    have m1_go : m1.go = m.go := by rw [← hm1, f_gcTo_go, f_lay_go, f_next_go]
    have m1_wi : m1.wi = m.wi := by rw [← hm1, f_gcTo_wi, f_lay_wi, f_next_wi]
    have m1_A := hn.cong m1_tk m1_at_ m1_pl m1_kd m1_vl m1_ks m1_vs
    rw [if_pos (show nI 2 = 2 from rfl), if_pos (show nI 2 = 2 from rfl), cond_add (by omega), nI_1]
    refine ⟨⟨hup, hup, hup2, trivial⟩, Or.inl ⟨t + 1, j, cs + 1, 1, upd S cs (nI 2), upd W cs (V t), m1, rfl, by omega, by omega, by omega, hj, fun i hi => pk_un (by omega), fun i hi => pk_un (by omega), hrun, by omega, m1_A, m1_js.trans hjs, two_up m1_sz, m1_dp, m1_gc, fun i _ => by rw [m1_go], fun i _ => by rw [m1_wi], fun i hi => lay_lo m1_co hi, 1, .lit ?_ ?_ ?_, by omega⟩⟩
    · rw [pk_us]
      rfl
    · exact (lay_s m1_co).1
    · rw [pk_us, ← hvl]
      exact (lay_s m1_co).2
  by_cases k3 : k = 3
  · subst k3
    obtain ⟨ht', hvl, hat1, v, hv, hVt⟩ := htok (by decide)
    have hvl : m.vl = V t := hvl
    have hn := hat.next L hK (by decide) (by decide)
    have hrun : Run g (nI N) told lo 1 m (((m.next g (nI N)).lay (2 * cs) 13 m.vl).gcTo c) := Run.one hfit hgc (by rw [hgo]; exact re_10_13 hsz (by omega) (by rw [hkd]; rfl))
    obtain ⟨m1, hm1⟩ : ∃ m1, ((m.next g (nI N)).lay (2 * cs) 13 m.vl).gcTo c = m1 := ⟨_, rfl⟩
    rw [hm1] at hrun
    have m1_tk : m1.tk = (m.next g (nI N)).tk := by rw [← hm1, f_gcTo_tk, f_lay_tk]
    have m1_at_ : m1.at_ = (m.next g (nI N)).at_ := by rw [← hm1, f_gcTo_at_, f_lay_at_]
    have m1_pl : m1.pl = (m.next g (nI N)).pl := by rw [← hm1, f_gcTo_pl, f_lay_pl]
    have m1_kd : m1.kd = (m.next g (nI N)).kd := by rw [← hm1, f_gcTo_kd, f_lay_kd]
    have m1_vl : m1.vl = (m.next g (nI N)).vl := by rw [← hm1, f_gcTo_vl, f_lay_vl]
    have m1_js : m1.js = m.js := by rw [← hm1, f_gcTo_js, f_lay_js, f_next_js]
    have m1_sz : m1.sz = nI ((2 * cs) + 2) := by rw [← hm1, f_gcTo_sz, f_lay_sz]
    have m1_ks : m1.ks = (m.next g (nI N)).ks := by rw [← hm1, f_gcTo_ks, f_lay_ks]
    have m1_vs : m1.vs = (m.next g (nI N)).vs := by rw [← hm1, f_gcTo_vs, f_lay_vs]
    have m1_co : m1.co = upd (upd m.co (2 * cs) 13) ((2 * cs) + 1) m.vl := by rw [← hm1, f_gcTo_co, f_lay_co, f_next_co]
    have m1_dp : m1.dp = m.dp := by rw [← hm1, f_gcTo_dp, f_lay_dp, f_next_dp]
    have m1_gc : m1.gc = nI c := by rw [← hm1, f_gcTo_gc]
    have m1_go : m1.go = m.go := by rw [← hm1, f_gcTo_go, f_lay_go, f_next_go]
    have m1_wi : m1.wi = m.wi := by rw [← hm1, f_gcTo_wi, f_lay_wi, f_next_wi]
    have m1_A := hn.cong m1_tk m1_at_ m1_pl m1_kd m1_vl m1_ks m1_vs
    rw [if_neg (show ¬ nI 3 = 2 by decide), if_pos (show nI 3 = 3 from rfl), if_neg (show ¬ nI 3 = 2 by decide), if_pos (show nI 3 = 3 from rfl), cond_add (by omega), nI_1]
    refine ⟨⟨hup, hup, hup2, trivial⟩, Or.inl ⟨t + 1, j, cs + 1, 1, upd S cs (nI 3), upd W cs (V t), m1, rfl, by omega, by omega, by omega, hj, fun i hi => pk_un (by omega), fun i hi => pk_un (by omega), hrun, by omega, m1_A, m1_js.trans hjs, two_up m1_sz, m1_dp, m1_gc, fun i _ => by rw [m1_go], fun i _ => by rw [m1_wi], fun i hi => lay_lo m1_co hi, 1, .col (c := v) ?_ ?_ ?_ ?_ (hv.2.2.2.1 rfl), by omega⟩⟩
    · rw [pk_us]
      rfl
    · exact (lay_s m1_co).1
    · rw [pk_us, hVt]
    · rw [← hVt, ← hvl]
      exact (lay_s m1_co).2
  by_cases k24 : k = 24
  · subst k24
    rw [if_neg (show ¬ nI 24 = 2 by decide), if_neg (show ¬ nI 24 = 3 by decide), if_pos (show nI 24 = 24 from rfl), if_neg (show ¬ nI 24 = 2 by decide), if_neg (show ¬ nI 24 = 3 by decide), if_pos (show nI 24 = 24 from rfl)]
    by_cases d20 : d = 20
    · subst d20
      rw [deeper_n]
      dsimp only
      rw [if_pos rfl, if_pos rfl]
      exact ⟨⟨hup, trivial⟩, Or.inr ⟨t, 1, rfl, rfl, Nat.le_refl _, ht, Fail.one hfit hgc (by rw [hgo]; exact re_10_24n (by omega) (by rw [hkd]; rfl) hdp) (by simp only [f_push3_pl, f_push2_pl, f_push2w_pl, f_gcTo_pl, f_dpTo_pl, f_lay_pl, f_jsTo_pl]; exact hpl), by omega⟩⟩
    · have hdl : d < 20 := by omega
      have hn := hat.next L hK (by decide) (by decide)
      have hrun : Run g (nI N) told lo 1 m (((m.next g (nI N)).dpTo (nI (d + 1))).push3 c 15 12 41 10) := Run.one hfit hgc (by rw [hgo]; exact re_10_24y (by omega) (by rw [hkd]; rfl) hdp hdl)
      obtain ⟨m1, hm1⟩ : ∃ m1, ((m.next g (nI N)).dpTo (nI (d + 1))).push3 c 15 12 41 10 = m1 := ⟨_, rfl⟩
      have m1_tk : m1.tk = (m.next g (nI N)).tk := by rw [← hm1, f_push3_tk, f_dpTo_tk]
      have m1_at_ : m1.at_ = (m.next g (nI N)).at_ := by rw [← hm1, f_push3_at_, f_dpTo_at_]
      have m1_pl : m1.pl = (m.next g (nI N)).pl := by rw [← hm1, f_push3_pl, f_dpTo_pl]
      have m1_kd : m1.kd = (m.next g (nI N)).kd := by rw [← hm1, f_push3_kd, f_dpTo_kd]
      have m1_vl : m1.vl = (m.next g (nI N)).vl := by rw [← hm1, f_push3_vl, f_dpTo_vl]
      have m1_js : m1.js = m.js := by rw [← hm1, f_push3_js, f_dpTo_js, f_next_js]
      have m1_sz : m1.sz = m.sz := by rw [← hm1, f_push3_sz, f_dpTo_sz, f_next_sz]
      have m1_ks : m1.ks = (m.next g (nI N)).ks := by rw [← hm1, f_push3_ks, f_dpTo_ks]
      have m1_vs : m1.vs = (m.next g (nI N)).vs := by rw [← hm1, f_push3_vs, f_dpTo_vs]
      have m1_co : m1.co = m.co := by rw [← hm1, f_push3_co, f_dpTo_co, f_next_co]
      have m1_dp : m1.dp = (nI (d + 1)) := by rw [← hm1, f_push3_dp, f_dpTo_dp]
      have m1_gc : m1.gc = nI (c + 3) := by rw [← hm1, f_push3_gc]
      have m1_go : m1.go = upd (upd (upd m.go c 15) (c + 1) 12) (c + 2) 10 := by rw [← hm1, f_push3_go, f_dpTo_go, f_next_go]
      have m1_wi : m1.wi = upd (upd (upd m.wi c 0) (c + 1) 41) (c + 2) 0 := by rw [← hm1, f_push3_wi, f_dpTo_wi, f_next_wi]
      rw [hm1] at hrun
      have a1 : At g K V N n e m1 (t + 1) := hn.cong m1_tk m1_at_ m1_pl m1_kd m1_vl m1_ks m1_vs
      have g0 : m1.go c = 15 := by rw [m1_go]; rw [pk_un (by omega), pk_un (by omega), pk_us]
      have g1 : m1.go (c + 1) = 12 := by rw [m1_go]; rw [pk_un (by omega), pk_us]
      have w1 : m1.wi (c + 1) = 41 := by rw [m1_wi]; rw [pk_un (by omega), pk_us]
      have gl : ∀ i, i < c → m1.go i = m.go i := fun i hi => by rw [m1_go]; rw [pk_un (by omega), pk_un (by omega), pk_un (by omega)]
      have wl : ∀ i, i < c → m1.wi i = m.wi i := fun i hi => by rw [m1_wi]; rw [pk_un (by omega), pk_un (by omega), pk_un (by omega)]
      have p1 : Pre g K V N n e m1 (t + 1) j cs (q + 1) (c + 2) 10 := ⟨a1, (m1_js).trans (hjs), hj, (m1_sz).trans (hsz), by omega, by omega, m1_gc, by rw [m1_go]; rw [pk_us]⟩
      have dp1 : m1.dp = nI (d + 1) := m1_dp
      have co1 : m1.co = m.co := m1_co
      obtain ⟨o1, o2⟩ := hF hdl m1 (t + 1) j cs (q + 1) (c + 2) S W p1 dp1 (by omega)
      rw [deeper_y hdl]
      dsimp only
      rw [if10, if10, nI_1]
      rcases o2 with ⟨t', j', cs', k, S', W', m', e1, e2, e3, e4, e5, e6, e7, e8, e9, e10, e11, e12, e13, e14, e15, e16, e17, h, e18, e19⟩ | ⟨t', k, f1, f2, f3, f4, f5, f6⟩
      · rw [e1]
        dsimp only
        have hcs' : cs' < 2000 := by have := e10.1; omega
        rw [if10, if10, cond_add hcs']
        have fit2 : Fit (nI N) m' (c + 1) := fit_of L e10 e12 (by omega) (by omega)
        have r2 : Run g (nI N) told lo 1 m' ((m'.lay (2 * cs') 41 0).gcTo (c + 1)) := Run.one fit2 (by rw [e14]) (by rw [e15 (c + 1) (by omega), e16 (c + 1) (by omega), g1, w1]; exact re_12 e12 (by omega))
        obtain ⟨m2, hm2⟩ : ∃ m2, (m'.lay (2 * cs') 41 0).gcTo (c + 1) = m2 := ⟨_, rfl⟩
        rw [hm2] at r2
        have m2_tk : m2.tk = m'.tk := by rw [← hm2, f_gcTo_tk, f_lay_tk]
        have m2_at_ : m2.at_ = m'.at_ := by rw [← hm2, f_gcTo_at_, f_lay_at_]
        have m2_pl : m2.pl = m'.pl := by rw [← hm2, f_gcTo_pl, f_lay_pl]
        have m2_kd : m2.kd = m'.kd := by rw [← hm2, f_gcTo_kd, f_lay_kd]
        have m2_vl : m2.vl = m'.vl := by rw [← hm2, f_gcTo_vl, f_lay_vl]
        have m2_js : m2.js = m'.js := by rw [← hm2, f_gcTo_js, f_lay_js]
        have m2_sz : m2.sz = nI ((2 * cs') + 2) := by rw [← hm2, f_gcTo_sz, f_lay_sz]
        have m2_ks : m2.ks = m'.ks := by rw [← hm2, f_gcTo_ks, f_lay_ks]
        have m2_vs : m2.vs = m'.vs := by rw [← hm2, f_gcTo_vs, f_lay_vs]
        have m2_co : m2.co = upd (upd m'.co (2 * cs') 41) ((2 * cs') + 1) 0 := by rw [← hm2, f_gcTo_co, f_lay_co]
        have m2_dp : m2.dp = m'.dp := by rw [← hm2, f_gcTo_dp, f_lay_dp]
        have m2_gc : m2.gc = nI (c + 1) := by rw [← hm2, f_gcTo_gc]
        have m2_go : m2.go = m'.go := by rw [← hm2, f_gcTo_go, f_lay_go]
        have m2_wi : m2.wi = m'.wi := by rw [← hm2, f_gcTo_wi, f_lay_wi]
        have m2_A := e10.cong m2_tk m2_at_ m2_pl m2_kd m2_vl m2_ks m2_vs
        have fit3 : Fit (nI N) m2 c := fit_of L m2_A (two_up m2_sz) (by omega) (by omega)
        have r3 : Run g (nI N) told lo 1 m2 ((m2.dpTo (nI d)).gcTo c) := Run.one fit3 m2_gc (by rw [m2_go, e15 c (by omega), g0]; exact re_15 (m2_dp.trans (e13.trans dp1)))
        obtain ⟨m3, hm3⟩ : ∃ m3, (m2.dpTo (nI d)).gcTo c = m3 := ⟨_, rfl⟩
        rw [hm3] at r3
        have m3_tk : m3.tk = m2.tk := by rw [← hm3, f_gcTo_tk, f_dpTo_tk]
        have m3_at_ : m3.at_ = m2.at_ := by rw [← hm3, f_gcTo_at_, f_dpTo_at_]
        have m3_pl : m3.pl = m2.pl := by rw [← hm3, f_gcTo_pl, f_dpTo_pl]
        have m3_kd : m3.kd = m2.kd := by rw [← hm3, f_gcTo_kd, f_dpTo_kd]
        have m3_vl : m3.vl = m2.vl := by rw [← hm3, f_gcTo_vl, f_dpTo_vl]
        have m3_js : m3.js = m2.js := by rw [← hm3, f_gcTo_js, f_dpTo_js]
        have m3_sz : m3.sz = m2.sz := by rw [← hm3, f_gcTo_sz, f_dpTo_sz]
        have m3_ks : m3.ks = m2.ks := by rw [← hm3, f_gcTo_ks, f_dpTo_ks]
        have m3_vs : m3.vs = m2.vs := by rw [← hm3, f_gcTo_vs, f_dpTo_vs]
        have m3_co : m3.co = m2.co := by rw [← hm3, f_gcTo_co, f_dpTo_co]
        have m3_dp : m3.dp = (nI d) := by rw [← hm3, f_gcTo_dp, f_dpTo_dp]
        have m3_gc : m3.gc = nI c := by rw [← hm3, f_gcTo_gc]
        have m3_go : m3.go = m2.go := by rw [← hm3, f_gcTo_go, f_dpTo_go]
        have m3_wi : m3.wi = m2.wi := by rw [← hm3, f_gcTo_wi, f_dpTo_wi]
        have m3_A := m2_A.cong m3_tk m3_at_ m3_pl m3_kd m3_vl m3_ks m3_vs
        refine ⟨⟨hup, o1, up_of (by omega) (by decide), trivial⟩, Or.inl ⟨t', j', cs' + 1, 1 + k + 1 + 1, upd S' cs' (-1), upd W' cs' 0, m3, rfl, by omega, by omega, by omega, e5, fun i hi => by rw [pk_un (by omega)]; exact e6 i hi, fun i hi => by rw [pk_un (by omega)]; exact e7 i hi, ((hrun.trans e8).trans r2).trans r3, by omega, m3_A, m3_js.trans (m2_js.trans e11), two_up (m3_sz.trans m2_sz), m3_dp.trans hdp.symm, m3_gc, fun i hi => by rw [m3_go, m2_go]; exact (e15 i (by omega)).trans (gl i hi), fun i hi => by rw [m3_wi, m2_wi]; exact (e16 i (by omega)).trans (wl i hi), fun i hi => ?_, h, ?_, by omega⟩⟩
        · rw [m3_co]
          exact (lay_lo m2_co (by omega)).trans ((e17 i hi).trans (by rw [co1]))
        · rw [m3_co]
          exact .neg (e18.move (n := cs') (Nat.le_refl _) (fun i hi => pk_un (by omega)) (fun i hi => pk_un (by omega)) (fun i hi => lay_lo m2_co hi)) pk_us (lay_s m2_co).1
      · rw [if_pos f1, if_pos f1]
        exact ⟨⟨hup, o1, trivial⟩, Or.inr ⟨t', 1 + k, rfl, f2, by omega, f4, hrun.fail f5, by omega⟩⟩
  by_cases k27 : k = 27
  · subst k27
    rw [if_neg (show ¬ nI 27 = 2 by decide), if_neg (show ¬ nI 27 = 3 by decide), if_neg (show ¬ nI 27 = 24 by decide), if_pos (show nI 27 = 27 from rfl), if_neg (show ¬ nI 27 = 2 by decide), if_neg (show ¬ nI 27 = 3 by decide), if_neg (show ¬ nI 27 = 24 by decide), if_pos (show nI 27 = 27 from rfl)]
    by_cases d20 : d = 20
    · subst d20
      rw [deeper_n]
      dsimp only
      rw [if_pos rfl, if_pos rfl]
      exact ⟨⟨hup, trivial⟩, Or.inr ⟨t, 1, rfl, rfl, Nat.le_refl _, ht, Fail.one hfit hgc (by rw [hgo]; exact re_10_26n (by omega) (by rw [hkd]; rfl) hdp) (by simp only [f_push3_pl, f_push2_pl, f_push2w_pl, f_gcTo_pl, f_dpTo_pl, f_lay_pl, f_jsTo_pl]; exact hpl), by omega⟩⟩
    · have hdl : d < 20 := by omega
      have hn := hat.next L hK (by decide) (by decide)
      have hrun : Run g (nI N) told lo 1 m (((m.next g (nI N)).dpTo (nI (d + 1))).push2 c 13 6) := Run.one hfit hgc (by rw [hgo]; exact re_10_26y (by omega) (by rw [hkd]; rfl) hdp hdl)
      obtain ⟨m1, hm1⟩ : ∃ m1, ((m.next g (nI N)).dpTo (nI (d + 1))).push2 c 13 6 = m1 := ⟨_, rfl⟩
      have m1_tk : m1.tk = (m.next g (nI N)).tk := by rw [← hm1, f_push2_tk, f_dpTo_tk]
      have m1_at_ : m1.at_ = (m.next g (nI N)).at_ := by rw [← hm1, f_push2_at_, f_dpTo_at_]
      have m1_pl : m1.pl = (m.next g (nI N)).pl := by rw [← hm1, f_push2_pl, f_dpTo_pl]
      have m1_kd : m1.kd = (m.next g (nI N)).kd := by rw [← hm1, f_push2_kd, f_dpTo_kd]
      have m1_vl : m1.vl = (m.next g (nI N)).vl := by rw [← hm1, f_push2_vl, f_dpTo_vl]
      have m1_js : m1.js = m.js := by rw [← hm1, f_push2_js, f_dpTo_js, f_next_js]
      have m1_sz : m1.sz = m.sz := by rw [← hm1, f_push2_sz, f_dpTo_sz, f_next_sz]
      have m1_ks : m1.ks = (m.next g (nI N)).ks := by rw [← hm1, f_push2_ks, f_dpTo_ks]
      have m1_vs : m1.vs = (m.next g (nI N)).vs := by rw [← hm1, f_push2_vs, f_dpTo_vs]
      have m1_co : m1.co = m.co := by rw [← hm1, f_push2_co, f_dpTo_co, f_next_co]
      have m1_dp : m1.dp = (nI (d + 1)) := by rw [← hm1, f_push2_dp, f_dpTo_dp]
      have m1_gc : m1.gc = nI (c + 2) := by rw [← hm1, f_push2_gc]
      have m1_go : m1.go = upd (upd m.go c 13) (c + 1) 6 := by rw [← hm1, f_push2_go, f_dpTo_go, f_next_go]
      have m1_wi : m1.wi = upd (upd m.wi c 0) (c + 1) 0 := by rw [← hm1, f_push2_wi, f_dpTo_wi, f_next_wi]
      rw [hm1] at hrun
      have a1 : At g K V N n e m1 (t + 1) := hn.cong m1_tk m1_at_ m1_pl m1_kd m1_vl m1_ks m1_vs
      have g0 : m1.go c = 13 := by rw [m1_go]; rw [pk_un (by omega), pk_us]
      have gl : ∀ i, i < c → m1.go i = m.go i := fun i hi => by rw [m1_go]; rw [pk_un (by omega), pk_un (by omega)]
      have wl : ∀ i, i < c → m1.wi i = m.wi i := fun i hi => by rw [m1_wi]; rw [pk_un (by omega), pk_un (by omega)]
      have p1 : Pre g K V N n e m1 (t + 1) j cs (q + 1) (c + 1) 6 := ⟨a1, (m1_js).trans (hjs), hj, (m1_sz).trans (hsz), by omega, by omega, m1_gc, by rw [m1_go]; rw [pk_us]⟩
      have dp1 : m1.dp = nI (d + 1) := m1_dp
      have co1 : m1.co = m.co := m1_co
      obtain ⟨o1, o2⟩ := hS hdl m1 (t + 1) j cs (q + 1) (c + 1) S W p1 dp1 (by omega)
      rw [deeper_y hdl]
      dsimp only
      rw [if10, if10, nI_1]
      rcases o2 with ⟨t', j', cs', k, S', W', m', e1, e2, e3, e4, e5, e6, e7, e8, e9, e10, e11, e12, e13, e14, e15, e16, e17, h, e18, e19⟩ | ⟨t', k, f1, f2, f3, f4, f5, f6⟩
      · rw [e1]
        dsimp only
        have ht'n := e10.1
        obtain ⟨k', hk', hK', hkd', hpl', htok', hlt'⟩ := L.kind ht'n
        rw [e10.2.2.1] at hkd' hpl' htok'
        have hkd' : m'.kd = nI (km k') := hkd'
        have hpl' : m'.pl = P t' := hpl'
        have fit2 : Fit (nI N) m' c := fit_of L e10 e12 (by omega) (by omega)
        have htake := par_take (K := K) (t := t') (x := 28) (by omega) hK' hk' (by decide)
        have htake' : s_Par_take K (nI t') 28 = if k' = 28 then (1, nI (t' + 1)) else (0, nI t') := htake
        rw [if10, if10, htake']
        by_cases c28 : k' = 28
        · subst c28
          have hn' := e10.next L hK' (by decide) (by decide)
          have r2 : Run g (nI N) told lo 1 m' (((m'.next g (nI N)).dpTo (nI d)).gcTo c) := Run.one fit2 e14 (by rw [e15 c (by omega), g0]; exact re_13y (e13.trans dp1) (by rw [hkd']; rfl))
          obtain ⟨m2, hm2⟩ : ∃ m2, ((m'.next g (nI N)).dpTo (nI d)).gcTo c = m2 := ⟨_, rfl⟩
          rw [hm2] at r2
          have m2_tk : m2.tk = (m'.next g (nI N)).tk := by rw [← hm2, f_gcTo_tk, f_dpTo_tk]
          have m2_at_ : m2.at_ = (m'.next g (nI N)).at_ := by rw [← hm2, f_gcTo_at_, f_dpTo_at_]
          have m2_pl : m2.pl = (m'.next g (nI N)).pl := by rw [← hm2, f_gcTo_pl, f_dpTo_pl]
          have m2_kd : m2.kd = (m'.next g (nI N)).kd := by rw [← hm2, f_gcTo_kd, f_dpTo_kd]
          have m2_vl : m2.vl = (m'.next g (nI N)).vl := by rw [← hm2, f_gcTo_vl, f_dpTo_vl]
          have m2_js : m2.js = m'.js := by rw [← hm2, f_gcTo_js, f_dpTo_js, f_next_js]
          have m2_sz : m2.sz = m'.sz := by rw [← hm2, f_gcTo_sz, f_dpTo_sz, f_next_sz]
          have m2_ks : m2.ks = (m'.next g (nI N)).ks := by rw [← hm2, f_gcTo_ks, f_dpTo_ks]
          have m2_vs : m2.vs = (m'.next g (nI N)).vs := by rw [← hm2, f_gcTo_vs, f_dpTo_vs]
          have m2_co : m2.co = m'.co := by rw [← hm2, f_gcTo_co, f_dpTo_co, f_next_co]
          have m2_dp : m2.dp = (nI d) := by rw [← hm2, f_gcTo_dp, f_dpTo_dp]
          have m2_gc : m2.gc = nI c := by rw [← hm2, f_gcTo_gc]
          have m2_go : m2.go = m'.go := by rw [← hm2, f_gcTo_go, f_dpTo_go, f_next_go]
          have m2_wi : m2.wi = m'.wi := by rw [← hm2, f_gcTo_wi, f_dpTo_wi, f_next_wi]
          have m2_A := hn'.cong m2_tk m2_at_ m2_pl m2_kd m2_vl m2_ks m2_vs
          rw [if_pos rfl]
          dsimp only
          rw [if10, if10]
          refine ⟨⟨hup, o1, up_of (by omega) (by decide), trivial⟩, Or.inl ⟨t' + 1, j', cs', 1 + k + 1, S', W', m2, rfl, by omega, by omega, by omega, e5, e6, e7, (hrun.trans e8).trans r2, by omega, m2_A, m2_js.trans e11, m2_sz.trans e12, m2_dp.trans hdp.symm, m2_gc, fun i hi => by rw [m2_go]; exact (e15 i (by omega)).trans (gl i hi), fun i hi => by rw [m2_wi]; exact (e16 i (by omega)).trans (wl i hi), fun i hi => by rw [m2_co]; exact (e17 i hi).trans (by rw [co1]), h, by rw [m2_co]; exact e18, by omega⟩⟩
        · have r2 : Fail g (nI N) told lo 1 m' (P t') := Fail.one fit2 e14 (by rw [e15 c (by omega), g0]; exact re_13n (e13.trans dp1) (kd_ne (x := 28) hkd' hk' (by decide) c28)) (by simp only [f_push3_pl, f_push2_pl, f_push2w_pl, f_gcTo_pl, f_dpTo_pl, f_lay_pl, f_jsTo_pl]; exact hpl')
          rw [if_neg c28]
          dsimp only
          rw [if_pos rfl, if_pos rfl]
          exact ⟨⟨hup, o1, up_of (by omega) (by decide), trivial⟩, Or.inr ⟨t', 1 + k + 1, rfl, rfl, by omega, ht'n, (hrun.trans e8).fail r2, by omega⟩⟩
      · rw [if_pos f1, if_pos f1]
        exact ⟨⟨hup, o1, trivial⟩, Or.inr ⟨t', 1 + k, rfl, f2, by omega, f4, hrun.fail f5, by omega⟩⟩
  · have q1 : ¬ nI k = 2 := neR (N := 2) (j := 2) rfl (by omega) (by decide) k2
    have q2 : ¬ nI k = 3 := neR (N := 3) (j := 3) rfl (by omega) (by decide) k3
    have q3 : ¬ nI k = 24 := neR (N := 24) (j := 24) rfl (by omega) (by decide) k24
    have q4 : ¬ nI k = 27 := neR (N := 27) (j := 27) rfl (by omega) (by decide) k27
    rw [if_neg q1, if_neg q2, if_neg q3, if_neg q4, if_neg q1, if_neg q2, if_neg q3, if_neg q4]
    exact ⟨⟨hup, trivial⟩, Or.inr ⟨t, 1, rfl, rfl, Nat.le_refl _, ht, Fail.one hfit hgc (by rw [hgo]; exact re_10_n (kd_ne (x := 2) hkd hk (by decide) k2) (kd_ne (x := 3) hkd hk (by decide) k3) (kd_ne (x := 24) hkd hk (by decide) k24) (kd_ne (x := 27) hkd hk (by decide) k27)) (by simp only [f_push3_pl, f_push2_pl, f_push2w_pl, f_gcTo_pl, f_dpTo_pl, f_lay_pl, f_jsTo_pl]; exact hpl), by omega⟩⟩
end SIM
