/-! factors and sums: the class's methods beside the reference's goals -/
abbrev CR : Type := Int32 × Int32 × Int32 × Int32 × (Nat → Int32) × (Nat → Int32)
abbrev DD : Type := (Nat → Int32) → (Nat → Int32) → (Nat → Int32) → Nat → Nat → Prop
/-- how a method ends: it stands there, and both sides have laid the same; or it does not, and both are at the same token -/
def Out (g K V P : Nat → Int32) (N n : Nat) (e : Nat → Nat) (told lo : Nat → Int32) (c : Nat) (m : MS) (t cs q B : Nat) (S W : Nat → Int32) (D : DD) (r : CR) : Prop :=
  (∃ (t' j' cs' k : Nat) (S' W' : Nat → Int32) (m' : MS), r = (1, nI t', nI j', nI cs', S', W') ∧ t ≤ t' ∧ cs ≤ cs' ∧ cs' + q ≤ t' ∧ j' ≤ 150 ∧ (∀ i, i < cs → S' i = S i) ∧ (∀ i, i < cs → W' i = W i) ∧ Run g (nI N) told lo k m m' ∧ k ≤ 20 * (t' - t) + B ∧ At g K V N n e m' t' ∧ m'.js = nI j' ∧ m'.sz = nI (2 * cs') ∧ m'.dp = m.dp ∧ m'.gc = nI c ∧ (∀ i, i < c → m'.go i = m.go i) ∧ (∀ i, i < c → m'.wi i = m.wi i) ∧ (∀ i, i < 2 * cs → m'.co i = m.co i) ∧ D S' W' m'.co cs cs') ∨
  (∃ t' k : Nat, r.1 = 0 ∧ r.2.1 = nI t' ∧ t ≤ t' ∧ t' ≤ n ∧ Fail g (nI N) told lo k m (P t') ∧ k ≤ 20 * (t' - t) + B)
def Pre (g K V : Nat → Int32) (N n : Nat) (e : Nat → Nat) (m : MS) (t j cs q c : Nat) (goal : Int32) : Prop := At g K V N n e m t ∧ m.js = nI j ∧ j ≤ 150 ∧ m.sz = nI (2 * cs) ∧ cs + q ≤ t ∧ 1 ≤ q ∧ m.gc = nI (c + 1) ∧ m.go c = goal
theorem Pre.at_ {g K V : Nat → Int32} {N n : Nat} {e : Nat → Nat} {m : MS} {t j cs q c : Nat} {goal : Int32} (h : Pre g K V N n e m t j cs q c goal) : At g K V N n e m t := h.1
theorem Pre.js {g K V : Nat → Int32} {N n : Nat} {e : Nat → Nat} {m : MS} {t j cs q c : Nat} {goal : Int32} (h : Pre g K V N n e m t j cs q c goal) : m.js = nI j := h.2.1
theorem Pre.j150 {g K V : Nat → Int32} {N n : Nat} {e : Nat → Nat} {m : MS} {t j cs q c : Nat} {goal : Int32} (h : Pre g K V N n e m t j cs q c goal) : j ≤ 150 := h.2.2.1
theorem Pre.sz {g K V : Nat → Int32} {N n : Nat} {e : Nat → Nat} {m : MS} {t j cs q c : Nat} {goal : Int32} (h : Pre g K V N n e m t j cs q c goal) : m.sz = nI (2 * cs) := h.2.2.2.1
theorem Pre.cq {g K V : Nat → Int32} {N n : Nat} {e : Nat → Nat} {m : MS} {t j cs q c : Nat} {goal : Int32} (h : Pre g K V N n e m t j cs q c goal) : cs + q ≤ t := h.2.2.2.2.1
theorem Pre.q1 {g K V : Nat → Int32} {N n : Nat} {e : Nat → Nat} {m : MS} {t j cs q c : Nat} {goal : Int32} (h : Pre g K V N n e m t j cs q c goal) : 1 ≤ q := h.2.2.2.2.2.1
theorem Pre.gc {g K V : Nat → Int32} {N n : Nat} {e : Nat → Nat} {m : MS} {t j cs q c : Nat} {goal : Int32} (h : Pre g K V N n e m t j cs q c goal) : m.gc = nI (c + 1) := h.2.2.2.2.2.2.1
theorem Pre.go {g K V : Nat → Int32} {N n : Nat} {e : Nat → Nat} {m : MS} {t j cs q c : Nat} {goal : Int32} (h : Pre g K V N n e m t j cs q c goal) : m.go c = goal := h.2.2.2.2.2.2.2
def SimH (g K V P : Nat → Int32) (N n : Nat) (e : Nat → Nat) (LO told lo : Nat → Int32) (goal : Int32) (B slack : Nat) (D : Nat → DD) (f : RcF) (okf : RcO) (d : Nat) : Prop :=
  ∀ (m : MS) (t j cs q c : Nat) (S W : Nat → Int32), Pre g K V N n e m t j cs q c goal → m.dp = nI d → c + 10 * (25 - d) + slack ≤ 900 →
    okf K V S W (nI cs) LO (nI t) (nI j) (nI d) ∧ Out g K V P N n e told lo c m t cs q B S W (D d) (f K V S W (nI cs) LO (nI t) (nI j) (nI d))
def DFac (d : Nat) : DD := fun S W C a b => ∃ h, NumD S W C a b h ∧ h ≤ 1 + 2 * (20 - d)
def DSum (d : Nat) : DD := fun S W C a b => ∃ h, NumD S W C a b h ∧ h ≤ 3 + 2 * (20 - d)
def DTru (L : Nat) (d : Nat) : DD := fun S W C a b => ∃ h, BooD S W C L a b h ∧ h ≤ 4 + 2 * (20 - d)
def DCon (L : Nat) (d : Nat) : DD := fun S W C a b => ∃ h, BooD S W C L a b h ∧ h ≤ 6 + 2 * (20 - d)
section SIM
variable {g K V P : Nat → Int32} {N n : Nat} {e pos : Nat → Nat} {LO told lo : Nat → Int32}
theorem Pre.fit (L : LexR g K V P N n e pos) {m : MS} {t j cs q c : Nat} {goal : Int32} (h : Pre g K V N n e m t j cs q c goal) (hc : c ≤ 996) : Fit (nI N) m c := by
  have h1 := L.le
  have h2 := L.hN
  have h3 := h.at_.1
  have h4 := h.cq
  have h5 := h.q1
  exact ⟨hc, h.at_.pi L, by rw [h.sz]; exact up_of (by omega) (by decide)⟩
theorem fit_of (L : LexR g K V P N n e pos) {m : MS} {t cs c : Nat} (h : At g K V N n e m t) (hs : m.sz = nI (2 * cs)) (hq : cs + 1 ≤ t) (hc : c ≤ 996) : Fit (nI N) m c := by
  have h1 := L.le
  have h2 := L.hN
  have h3 := h.1
  exact ⟨hc, h.pi L, by rw [hs]; exact up_of (by omega) (by decide)⟩
theorem cond_add {S W : Nat → Int32} {cs : Nat} {x z : Int32} (h : cs < 2000) : s_Cond_add S W (nI cs) x z = (nI (cs + 1), upd S cs x, upd W cs z) := by
  unfold s_Cond_add
  have h1 : ¬ (2000 : Int32) ≤ nI cs := geL (N := 2000) (b := 2000) rfl h (by decide)
  rw [if_neg h1, if_neg h1, nI_1, nI_clamp (by omega)]
theorem deeper_y {t d : Nat} (h : d < 20) : s_Par_takeDeeper (nI t) (nI d) = (1, nI (t + 1)) := by
  unfold s_Par_takeDeeper
  rw [if_pos (ltR (N := 20) (b := 20) rfl h (by decide)), nI_1]
theorem deeper_n {t : Nat} : s_Par_takeDeeper (nI t) (nI 20) = (0, nI t) := by
  unfold s_Par_takeDeeper
  rw [if_neg (by decide)]
theorem joint_y {t j : Nat} (h : j < 150) : s_Par_takeJoint (nI t) (nI j) = (1, nI (t + 1), nI (j + 1)) := by
  unfold s_Par_takeJoint
  rw [if_pos (ltR (N := 150) (b := 150) rfl h (by decide)), nI_1, nI_1]
theorem joint_n {t : Nat} : s_Par_takeJoint (nI t) (nI 150) = (0, nI t, nI 150) := by
  unfold s_Par_takeJoint
  rw [if_neg (by decide)]
theorem kd_ne {m : MS} {k x : Nat} (h : m.kd = nI (km k)) (hk : k < 31) (hx : x < 31) (hne : k ≠ x) : ¬ m.kd = nI (km x) := by
  rw [h]
  exact fun q => hne ((km_eq hk hx).mp q)
theorem lay_lo {m : MS} {s : Nat} {x z : Int32} {i : Nat} (hi : i < s) : (m.lay s x z).co i = m.co i := by
  show upd (upd m.co s x) (s + 1) z i = m.co i
  rw [pk_un (by omega), pk_un (by omega)]
theorem lay_s {m : MS} {s : Nat} {x z : Int32} : (m.lay s x z).co s = x ∧ (m.lay s x z).co (s + 1) = z := by
  constructor
  · show upd (upd m.co s x) (s + 1) z s = x
    rw [pk_un (by omega), pk_us]
  · show upd (upd m.co s x) (s + 1) z (s + 1) = z
    rw [pk_us]
theorem fac_sim (L : LexR g K V P N n e pos) {fac sm : RcF} {okf oks : RcO} {d : Nat} (hd : d ≤ 20) (hF : d < 20 → SimH g K V P N n e LO told lo 10 2 0 DFac fac okf (d + 1)) (hS : d < 20 → SimH g K V P N n e LO told lo 6 7 5 DSum sm oks (d + 1)) : SimH g K V P N n e LO told lo 10 2 0 DFac (B_fac fac sm) (okB_fac fac okf sm oks) d := by
  intro m t j cs q c S W hp hdp hcb
  have hN := L.hN
  have hl := L.le
  have hfit := hp.fit L (show c ≤ 996 by omega)
  obtain ⟨hat, hjs, hj, hsz, hcq, hq, hgc, hgo⟩ := hp
  have ht := hat.1
  obtain ⟨k, hk, hK, hkd, hpl, htok, hlt⟩ := L.kind ht
  rw [hat.2.2.1] at hkd hpl htok
  have hkd : m.kd = nI (km k) := hkd
  have hpl : m.pl = P t := hpl
  have hup : up (nI t) 2001 := up_of (by omega) (by decide)
  have hup2 : up (nI cs) 2000 := up_of (by omega) (by decide)
  show ok_Par_factor fac okf sm oks K V S W (nI cs) LO (nI t) (nI j) (nI d) ∧ Out g K V P N n e told lo c m t cs q 2 S W (DFac d) (s_Par_factor fac sm K V S W (nI cs) LO (nI t) (nI j) (nI d))
  unfold ok_Par_factor s_Par_factor
  dsimp only
  rw [par_kind (by omega), par_value (by omega), hK]
  by_cases k2 : k = 2
  · subst k2
    obtain ⟨ht', hvl, hat1, v, hv, hVt⟩ := htok (by decide)
    have hvl : m.vl = V t := hvl
    have hn := hat.next L hK (by decide) (by decide)
    have hrun : Run g (nI N) told lo 1 m (((m.next g (nI N)).lay (2 * cs) 15 m.vl).gcTo c) := Run.one hfit hgc (by rw [hgo]; exact re_10_15 hsz (by omega) (by rw [hkd]; rfl))
    rw [if_pos (show nI 2 = 2 from rfl), if_pos (show nI 2 = 2 from rfl), cond_add (by omega), nI_1]
    refine ⟨⟨hup, hup, hup2, trivial⟩, Or.inl ⟨t + 1, j, cs + 1, 1, upd S cs (nI 2), upd W cs (V t), _, rfl, by omega, by omega, by omega, hj, fun i hi => pk_un (by omega), fun i hi => pk_un (by omega), hrun, by omega, hn, hjs, ?_, rfl, rfl, fun i _ => rfl, fun i _ => rfl, fun i hi => lay_lo (m := m.next g (nI N)) hi, 1, .lit ?_ ?_ ?_, by omega⟩⟩
    · show nI (2 * cs + 2) = nI (2 * (cs + 1))
      congr 1
    · rw [pk_us]
      rfl
    · exact (lay_s (m := m.next g (nI N)) (s := 2 * cs)).1
    · rw [pk_us, ← hvl]
      exact (lay_s (m := m.next g (nI N)) (s := 2 * cs)).2
  by_cases k3 : k = 3
  · subst k3
    obtain ⟨ht', hvl, hat1, v, hv, hVt⟩ := htok (by decide)
    have hvl : m.vl = V t := hvl
    have hn := hat.next L hK (by decide) (by decide)
    have hrun : Run g (nI N) told lo 1 m (((m.next g (nI N)).lay (2 * cs) 13 m.vl).gcTo c) := Run.one hfit hgc (by rw [hgo]; exact re_10_13 hsz (by omega) (by rw [hkd]; rfl))
    rw [if_neg (by decide), if_pos (show nI 3 = 3 from rfl), if_neg (by decide), if_pos (show nI 3 = 3 from rfl), cond_add (by omega), nI_1]
    refine ⟨⟨hup, hup, hup2, trivial⟩, Or.inl ⟨t + 1, j, cs + 1, 1, upd S cs (nI 3), upd W cs (V t), _, rfl, by omega, by omega, by omega, hj, fun i hi => pk_un (by omega), fun i hi => pk_un (by omega), hrun, by omega, hn, hjs, ?_, rfl, rfl, fun i _ => rfl, fun i _ => rfl, fun i hi => lay_lo (m := m.next g (nI N)) hi, 1, .col (c := v) ?_ ?_ ?_ ?_ (hv.2.2.2.1 rfl), by omega⟩⟩
    · show nI (2 * cs + 2) = nI (2 * (cs + 1))
      congr 1
    · rw [pk_us]
      rfl
    · exact (lay_s (m := m.next g (nI N)) (s := 2 * cs)).1
    · rw [pk_us, hVt]
    · rw [← hVt, ← hvl]
      exact (lay_s (m := m.next g (nI N)) (s := 2 * cs)).2
  by_cases k24 : k = 24
  · subst k24
    rw [if_neg (by decide), if_neg (by decide), if_pos (show nI 24 = 24 from rfl), if_neg (by decide), if_neg (by decide), if_pos (show nI 24 = 24 from rfl)]
    by_cases d20 : d = 20
    · subst d20
      rw [deeper_n]
      dsimp only
      rw [if_pos rfl, if_pos rfl]
      exact ⟨⟨hup, trivial⟩, Or.inr ⟨t, 1, rfl, rfl, Nat.le_refl _, ht, Fail.one hfit hgc (by rw [hgo]; exact re_10_24n (by omega) (by rw [hkd]; rfl) hdp) hpl, by omega⟩⟩
    · have hdl : d < 20 := by omega
      have hn := hat.next L hK (by decide) (by decide)
      have hrun : Run g (nI N) told lo 1 m (((m.next g (nI N)).dpTo (nI (d + 1))).push3 c 15 12 41 10) := Run.one hfit hgc (by rw [hgo]; exact re_10_24y (by omega) (by rw [hkd]; rfl) hdp hdl)
      obtain ⟨m1, hm1⟩ : ∃ m1, ((m.next g (nI N)).dpTo (nI (d + 1))).push3 c 15 12 41 10 = m1 := ⟨_, rfl⟩
      rw [hm1] at hrun
      have a1 : At g K V N n e m1 (t + 1) := by rw [← hm1]; exact hn
      have g0 : m1.go c = 15 := by rw [← hm1]; show upd (upd (upd m.go c 15) (c + 1) 12) (c + 2) 10 c = 15; rw [pk_un (by omega), pk_un (by omega), pk_us]
      have g1 : m1.go (c + 1) = 12 := by rw [← hm1]; show upd (upd (upd m.go c 15) (c + 1) 12) (c + 2) 10 (c + 1) = 12; rw [pk_un (by omega), pk_us]
      have w1 : m1.wi (c + 1) = 41 := by rw [← hm1]; show upd (upd (upd m.wi c 0) (c + 1) 41) (c + 2) 0 (c + 1) = 41; rw [pk_un (by omega), pk_us]
      have gl : ∀ i, i < c → m1.go i = m.go i := fun i hi => by rw [← hm1]; show upd (upd (upd m.go c 15) (c + 1) 12) (c + 2) 10 i = m.go i; rw [pk_un (by omega), pk_un (by omega), pk_un (by omega)]
      have wl : ∀ i, i < c → m1.wi i = m.wi i := fun i hi => by rw [← hm1]; show upd (upd (upd m.wi c 0) (c + 1) 41) (c + 2) 0 i = m.wi i; rw [pk_un (by omega), pk_un (by omega), pk_un (by omega)]
      have p1 : Pre g K V N n e m1 (t + 1) j cs (q + 1) (c + 2) 10 := ⟨a1, by rw [← hm1]; exact hjs, hj, by rw [← hm1]; exact hsz, by omega, by omega, by rw [← hm1]; rfl, by rw [← hm1]; show upd (upd (upd m.go c 15) (c + 1) 12) (c + 2) 10 (c + 2) = 10; rw [pk_us]⟩
      have dp1 : m1.dp = nI (d + 1) := by rw [← hm1]; rfl
      have co1 : m1.co = m.co := by rw [← hm1]; rfl
      obtain ⟨o1, o2⟩ := hF hdl m1 (t + 1) j cs (q + 1) (c + 2) S W p1 dp1 (by omega)
      rw [deeper_y hdl]
      dsimp only
      rw [if_neg (by decide), if_neg (by decide), nI_1]
      rcases o2 with ⟨t', j', cs', k, S', W', m', e1, e2, e3, e4, e5, e6, e7, e8, e9, e10, e11, e12, e13, e14, e15, e16, e17, h, e18, e19⟩ | ⟨t', k, f1, f2, f3, f4, f5, f6⟩
      · rw [e1]
        dsimp only
        have hcs' : cs' < 2000 := by have := e10.1; omega
        rw [if_neg (by decide), if_neg (by decide), cond_add hcs']
        have fit2 : Fit (nI N) m' (c + 1) := fit_of L e10 e12 (by omega) (by omega)
        have r2 : Run g (nI N) told lo 1 m' ((m'.lay (2 * cs') 41 0).gcTo (c + 1)) := Run.one fit2 (by rw [e14]) (by rw [e15 (c + 1) (by omega), e16 (c + 1) (by omega), g1, w1]; exact re_12 e12 (by omega))
        have fit3 : Fit (nI N) ((m'.lay (2 * cs') 41 0).gcTo (c + 1)) c := fit_of (cs := cs' + 1) L e10 (by show nI (2 * cs' + 2) = nI (2 * (cs' + 1)); congr 1) (by omega) (by omega)
        have r3 : Run g (nI N) told lo 1 ((m'.lay (2 * cs') 41 0).gcTo (c + 1)) ((((m'.lay (2 * cs') 41 0).gcTo (c + 1)).dpTo (nI d)).gcTo c) := Run.one fit3 rfl (by rw [show ((m'.lay (2 * cs') 41 0).gcTo (c + 1)).go c = 15 from (e15 c (by omega)).trans g0]; exact re_15 (e13.trans dp1))
        refine ⟨⟨hup, o1, up_of (by omega) (by decide), trivial⟩, Or.inl ⟨t', j', cs' + 1, 1 + k + 1 + 1, upd S' cs' (-1), upd W' cs' 0, _, rfl, by omega, by omega, by omega, e5, fun i hi => by rw [pk_un (by omega)]; exact e6 i hi, fun i hi => by rw [pk_un (by omega)]; exact e7 i hi, ((hrun.trans e8).trans r2).trans r3, by omega, e10, e11, ?_, hdp.symm, rfl, fun i hi => (e15 i (by omega)).trans (gl i hi), fun i hi => (e16 i (by omega)).trans (wl i hi), fun i hi => ?_, h, ?_, by omega⟩⟩
        · show nI (2 * cs' + 2) = nI (2 * (cs' + 1))
          congr 1
        · exact (lay_lo (m := m') (s := 2 * cs') (by omega)).trans ((e17 i hi).trans (by rw [co1]))
        · refine .neg (e18.move (n := cs') (Nat.le_refl _) (fun i hi => pk_un (by omega)) (fun i hi => pk_un (by omega)) (fun i hi => lay_lo (m := m') hi)) pk_us ?_
          exact (lay_s (m := m') (s := 2 * cs')).1
      · rw [if_pos f1, if_pos f1]
        exact ⟨⟨hup, o1, trivial⟩, Or.inr ⟨t', 1 + k, rfl, f2, by omega, f4, hrun.fail f5, by omega⟩⟩
  by_cases k27 : k = 27
  · subst k27
    rw [if_neg (by decide), if_neg (by decide), if_neg (by decide), if_pos (show nI 27 = 27 from rfl), if_neg (by decide), if_neg (by decide), if_neg (by decide), if_pos (show nI 27 = 27 from rfl)]
    by_cases d20 : d = 20
    · subst d20
      rw [deeper_n]
      dsimp only
      rw [if_pos rfl, if_pos rfl]
      exact ⟨⟨hup, trivial⟩, Or.inr ⟨t, 1, rfl, rfl, Nat.le_refl _, ht, Fail.one hfit hgc (by rw [hgo]; exact re_10_26n (by omega) (by rw [hkd]; rfl) hdp) hpl, by omega⟩⟩
    · have hdl : d < 20 := by omega
      have hn := hat.next L hK (by decide) (by decide)
      have hrun : Run g (nI N) told lo 1 m (((m.next g (nI N)).dpTo (nI (d + 1))).push2 c 13 6) := Run.one hfit hgc (by rw [hgo]; exact re_10_26y (by omega) (by rw [hkd]; rfl) hdp hdl)
      obtain ⟨m1, hm1⟩ : ∃ m1, ((m.next g (nI N)).dpTo (nI (d + 1))).push2 c 13 6 = m1 := ⟨_, rfl⟩
      rw [hm1] at hrun
      have a1 : At g K V N n e m1 (t + 1) := by rw [← hm1]; exact hn
      have g0 : m1.go c = 13 := by rw [← hm1]; show upd (upd m.go c 13) (c + 1) 6 c = 13; rw [pk_un (by omega), pk_us]
      have gl : ∀ i, i < c → m1.go i = m.go i := fun i hi => by rw [← hm1]; show upd (upd m.go c 13) (c + 1) 6 i = m.go i; rw [pk_un (by omega), pk_un (by omega)]
      have wl : ∀ i, i < c → m1.wi i = m.wi i := fun i hi => by rw [← hm1]; show upd (upd m.wi c 0) (c + 1) 0 i = m.wi i; rw [pk_un (by omega), pk_un (by omega)]
      have p1 : Pre g K V N n e m1 (t + 1) j cs (q + 1) (c + 1) 6 := ⟨a1, by rw [← hm1]; exact hjs, hj, by rw [← hm1]; exact hsz, by omega, by omega, by rw [← hm1]; rfl, by rw [← hm1]; show upd (upd m.go c 13) (c + 1) 6 (c + 1) = 6; rw [pk_us]⟩
      have dp1 : m1.dp = nI (d + 1) := by rw [← hm1]; rfl
      have co1 : m1.co = m.co := by rw [← hm1]; rfl
      obtain ⟨o1, o2⟩ := hS hdl m1 (t + 1) j cs (q + 1) (c + 1) S W p1 dp1 (by omega)
      rw [deeper_y hdl]
      dsimp only
      rw [if_neg (by decide), if_neg (by decide), nI_1]
      rcases o2 with ⟨t', j', cs', k, S', W', m', e1, e2, e3, e4, e5, e6, e7, e8, e9, e10, e11, e12, e13, e14, e15, e16, e17, h, e18, e19⟩ | ⟨t', k, f1, f2, f3, f4, f5, f6⟩
      · rw [e1]
        dsimp only
        have ht'n := e10.1
        obtain ⟨k', hk', hK', hkd', hpl', htok', hlt'⟩ := L.kind ht'n
        rw [e10.2.2.1] at hkd' hpl' htok'
        have hkd' : m'.kd = nI (km k') := hkd'
        have hpl' : m'.pl = P t' := hpl'
        have fit2 : Fit (nI N) m' c := fit_of L e10 e12 (by omega) (by omega)
        have htake := par_take (K := K) (t := t') (x := 28) (by omega) hK' hk' (by decide)
        have htake' : s_Par_take K (nI t') 28 = if k' = 28 then (1, nI (t' + 1)) else (0, nI t') := htake
        rw [if_neg (by decide), if_neg (by decide), htake']
        by_cases c28 : k' = 28
        · subst c28
          have hn' := e10.next L hK' (by decide) (by decide)
          have r2 : Run g (nI N) told lo 1 m' (((m'.next g (nI N)).dpTo (nI d)).gcTo c) := Run.one fit2 e14 (by rw [e15 c (by omega), g0]; exact re_13y (e13.trans dp1) (by rw [hkd']; rfl))
          rw [if_pos rfl]
          dsimp only
          rw [if_neg (by decide), if_neg (by decide)]
          refine ⟨⟨hup, o1, up_of (by omega) (by decide), trivial⟩, Or.inl ⟨t' + 1, j', cs', 1 + k + 1, S', W', _, rfl, by omega, by omega, by omega, e5, e6, e7, (hrun.trans e8).trans r2, by omega, hn', e11, e12, hdp.symm, rfl, fun i hi => (e15 i (by omega)).trans (gl i hi), fun i hi => (e16 i (by omega)).trans (wl i hi), fun i hi => (e17 i hi).trans (by rw [co1]), h, e18, by omega⟩⟩
        · have r2 : Fail g (nI N) told lo 1 m' (P t') := Fail.one fit2 e14 (by rw [e15 c (by omega), g0]; exact re_13n (e13.trans dp1) (kd_ne (x := 28) hkd' hk' (by decide) c28)) hpl'
          rw [if_neg c28]
          dsimp only
          rw [if_pos rfl, if_pos rfl]
          exact ⟨⟨hup, o1, up_of (by omega) (by decide), trivial⟩, Or.inr ⟨t', 1 + k + 1, rfl, rfl, by omega, ht'n, (hrun.trans e8).fail r2, by omega⟩⟩
      · rw [if_pos f1, if_pos f1]
        exact ⟨⟨hup, o1, trivial⟩, Or.inr ⟨t', 1 + k, rfl, f2, by omega, f4, hrun.fail f5, by omega⟩⟩
  · have q1 : ¬ nI k = 2 := neR (N := 2) (j := 2) rfl (by omega) (by decide) k2
    have q2 : ¬ nI k = 3 := neR (N := 3) (j := 3) rfl (by omega) (by decide) k3
    have q3 : ¬ nI k = 24 := neR (N := 24) (j := 24) rfl (by omega) (by decide) k24
    have q4 : ¬ nI k = 27 := neR (N := 27) (j := 27) rfl (by omega) (by decide) k27
    rw [if_neg q1, if_neg q2, if_neg q3, if_neg q4, if_neg q1, if_neg q2, if_neg q3, if_neg q4]
    exact ⟨⟨hup, trivial⟩, Or.inr ⟨t, 1, rfl, rfl, Nat.le_refl _, ht, Fail.one hfit hgc (by rw [hgo]; exact re_10_n (kd_ne (x := 2) hkd hk (by decide) k2) (kd_ne (x := 3) hkd hk (by decide) k3) (kd_ne (x := 24) hkd hk (by decide) k24) (kd_ne (x := 27) hkd hk (by decide) k27)) hpl, by omega⟩⟩
end SIM
