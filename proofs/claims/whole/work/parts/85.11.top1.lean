/-! statements: the class's parser beside the reference's reader -/
section TOP1
variable {g K V P : Nat → Int32} {N n : Nat} {e pos : Nat → Nat} {LO told lo : Nat → Int32} {Lc : Nat}
theorem At.view (L : LexR g K V P N n e pos) {m : MS} {t : Nat} (h : At g K V N n e m t) : ∃ k : Nat, k < 31 ∧ K t = nI k ∧ m.kd = nI (km k) ∧ m.pl = P t ∧ (2 ≤ k → t < n ∧ m.vl = V t ∧ ∃ v, tokOK k v ∧ V t = nI v) ∧ (t < n → 2 ≤ k) := by
  obtain ⟨h1, h2, h3, h4⟩ := h
  obtain ⟨k, a1, a2, a3, a4, a5, a6⟩ := L.kind h1
  rw [h3] at a3 a4 a5
  exact ⟨k, a1, a2, a3, a4, fun q => ⟨(a5 q).1, (a5 q).2.1, (a5 q).2.2.2⟩, a6⟩
/-- one token on: what changes and what stays -/
def Nx (g : Nat → Int32) (N : Nat) (m m1 : MS) : Prop := s_Mo_pass g (nI N) m.ks m.vs m.tk m.at_ m.kd m.vl = (m1.tk, m1.at_, m1.pl, m1.kd, m1.vl, m1.ks, m1.vs) ∧ m1.js = m.js ∧ m1.sz = m.sz ∧ m1.co = m.co ∧ m1.dp = m.dp ∧ m1.gc = m.gc ∧ m1.go = m.go ∧ m1.wi = m.wi
theorem Nx.pass {m m1 : MS} (h : Nx g N m m1) : s_Mo_pass g (nI N) m.ks m.vs m.tk m.at_ m.kd m.vl = (m1.tk, m1.at_, m1.pl, m1.kd, m1.vl, m1.ks, m1.vs) := h.1
theorem Nx.js {m m1 : MS} (h : Nx g N m m1) : m1.js = m.js := h.2.1
theorem Nx.sz {m m1 : MS} (h : Nx g N m m1) : m1.sz = m.sz := h.2.2.1
theorem Nx.co {m m1 : MS} (h : Nx g N m m1) : m1.co = m.co := h.2.2.2.1
theorem Nx.dp {m m1 : MS} (h : Nx g N m m1) : m1.dp = m.dp := h.2.2.2.2.1
theorem Nx.gc {m m1 : MS} (h : Nx g N m m1) : m1.gc = m.gc := h.2.2.2.2.2.1
theorem Nx.go {m m1 : MS} (h : Nx g N m m1) : m1.go = m.go := h.2.2.2.2.2.2.1
theorem Nx.wi {m m1 : MS} (h : Nx g N m m1) : m1.wi = m.wi := h.2.2.2.2.2.2.2
theorem At.nx (L : LexR g K V P N n e pos) {m : MS} {t k : Nat} (h : At g K V N n e m t) (hK : K t = nI k) (hk : 2 ≤ k) (hk2 : k < 31) : ∃ m1 : MS, Nx g N m m1 ∧ At g K V N n e m1 (t + 1) := ⟨m.next g (nI N), ⟨pass_eq, f_next_js m, f_next_sz m, f_next_co m, f_next_dp m, f_next_gc m, f_next_go m, f_next_wi m⟩, h.next L hK hk hk2⟩
theorem Nx.one {m m1 : MS} {x : Int32} (h : Nx g N m m1) (hk : m.kd = x) : s_Mo_passOne g (nI N) m.ks m.vs m.tk m.at_ m.pl m.kd m.vl x = (1, m1.tk, m1.at_, m1.pl, m1.kd, m1.vl, m1.ks, m1.vs) := by
  unfold s_Mo_passOne
  rw [if_pos hk, h.pass]
/-- a token of kind x is taken on both sides, or on none -/
theorem take_sim (L : LexR g K V P N n e pos) {m : MS} {t : Nat} (h : At g K V N n e m t) (x : Nat) (c y : Int32) (hx : 2 ≤ x) (hx2 : x < 31) (hc : c = nI x) (hy : y = nI (km x)) :
    (s_Par_take K (nI t) c = (1, nI (t + 1)) ∧ m.kd = y ∧ K t = nI x ∧ t < n ∧ m.vl = V t ∧ (∃ v, tokOK x v ∧ V t = nI v) ∧ ∃ m1 : MS, Nx g N m m1 ∧ At g K V N n e m1 (t + 1)) ∨ (s_Par_take K (nI t) c = (0, nI t) ∧ ¬ m.kd = y ∧ ¬ K t = c) := by
  subst hc
  subst hy
  have hn := L.le
  have hN := L.hN
  have ht := h.1
  obtain ⟨k, a1, a2, a3, a4, a5, a6⟩ := h.view L
  have ep := par_take (show t ≤ 2000 by omega) a2 a1 hx2
  by_cases c : k = x
  · subst c
    rw [if_pos rfl] at ep
    obtain ⟨b1, b2, b3⟩ := a5 hx
    exact Or.inl ⟨ep, a3, a2, b1, b2, b3, h.nx L a2 hx a1⟩
  · rw [if_neg c] at ep
    refine Or.inr ⟨ep, kd_ne a3 a1 hx2 c, ?_⟩
    rw [a2]
    exact nI_ne (by omega) (by omega) c
theorem par_isnum {t : Nat} {x z : Int32} (ht : t ≤ 2000) : s_Par_isNumber K V (nI t) x z = if K t = 2 then s_Mo_in (V t) x z else 0 := by
  unfold s_Par_isNumber
  rw [par_kind ht, par_value ht]
  rfl
theorem num_sim (L : LexR g K V P N n e pos) {m : MS} {t : Nat} (h : At g K V N n e m t) (x z : Int32) :
    (∃ v : Nat, v < 2 ^ 31 ∧ ¬ s_Par_isNumber K V (nI t) x z = 0 ∧ s_Par_value V (nI t) = nI v ∧ t < n ∧ V t = nI v ∧ ¬ s_Mo_in (nI v) x z = 0 ∧ m.vl = nI v ∧ ∃ m1 : MS, Nx g N m m1 ∧ s_Mo_passNumber g (nI N) m.ks m.vs m.tk m.at_ m.pl m.kd m.vl x z = (1, m1.tk, m1.at_, m1.pl, m1.kd, m1.vl, m1.ks, m1.vs) ∧ At g K V N n e m1 (t + 1)) ∨
    (s_Par_isNumber K V (nI t) x z = 0 ∧ s_Mo_passNumber g (nI N) m.ks m.vs m.tk m.at_ m.pl m.kd m.vl x z = (0, m.tk, m.at_, m.pl, m.kd, m.vl, m.ks, m.vs)) := by
  have hn := L.le
  have hN := L.hN
  have ht := h.1
  have ei := par_isnum (K := K) (V := V) (x := x) (z := z) (show t ≤ 2000 by omega)
  rcases take_sim L h 2 2 15 (by decide) (by decide) rfl rfl with ⟨-, a2, a3, a4, a5, ⟨v, a6, a7⟩, m1, nx, a8⟩ | ⟨-, a2, a3⟩
  · rw [if_pos (show K t = 2 from a3)] at ei
    by_cases c : s_Mo_in (V t) x z = 0
    · refine Or.inr ⟨ei.trans c, ?_⟩
      unfold s_Mo_passNumber
      rw [if_pos a2, a5, if_pos c]
    · refine Or.inl ⟨v, a6.2.2.1, by rw [ei]; exact c, (par_value (by omega)).trans a7, a4, a7, by rw [← a7]; exact c, a5.trans a7, m1, nx, ?_, a8⟩
      unfold s_Mo_passNumber
      rw [if_pos a2, nx.pass, a5, if_neg c]
  · rw [if_neg a3] at ei
    refine Or.inr ⟨ei, ?_⟩
    unfold s_Mo_passNumber
    rw [if_neg a2]
/-- before a condition -/
def MS.rc0 (m : MS) : MS := mkMS m.tk m.at_ m.pl m.kd m.vl m.js m.sz m.ks m.vs m.co 0 (nI 1) (upd m.go 0 1) (upd m.wi 0 0)
theorem rc0_tk (m : MS) : m.rc0.tk = m.tk := rfl
theorem rc0_at_ (m : MS) : m.rc0.at_ = m.at_ := rfl
theorem rc0_pl (m : MS) : m.rc0.pl = m.pl := rfl
theorem rc0_kd (m : MS) : m.rc0.kd = m.kd := rfl
theorem rc0_vl (m : MS) : m.rc0.vl = m.vl := rfl
theorem rc0_js (m : MS) : m.rc0.js = m.js := rfl
theorem rc0_sz (m : MS) : m.rc0.sz = m.sz := rfl
theorem rc0_ks (m : MS) : m.rc0.ks = m.ks := rfl
theorem rc0_vs (m : MS) : m.rc0.vs = m.vs := rfl
theorem rc0_co (m : MS) : m.rc0.co = m.co := rfl
theorem rc0_dp (m : MS) : m.rc0.dp = 0 := rfl
theorem rc0_gc (m : MS) : m.rc0.gc = nI 1 := rfl
theorem rc0_go (m : MS) : m.rc0.go = upd m.go 0 1 := rfl
theorem rc0_wi (m : MS) : m.rc0.wi = upd m.wi 0 0 := rfl
theorem m_fin {sg : Int32} {m : MS} (h : m.gc = nI 0) (f : Nat) : mlp g sg told lo (f + 1) m = m.tup 1 ∧ mokp g sg told lo (f + 1) m := by
  unfold mlp mokp MS.tup
  rw [lp_Mo_readCondition_16, oklp_Mo_readCondition_16, h, if_pos (show nI 0 ≤ (0 : Int32) by decide), if_pos (show nI 0 ≤ (0 : Int32) by decide)]
  exact ⟨rfl, trivial⟩
def CondOK (g K V P : Nat → Int32) (N n : Nat) (e : Nat → Nat) (Lc : Nat) (m : MS) (t cs : Nat) (S W : Nat → Int32) (r : CR) (rm : MT) : Prop := ∃ (t' j' cs' h : Nat) (S' W' : Nat → Int32) (m' : MS), r = (1, nI t', nI j', nI cs', S', W') ∧ rm = m'.tup 1 ∧ t ≤ t' ∧ cs ≤ cs' ∧ cs' + 1 ≤ t' ∧ j' ≤ 150 ∧ (∀ i, i < cs → S' i = S i) ∧ (∀ i, i < cs → W' i = W i) ∧ At g K V N n e m' t' ∧ m'.js = nI j' ∧ m'.sz = nI (2 * cs') ∧ (∀ i, i < 2 * cs → m'.co i = m.co i) ∧ BooD S' W' m'.co Lc cs cs' h ∧ h ≤ 46
def CondNo (P : Nat → Int32) (n : Nat) (r : CR) (rm : MT) : Prop := ∃ (t' : Nat) (m' : MS), r.1 = 0 ∧ r.2.1 = nI t' ∧ t' ≤ n ∧ rm = m'.tup 0 ∧ m'.pl = P t'
theorem rc_sim (L : LexR g K V P N n e pos) (R : LetR LO told lo Lc) {m : MS} {t j cs : Nat} {S W : Nat → Int32} (hat : At g K V N n e m t) (hj : m.js = nI j) (hj2 : j ≤ 150) (hs : m.sz = nI (2 * cs)) (hc : cs + 1 ≤ t) :
    okK_con 22 K V S W (nI cs) LO (nI t) (nI j) 0 ∧ ok_Mo_readCondition g (nI N) m.ks m.vs m.tk m.at_ m.pl m.kd m.vl m.js told lo m.co m.sz m.go m.wi ∧
    (CondOK g K V P N n e Lc m t cs S W (K_con 22 K V S W (nI cs) LO (nI t) (nI j) 0) (s_Mo_readCondition g (nI N) m.ks m.vs m.tk m.at_ m.pl m.kd m.vl m.js told lo m.co m.sz m.go m.wi) ∨ CondNo P n (K_con 22 K V S W (nI cs) LO (nI t) (nI j) 0) (s_Mo_readCondition g (nI N) m.ks m.vs m.tk m.at_ m.pl m.kd m.vl m.js told lo m.co m.sz m.go m.wi)) := by
  have hn := L.le
  have hN := L.hN
  have hat0 : At g K V N n e m.rc0 t := hat.cong (rc0_tk m) (rc0_at_ m) (rc0_pl m) (rc0_kd m) (rc0_vl m) (rc0_ks m) (rc0_vs m)
  have hgo : m.rc0.go 0 = 1 := by rw [rc0_go, pk_us]
  have hP : Pre g K V N n e m.rc0 t j cs 1 0 1 := ⟨hat0, (rc0_js m).trans hj, hj2, (rc0_sz m).trans hs, hc, Nat.le_refl _, rc0_gc m, hgo⟩
  obtain ⟨o1, o2⟩ := con_all L R m.rc0 t j cs 1 0 S W hP (rc0_dp m) (by decide)
  have er : s_Mo_readCondition g (nI N) m.ks m.vs m.tk m.at_ m.pl m.kd m.vl m.js told lo m.co m.sz m.go m.wi = mlp g (nI N) told lo 100000 m.rc0 := by
    unfold mlp s_Mo_readCondition
    rw [rc0_tk, rc0_at_, rc0_pl, rc0_kd, rc0_vl, rc0_js, rc0_sz, rc0_ks, rc0_vs, rc0_co, rc0_dp, rc0_gc, rc0_go, rc0_wi]
    rfl
  have eo : mokp g (nI N) told lo 100000 m.rc0 → ok_Mo_readCondition g (nI N) m.ks m.vs m.tk m.at_ m.pl m.kd m.vl m.js told lo m.co m.sz m.go m.wi := by
    unfold mokp ok_Mo_readCondition
    rw [rc0_tk, rc0_at_, rc0_pl, rc0_kd, rc0_vl, rc0_js, rc0_sz, rc0_ks, rc0_vs, rc0_co, rc0_dp, rc0_gc, rc0_go, rc0_wi]
    exact fun q => ⟨⟨by decide, by decide⟩, q⟩
  rw [er]
  refine ⟨o1, ?_⟩
  rcases o2 with ⟨t', j', cs', k, S', W', m', a1, a2, a3, a4, a5, a6, a7, a8, a9, b1, b2, b3, b4, b5, b6, b7, b8, b9⟩ | ⟨t', k, a1, a2, a3, a4, a5, a6⟩
  · have ht' := b1.1
    obtain ⟨r1, r2⟩ := a8 (99999 - k + 1)
    obtain ⟨f1, f2⟩ := m_fin (g := g) (sg := nI N) (told := told) (lo := lo) b5 (99999 - k)
    rw [show 99999 - k + 1 + k = 100000 from by omega] at r1 r2
    obtain ⟨h, h1, h2⟩ := b9
    exact ⟨eo (r2 f2), Or.inl ⟨t', j', cs', h, S', W', m', a1, r1.trans f1, a2, a3, a4, a5, a6, a7, b1, b2, b3, fun i hi => (b8 i hi).trans (by rw [rc0_co]), h1, by omega⟩⟩
  · obtain ⟨m', f1, f2, f3⟩ := a5 (100000 - k)
    rw [show 100000 - k + k = 100000 from by omega] at f1 f3
    exact ⟨eo f3, Or.inr ⟨t', m', a1, a2, a4, f1, f2⟩⟩
end TOP1
