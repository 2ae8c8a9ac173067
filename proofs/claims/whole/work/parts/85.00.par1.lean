/-! parsing: the reference's goals beside the class's recursion -/
abbrev MP : Type := Int32 × Int32 × Int32 × Int32 × Int32 × Int32 × Int32 × (Nat → Int32) × (Nat → Int32) × (Nat → Int32) × Int32 × Int32 × (Nat → Int32) × (Nat → Int32)
def MS : Type := MP
def MS.p (m : MS) : MP := m
def MS.tk (m : MS) : Int32 := m.p.1
def MS.at_ (m : MS) : Int32 := m.p.2.1
def MS.pl (m : MS) : Int32 := m.p.2.2.1
def MS.kd (m : MS) : Int32 := m.p.2.2.2.1
def MS.vl (m : MS) : Int32 := m.p.2.2.2.2.1
def MS.js (m : MS) : Int32 := m.p.2.2.2.2.2.1
def MS.sz (m : MS) : Int32 := m.p.2.2.2.2.2.2.1
def MS.ks (m : MS) : Nat → Int32 := m.p.2.2.2.2.2.2.2.1
def MS.vs (m : MS) : Nat → Int32 := m.p.2.2.2.2.2.2.2.2.1
def MS.co (m : MS) : Nat → Int32 := m.p.2.2.2.2.2.2.2.2.2.1
def MS.dp (m : MS) : Int32 := m.p.2.2.2.2.2.2.2.2.2.2.1
def MS.gc (m : MS) : Int32 := m.p.2.2.2.2.2.2.2.2.2.2.2.1
def MS.go (m : MS) : Nat → Int32 := m.p.2.2.2.2.2.2.2.2.2.2.2.2.1
def MS.wi (m : MS) : Nat → Int32 := m.p.2.2.2.2.2.2.2.2.2.2.2.2.2
def mkMS (tk : Int32) (at_ : Int32) (pl : Int32) (kd : Int32) (vl : Int32) (js : Int32) (sz : Int32) (ks : Nat → Int32) (vs : Nat → Int32) (co : Nat → Int32) (dp : Int32) (gc : Int32) (go : Nat → Int32) (wi : Nat → Int32) : MS := (tk, at_, pl, kd, vl, js, sz, ks, vs, co, dp, gc, go, wi)
abbrev MT : Type := Int32 × Int32 × Int32 × Int32 × Int32 × Int32 × Int32 × Int32 × Int32 × Int32 × (Nat → Int32) × (Nat → Int32) × (Nat → Int32) × (Nat → Int32) × (Nat → Int32)
def MS.tup (b : Int32) (m : MS) : MT := (b, m.tk, m.at_, m.pl, m.kd, m.vl, m.dp, m.js, m.sz, m.gc, m.ks, m.vs, m.co, m.go, m.wi)
def mlp (g : Nat → Int32) (sg : Int32) (told lo : Nat → Int32) (fuel : Nat) (m : MS) : MT := lp_Mo_readCondition_16 g sg told lo fuel m.tk m.at_ m.pl m.kd m.vl m.js m.sz m.ks m.vs m.co m.dp m.gc m.go m.wi
def mokp (g : Nat → Int32) (sg : Int32) (told lo : Nat → Int32) (fuel : Nat) (m : MS) : Prop := oklp_Mo_readCondition_16 g sg told lo fuel m.tk m.at_ m.pl m.kd m.vl m.js m.sz m.ks m.vs m.co m.dp m.gc m.go m.wi
def mre (g : Nat → Int32) (sg : Int32) (told lo : Nat → Int32) (m : MS) (gc x z : Int32) : MT := s_Mo_reach g sg m.ks m.vs m.tk m.at_ m.pl m.kd m.vl m.dp m.js told lo m.co m.sz m.go m.wi gc x z
section MM
variable {g : Nat → Int32} {sg : Int32} {told lo : Nat → Int32}
/-- what a step wants -/
def Fit (sg : Int32) (m : MS) (c : Nat) : Prop := c ≤ 996 ∧ PI sg m.at_ m.tk m.kd m.vl ∧ up m.sz 3998
theorem m_yes {m m' : MS} {c fuel : Nat} (hf : Fit sg m c) (hgc : m.gc = nI (c + 1)) (hx : mre g sg told lo m (nI c) (m.go c) (m.wi c) = m'.tup 1) : mlp g sg told lo (fuel + 1) m = mlp g sg told lo fuel m' ∧ (mokp g sg told lo fuel m' → mokp g sg told lo (fuel + 1) m) := by
  obtain ⟨hc, hp, hs⟩ := hf
  have hn : ¬ nI (c + 1) ≤ 0 := nI_nle (by omega) (by omega)
  unfold mre at hx
  unfold mlp mokp
  rw [lp_Mo_readCondition_16, oklp_Mo_readCondition_16, hgc, if_neg hn, if_neg hn, nI_pred, nI_clamp (by omega), hx]
  unfold MS.tup
  dsimp only
  rw [if_neg (by decide), if_neg (by decide)]
  exact ⟨rfl, fun z => ⟨vp_in_nI (by omega) (by decide), vp_in_nI (by omega) (by decide), hp, up_of hc (by decide), hs, z⟩⟩
theorem m_no {m m' : MS} {c fuel : Nat} (hf : Fit sg m c) (hgc : m.gc = nI (c + 1)) (hx : mre g sg told lo m (nI c) (m.go c) (m.wi c) = m'.tup 0) : mlp g sg told lo (fuel + 1) m = m'.tup 0 ∧ mokp g sg told lo (fuel + 1) m := by
  obtain ⟨hc, hp, hs⟩ := hf
  have hn : ¬ nI (c + 1) ≤ 0 := nI_nle (by omega) (by omega)
  unfold mre at hx
  unfold mlp mokp
  rw [lp_Mo_readCondition_16, oklp_Mo_readCondition_16, hgc, if_neg hn, if_neg hn, nI_pred, nI_clamp (by omega), hx]
  unfold MS.tup
  dsimp only
  rw [if_pos rfl, if_pos rfl]
  exact ⟨rfl, vp_in_nI (by omega) (by decide), vp_in_nI (by omega) (by decide), hp, up_of hc (by decide), hs, trivial⟩
def Run (g : Nat → Int32) (sg : Int32) (told lo : Nat → Int32) (k : Nat) (m m' : MS) : Prop := ∀ fuel, mlp g sg told lo (fuel + k) m = mlp g sg told lo fuel m' ∧ (mokp g sg told lo fuel m' → mokp g sg told lo (fuel + k) m)
def Fail (g : Nat → Int32) (sg : Int32) (told lo : Nat → Int32) (k : Nat) (m : MS) (p : Int32) : Prop := ∀ fuel, ∃ m' : MS, mlp g sg told lo (fuel + k) m = m'.tup 0 ∧ m'.pl = p ∧ mokp g sg told lo (fuel + k) m
theorem Run.rf {m : MS} : Run g sg told lo 0 m m := fun _ => ⟨rfl, fun z => z⟩
theorem Run.trans {a b : Nat} {m m1 m2 : MS} (h1 : Run g sg told lo a m m1) (h2 : Run g sg told lo b m1 m2) : Run g sg told lo (a + b) m m2 := fun fuel => by
  have k1 := h1 (fuel + b)
  have k2 := h2 fuel
  rw [show fuel + (a + b) = fuel + b + a from by omega]
  exact ⟨k1.1.trans k2.1, fun z => k1.2 (k2.2 z)⟩
theorem Run.fail {a b : Nat} {m m1 : MS} {p : Int32} (h1 : Run g sg told lo a m m1) (h2 : Fail g sg told lo b m1 p) : Fail g sg told lo (a + b) m p := fun fuel => by
  have k1 := h1 (fuel + b)
  obtain ⟨m', e1, e2, e3⟩ := h2 fuel
  rw [show fuel + (a + b) = fuel + b + a from by omega]
  exact ⟨m', k1.1.trans e1, e2, k1.2 e3⟩
theorem Run.one {m m' : MS} {c : Nat} (hf : Fit sg m c) (hgc : m.gc = nI (c + 1)) (hx : mre g sg told lo m (nI c) (m.go c) (m.wi c) = m'.tup 1) : Run g sg told lo 1 m m' := fun _ => m_yes hf hgc hx
theorem Fail.one {m m' : MS} {c : Nat} {p : Int32} (hf : Fit sg m c) (hgc : m.gc = nI (c + 1)) (hx : mre g sg told lo m (nI c) (m.go c) (m.wi c) = m'.tup 0) (hp : m'.pl = p) : Fail g sg told lo 1 m p := fun _ => ⟨m', (m_no hf hgc hx).1, hp, (m_no hf hgc hx).2⟩
end MM
/-! the token at hand -/
section TK
variable {g K V P : Nat → Int32} {N n : Nat} {e pos : Nat → Nat}
theorem LexR.ge (L : LexR g K V P N n e pos) : ∀ t, t ≤ n → t ≤ e t ∧ e t ≤ N := by
  intro t
  induction t with
  | zero => intro _; exact ⟨Nat.zero_le _, by rw [L.e0]; exact Nat.zero_le _⟩
  | succ t ih =>
    intro ht
    obtain ⟨k, v, -, -, -, -, -, h1, -, h3, h4⟩ := L.tok t (by omega)
    have := ih (by omega)
    exact ⟨by omega, h4⟩
/-- what both sides know of token t -/
theorem LexR.kind (L : LexR g K V P N n e pos) {t : Nat} (ht : t ≤ n) : ∃ k : Nat, k < 31 ∧ K t = nI k ∧ (s_Mo_look g (nI N) (nI (e t))).2.2.1 = nI (km k) ∧ (s_Mo_look g (nI N) (nI (e t))).2.1 = P t ∧ (2 ≤ k → t < n ∧ (s_Mo_look g (nI N) (nI (e t))).2.2.2 = V t ∧ (s_Mo_look g (nI N) (nI (e t))).1 = nI (e (t + 1)) ∧ ∃ v, tokOK k v ∧ V t = nI v) ∧ (t < n → 2 ≤ k) := by
  by_cases c : t < n
  · obtain ⟨k, v, h1, h2, h3, h4, h5, h6, h7, h8, h9⟩ := L.tok t c
    refine ⟨k, h1.2.1, h2, ?_, ?_, fun _ => ⟨c, ?_, ?_, v, h1, h3⟩, fun _ => h1.1⟩
    · rw [h5]
    · rw [h5, h4]
    · rw [h5, h3]
    · rw [h5]
  · have hn : t = n := by omega
    subst hn
    obtain ⟨f1, f2, f3⟩ := L.fin
    rcases f3 with ⟨a1, a2, a3⟩ | ⟨a1, p, a, v, a2, a3, a4⟩
    · refine ⟨0, by decide, a1, ?_, ?_, fun q => absurd q (by decide), fun q => absurd q (Nat.lt_irrefl _)⟩
      · rw [a3]
        rfl
      · rw [a3, a2]
    · refine ⟨1, by decide, a1, ?_, ?_, fun q => absurd q (by decide), fun q => absurd q (Nat.lt_irrefl _)⟩
      · rw [a4]
        rfl
      · rw [a4, a3]
theorem km_inj : ∀ a, a < 31 → ∀ b, b < 31 → (km a = km b ↔ a = b) := by decide +kernel
theorem km_eq {a b : Nat} (ha : a < 31) (hb : b < 31) : (nI (km a) = nI (km b) ↔ a = b) := by
  have h1 := km_lt a ha
  have h2 := km_lt b hb
  rw [nI_eq (by omega) (by omega)]
  exact km_inj a ha b hb
theorem par_kind {t : Nat} (ht : t ≤ 2000) : s_Par_kind K (nI t) = K t := by
  unfold s_Par_kind
  rw [if_neg (geL (N := 2001) (b := 2001) rfl (by omega) (by decide)), nI_clamp (by omega)]
theorem par_value {t : Nat} (ht : t ≤ 2000) : s_Par_value V (nI t) = V t := by
  unfold s_Par_value
  rw [if_neg (geL (N := 2001) (b := 2001) rfl (by omega) (by decide)), nI_clamp (by omega)]
theorem par_take {t k x : Nat} (ht : t ≤ 2000) (hK : K t = nI k) (hk : k < 31) (hx : x < 31) : s_Par_take K (nI t) (nI x) = if k = x then (1, nI (t + 1)) else (0, nI t) := by
  unfold s_Par_take
  rw [if_neg (geL (N := 2001) (b := 2001) rfl (by omega) (by decide)), nI_clamp (by omega), hK, nI_1]
  by_cases c : k = x
  · rw [if_pos c, if_pos (by rw [c])]
  · rw [if_neg c, if_neg (nI_ne (by omega) (by omega) c)]
/-- the tokens passed are written down -/
def Rec (K V : Nat → Int32) (t : Nat) (ks vs : Nat → Int32) : Prop := ∀ u, u < t → ∃ k v : Nat, k < 31 ∧ K u = nI k ∧ V u = nI v ∧ ks u = nI (km k) ∧ vs u = nI v
def At (g K V : Nat → Int32) (N n : Nat) (e : Nat → Nat) (m : MS) (t : Nat) : Prop := t ≤ n ∧ m.tk = nI t ∧ s_Mo_look g (nI N) (nI (e t)) = (m.at_, m.pl, m.kd, m.vl) ∧ Rec K V t m.ks m.vs
theorem At.pi (L : LexR g K V P N n e pos) {m : MS} {t : Nat} (h : At g K V N n e m t) : PI (nI N) m.at_ m.tk m.kd m.vl := by
  obtain ⟨h1, h2, h3, -⟩ := h
  have hN := L.hN
  have hl := L.le
  obtain ⟨g1, g2⟩ := L.ge t h1
  have k := lk (f := g) (sg := nI N) (a0 := nI (e t)) ⟨by rw [nI_toInt (by omega)]; omega, by rw [nI_toInt (by omega), nI_toInt (by omega)]; omega, by rw [nI_toInt (by omega)]; omega⟩
  rw [h3] at k
  dsimp only at k
  obtain ⟨k1, k2, k3, k4, k5, k6⟩ := k
  rw [nI_toInt (show e t < 2 ^ 31 by omega)] at k2
  rw [h2]
  refine ⟨by rw [nI_toInt (by omega)]; omega, by rw [nI_toInt (by omega)]; omega, k1, fun q => ?_, k5, k6⟩
  have := k4 q
  rw [nI_toInt (by omega)]
  omega
/-- one token on -/
def MS.next (g : Nat → Int32) (sg : Int32) (m : MS) : MS := mkMS (m.tk + 1) ((s_Mo_look g sg m.at_).1) ((s_Mo_look g sg m.at_).2.1) ((s_Mo_look g sg m.at_).2.2.1) ((s_Mo_look g sg m.at_).2.2.2) m.js m.sz (upd m.ks m.tk.toNatClampNeg m.kd) (upd m.vs m.tk.toNatClampNeg m.vl) m.co m.dp m.gc m.go m.wi
theorem At.next (L : LexR g K V P N n e pos) {m : MS} {t k : Nat} (h : At g K V N n e m t) (hK : K t = nI k) (hk : 2 ≤ k) (hk2 : k < 31) : At g K V N n e (m.next g (nI N)) (t + 1) := by
  obtain ⟨h1, h2, h3, h4⟩ := h
  have hN := L.hN
  have hl := L.le
  obtain ⟨k', a1, a2, a3, a4, a5, a6⟩ := L.kind h1
  have ek : k' = k := (nI_eq (by omega) (by omega)).mp (a2.symm.trans hK)
  subst ek
  obtain ⟨b1, b2, b3, v, b4, b5⟩ := a5 hk
  rw [h3] at a3 a4 b2 b3
  refine ⟨by omega, ?_, ?_, fun u hu => ?_⟩
  · show m.tk + 1 = nI (t + 1)
    rw [h2, nI_1]
  · show s_Mo_look g (nI N) (nI (e (t + 1))) = ((s_Mo_look g (nI N) m.at_).1, (s_Mo_look g (nI N) m.at_).2.1, (s_Mo_look g (nI N) m.at_).2.2.1, (s_Mo_look g (nI N) m.at_).2.2.2)
    rw [show m.at_ = nI (e (t + 1)) from b3]
  · show ∃ k v : Nat, k < 31 ∧ K u = nI k ∧ V u = nI v ∧ upd m.ks m.tk.toNatClampNeg m.kd u = nI (km k) ∧ upd m.vs m.tk.toNatClampNeg m.vl u = nI v
    rw [h2, nI_clamp (by omega)]
    by_cases c : u = t
    · subst c
      rw [pk_us, pk_us]
      exact ⟨k', v, hk2, a2, b5, a3, b2.trans b5⟩
    · rw [pk_un c, pk_un c]
      exact h4 u (by omega)
theorem pass_eq {m : MS} {sg : Int32} : s_Mo_pass g sg m.ks m.vs m.tk m.at_ m.kd m.vl = ((m.next g sg).tk, (m.next g sg).at_, (m.next g sg).pl, (m.next g sg).kd, (m.next g sg).vl, (m.next g sg).ks, (m.next g sg).vs) := rfl
end TK
