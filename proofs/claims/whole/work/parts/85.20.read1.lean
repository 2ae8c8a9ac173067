/-! read: the arrays at the start, and the copies -/
theorem fill_m1 {x : Int32} : ∀ (r i a : Nat) (f : Nat → Int32), i + r = 26 → (∀ v, v < i → f v = x) → ∃ F : Nat → Int32, lp_Arr_fill26_5 x (r + 1 + a) (nI i) f = F ∧ (∀ v, v < 26 → F v = x) ∧ oklp_Arr_fill26_5 x (r + 1 + a) (nI i) f := by
  intro r
  induction r with
  | zero =>
    intro i a f hi hf
    have h : (26 : Int32) ≤ nI i := leL (N := 26) (a := 26) rfl (by omega) (by omega)
    rw [show 0 + 1 + a = a + 1 from by omega, lp_Arr_fill26_5, oklp_Arr_fill26_5, if_pos h, if_pos h]
    exact ⟨f, rfl, fun v hv => hf v (by omega), trivial⟩
  | succ r ih =>
    intro i a f hi hf
    have h : ¬ (26 : Int32) ≤ nI i := geL (N := 26) (b := 26) rfl (by omega) (by decide)
    rw [show r + 1 + 1 + a = (r + 1 + a) + 1 from by omega, lp_Arr_fill26_5, oklp_Arr_fill26_5, if_neg h, if_neg h, nI_1, nI_clamp (by omega)]
    obtain ⟨F, o1, o2, o3⟩ := ih (i + 1) a (upd f i x) (by omega) (fun v hv => by
      by_cases c : v = i
      · rw [c, pk_us]
      · rw [pk_un c]
        exact hf v (by omega))
    exact ⟨F, o1, o2, vp_in_nI (by omega) (by decide), o3⟩
theorem told_lp : ∀ (r i a : Nat) (f : Nat → Int32), i + r = 26 → (∀ v, v < i → f v = 0) → ∃ F : Nat → Int32, lp_Mo_read_37 (r + 1 + a) (nI i) f 0 0 0 0 0 0 0 = (nI 26, F) ∧ (∀ v, v < 26 → F v = 0) ∧ oklp_Mo_read_37 (r + 1 + a) (nI i) f 0 0 0 0 0 0 0 := by
  intro r
  induction r with
  | zero =>
    intro i a f hi hf
    have h : (26 : Int32) ≤ nI i := leL (N := 26) (a := 26) rfl (by omega) (by omega)
    rw [show 0 + 1 + a = a + 1 from by omega, lp_Mo_read_37, oklp_Mo_read_37, if_pos h, if_pos h]
    exact ⟨f, by rw [show i = 26 from by omega], fun v hv => hf v (by omega), trivial⟩
  | succ r ih =>
    intro i a f hi hf
    have h : ¬ (26 : Int32) ≤ nI i := geL (N := 26) (b := 26) rfl (by omega) (by decide)
    rw [show r + 1 + 1 + a = (r + 1 + a) + 1 from by omega, lp_Mo_read_37, oklp_Mo_read_37, if_neg h, if_neg h, nI_1, nI_clamp (by omega), show vp_nar .boolean 0 = 0 from rfl]
    obtain ⟨F, o1, o2, o3⟩ := ih (i + 1) a (upd f i 0) (by omega) (fun v hv => by
      by_cases c : v = i
      · rw [c, pk_us]
      · rw [pk_un c]
        exact hf v (by omega))
    exact ⟨F, o1, o2, vp_in_nI (by omega) (by decide), o3⟩
/-- one place more agrees -/
theorem cp_up {f g : Nat → Int32} {i : Nat} (h : ∀ u, u < i → f u = g u) : ∀ u, u < i + 1 → upd f i (g i) u = g u := fun u hu => by
  by_cases c : u = i
  · rw [c, pk_us]
  · rw [pk_un c]
    exact h u (by omega)
theorem take31 {K V : Nat → Int32} {T : Nat} {w : Int32} (hT : T ≤ 2000) : ∀ (r i a : Nat) (f g : Nat → Int32), i + r = T → (∀ u, u < i → f u = K u) → (∀ u, u < i → g u = V u) → ∃ F G : Nat → Int32, lp_Mo_take_31 K V (nI T) (r + 1 + a) (nI i) f g w = (nI T, F, G) ∧ (∀ u, u < T → F u = K u) ∧ (∀ u, u < T → G u = V u) ∧ oklp_Mo_take_31 K V (nI T) (r + 1 + a) (nI i) f g w := by
  intro r
  induction r with
  | zero =>
    intro i a f g hi hf hg
    have e : i = T := by omega
    subst e
    have h : nI i ≤ nI i := nI_le (Nat.le_refl _) (by omega)
    rw [show 0 + 1 + a = a + 1 from by omega, lp_Mo_take_31, oklp_Mo_take_31, if_pos h, if_pos h]
    exact ⟨f, g, rfl, hf, hg, trivial⟩
  | succ r ih =>
    intro i a f g hi hf hg
    have h : ¬ nI T ≤ nI i := nI_ge (by omega) (by omega)
    rw [show r + 1 + 1 + a = (r + 1 + a) + 1 from by omega, lp_Mo_take_31, oklp_Mo_take_31, if_neg h, if_neg h, nI_1, nI_clamp (by omega)]
    obtain ⟨F, G, o1, o2, o3, o4⟩ := ih (i + 1) a (upd f i (K i)) (upd g i (V i)) (by omega) (cp_up hf) (cp_up hg)
    have hin : vp_in (nI i) 2000 := vp_in_nI (by omega) (by decide)
    exact ⟨F, G, o1, o2, o3, hin, hin, hin, hin, o4⟩
theorem take71 {C : Nat → Int32} {T : Nat} {w : Int32} {k v : Nat → Int32} (hT : T ≤ 4000) : ∀ (r i a : Nat) (f : Nat → Int32), i + r = T → (∀ u, u < i → f u = C u) → ∃ F : Nat → Int32, lp_Mo_take_71 C (nI T) (r + 1 + a) (nI i) f w k v = (nI T, F) ∧ (∀ u, u < T → F u = C u) ∧ oklp_Mo_take_71 C (nI T) (r + 1 + a) (nI i) f w k v := by
  intro r
  induction r with
  | zero =>
    intro i a f hi hf
    have e : i = T := by omega
    subst e
    have h : nI i ≤ nI i := nI_le (Nat.le_refl _) (by omega)
    rw [show 0 + 1 + a = a + 1 from by omega, lp_Mo_take_71, oklp_Mo_take_71, if_pos h, if_pos h]
    exact ⟨f, rfl, hf, trivial⟩
  | succ r ih =>
    intro i a f hi hf
    have h : ¬ nI T ≤ nI i := nI_ge (by omega) (by omega)
    rw [show r + 1 + 1 + a = (r + 1 + a) + 1 from by omega, lp_Mo_take_71, oklp_Mo_take_71, if_neg h, if_neg h, nI_1, nI_clamp (by omega)]
    obtain ⟨F, o1, o2, o3⟩ := ih (i + 1) a (upd f i (C i)) (by omega) (cp_up hf)
    have hin : vp_in (nI i) 4000 := vp_in_nI (by omega) (by decide)
    exact ⟨F, o1, o2, hin, hin, o3⟩
theorem take99 {lE lb : Nat → Int32} {T : Nat} {w : Int32} {k v c : Nat → Int32} (hT : T ≤ 10) : ∀ (r i a : Nat) (f g : Nat → Int32), i + r = T → (∀ u, u < i → f u = lb u) → (∀ u, u < i → g u = lE u) → ∃ F G : Nat → Int32, lp_Mo_take_99 (nI T) lE lb (r + 1 + a) (nI i) f g w k v c = (nI T, F, G) ∧ (∀ u, u < T → F u = lb u) ∧ (∀ u, u < T → G u = lE u) ∧ oklp_Mo_take_99 (nI T) lE lb (r + 1 + a) (nI i) f g w k v c := by
  intro r
  induction r with
  | zero =>
    intro i a f g hi hf hg
    have e : i = T := by omega
    subst e
    have h : nI i ≤ nI i := nI_le (Nat.le_refl _) (by omega)
    rw [show 0 + 1 + a = a + 1 from by omega, lp_Mo_take_99, oklp_Mo_take_99, if_pos h, if_pos h]
    exact ⟨f, g, rfl, hf, hg, trivial⟩
  | succ r ih =>
    intro i a f g hi hf hg
    have h : ¬ nI T ≤ nI i := nI_ge (by omega) (by omega)
    rw [show r + 1 + 1 + a = (r + 1 + a) + 1 from by omega, lp_Mo_take_99, oklp_Mo_take_99, if_neg h, if_neg h, nI_1, nI_clamp (by omega)]
    obtain ⟨F, G, o1, o2, o3, o4⟩ := ih (i + 1) a (upd f i (lb i)) (upd g i (lE i)) (by omega) (cp_up hf) (cp_up hg)
    have hin : vp_in (nI i) 10 := vp_in_nI (by omega) (by decide)
    exact ⟨F, G, o1, o2, o3, hin, hin, hin, hin, o4⟩
theorem take139 {aS aC aL aH aB aT aG aE : Nat → Int32} {T : Nat} {tk w l : Int32} {k v c lb lE : Nat → Int32} (hT : T ≤ 12) : ∀ (r i a : Nat) (b1 b2 b3 b4 b5 b6 b7 b8 : Nat → Int32), i + r = T → (∀ u, u < i → b1 u = aS u) → (∀ u, u < i → b2 u = aC u) → (∀ u, u < i → b3 u = aL u) → (∀ u, u < i → b4 u = aH u) → (∀ u, u < i → b5 u = aB u) → (∀ u, u < i → b6 u = aT u) → (∀ u, u < i → b7 u = aG u) → (∀ u, u < i → b8 u = aE u) → ∃ c1 c2 c3 c4 c5 c6 c7 c8 : Nat → Int32, lp_Mo_take_139 tk l (nI T) aS aC aL aH aB aT aG aE (r + 1 + a) (nI i) b1 b2 b3 b4 b5 b6 b7 b8 w k v c lb lE = (tk, w, l, nI T, k, v, c, lb, lE, c1, c2, c3, c4, c5, c6, c7, c8) ∧ ((∀ u, u < T → c1 u = aS u) ∧ (∀ u, u < T → c2 u = aC u) ∧ (∀ u, u < T → c3 u = aL u) ∧ (∀ u, u < T → c4 u = aH u) ∧ (∀ u, u < T → c5 u = aB u) ∧ (∀ u, u < T → c6 u = aT u) ∧ (∀ u, u < T → c7 u = aG u) ∧ (∀ u, u < T → c8 u = aE u)) ∧ oklp_Mo_take_139 tk l (nI T) aS aC aL aH aB aT aG aE (r + 1 + a) (nI i) b1 b2 b3 b4 b5 b6 b7 b8 w k v c lb lE := by
  intro r
  induction r with
  | zero =>
    intro i a b1 b2 b3 b4 b5 b6 b7 b8 hi h1 h2 h3 h4 h5 h6 h7 h8
    have e : i = T := by omega
    subst e
    have h : nI i ≤ nI i := nI_le (Nat.le_refl _) (by omega)
    rw [show 0 + 1 + a = a + 1 from by omega, lp_Mo_take_139, oklp_Mo_take_139, if_pos h, if_pos h]
    exact ⟨b1, b2, b3, b4, b5, b6, b7, b8, rfl, ⟨h1, h2, h3, h4, h5, h6, h7, h8⟩, trivial⟩
  | succ r ih =>
    intro i a b1 b2 b3 b4 b5 b6 b7 b8 hi h1 h2 h3 h4 h5 h6 h7 h8
    have h : ¬ nI T ≤ nI i := nI_ge (by omega) (by omega)
    rw [show r + 1 + 1 + a = (r + 1 + a) + 1 from by omega, lp_Mo_take_139, oklp_Mo_take_139, if_neg h, if_neg h, nI_1, nI_clamp (by omega)]
    obtain ⟨c1, c2, c3, c4, c5, c6, c7, c8, o1, o2, o3⟩ := ih (i + 1) a (upd b1 i (aS i)) (upd b2 i (aC i)) (upd b3 i (aL i)) (upd b4 i (aH i)) (upd b5 i (aB i)) (upd b6 i (aT i)) (upd b7 i (aG i)) (upd b8 i (aE i)) (by omega) (cp_up h1) (cp_up h2) (cp_up h3) (cp_up h4) (cp_up h5) (cp_up h6) (cp_up h7) (cp_up h8)
    have hin : vp_in (nI i) 12 := vp_in_nI (by omega) (by decide)
    exact ⟨c1, c2, c3, c4, c5, c6, c7, c8, o1, o2, hin, hin, hin, hin, hin, hin, hin, hin, hin, hin, hin, hin, hin, hin, hin, hin, o3⟩
/-- a script, copied -/
theorem take_eq {K V C lb lE aS aC aL aH aB aT aG aE sk sv sc slb slE b1 b2 b3 b4 b5 b6 b7 b8 : Nat → Int32} {t L q z : Nat} (ht : t ≤ 2000) (hL : L ≤ 10) (hq : q ≤ 12) (hz : z ≤ 4000) : ∃ SK SV SC SLB SLE c1 c2 c3 c4 c5 c6 c7 c8 : Nat → Int32, s_Mo_take K V (nI t) sk sv (nI L) (nI q) C (nI z) lE lb aS aC aL aH aB aT aG aE sc slb slE b1 b2 b3 b4 b5 b6 b7 b8 = (nI t, 1, nI L, nI q, SK, SV, SC, SLB, SLE, c1, c2, c3, c4, c5, c6, c7, c8) ∧ (∀ u, u < t → SK u = K u) ∧ (∀ u, u < t → SV u = V u) ∧ (∀ u, u < z → SC u = C u) ∧ (∀ u, u < L → SLB u = lb u) ∧ (∀ u, u < L → SLE u = lE u) ∧ ((∀ u, u < q → c1 u = aS u) ∧ (∀ u, u < q → c2 u = aC u) ∧ (∀ u, u < q → c3 u = aL u) ∧ (∀ u, u < q → c4 u = aH u) ∧ (∀ u, u < q → c5 u = aB u) ∧ (∀ u, u < q → c6 u = aT u) ∧ (∀ u, u < q → c7 u = aG u) ∧ (∀ u, u < q → c8 u = aE u)) ∧ ok_Mo_take K V (nI t) sk sv (nI L) (nI q) C (nI z) lE lb aS aC aL aH aB aT aG aE sc slb slE b1 b2 b3 b4 b5 b6 b7 b8 := by
  obtain ⟨SK, SV, x1, x2, x3, x4⟩ := take31 (K := K) (V := V) (w := 1) ht t 0 (2000 - t) sk sv (by omega) (fun u hu => absurd hu (by omega)) (fun u hu => absurd hu (by omega))
  obtain ⟨SC, y1, y2, y3⟩ := take71 (C := C) (w := 1) (k := SK) (v := SV) hz z 0 (4000 - z) sc (by omega) (fun u hu => absurd hu (by omega))
  obtain ⟨SLB, SLE, z1, z2, z3, z4⟩ := take99 (lE := lE) (lb := lb) (w := 1) (k := SK) (v := SV) (c := SC) hL L 0 (10 - L) slb slE (by omega) (fun u hu => absurd hu (by omega)) (fun u hu => absurd hu (by omega))
  obtain ⟨c1, c2, c3, c4, c5, c6, c7, c8, w1, w2, w3⟩ := take139 (aS := aS) (aC := aC) (aL := aL) (aH := aH) (aB := aB) (aT := aT) (aG := aG) (aE := aE) (tk := nI t) (w := 1) (l := nI L) (k := SK) (v := SV) (c := SC) (lb := SLB) (lE := SLE) hq q 0 (12 - q) b1 b2 b3 b4 b5 b6 b7 b8 (by omega) (fun u hu => absurd hu (by omega)) (fun u hu => absurd hu (by omega)) (fun u hu => absurd hu (by omega)) (fun u hu => absurd hu (by omega)) (fun u hu => absurd hu (by omega)) (fun u hu => absurd hu (by omega)) (fun u hu => absurd hu (by omega)) (fun u hu => absurd hu (by omega))
  rw [show nI 0 = 0 from rfl, show t + 1 + (2000 - t) = 2001 from by omega] at x1 x4
  rw [show nI 0 = 0 from rfl, show z + 1 + (4000 - z) = 4001 from by omega] at y1 y3
  rw [show nI 0 = 0 from rfl, show L + 1 + (10 - L) = 11 from by omega] at z1 z4
  rw [show nI 0 = 0 from rfl, show q + 1 + (12 - q) = 13 from by omega] at w1 w3
  refine ⟨SK, SV, SC, SLB, SLE, c1, c2, c3, c4, c5, c6, c7, c8, ?_, x2, x3, y2, z2, z3, w2, ?_⟩
  · unfold s_Mo_take
    rw [x1]
    dsimp only
    rw [y1]
    dsimp only
    rw [z1]
    dsimp only
    rw [w1]
  · unfold ok_Mo_take
    rw [x1]
    dsimp only
    rw [y1]
    dsimp only
    rw [z1]
    exact ⟨x4, y3, z4, w3⟩
theorem ScrB.copy {B : Nat} {S W : Nat → Int32} {Q : Nat → Nat → Int32} {ls le : Nat → Int32} {nq nl : Nat} {C C' lb lE lb' lE' aS aC aL aH aB aT aG aE c1 c2 c3 c4 c5 c6 c7 c8 : Nat → Int32} (d : ScrB B S W Q ls le nq nl C lb lE aS aC aL aH aB aT aG aE) (h3 : ∀ i, i < 2 * B → C' i = C i) (h4 : ∀ l, l < nl → lb' l = lb l) (h5 : ∀ l, l < nl → lE' l = lE l) (k : (∀ u, u < nq → c1 u = aS u) ∧ (∀ u, u < nq → c2 u = aC u) ∧ (∀ u, u < nq → c3 u = aL u) ∧ (∀ u, u < nq → c4 u = aH u) ∧ (∀ u, u < nq → c5 u = aB u) ∧ (∀ u, u < nq → c6 u = aT u) ∧ (∀ u, u < nq → c7 u = aG u) ∧ (∀ u, u < nq → c8 u = aE u)) : ScrB B S W Q ls le nq nl C' lb' lE' c1 c2 c3 c4 c5 c6 c7 c8 := by
  obtain ⟨a1, a2, a3, a4⟩ := d
  obtain ⟨k1, k2, k3, k4, k5, k6, k7, k8⟩ := k
  refine ⟨a1, a2, fun l hl => ?_, fun i hi => ?_⟩
  · obtain ⟨a, b, h, c1, c2, c3, c4, c5, c6, c7⟩ := a3 l hl
    exact ⟨a, b, h, c1, c2, (h4 l hl).trans c3, (h5 l hl).trans c4, c5.move (Nat.le_refl _) c7 (fun _ _ => rfl) (fun _ _ => rfl) h3, c6, c7⟩
  · rw [k1 i hi, k2 i hi, k3 i hi, k4 i hi, k5 i hi, k6 i hi, k7 i hi, k8 i hi]
    exact (a4 i hi).move (Nat.le_refl _) (Nat.le_refl _) (fun _ _ => rfl) (fun _ _ => rfl) h3
