/-! read -/
abbrev RT : Type := Int32 × Int32 × Int32 × Int32 × Int32 × Int32 × Int32 × Int32 × Int32 × Int32 × Int32 × Int32 × Int32 × Int32 × Int32 × Int32 × Int32 × Int32 × (Nat → Int32) × (Nat → Int32) × (Nat → Int32) × (Nat → Int32) × (Nat → Int32) × (Nat → Int32) × (Nat → Int32) × (Nat → Int32) × (Nat → Int32) × (Nat → Int32) × (Nat → Int32) × (Nat → Int32) × (Nat → Int32) × (Nat → Int32) × (Nat → Int32) × (Nat → Int32) × (Nat → Int32) × (Nat → Int32) × (Nat → Int32) × (Nat → Int32) × (Nat → Int32) × (Nat → Int32) × (Nat → Int32) × (Nat → Int32) × (Nat → Int32) × (Nat → Int32) × (Nat → Int32) × (Nat → Int32) × (Nat → Int32) × (Nat → Int32)
def rdT (ans : Int32) (r : OT) (tks hs sl sq : Int32) (sk sv sc slb slE b1 b2 b3 b4 b5 b6 b7 b8 : Nat → Int32) : RT := (ans, 0, r.2.1, tks, r.2.2.1, r.2.2.2.1, r.2.2.2.2.1, r.2.2.2.2.2.1, r.2.2.2.2.2.2.1, r.2.2.2.2.2.2.2.1, r.2.2.2.2.2.2.2.2.1, r.2.2.2.2.2.2.2.2.2.1, r.2.2.2.2.2.2.2.2.2.2.1, r.2.2.2.2.2.2.2.2.2.2.2.1, hs, sl, sq, r.2.2.2.2.2.2.2.2.2.2.2.2.1, r.2.2.2.2.2.2.2.2.2.2.2.2.2.1, r.2.2.2.2.2.2.2.2.2.2.2.2.2.2.1, sk, sv, r.2.2.2.2.2.2.2.2.2.2.2.2.2.2.2.1, r.2.2.2.2.2.2.2.2.2.2.2.2.2.2.2.2.1, r.2.2.2.2.2.2.2.2.2.2.2.2.2.2.2.2.2.1, r.2.2.2.2.2.2.2.2.2.2.2.2.2.2.2.2.2.2.1, r.2.2.2.2.2.2.2.2.2.2.2.2.2.2.2.2.2.2.2.1, r.2.2.2.2.2.2.2.2.2.2.2.2.2.2.2.2.2.2.2.2.1, r.2.2.2.2.2.2.2.2.2.2.2.2.2.2.2.2.2.2.2.2.2.1, r.2.2.2.2.2.2.2.2.2.2.2.2.2.2.2.2.2.2.2.2.2.2.1, r.2.2.2.2.2.2.2.2.2.2.2.2.2.2.2.2.2.2.2.2.2.2.2.1, r.2.2.2.2.2.2.2.2.2.2.2.2.2.2.2.2.2.2.2.2.2.2.2.2.1, r.2.2.2.2.2.2.2.2.2.2.2.2.2.2.2.2.2.2.2.2.2.2.2.2.2.1, r.2.2.2.2.2.2.2.2.2.2.2.2.2.2.2.2.2.2.2.2.2.2.2.2.2.2.1, r.2.2.2.2.2.2.2.2.2.2.2.2.2.2.2.2.2.2.2.2.2.2.2.2.2.2.2.1, sc, slb, slE, b1, b2, b3, b4, b5, b6, b7, b8, r.2.2.2.2.2.2.2.2.2.2.2.2.2.2.2.2.2.2.2.2.2.2.2.2.2.2.2.2.1, r.2.2.2.2.2.2.2.2.2.2.2.2.2.2.2.2.2.2.2.2.2.2.2.2.2.2.2.2.2)
/-- the reference's reader before the first statement -/
def st0 (g : Nat → Int32) (sg : Int32) (mk mv co : Nat → Int32) (dp gc : Int32) (go wi : Nat → Int32) : MS := mkMS 0 (s_Mo_look g sg 0).1 (s_Mo_look g sg 0).2.1 (s_Mo_look g sg 0).2.2.1 (s_Mo_look g sg 0).2.2.2 0 0 mk mv co dp gc go wi
abbrev KT : Type := Int32 × Int32 × Int32 × Int32 × (Nat → Int32) × (Nat → Int32) × (Nat → Int32) × (Nat → Int32) × (Nat → Int32) × (Nat → Int32) × (Nat → Int32) × (Nat → Int32) × (Nat → Int32) × (Nat → Int32) × (Nat → Int32) × (Nat → Int32) × (Nat → Int32)
def rdY (r : OT) (x : KT) : RT := rdT r.2.2.2.2.2.2.2.2.2.2.1 r x.1 x.2.1 x.2.2.1 x.2.2.2.1 x.2.2.2.2.1 x.2.2.2.2.2.1 x.2.2.2.2.2.2.1 x.2.2.2.2.2.2.2.1 x.2.2.2.2.2.2.2.2.1 x.2.2.2.2.2.2.2.2.2.1 x.2.2.2.2.2.2.2.2.2.2.1 x.2.2.2.2.2.2.2.2.2.2.2.1 x.2.2.2.2.2.2.2.2.2.2.2.2.1 x.2.2.2.2.2.2.2.2.2.2.2.2.2.1 x.2.2.2.2.2.2.2.2.2.2.2.2.2.2.1 x.2.2.2.2.2.2.2.2.2.2.2.2.2.2.2.1 x.2.2.2.2.2.2.2.2.2.2.2.2.2.2.2.2
def rdK (r : OT) (sk sv sc slb slE b1 b2 b3 b4 b5 b6 b7 b8 : Nat → Int32) : KT := s_Mo_take r.2.2.2.2.2.2.2.2.2.2.2.2.2.1 r.2.2.2.2.2.2.2.2.2.2.2.2.2.2.1 r.2.1 sk sv r.2.2.2.2.2.2.2.2.1 r.2.2.2.2.2.2.2.2.2.1 r.2.2.2.2.2.2.2.2.2.2.2.2.2.2.2.2.2.1 r.2.2.2.2.2.2.2.2.2.2.2.1 r.2.2.2.2.2.2.2.2.2.2.2.2.2.2.2.2.2.2.1 r.2.2.2.2.2.2.2.2.2.2.2.2.2.2.2.2.2.2.2.1 r.2.2.2.2.2.2.2.2.2.2.2.2.2.2.2.2.2.2.2.2.1 r.2.2.2.2.2.2.2.2.2.2.2.2.2.2.2.2.2.2.2.2.2.1 r.2.2.2.2.2.2.2.2.2.2.2.2.2.2.2.2.2.2.2.2.2.2.1 r.2.2.2.2.2.2.2.2.2.2.2.2.2.2.2.2.2.2.2.2.2.2.2.1 r.2.2.2.2.2.2.2.2.2.2.2.2.2.2.2.2.2.2.2.2.2.2.2.2.1 r.2.2.2.2.2.2.2.2.2.2.2.2.2.2.2.2.2.2.2.2.2.2.2.2.2.1 r.2.2.2.2.2.2.2.2.2.2.2.2.2.2.2.2.2.2.2.2.2.2.2.2.2.2.1 r.2.2.2.2.2.2.2.2.2.2.2.2.2.2.2.2.2.2.2.2.2.2.2.2.2.2.2.1 sc slb slE b1 b2 b3 b4 b5 b6 b7 b8
def rdO (r : OT) (sk sv sc slb slE b1 b2 b3 b4 b5 b6 b7 b8 : Nat → Int32) : Prop := ok_Mo_take r.2.2.2.2.2.2.2.2.2.2.2.2.2.1 r.2.2.2.2.2.2.2.2.2.2.2.2.2.2.1 r.2.1 sk sv r.2.2.2.2.2.2.2.2.1 r.2.2.2.2.2.2.2.2.2.1 r.2.2.2.2.2.2.2.2.2.2.2.2.2.2.2.2.2.1 r.2.2.2.2.2.2.2.2.2.2.2.1 r.2.2.2.2.2.2.2.2.2.2.2.2.2.2.2.2.2.2.1 r.2.2.2.2.2.2.2.2.2.2.2.2.2.2.2.2.2.2.2.1 r.2.2.2.2.2.2.2.2.2.2.2.2.2.2.2.2.2.2.2.2.1 r.2.2.2.2.2.2.2.2.2.2.2.2.2.2.2.2.2.2.2.2.2.1 r.2.2.2.2.2.2.2.2.2.2.2.2.2.2.2.2.2.2.2.2.2.2.1 r.2.2.2.2.2.2.2.2.2.2.2.2.2.2.2.2.2.2.2.2.2.2.2.1 r.2.2.2.2.2.2.2.2.2.2.2.2.2.2.2.2.2.2.2.2.2.2.2.2.1 r.2.2.2.2.2.2.2.2.2.2.2.2.2.2.2.2.2.2.2.2.2.2.2.2.2.1 r.2.2.2.2.2.2.2.2.2.2.2.2.2.2.2.2.2.2.2.2.2.2.2.2.2.2.1 r.2.2.2.2.2.2.2.2.2.2.2.2.2.2.2.2.2.2.2.2.2.2.2.2.2.2.2.1 sc slb slE b1 b2 b3 b4 b5 b6 b7 b8
theorem mo_read_eq {g mk mv sk sv tl lo co lE lb aS aC aL aH aB aT aG aE sc slb slE b1 b2 b3 b4 b5 b6 b7 b8 go wi : Nat → Int32} {sg tks dp hs sl sq gc : Int32} {R : OT} (hR : llp g sg 24 0 (mst g sg (st0 g sg mk mv co dp gc go wi) 0 0 (lp_Mo_read_37 27 0 tl 0 0 0 0 0 0 0).2 lo lE lb aS aC aL aH aB aT aG aE) = R) : s_Mo_read g sg mk mv sk sv tks dp tl lo co lE lb aS aC aL aH aB aT aG aE hs sl sq sc slb slE b1 b2 b3 b4 b5 b6 b7 b8 go wi gc = if R.1 = 0 then rdT (-1000 - R.2.2.2.1) R tks hs sl sq sk sv sc slb slE b1 b2 b3 b4 b5 b6 b7 b8 else rdY R (rdK R sk sv sc slb slE b1 b2 b3 b4 b5 b6 b7 b8) := by
  rw [← hR]
  rfl
theorem mo_read_ok {g mk mv sk sv tl lo co lE lb aS aC aL aH aB aT aG aE sc slb slE b1 b2 b3 b4 b5 b6 b7 b8 go wi : Nat → Int32} {sg dp gc : Int32} {R : OT} (hR : llp g sg 24 0 (mst g sg (st0 g sg mk mv co dp gc go wi) 0 0 (lp_Mo_read_37 27 0 tl 0 0 0 0 0 0 0).2 lo lE lb aS aC aL aH aB aT aG aE) = R) (h1 : oklp_Mo_read_37 27 0 tl 0 0 0 0 0 0 0) (h2 : LU sg 0) (h3 : mok g sg (st0 g sg mk mv co dp gc go wi) 0 0 (lp_Mo_read_37 27 0 tl 0 0 0 0 0 0 0).2 lo lE lb aS aC aL aH aB aT aG aE) (h4 : lok g sg 24 0 (mst g sg (st0 g sg mk mv co dp gc go wi) 0 0 (lp_Mo_read_37 27 0 tl 0 0 0 0 0 0 0).2 lo lE lb aS aC aL aH aB aT aG aE)) (h5 : ¬ R.1 = 0 → rdO R sk sv sc slb slE b1 b2 b3 b4 b5 b6 b7 b8) : ok_Mo_read g sg mk mv sk sv dp tl lo co lE lb aS aC aL aH aB aT aG aE sc slb slE b1 b2 b3 b4 b5 b6 b7 b8 go wi gc := by
  subst hR
  refine ⟨h1, h2, h3, h4, ?_⟩
  show if (llp g sg 24 0 (mst g sg (st0 g sg mk mv co dp gc go wi) 0 0 (lp_Mo_read_37 27 0 tl 0 0 0 0 0 0 0).2 lo lE lb aS aC aL aH aB aT aG aE)).1 = 0 then True else (rdO (llp g sg 24 0 (mst g sg (st0 g sg mk mv co dp gc go wi) 0 0 (lp_Mo_read_37 27 0 tl 0 0 0 0 0 0 0).2 lo lE lb aS aC aL aH aB aT aG aE)) sk sv sc slb slE b1 b2 b3 b4 b5 b6 b7 b8 ∧ True)
  by_cases c : (llp g sg 24 0 (mst g sg (st0 g sg mk mv co dp gc go wi) 0 0 (lp_Mo_read_37 27 0 tl 0 0 0 0 0 0 0).2 lo lE lb aS aC aL aH aB aT aG aE)).1 = 0
  · rw [if_pos c]
    trivial
  · rw [if_neg c]
    exact ⟨h5 c, trivial⟩
/-- both have read a script, or none -/
def ReadR (sh ph : Nat) (b tks hs sl sq : Int32) (sk sv sc slb slE b1 b2 b3 b4 b5 b6 b7 b8 : Nat → Int32) (r : Int32 × Nat × Nat × Int32 × Int32 × Int32 × Int32 × Int32 × (Nat → Int32) × (Nat → Int32) × (Nat → Int32) × Int32 × (Nat → Int32) × (Nat → Int32) × (Nat → Int32) × (Nat → Int32) × (Nat → Int32) × (Nat → Nat → Int32)) (rm : RT) : Prop :=
  (∃ (a : Int32) (n nq nl : Nat) (z : Int32) (K V P S W ls le LO : Nat → Int32) (Q : Nat → Nat → Int32) (e : Nat → Nat) (R : OT) (SK SV SC SLB SLE c1 c2 c3 c4 c5 c6 c7 c8 : Nat → Int32), r = (a, ph, sh, 1, 0, nI nq, nI nl, nI n, K, V, P, z, S, W, ls, le, LO, Q) ∧ rm = rdT a R (nI n) 1 (nI nl) (nI nq) SK SV SC SLB SLE c1 c2 c3 c4 c5 c6 c7 c8 ∧ TokR K V n SK SV e ∧ ScrR S W Q ls le nq nl SC SLB SLE c1 c2 c3 c4 c5 c6 c7 c8) ∨
  (∃ (a x1 x2 x3 z : Int32) (K V P S W ls le LO : Nat → Int32) (Q : Nat → Nat → Int32) (R : OT), r = (a, sh, ph, b, 0, x1, x2, x3, K, V, P, z, S, W, ls, le, LO, Q) ∧ rm = rdT a R tks hs sl sq sk sv sc slb slE b1 b2 b3 b4 b5 b6 b7 b8)
theorem Rec.tok {g K V P : Nat → Int32} {N n : Nat} {e pos : Nat → Nat} {ks vs SK SV : Nat → Int32} (L : LexR g K V P N n e pos) (r : Rec K V n ks vs) (h1 : ∀ u, u < n → SK u = ks u) (h2 : ∀ u, u < n → SV u = vs u) (hn : 1 ≤ n) (hl : K (n - 1) = nI 26) : TokR K V n SK SV e := by
  have hN := L.hN
  have hle := L.le
  refine ⟨by omega, by have := (L.ge n (Nat.le_refl _)).2; omega, fun t ht => ?_⟩
  obtain ⟨k, v, a1, a2, a3, a4, a5, a6, a7, a8, a9⟩ := L.tok t ht
  obtain ⟨k', v', b1, b2, b3, b4, b5⟩ := r t ht
  have hk := a1.2.1
  have ek : k' = k := (nI_eq (by omega) (by omega)).mp (b2.symm.trans a2)
  subst ek
  refine ⟨k', v, a1, a2, a3, (h1 t ht).trans b4, (h2 t ht).trans (b5.trans (b3.symm.trans a3)), by omega, fun q => ?_⟩
  by_cases c : t + 1 < n
  · exact c
  · exfalso
    have e1 : t = n - 1 := by omega
    rw [e1] at a2
    have := (nI_eq (by omega) (by omega)).mp (a2.symm.trans hl)
    omega
theorem r_read {f g mk mv sk sv tl lo co lE lb aS aC aL aH aB aT aG aE sc slb slE b1 b2 b3 b4 b5 b6 b7 b8 go wi : Nat → Int32} {v w tks dp hs sl sq gc b : Int32} {K0 V0 P0 S0 W0 ls0 le0 LO0 : Nat → Int32} {Q0 : Nat → Nat → Int32} {sh ph : Nat} (h : SeqR 2000 1 f v g w) (hc : chF f) :
    ok_PQ_read f v K0 V0 P0 S0 W0 Q0 ls0 le0 LO0 ∧ ok_Mo_read g w mk mv sk sv dp tl lo co lE lb aS aC aL aH aB aT aG aE sc slb slE b1 b2 b3 b4 b5 b6 b7 b8 go wi gc ∧ ReadR sh ph b tks hs sl sq sk sv sc slb slE b1 b2 b3 b4 b5 b6 b7 b8 (s_PQ_read sh ph f v K0 V0 P0 S0 W0 Q0 ls0 le0 LO0 b) (s_Mo_read g w mk mv sk sv tks dp tl lo co lE lb aS aC aL aH aB aT aG aE hs sl sq sc slb slE b1 b2 b3 b4 b5 b6 b7 b8 go wi gc) := by
  obtain ⟨N, hN, rfl, rfl, hs'⟩ := h
  obtain ⟨n, K, V, P, e, pos, q1, q2, L⟩ := lex_all (K := K0) (V := V0) (P := P0) hN hc (fun j hj => hs' j (by omega))
  obtain ⟨LO1, l1, l2, l3⟩ := fill_m1 (x := -1) 26 0 0 LO0 rfl (fun u hu => absurd hu (by omega))
  obtain ⟨TL, t1, t2, t3⟩ := told_lp 26 0 0 tl rfl (fun u hu => absurd hu (by omega))
  rw [show nI 0 = 0 from rfl] at l1 l3 t1 t3
  have t1' : lp_Mo_read_37 27 0 tl 0 0 0 0 0 0 0 = (nI 26, TL) := t1
  have l1' : lp_Arr_fill26_5 (-1) 27 0 LO0 = LO1 := l1
  have hle := L.le
  have T : TopR g K V N n e (st0 g (nI N) mk mv co dp gc go wi) 0 0 0 0 0 S0 W0 Q0 ls0 le0 LO1 TL lo lE lb aS aC aL aH aB aT aG aE := by
    refine ⟨⟨Nat.zero_le _, rfl, ?_, fun u hu => absurd hu (by omega)⟩, rfl, by decide, rfl, Nat.le_refl _, ⟨by decide, fun u hu => Or.inl ⟨l2 u hu, t2 u hu⟩⟩, ⟨by decide, by decide, fun l hl => absurd hl (by omega), fun i hi => absurd hi (by omega)⟩⟩
    rw [L.e0]
    rfl
  obtain ⟨o1, o2, o3, o4⟩ := all_simG (F := 23) L rfl rfl T
  rw [show 23 + 1 = 24 from rfl, show 0 + 0 = 0 from rfl] at o1 o3 o4
  rw [show nI 0 = 0 from rfl] at o2 o3 o4
  have hcut : s_Scr_cut K0 V0 P0 LO0 f (nI N) = (0, 0, nI n, K, V, P, 0, LO1) := by
    unfold s_Scr_cut
    rw [q1, l1']
  have hokcut : ok_Scr_cut K0 V0 P0 LO0 f (nI N) := ⟨q2, l3, trivial⟩
  have okP : ok_PQ_read f (nI N) K0 V0 P0 S0 W0 Q0 ls0 le0 LO0 := by
    unfold ok_PQ_read
    rw [hcut]
    refine ⟨hokcut, o1, ?_⟩
    split <;> trivial
  obtain ⟨R, hR⟩ : ∃ R, llp g (nI N) 24 0 (mst g (nI N) (st0 g (nI N) mk mv co dp gc go wi) 0 0 TL lo lE lb aS aC aL aH aB aT aG aE) = R := ⟨_, rfl⟩
  have hR' : llp g (nI N) 24 0 (mst g (nI N) (st0 g (nI N) mk mv co dp gc go wi) 0 0 (lp_Mo_read_37 27 0 tl 0 0 0 0 0 0 0).2 lo lE lb aS aC aL aH aB aT aG aE) = R := by
    rw [t1']
    exact hR
  rw [hR] at o4
  have o2' : mok g (nI N) (st0 g (nI N) mk mv co dp gc go wi) 0 0 (lp_Mo_read_37 27 0 tl 0 0 0 0 0 0 0).2 lo lE lb aS aC aL aH aB aT aG aE := by rw [t1']; exact o2
  have o3' : lok g (nI N) 24 0 (mst g (nI N) (st0 g (nI N) mk mv co dp gc go wi) 0 0 (lp_Mo_read_37 27 0 tl 0 0 0 0 0 0 0).2 lo lE lb aS aC aL aH aB aT aG aE) := by rw [t1']; exact o3
  have hLU : LU (nI N) 0 := ⟨by decide, by rw [nI_toInt (by omega)]; have : (0 : Int32).toInt = 0 := by decide
                                           omega, by rw [nI_toInt (by omega)]; omega⟩
  have hP : ∀ p : PT, plp K V P 24 0 0 0 0 0 S0 W0 Q0 0 ls0 le0 LO1 = p → s_PQ_read sh ph f (nI N) K0 V0 P0 S0 W0 Q0 ls0 le0 LO0 b = (if p.1 = -1 then (p.2.2.2.1 + p.2.2.2.2.1, ph, sh, 1, 0, p.2.2.2.1, p.2.2.2.2.1, nI n, K, V, P, p.2.2.2.2.2.1, p.2.2.2.2.2.2.1, p.2.2.2.2.2.2.2.1, p.2.2.2.2.2.2.2.2.1, p.2.2.2.2.2.2.2.2.2.1, p.2.2.2.2.2.2.2.2.2.2.1, p.2.2.2.2.2.2.2.2.2.2.2) else (-1000 - p.1, sh, ph, b, 0, p.2.2.2.1, p.2.2.2.2.1, nI n, K, V, P, p.2.2.2.2.2.1, p.2.2.2.2.2.2.1, p.2.2.2.2.2.2.2.1, p.2.2.2.2.2.2.2.2.1, p.2.2.2.2.2.2.2.2.2.1, p.2.2.2.2.2.2.2.2.2.2.1, p.2.2.2.2.2.2.2.2.2.2.2)) := fun p hp => by
    unfold s_PQ_read
    rw [hcut, ← hp]
    rfl
  refine ⟨okP, ?_⟩
  rcases o4 with ⟨m, t, j, cs, nq, nl, S, W, Q, ls, le, LO, told, lo', lE', lb', aS', aC', aL', aH', aB', aT', aG', aE', T', z1, z2, z3, z4, z5⟩ | ⟨t', z1, z2, z3, z4⟩
  · subst z1
    obtain ⟨hat, -, -, hsz, hcs, -, B⟩ := T'
    have hl10 := B.2.1
    have hq12 := B.1
    obtain ⟨SK, SV, SC, SLB, SLE, c1, c2, c3, c4, c5, c6, c7, c8, y1, y2, y3, y4, y5, y6, y7, y8⟩ := take_eq (K := m.ks) (V := m.vs) (C := m.co) (lb := lb') (lE := lE') (aS := aS') (aC := aC') (aL := aL') (aH := aH') (aB := aB') (aT := aT') (aG := aG') (aE := aE') (sk := sk) (sv := sv) (sc := sc) (slb := slb) (slE := slE) (b1 := b1) (b2 := b2) (b3 := b3) (b4 := b4) (b5 := b5) (b6 := b6) (b7 := b7) (b8 := b8) (t := t) (L := nl) (q := nq) (z := 2 * cs) (by omega) hl10 hq12 (by omega)
    have hK : rdK R sk sv sc slb slE b1 b2 b3 b4 b5 b6 b7 b8 = (nI t, 1, nI nl, nI nq, SK, SV, SC, SLB, SLE, c1, c2, c3, c4, c5, c6, c7, c8) := by
      rw [z5, ← y1]
      show s_Mo_take m.ks m.vs m.tk sk sv (nI nl) (nI nq) m.co m.sz lE' lb' aS' aC' aL' aH' aB' aT' aG' aE' sc slb slE b1 b2 b3 b4 b5 b6 b7 b8 = _
      rw [hat.2.1, hsz]
    have hO : rdO R sk sv sc slb slE b1 b2 b3 b4 b5 b6 b7 b8 := by
      rw [z5]
      show ok_Mo_take m.ks m.vs m.tk sk sv (nI nl) (nI nq) m.co m.sz lE' lb' aS' aC' aL' aH' aB' aT' aG' aE' sc slb slE b1 b2 b3 b4 b5 b6 b7 b8
      rw [hat.2.1, hsz]
      exact y8
    have hR1 : ¬ R.1 = 0 := by
      rw [z5]
      exact fun q => absurd (show (1 : Int32) = 0 from q) (by decide)
    refine ⟨mo_read_ok hR' t3 hLU o2' o3' (fun _ => hO), ?_⟩
    rw [mo_read_eq hR', if_neg hR1, hK, hP _ z4, if_pos (show (-1 : Int32) = -1 from rfl)]
    refine Or.inl ⟨nI nq + nI nl, t, nq, nl, nI cs, K, V, P, S, W, ls, le, LO, Q, e, R, SK, SV, SC, SLB, SLE, c1, c2, c3, c4, c5, c6, c7, c8, rfl, ?_, Rec.tok L hat.2.2.2 y2 y3 z2 z3, (B.copy y4 y5 y6 y7).scr (by omega)⟩
    have hw : R.2.2.2.2.2.2.2.2.2.2.1 = nI nq + nI nl := by
      rw [z5, nI_add, Nat.add_comm nq nl]
      rfl
    unfold rdY
    dsimp only
    rw [hw]
  · obtain ⟨p, p1, p2⟩ := L.pnn z1
    have hne : ¬ (plp K V P 24 0 0 0 0 0 S0 W0 Q0 0 ls0 le0 LO1).1 = -1 := by
      rw [z2, p2]
      exact nI_nm1 p1
    refine ⟨mo_read_ok hR' t3 hLU o2' o3' (fun q => absurd z3 q), ?_⟩
    rw [mo_read_eq hR', if_pos z3, hP _ rfl, if_neg hne, z4, z2]
    exact Or.inr ⟨_, _, _, _, _, _, _, _, _, _, _, _, _, _, R, rfl, rfl⟩
