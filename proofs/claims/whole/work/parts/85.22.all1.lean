/-! the whole state: the start, and the script on both sides -/
theorem clamp_nI {x : Int32} {a b : Nat} (ha : a ≤ b) (hb : b < 2 ^ 31) : ∃ n : Nat, a ≤ n ∧ n ≤ b ∧ s_PQ_nearest x (nI a) (nI b) = nI n ∧ (if nI a ≤ x then (if x ≤ nI b then x else nI b) else nI a) = nI n := by
  have ea : (nI a).toInt = a := nI_toInt (by omega)
  have eb : (nI b).toInt = b := nI_toInt hb
  unfold s_PQ_nearest
  by_cases c : x < nI b
  · rw [if_pos c]
    have c' := c
    rw [Int32.lt_iff_toInt_lt, eb] at c'
    have h2 : x ≤ nI b := by
      rw [Int32.le_iff_toInt_le, eb]
      omega
    by_cases d : nI a < x
    · have d' := d
      rw [Int32.lt_iff_toInt_lt, ea] at d'
      have h1 : nI a ≤ x := by
        rw [Int32.le_iff_toInt_le, ea]
        omega
      have hx : x = nI x.toInt.toNat := Int32.toInt_inj.mp (by rw [nI_toInt (by omega)]; omega)
      rw [if_pos d, if_pos h1, if_pos h2]
      exact ⟨x.toInt.toNat, by omega, by omega, hx, hx⟩
    · rw [if_neg d]
      refine ⟨a, Nat.le_refl _, ha, rfl, ?_⟩
      by_cases h1 : nI a ≤ x
      · rw [if_pos h1, if_pos h2]
        rw [Int32.lt_iff_toInt_lt, ea] at d
        rw [Int32.le_iff_toInt_le, ea] at h1
        exact Int32.toInt_inj.mp (by rw [ea]; omega)
      · rw [if_neg h1]
  · rw [if_neg c]
    rw [Int32.lt_iff_toInt_lt, eb] at c
    have h1 : nI a ≤ x := by
      rw [Int32.le_iff_toInt_le, ea]
      omega
    rw [if_pos h1]
    refine ⟨b, ha, Nat.le_refl _, ?_, ?_⟩
    · by_cases d : nI a < nI b
      · rw [if_pos d]
      · rw [if_neg d]
        rw [Int32.lt_iff_toInt_lt, ea, eb] at d
        exact Int32.toInt_inj.mp (by rw [ea, eb]; omega)
    · by_cases h2 : x ≤ nI b
      · rw [if_pos h2]
        rw [Int32.le_iff_toInt_le, eb] at h2
        exact Int32.toInt_inj.mp (by rw [eb]; omega)
      · rw [if_neg h2]
def moF (r z : Int32) : Int32 × Int32 := if r + 1 ≤ z then (if z ≤ 1000 then (r, z) else (r, 1000)) else (r, r + 1)
theorem moF_eq (r z : Int32) : moF r z = (r, if r + 1 ≤ z then (if z ≤ 1000 then z else 1000) else r + 1) := by
  unfold moF
  by_cases c : r + 1 ≤ z
  · rw [if_pos c, if_pos c]
    by_cases d : z ≤ 1000
    · rw [if_pos d, if_pos d]
    · rw [if_neg d, if_neg d]
  · rw [if_neg c, if_neg c]
theorem mo_init (x z : Int32) : s_Mo_init x z = moF (if 1 ≤ x then (if x ≤ 999 then x else 999) else 1) z := by
  have e : s_Mo_init x z = if 1 ≤ x then (if x ≤ 999 then moF x z else moF 999 z) else moF 1 z := rfl
  rw [e]
  by_cases a : (1 : Int32) ≤ x
  · rw [if_pos a, if_pos a]
    by_cases b : x ≤ 999
    · rw [if_pos b, if_pos b]
    · rw [if_neg b, if_neg b]
  · rw [if_neg a, if_neg a]
/-- both begin alike -/
theorem init_eq (x z : Int32) : ∃ P Q : Nat, 1 ≤ P ∧ P < Q ∧ Q ≤ 1000 ∧ s_PQ_init x z = (nI P, nI Q, nI P, nI Q) ∧ s_Mo_init x z = (nI P, nI Q) := by
  obtain ⟨P, p1, p2, p3, p4⟩ := clamp_nI (x := x) (a := 1) (b := 999) (by decide) (by decide)
  obtain ⟨Q, q1, q2, q3, q4⟩ := clamp_nI (x := z) (a := P + 1) (b := 1000) (by omega) (by decide)
  have p3' : s_PQ_nearest x 1 999 = nI P := p3
  have p4' : (if (1 : Int32) ≤ x then (if x ≤ 999 then x else 999) else 1) = nI P := p4
  have q3' : s_PQ_nearest z (nI P + 1) 1000 = nI Q := by
    rw [nI_1]
    exact q3
  have q4' : (if nI P + 1 ≤ z then (if z ≤ 1000 then z else 1000) else nI P + 1) = nI Q := by
    rw [nI_1]
    exact q4
  refine ⟨P, Q, p1, by omega, q2, ?_, ?_⟩
  · unfold s_PQ_init
    rw [p3']
    dsimp only
    rw [q3']
  · rw [mo_init, p4', moF_eq, q4']
/-- the script that is held, on both sides -/
def ScP (b : Int32) (K V S W ls le : Nat → Int32) (Q : Nat → Nat → Int32) (tsz asked lets : Int32) (SK SV C lb lE aS aC aL aH aB aT aG aE : Nat → Int32) (stk sq sl : Int32) : Prop :=
  ∃ n nq nl nr nlr : Nat, tsz = nI n ∧ stk = nI n ∧ asked = nI nq ∧ lets = nI nl ∧ sq = nI nr ∧ sl = nI nlr ∧ nr ≤ 12 ∧ (b = 0 → nr = 0 ∧ nlr = 0) ∧ (¬ b = 0 → nr = nq ∧ nlr = nl ∧ (∃ e : Nat → Nat, TokR K V n SK SV e) ∧ ScrR S W Q ls le nq nl C lb lE aS aC aL aH aB aT aG aE)
section SCP
variable {b tsz asked lets stk sq sl : Int32} {K V S W ls le SK SV C lb lE aS aC aL aH aB aT aG aE : Nat → Int32} {Q : Nat → Nat → Int32}
theorem ScP.start : ScP 0 K V S W ls le Q 0 0 0 SK SV C lb lE aS aC aL aH aB aT aG aE 0 0 0 := ⟨0, 0, 0, 0, 0, rfl, rfl, rfl, rfl, rfl, rfl, by decide, fun _ => ⟨rfl, rfl⟩, fun h => absurd rfl h⟩
theorem ScP.up (h : ScP b K V S W ls le Q tsz asked lets SK SV C lb lE aS aC aL aH aB aT aG aE stk sq sl) : up sq 12 := by
  obtain ⟨n, nq, nl, nr, nlr, -, -, -, -, rfl, -, h1, -⟩ := h
  exact up_of h1 (by decide)
theorem ScP.byp (h : ScP b K V S W ls le Q tsz asked lets SK SV C lb lE aS aC aL aH aB aT aG aE stk sq sl) : BYP aB sq := by
  obtain ⟨n, nq, nl, nr, nlr, -, -, -, -, rfl, -, h1, h2, h3⟩ := h
  intro j hj
  rw [nI_toInt (by omega)] at hj
  by_cases c : b = 0
  · have := (h2 c).1
    omega
  · obtain ⟨rfl, -, -, R⟩ := h3 c
    obtain ⟨-, -, -, -, -, -, -, ⟨x, x1, x2, x3⟩, -⟩ := R.2.2.2 j (by omega)
    rw [x3]
    exact neR (N := 0) (j := 0) rfl (by omega) (by decide) (by omega)
theorem ScP.count {rows csz gsz lsz rows' cells signs toldn x : Int32} (h : ScP b K V S W ls le Q tsz asked lets SK SV C lb lE aS aC aL aH aB aT aG aE stk sq sl) (h1 : rows = rows') (h2 : csz = cells) (h3 : gsz = signs) (h4 : lsz = toldn) : s_PQ_count rows csz gsz lsz asked lets b x = s_Mo_count rows' cells signs sl sq toldn x := by
  obtain ⟨n, nq, nl, nr, nlr, rfl, rfl, rfl, rfl, rfl, rfl, q1, q2, q3⟩ := h
  subst h1 h2 h3 h4
  have e1 : (if b = 0 then 0 else nI nq) = nI nr := by
    by_cases c : b = 0
    · rw [if_pos c, (q2 c).1]
      rfl
    · rw [if_neg c, (q3 c).1]
  have e2 : (if b = 0 then 0 else nI nl) = nI nlr := by
    by_cases c : b = 0
    · rw [if_pos c, (q2 c).2]
      rfl
    · rw [if_neg c, (q3 c).2.1]
  unfold s_PQ_count s_Mo_count
  rw [e1, e2]
theorem ScP.question {x z : Int32} (h : ScP b K V S W ls le Q tsz asked lets SK SV C lb lE aS aC aL aH aB aT aG aE stk sq sl) : s_PQ_question Q asked b x z = s_Mo_question sq aS aL aH aB aT x z := by
  obtain ⟨n, nq, nl, nr, nlr, rfl, rfl, rfl, rfl, rfl, rfl, q1, q2, q3⟩ := h
  exact r_question (nl := nl) (S := S) (W := W) (ls := ls) (le := le) (C := C) (lb := lb) (lE := lE) (aC := aC) (aG := aG) (aE := aE) (fun c => (q2 c).1) (fun c => ⟨(q3 c).1, (q3 c).2.2.2⟩) q1
theorem ScP.wants {x : Int32} (h : ScP b K V S W ls le Q tsz asked lets SK SV C lb lE aS aC aL aH aB aT aG aE stk sq sl) : ok_PQ_wants Q asked b x ∧ s_PQ_wants Q asked b x = s_Mo_wants b sq aS aL aH aB aT x := by
  obtain ⟨n, nq, nl, nr, nlr, rfl, rfl, rfl, rfl, rfl, rfl, q1, q2, q3⟩ := h
  exact r_wants (nl := nl) (S := S) (W := W) (ls := ls) (le := le) (C := C) (lb := lb) (lE := lE) (aC := aC) (aG := aG) (aE := aE) (fun c => ⟨(q3 c).1, (q3 c).2.2.2⟩)
theorem ScP.print {f g : Nat → Int32} {v w : Int32} (h : ScP b K V S W ls le Q tsz asked lets SK SV C lb lE aS aC aL aH aB aT aG aE stk sq sl) (hs : SeqR 4000 1 f v g w) :
    ok_PQ_print f K V tsz b ∧ ok_Mo_print SK SV stk b g ∧ (s_PQ_print f v K V tsz b).1 = (s_Mo_print SK SV stk b g w).1 ∧ SeqR 4000 1 (s_PQ_print f v K V tsz b).2.2 (s_PQ_print f v K V tsz b).2.1 (s_Mo_print SK SV stk b g w).2.2 (s_Mo_print SK SV stk b g w).2.1 := by
  obtain ⟨n, nq, nl, nr, nlr, rfl, rfl, rfl, rfl, rfl, rfl, q1, q2, q3⟩ := h
  by_cases c : b = 0
  · exact r_print (pos := fun _ => 0) (fun z => absurd c z) hs
  · obtain ⟨e, he⟩ := (q3 c).2.2.1
    exact r_print (pos := e) (fun _ => he) hs
theorem ScP.run {tb T ce ta ga sp bu sq' nu to st ho p lv : Nat → Int32} {P Z vr wr vt wt vn wn x hg : Int32} (h : ScP b K V S W ls le Q tsz asked lets SK SV C lb lE aS aC aL aH aB aT aG aE stk sq sl) (h1 : SeqR 60 6 tb vr T wr) (h2 : SeqR 3000 1 ce vt ta wt) (h3 : Arr5 ga bu) (h4 : Arr5 sp sq') (h5 : SeqR 240 1 nu vn to wn) :
    ok_PQ_run tb vr P Z ce vt ga sp nu S W st hg ho Q asked ls le lets b x ∧ ok_Mo_run P Z T wr ta wt bu sq' b sl sq C lb lE aS aC aL aH aB aT aG aE to p lv x ∧ RunR (s_PQ_run tb vr P Z ce vt ga sp nu vn S W st hg ho Q asked ls le lets b x) (s_Mo_run P Z T wr ta wt bu sq' b sl sq C lb lE aS aC aL aH aB aT aG aE to wn p lv x) := by
  obtain ⟨n, nq, nl, nr, nlr, rfl, rfl, rfl, rfl, rfl, rfl, q1, q2, q3⟩ := h
  exact r_run (nq := nq) (nl := nl) h1 h2 h3 h4 h5 (fun c => ⟨rfl, by rw [(q3 c).1], rfl, by rw [(q3 c).2.1], (q3 c).2.2.2⟩)
end SCP
/-- after read -/
theorem ReadR.keeps {sh ph : Nat} {b tks sl sq tsz asked lets : Int32} {sk sv sc slb slE b1 b2 b3 b4 b5 b6 b7 b8 K V S W ls le : Nat → Int32} {Q : Nat → Nat → Int32} {r : Int32 × Nat × Nat × Int32 × Int32 × Int32 × Int32 × Int32 × (Nat → Int32) × (Nat → Int32) × (Nat → Int32) × Int32 × (Nat → Int32) × (Nat → Int32) × (Nat → Int32) × (Nat → Int32) × (Nat → Int32) × (Nat → Nat → Int32)} {rm : RT} (h : ReadR sh ph b tks b sl sq sk sv sc slb slE b1 b2 b3 b4 b5 b6 b7 b8 r rm) (hs : ScP b K V S W ls le Q tsz asked lets sk sv sc slb slE b1 b2 b3 b4 b5 b6 b7 b8 tks sq sl) :
    ∃ (a : Int32) (R : OT) (b' tks' sl' sq' x1 x2 x3 z : Int32) (SK SV SC SLB SLE c1 c2 c3 c4 c5 c6 c7 c8 K' V' P' S' W' ls' le' LO' : Nat → Int32) (Q' : Nat → Nat → Int32), rm = rdT a R tks' b' sl' sq' SK SV SC SLB SLE c1 c2 c3 c4 c5 c6 c7 c8 ∧
      ((r = (a, ph, sh, b', 0, x1, x2, x3, K', V', P', z, S', W', ls', le', LO', Q') ∧ ScP b' K' V' S' W' ls' le' Q' x3 x1 x2 SK SV SC SLB SLE c1 c2 c3 c4 c5 c6 c7 c8 tks' sq' sl') ∨
       (r = (a, sh, ph, b', 0, x1, x2, x3, K', V', P', z, S', W', ls', le', LO', Q') ∧ ScP b' K V S W ls le Q tsz asked lets SK SV SC SLB SLE c1 c2 c3 c4 c5 c6 c7 c8 tks' sq' sl')) := by
  rcases h with ⟨a, n, nq, nl, z, K', V', P', S', W', ls', le', LO', Q', e, R, SK, SV, SC, SLB, SLE, c1, c2, c3, c4, c5, c6, c7, c8, h1, h2, h3, h4⟩ | ⟨a, x1, x2, x3, z, K', V', P', S', W', ls', le', LO', Q', R, h1, h2⟩
  · exact ⟨a, R, 1, nI n, nI nl, nI nq, nI nq, nI nl, nI n, z, SK, SV, SC, SLB, SLE, c1, c2, c3, c4, c5, c6, c7, c8, K', V', P', S', W', ls', le', LO', Q', h2, Or.inl ⟨h1, n, nq, nl, nq, nl, rfl, rfl, rfl, rfl, rfl, rfl, h4.1, fun q => absurd q (by decide), fun _ => ⟨rfl, rfl, ⟨e, h3⟩, h4⟩⟩⟩
  · exact ⟨a, R, b, tks, sl, sq, x1, x2, x3, z, sk, sv, sc, slb, slE, b1, b2, b3, b4, b5, b6, b7, b8, K', V', P', S', W', ls', le', LO', Q', h2, Or.inr ⟨h1, hs⟩⟩
