/-! a script as it grows -/
/-- what a question says, all its parts below B -/
def QuV (B : Nat) (S W C : Nat → Int32) (nl : Nat) (q : Nat → Int32) (s c l h b t g e : Int32) : Prop :=
  q 0 = s ∧ q 1 = c ∧ q 2 = l ∧ q 3 = h ∧ q 4 = b ∧ q 5 = t ∧ (∃ x, x < 6 ∧ c = nI x) ∧ (∃ x, 1 ≤ x ∧ x ≤ 1000 ∧ b = nI x) ∧ (∃ x, x ≤ 30 ∧ t = nI x) ∧
  (s = 0 ∨ (s = 1 ∧ l = 0 ∧ ∃ x, 1 ≤ x ∧ x ≤ 1000 ∧ h = nI x) ∨ (s = 2 ∧ ∃ w : Nat, w < 20 ∧ h.toInt = l.toInt + w)) ∧
  ((q 6 = q 7 ∧ e = -1) ∨ ∃ x y z : Nat, q 6 = nI x ∧ q 7 = nI y ∧ g = nI (2 * x) ∧ e = nI (2 * y) ∧ BooD S W C nl x y z ∧ z ≤ 64 ∧ y ≤ B)
theorem QuV.move {B B' nl nl' : Nat} {S W C S' W' C' q : Nat → Int32} {s c l h b t g e : Int32} (d : QuV B S W C nl q s c l h b t g e) (hB : B ≤ B') (hl : nl ≤ nl') (h1 : ∀ i, i < B → S' i = S i) (h2 : ∀ i, i < B → W' i = W i) (h3 : ∀ i, i < 2 * B → C' i = C i) : QuV B' S' W' C' nl' q s c l h b t g e := by
  obtain ⟨a1, a2, a3, a4, a5, a6, a7, a8, a9, b1, b2⟩ := d
  refine ⟨a1, a2, a3, a4, a5, a6, a7, a8, a9, b1, ?_⟩
  rcases b2 with b2 | ⟨x, y, z, c1, c2, c3, c4, c5, c6, c7⟩
  · exact Or.inl b2
  · exact Or.inr ⟨x, y, z, c1, c2, c3, c4, c5.move hl c7 h1 h2 h3, c6, by omega⟩
def ScrB (B : Nat) (S W : Nat → Int32) (Q : Nat → Nat → Int32) (ls le : Nat → Int32) (nq nl : Nat) (C lb lE aS aC aL aH aB aT aG aE : Nat → Int32) : Prop := nq ≤ 12 ∧ nl ≤ 10 ∧ (∀ l, l < nl → ∃ a b h : Nat, ls l = nI a ∧ le l = nI b ∧ lb l = nI (2 * a) ∧ lE l = nI (2 * b) ∧ BooD S W C l a b h ∧ h ≤ 64 ∧ b ≤ B) ∧ ∀ i, i < nq → QuV B S W C nl (Q i) (aS i) (aC i) (aL i) (aH i) (aB i) (aT i) (aG i) (aE i)
theorem ScrB.scr {B : Nat} {S W : Nat → Int32} {Q : Nat → Nat → Int32} {ls le : Nat → Int32} {nq nl : Nat} {C lb lE aS aC aL aH aB aT aG aE : Nat → Int32} (d : ScrB B S W Q ls le nq nl C lb lE aS aC aL aH aB aT aG aE) (hB : B ≤ 2000) : ScrR S W Q ls le nq nl C lb lE aS aC aL aH aB aT aG aE := by
  obtain ⟨a1, a2, a3, a4⟩ := d
  refine ⟨a1, a2, fun l hl => ?_, fun i hi => (a4 i hi).move (B' := 2000) hB (Nat.le_refl _) (fun _ _ => rfl) (fun _ _ => rfl) (fun _ _ => rfl)⟩
  obtain ⟨a, b, h, c1, c2, c3, c4, c5, c6, c7⟩ := a3 l hl
  exact ⟨a, b, h, c1, c2, c3, c4, c5, c6, by omega⟩
/-- one question more -/
theorem ScrB.addQ {B B' : Nat} {S W S' W' : Nat → Int32} {Q : Nat → Nat → Int32} {F ls le : Nat → Int32} {nq nl : Nat} {C C' lb lE aS aC aL aH aB aT aG aE aS' aC' aL' aH' aB' aT' aG' aE' : Nat → Int32} (d : ScrB B S W Q ls le nq nl C lb lE aS aC aL aH aB aT aG aE) (hq : nq < 12) (hB : B ≤ B') (h1 : ∀ i, i < B → S' i = S i) (h2 : ∀ i, i < B → W' i = W i) (h3 : ∀ i, i < 2 * B → C' i = C i)
    (k : ∀ i, i ≠ nq → aS' i = aS i ∧ aC' i = aC i ∧ aL' i = aL i ∧ aH' i = aH i ∧ aB' i = aB i ∧ aT' i = aT i ∧ aG' i = aG i ∧ aE' i = aE i) (n : QuV B' S' W' C' nl F (aS' nq) (aC' nq) (aL' nq) (aH' nq) (aB' nq) (aT' nq) (aG' nq) (aE' nq)) : ScrB B' S' W' (updQ Q nq F) ls le (nq + 1) nl C' lb lE aS' aC' aL' aH' aB' aT' aG' aE' := by
  obtain ⟨a1, a2, a3, a4⟩ := d
  refine ⟨by omega, a2, fun l hl => ?_, fun i hi => ?_⟩
  · obtain ⟨a, b, h, c1, c2, c3, c4, c5, c6, c7⟩ := a3 l hl
    exact ⟨a, b, h, c1, c2, c3, c4, c5.move (Nat.le_refl _) c7 h1 h2 h3, c6, by omega⟩
  · by_cases c : i = nq
    · subst c
      rw [show updQ Q i F i = F from if_pos rfl]
      exact n
    · obtain ⟨k1, k2, k3, k4, k5, k6, k7, k8⟩ := k i c
      rw [show updQ Q nq F i = Q i from if_neg c, k1, k2, k3, k4, k5, k6, k7, k8]
      exact (a4 i (by omega)).move hB (Nat.le_refl _) h1 h2 h3
/-- one let more -/
theorem ScrB.addL {B B' h : Nat} {S W S' W' : Nat → Int32} {Q : Nat → Nat → Int32} {ls le : Nat → Int32} {nq nl : Nat} {C C' lb lE aS aC aL aH aB aT aG aE : Nat → Int32} (d : ScrB B S W Q ls le nq nl C lb lE aS aC aL aH aB aT aG aE) (hl : nl < 10) (hB : B ≤ B') (h1 : ∀ i, i < B → S' i = S i) (h2 : ∀ i, i < B → W' i = W i) (h3 : ∀ i, i < 2 * B → C' i = C i) (n : BooD S' W' C' nl B B' h) (hh : h ≤ 64) : ScrB B' S' W' Q (upd ls nl (nI B)) (upd le nl (nI B')) nq (nl + 1) C' (upd lb nl (nI (2 * B))) (upd lE nl (nI (2 * B'))) aS aC aL aH aB aT aG aE := by
  obtain ⟨a1, a2, a3, a4⟩ := d
  refine ⟨a1, by omega, fun l hl' => ?_, fun i hi => (a4 i hi).move hB (Nat.le_succ _) h1 h2 h3⟩
  by_cases c : l = nl
  · subst c
    rw [pk_us, pk_us, pk_us, pk_us]
    exact ⟨B, B', h, rfl, rfl, rfl, rfl, n, hh, Nat.le_refl _⟩
  · rw [pk_un c, pk_un c, pk_un c, pk_un c]
    obtain ⟨a, b, h, c1, c2, c3, c4, c5, c6, c7⟩ := a3 l (by omega)
    exact ⟨a, b, h, c1, c2, c3, c4, c5.move (Nat.le_refl _) c7 h1 h2 h3, c6, by omega⟩
theorem LetR.add {LO told lo : Nat → Int32} {nl v : Nat} (R : LetR LO told lo nl) (hl : nl < 10) : LetR (upd LO v (nI nl)) (upd told v 1) (upd lo v (nI nl)) (nl + 1) := by
  obtain ⟨a1, a2⟩ := R
  refine ⟨by omega, fun x hx => ?_⟩
  by_cases c : x = v
  · subst c
    rw [pk_us, pk_us, pk_us]
    exact Or.inr ⟨by decide, nl, by omega, rfl, rfl⟩
  · rw [pk_un c, pk_un c, pk_un c]
    rcases a2 x hx with h | ⟨h1, l, h2, h3, h4⟩
    · exact Or.inl h
    · exact Or.inr ⟨h1, l, by omega, h3, h4⟩
/-! a question -/
section TOP6
variable {g K V P : Nat → Int32} {N n : Nat} {e pos : Nat → Nat} {LO told lo : Nat → Int32} {Lc : Nat}
abbrev QT : Type := Int32 × Int32 × Int32 × Int32 × Int32 × Int32 × Int32 × Int32 × Int32 × Int32 × Int32 × (Nat → Int32) × (Nat → Int32) × (Nat → Int32) × (Nat → Int32) × (Nat → Int32) × (Nat → Int32) × (Nat → Int32) × (Nat → Int32) × (Nat → Int32) × (Nat → Int32) × (Nat → Int32) × (Nat → Int32) × (Nat → Int32)
def quT (b : Int32) (m : MS) (nq : Int32) (aS aC aL aH aB aT aG aE : Nat → Int32) : QT := (b, m.tk, m.at_, m.pl, m.kd, m.vl, m.dp, m.js, nq, m.sz, m.gc, m.ks, m.vs, m.co, aS, aC, aL, aH, aB, aT, aG, aE, m.go, m.wi)
def QuOK (g K V P : Nat → Int32) (N n : Nat) (e : Nat → Nat) (Lc : Nat) (m : MS) (t cs nq : Nat) (S W : Nat → Int32) (Q : Nat → Nat → Int32) (aS aC aL aH aB aT aG aE : Nat → Int32) (r : AT) (rm : QT) : Prop := ∃ (t' j' cs' : Nat) (S' W' F aS' aC' aL' aH' aB' aT' aG' aE' : Nat → Int32) (m' : MS), r = (1, nI t', nI j', nI (nq + 1), nI cs', S', W', updQ Q nq F) ∧ rm = quT 1 m' (nI (nq + 1)) aS' aC' aL' aH' aB' aT' aG' aE' ∧ t + 1 ≤ t' ∧ cs ≤ cs' ∧ cs' + 1 ≤ t' ∧ j' ≤ 150 ∧ (∀ i, i < cs → S' i = S i) ∧ (∀ i, i < cs → W' i = W i) ∧ At g K V N n e m' t' ∧ m'.js = nI j' ∧ m'.sz = nI (2 * cs') ∧ (∀ i, i < 2 * cs → m'.co i = m.co i) ∧ (∀ i, i ≠ nq → aS' i = aS i ∧ aC' i = aC i ∧ aL' i = aL i ∧ aH' i = aH i ∧ aB' i = aB i ∧ aT' i = aT i ∧ aG' i = aG i ∧ aE' i = aE i) ∧ QuV cs' S' W' m'.co Lc F (aS' nq) (aC' nq) (aL' nq) (aH' nq) (aB' nq) (aT' nq) (aG' nq) (aE' nq)
def QuNo (P : Nat → Int32) (n : Nat) (r : AT) (rm : QT) : Prop := ∃ t' : Nat, r.1 = 0 ∧ r.2.1 = nI t' ∧ t' ≤ n ∧ rm.1 = 0 ∧ rm.2.2.2.1 = P t'
/-- from where's outcome to a question's -/
theorem qu_of {m m0 : MS} {t t0 cs nq : Nat} {S W : Nat → Int32} {Q : Nat → Nat → Int32} {s c l h b : Int32} {aS aC aL aH aB aT aG aE aS' aC' aL' aH' aB' : Nat → Int32} {r : AT} {w : WT} {rm : QT} (hco : m.co = m0.co) (ht : t0 + 1 ≤ t) (hw : QsR g K V P N n e Lc m t cs nq S W Q (fun x y z => qF s c l h b x y z) aT aG aE r w)
    (h0 : w.1 = 0 → rm.1 = 0 ∧ rm.2.2.2.1 = w.2.2.2.1) (h1 : ∀ (m' : MS) (aT' aG' aE' : Nat → Int32), w = whT 1 m' aT' aG' aE' → rm = quT 1 m' (nI (nq + 1)) aS' aC' aL' aH' aB' aT' aG' aE')
    (k1 : ∀ i, i ≠ nq → aS' i = aS i ∧ aC' i = aC i ∧ aL' i = aL i ∧ aH' i = aH i ∧ aB' i = aB i) (v1 : aS' nq = s) (v2 : aC' nq = c) (v3 : aL' nq = l) (v4 : aH' nq = h) (v5 : aB' nq = b) (x1 : ∃ x, x < 6 ∧ c = nI x) (x2 : ∃ x, 1 ≤ x ∧ x ≤ 1000 ∧ b = nI x) (x3 : s = 0 ∨ (s = 1 ∧ l = 0 ∧ ∃ x, 1 ≤ x ∧ x ≤ 1000 ∧ h = nI x) ∨ (s = 2 ∧ ∃ w : Nat, w < 20 ∧ h.toInt = l.toInt + w)) :
    QuOK g K V P N n e Lc m0 t0 cs nq S W Q aS aC aL aH aB aT aG aE r rm ∨ QuNo P n r rm := by
  rcases hw with ⟨t', j', cs', v, S', W', en', m', a1, a2, a3, a4, a5, a6, a7, a8, a9, b1, b2, b3, b4, b5, b6⟩ | ⟨t', m', tp, bg, en, a1, a2, a3, a4, a5⟩
  · refine Or.inl ⟨t', j', cs', S', W', qF s c l h b (nI v) (nI cs) (nI cs'), aS', aC', aL', aH', aB', upd aT nq (nI v), upd aG nq (nI (2 * cs)), en', m', a1, h1 _ _ _ _ a2, by omega, a5, a6, a7, a8, a9, b1, b2, b3, fun i hi => by rw [← hco]; exact b4 i hi, fun i hi => ?_, ?_⟩
    · obtain ⟨y1, y2, y3, y4, y5⟩ := k1 i hi
      exact ⟨y1, y2, y3, y4, y5, pk_un hi, pk_un hi, b5 i hi⟩
    · rw [v1, v2, v3, v4, v5, pk_us, pk_us]
      refine ⟨rfl, rfl, rfl, rfl, rfl, rfl, x1, x2, ⟨v, a3, rfl⟩, x3, ?_⟩
      rcases b6 with ⟨z1, z2⟩ | ⟨z, z1, z2, z3⟩
      · refine Or.inl ⟨?_, z2⟩
        show nI cs = nI cs'
        rw [z1]
      · exact Or.inr ⟨cs, cs', z, rfl, rfl, rfl, z1, z2, by omega, Nat.le_refl _⟩
  · obtain ⟨y1, y2⟩ := h0 (by rw [a4]; rfl)
    refine Or.inr ⟨t', a1, a2, a3, y1, ?_⟩
    rw [y2, a4]
    exact a5
end TOP6
