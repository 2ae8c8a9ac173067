/-! run -/
theorem asker_nI {x : Int32} (h : ¬ s_Pur_isAsker x = 0) : ∃ j : Nat, j < 4 ∧ x = nI j := by
  unfold s_Pur_isAsker at h
  by_cases c : x < 0
  · rw [if_pos c] at h
    exact absurd rfl h
  · rw [if_neg c] at h
    obtain ⟨j, hj, rfl⟩ := nI_of c
    by_cases d : j < 4
    · exact ⟨j, d, rfl⟩
    · rw [if_pos (leL (N := 4) (a := 4) rfl (by omega) hj)] at h
      exact absurd rfl h
theorem in03 (x : Int32) : s_Mo_in x 0 3 = s_Pur_isAsker x := by
  unfold s_Mo_in s_Pur_isAsker
  by_cases c : x < 0
  · rw [if_pos c, if_pos c]
  · rw [if_neg c, if_neg c]
    obtain ⟨j, hj, rfl⟩ := nI_of c
    by_cases d : j < 4
    · rw [if_neg (nltL (N := 3) (a := 3) (b := j) rfl (by omega) (by decide)), if_neg (geL (N := 4) (b := 4) rfl d (by decide))]
    · rw [if_pos (ltL (N := 3) (a := 3) rfl (by omega) hj), if_pos (leL (N := 4) (a := 4) rfl (by omega) hj)]
theorem known5 {j : Nat} (h : j < 5) : ¬ s_Pur_isKnown (nI j) = 0 := by
  have : ∀ j, j < 5 → ¬ s_Pur_isKnown (nI j) = 0 := by decide
  exact this j h
theorem spend_eq {sp : Nat → Int32} {z : Int32} {j : Nat} (h : j < 5) : s_Pur_spend sp (nI j) z = upd sp j (sp j + z) := by
  unfold s_Pur_spend
  dsimp only
  rw [if_neg (known5 h), nI_clamp (by omega)]
/-- what run leaves on both sides -/
def RunR (c : Int32 × Int32 × Int32 × (Nat → Int32) × (Nat → Int32) × (Nat → Int32) × Int32 × (Nat → Int32) × (Nat → Int32)) (m : Int32 × Int32 × Int32 × (Nat → Int32) × (Nat → Int32) × (Nat → Int32) × (Nat → Int32) × (Nat → Int32)) : Prop := c.1 = m.1 ∧ SeqR 3000 1 c.2.2.2.1 c.2.2.1 m.2.2.2.1 m.2.1 ∧ Arr5 c.2.2.2.2.1 m.2.2.2.2.1 ∧ SeqR 240 1 c.2.2.2.2.2.1 c.2.1 m.2.2.2.2.2.1 m.2.2.1
section RUN
variable {S W : Nat → Int32} {Q : Nat → Nat → Int32} {ls le : Nat → Int32} {nq nl : Nat} {C lb lE aS aC aL aH aB aT aG aE : Nat → Int32} {tb T : Nat → Int32}
theorem r_run {ce ta ga sp bu sq nu to st ho p lv : Nat → Int32} {P Z vr wr vt wt vn wn asked nqr lc lr b x hg : Int32} (h1 : SeqR 60 6 tb vr T wr) (h2 : SeqR 3000 1 ce vt ta wt) (h3 : Arr5 ga bu) (h4 : Arr5 sp sq) (h5 : SeqR 240 1 nu vn to wn) (h6 : ¬ b = 0 → asked = nI nq ∧ nqr = nI nq ∧ lc = nI nl ∧ lr = nI nl ∧ ScrR S W Q ls le nq nl C lb lE aS aC aL aH aB aT aG aE) :
    ok_PQ_run tb vr P Z ce vt ga sp nu S W st hg ho Q asked ls le lc b x ∧ ok_Mo_run P Z T wr ta wt bu sq b lr nqr C lb lE aS aC aL aH aB aT aG aE to p lv x ∧ RunR (s_PQ_run tb vr P Z ce vt ga sp nu vn S W st hg ho Q asked ls le lc b x) (s_Mo_run P Z T wr ta wt bu sq b lr nqr C lb lE aS aC aL aH aB aT aG aE to wn p lv x) := by
  unfold ok_PQ_run ok_Mo_run s_PQ_run s_Mo_run
  rw [in03]
  dsimp only
  by_cases c : s_Pur_isAsker x = 0
  · rw [if_pos c, if_pos c, if_pos c, if_pos c]
    exact ⟨trivial, trivial, rfl, h2, h4, h5⟩
  rw [if_neg c, if_neg c, if_neg c, if_neg c]
  by_cases b0 : b = 0
  · rw [if_pos b0, if_pos b0, if_pos b0, if_pos b0]
    exact ⟨trivial, trivial, rfl, h2, h4, h5⟩
  rw [if_neg b0, if_neg b0, if_neg b0, if_neg b0]
  obtain ⟨rfl, rfl, rfl, rfl, R⟩ := h6 b0
  obtain ⟨n, hn, rfl, rfl, hT⟩ := h1
  have h2' := h2
  obtain ⟨N, hN, rfl, rfl, hs⟩ := h2
  obtain ⟨nm, tp, cl, by_, M⟩ := nm_ex R
  obtain ⟨X, Y, hR⟩ := rows_ex R hn hT
  have hq12 := R.nq12
  obtain ⟨e1, o1⟩ := all_eq (x := 0) (y := 1) hq12 (Or.inl ⟨rfl, rfl⟩) R.qs
  obtain ⟨e4, o4⟩ := all_eq (x := 2) (y := 4) hq12 (Or.inr (Or.inr ⟨rfl, rfl⟩)) R.qs
  obtain ⟨e2, o2⟩ := all_eq (x := 1) (y := 2) hq12 (Or.inr (Or.inl ⟨rfl, rfl⟩)) R.qs
  have v4 := all_cells hq12 M nq 0 (12 - nq) (by omega)
  rw [show nq + 1 + (12 - nq) = 13 from by omega] at v4
  have v4' : lp_Scr_all_4 Q (nI nq) 4 13 (0 : Int32) (0 : Int32) = nI (cst nm tp nq) := v4
  have v2 := all_nums hq12 M nq 0 (12 - nq) (by omega)
  rw [show nq + 1 + (12 - nq) = 13 from by omega] at v2
  have v2' : lp_Scr_all_4 Q (nI nq) 2 13 (0 : Int32) (0 : Int32) = nI (plc nm nq) := v2
  obtain ⟨j, hj, rfl⟩ := asker_nI c
  have hx5 : vp_in (nI j) 5 := vp_in_nI (by omega) (by decide)
  have hu : up (nI nq) 12 := up_of hq12 (by decide)
  have hby : BYP aB (nI nq) := fun k hk => by
    rw [nI_toInt (by omega)] at hk
    obtain ⟨-, -, -, -, -, -, -, -, -, -, -, -, m13, m14, m15, -⟩ := M k (by omega)
    rw [m15]
    exact nI_nz m13 (by omega)
  have hl := left_eq h3 h4 (known5 (show j < 5 by omega))
  have hl4 := left_eq (x := 4) h3 h4 (known5 (j := 4) (by omega))
  rw [← e1, ← e4, hl, hl4, v4', v2']
  generalize lp_Scr_all_4 Q (nI nq) 1 13 (0 : Int32) (0 : Int32) = A
  by_cases d : bu (nI j).toNatClampNeg - sq (nI j).toNatClampNeg < A
  · rw [if_pos d, if_pos d, if_pos d, if_pos d]
    exact ⟨⟨o1, trivial⟩, ⟨hu, hby, hx5, hx5, trivial⟩, rfl, h2', h4, h5⟩
  rw [if_neg d, if_neg d, if_neg d, if_neg d]
  by_cases f : A ≤ bu (4 : Int32).toNatClampNeg - sq (4 : Int32).toNatClampNeg
  case neg =>
    rw [if_neg f, if_neg f, if_neg f, if_neg f]
    exact ⟨⟨o1, trivial⟩, ⟨hu, hby, hx5, hx5, trivial⟩, rfl, h2', h4, h5⟩
  rw [if_pos f, if_pos f, if_pos f, if_pos f]
  by_cases g : nI (cst nm tp nq) ≤ nI N
  case neg =>
    rw [if_neg g, if_neg g, if_neg g, if_neg g]
    exact ⟨⟨o1, o4, trivial⟩, ⟨hu, hby, hx5, hx5, hu, hby, trivial⟩, rfl, h2', h4, h5⟩
  rw [if_pos g, if_pos g, if_pos g, if_pos g]
  have hcl := cst_le (nm := nm) (tp := tp) (nq := nq) (fun i hi => ⟨(M i hi).2.1, (M i hi).2.2.1⟩) nq (Nat.le_refl _)
  have hpl := plc_le (nm := nm) (nq := nq) (fun i hi => (M i hi).2.1) nq (Nat.le_refl _)
  have hc : cst nm tp nq ≤ N := (nI_leI (by omega) (by omega)).mp g
  obtain ⟨hg', st', ho', nu', w1, w2, w3⟩ := work_eq R M hn hT hR hg st ho nu
  have h4c : (4 : Int32).toNatClampNeg = 4 := by decide
  rw [nI_clamp (show j < 2 ^ 31 by omega), h4c, w1, spend_eq (show j < 5 by omega), show (4 : Int32) = nI 4 from rfl, spend_eq (show 4 < 5 by omega)]
  dsimp only
  obtain ⟨nu2, to2, p2, lv2, q1, q2, q3, q4, q5⟩ := bo_lp (P := P) (Z := Z) (ce := ce) (ta := ta) (tb := tb) R M hn hR hN hs hc A (nI (cst nm tp nq)) (upd (upd sq j (sq j + A)) 4 (upd sq j (sq j + A) 4 + A)) nq 0 (12 - nq) (12 - nq) nu' to p lv (by omega) (fun i _ hi b' hb' => w2 i hi b' hb') (fun j hj => absurd hj (Nat.not_lt_zero _))
  rw [show nq + 1 + (12 - nq) = 13 from by omega] at q1 q2 q4 q5
  have q1' : lp_PQ_blur_6 P Z ce (nI N) Q (nI nq) 13 (0 : Int32) (0 : Int32) (0 : Int32) nu' = (nI (cst nm tp nq), nu2) := q1
  have q2' : lp_Mo_run_113 P Z T (nI n) ta (nI nl) (nI nq) C lb lE aS aC aL aH aB aT aG aE 13 A (nI (cst nm tp nq)) (0 : Int32) (0 : Int32) to p lv (0 : Int32) (upd (upd sq j (sq j + A)) 4 (upd sq j (sq j + A) 4 + A)) = (nI (cst nm tp nq), nI nq, to2, p2, lv2, nI (plc nm nq)) := q2
  rw [q1', q2']
  dsimp only
  obtain ⟨g', t1, t2, t3⟩ := tape_lp (u2 := A) (u4 := nI (cst nm tp nq)) (w := nI (plc nm nq)) (sp := upd (upd sq j (sq j + A)) 4 (upd sq j (sq j + A) 4 + A)) (to := to2) (p := p2) (lv := lv2) hN hc (N - cst nm tp nq) 0 (3000 - (N - cst nm tp nq)) ta (by omega)
  rw [show N - cst nm tp nq + 1 + (3000 - (N - cst nm tp nq)) = 3001 from by omega, Nat.add_zero] at t1 t3
  rw [t1, tape_rm hN hc]
  refine ⟨⟨o1, o4, w3, o2, q4, up_of hN (by decide), trivial⟩, ⟨hu, hby, hx5, hx5, hu, hby, hx5, hx5, q5, t3⟩, rfl, ⟨N - cst nm tp nq, by omega, rfl, rfl, fun i hi => ?_⟩, fun i hi => ?_, ⟨plc nm nq, by omega, rfl, rfl, fun i hi => q3 i (by omega)⟩⟩
  · show va_cpy ce ce (cst nm tp nq) 0 (N - cst nm tp nq) i = g' i
    rw [t2 i (by omega), if_pos (Nat.zero_le _), pk_cpy_in (Nat.zero_le _) (by omega), hs _ (by omega)]
    congr 1
    omega
  · show upd (upd sp j (sp j + A)) 4 (upd sp j (sp j + A) 4 + A) i = upd (upd sq j (sq j + A)) 4 (upd sq j (sq j + A) 4 + A) i
    have e5 : ∀ i, i < 5 → upd sp j (sp j + A) i = upd sq j (sq j + A) i := fun i hi => by
      rw [h4 j (by omega)]
      exact upd_eq fun _ => h4 i hi
    rw [e5 4 (by omega)]
    exact upd_eq fun _ => e5 i hi
end RUN
