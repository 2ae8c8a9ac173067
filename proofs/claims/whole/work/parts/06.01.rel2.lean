/-! type -/
theorem mo_byte (x : Int64) (i : Int32) : ((((x.toUInt64 >>> ((8 * i).toInt64.toUInt64 &&& Int64.toUInt64 63)).toInt64) &&& 255).toInt32) = s_Text_byteOf x i := by
  unfold s_Text_byteOf
  rw [Int64.toInt32_and]
  rfl
theorem cl_byte (x : Int64) (i : Int32) : vp_nar .char (((s_Text_byteOf x i).toUInt32 % 65536).toInt32) = s_Text_byteOf x i := by
  rw [pk_vc]
  unfold s_Text_byteOf
  rw [sc_c2]
theorem ch_byte (x : Int64) (i : Int32) : narrow .char (.int (s_Text_byteOf x i)) = .int (s_Text_byteOf x i) := by
  unfold s_Text_byteOf
  exact sc_nar _
theorem chF_upd {f : Nat → Int32} {k : Nat} {x : Int32} (h : chF f) (hx : narrow .char (.int x) = .int x) : chF (upd f k x) := by
  intro j
  by_cases c : j = k
  · subst c
    rw [pk_us]
    exact hx
  · rw [pk_un c]
    exact h j
/-- one below c -/
def dn : Nat → Int32
  | 0 => -1
  | c + 1 => nI c
theorem dn_m1 (c : Nat) : dn (c + 1) + (-1) = dn c := by
  cases c with
  | zero => decide
  | succ c => exact pk_m1 c
theorem dn_sub (c : Nat) (h : 1 ≤ c) : nI c - 1 = dn c := by
  obtain ⟨k, rfl⟩ : ∃ k, c = k + 1 := ⟨c - 1, by omega⟩
  exact nI_pred k
theorem dn_lt0 : dn 0 < 0 := by decide
theorem dn_nlt {c : Nat} (h : c < 2 ^ 31) : ¬ dn (c + 1) < 0 := nI_pos h
theorem r_add {x : Int64} : ∀ (c n a b : Nat) (f g : Nat → Int32), n + c ≤ 2000 → chF f → (∀ i, i < 1 * n → f i = g i) → ∃ F K : Nat → Int32, lp_Text_add x (c + 1 + a) (dn c) f (nI n) = (nI (n + c), F) ∧ lp_Mo_type_77 x (c + 1 + b) (dn c) (nI n) g = (nI (n + c), nI (n + c), K) ∧ (∀ i, i < 1 * (n + c) → F i = K i) ∧ chF F ∧ oklp_Mo_type_77 x (c + 1 + b) (dn c) (nI n) g := by
  intro c
  induction c with
  | zero =>
    intro n a b f g h1 h2 h3
    refine ⟨f, g, ?_, ?_, h3, h2, ?_⟩
    · rw [show 0 + 1 + a = a + 1 from by omega, lp_Text_add, if_pos dn_lt0]
      rfl
    · rw [show 0 + 1 + b = b + 1 from by omega, lp_Mo_type_77, if_pos dn_lt0]
      rfl
    · rw [show 0 + 1 + b = b + 1 from by omega, oklp_Mo_type_77, if_pos dn_lt0]
      trivial
  | succ c ih =>
    intro n a b f g h1 h2 h3
    obtain ⟨F, K, e1, e2, e3, e4, e5⟩ := ih (n + 1) a b (upd f n (s_Text_byteOf x (dn (c + 1)))) (upd g n (s_Text_byteOf x (dn (c + 1)))) (by omega) (chF_upd h2 (ch_byte x _)) (fun i hi => upd_eq fun q => h3 i (by omega))
    rw [show n + 1 + c = n + (c + 1) from by omega] at e1 e2 e3
    refine ⟨F, K, ?_, ?_, e3, e4, ?_⟩
    · rw [show c + 1 + 1 + a = (c + 1 + a) + 1 from by omega, lp_Text_add, if_neg (dn_nlt (by omega)), if_neg (geL (N := 2000) (b := 2000) rfl (by omega) (by decide))]
      dsimp only
      rw [cl_byte, dn_m1, nI_1, nI_clamp (by omega)]
      exact e1
    · rw [show c + 1 + 1 + b = (c + 1 + b) + 1 from by omega, lp_Mo_type_77, if_neg (dn_nlt (by omega)), mo_byte, dn_m1, nI_1, nI_clamp (by omega)]
      exact e2
    · rw [show c + 1 + 1 + b = (c + 1 + b) + 1 from by omega, oklp_Mo_type_77, if_neg (dn_nlt (by omega)), mo_byte, dn_m1, nI_1, nI_clamp (by omega)]
      exact ⟨vp_in_nI (by omega) (by decide), e5⟩
theorem r_signs {x : Int64} {t : Nat} (ht : t ≤ 8) {g : Nat → Int32} {w : Int32} : ∀ (m j b : Nat), j + m = t →
    (lp_Text_areSigns x (nI t) (m + 1) (nI j) = 0 → lp_Mo_type_16 g w x (nI t) (m + 1 + b) (nI j) = (-102, w, g) ∧ oklp_Mo_type_16 g w x (nI t) (m + 1 + b) (nI j)) ∧
    (¬ lp_Text_areSigns x (nI t) (m + 1) (nI j) = 0 → lp_Mo_type_16 g w x (nI t) (m + 1 + b) (nI j) = (if (w + nI t) ≤ 2000 then (lp_Mo_type_77 x 10 (nI t - 1) w g) else ((-106), w, g)) ∧ ((w + nI t ≤ 2000 → oklp_Mo_type_77 x 10 (nI t - 1) w g) → oklp_Mo_type_16 g w x (nI t) (m + 1 + b) (nI j))) := by
  intro m
  induction m with
  | zero =>
    intro j b h
    have hj : j = t := by omega
    subst hj
    rw [show 0 + 1 + b = b + 1 from by omega, lp_Mo_type_16, oklp_Mo_type_16, lp_Text_areSigns, if_pos (nI_le (Nat.le_refl _) (by omega)), if_pos (nI_le (Nat.le_refl _) (by omega)), if_pos (nI_le (Nat.le_refl _) (by omega))]
    refine ⟨fun q => absurd q (by decide), fun _ => ⟨rfl, fun q => ?_⟩⟩
    split
    · rename_i h9
      exact q h9
    · trivial
  | succ m ih =>
    intro j b h
    have hlt : ¬ nI t ≤ nI j := nI_ge (by omega) (by omega)
    have ih := ih (j + 1) b (by omega)
    rw [show m + 1 + 1 + b = (m + 1 + b) + 1 from by omega, lp_Mo_type_16, oklp_Mo_type_16, lp_Text_areSigns, if_neg hlt, if_neg hlt, if_neg hlt]
    dsimp only
    rw [mo_byte, nI_1]
    obtain ⟨y, hy⟩ : ∃ y, s_Text_byteOf x (nI j) = y := ⟨_, rfl⟩
    rw [hy]
    unfold s_Mo_in
    by_cases c1 : y < 32
    · rw [if_pos c1, if_pos c1, if_pos rfl, if_pos rfl]
      exact ⟨fun _ => ⟨rfl, trivial⟩, fun q => absurd rfl q⟩
    · rw [if_neg c1, if_neg c1]
      by_cases c2 : y ≤ 126
      · have c3 : ¬ (126 : Int32) < y := by
          rw [Int32.le_iff_toInt_le] at c2
          rw [Int32.lt_iff_toInt_lt]
          omega
        rw [if_pos c2, if_neg c3, if_neg (by decide), if_neg (by decide)]
        exact ih
      · have c3 : (126 : Int32) < y := by
          rw [Int32.le_iff_toInt_le] at c2
          rw [Int32.lt_iff_toInt_lt]
          omega
        rw [if_neg c2, if_pos c3, if_pos rfl, if_pos rfl]
        exact ⟨fun _ => ⟨rfl, trivial⟩, fun q => absurd rfl q⟩
theorem r_type {f g : Nat → Int32} {v w z : Int32} {x : Int64} (h : SeqR 2000 1 f v g w) (hc : chF f) :
    ok_PQ_type f v x z ∧ ok_Mo_type g w x z ∧ (s_PQ_type f v x z).1 = (s_Mo_type g w x z).1 ∧ SeqR 2000 1 (s_PQ_type f v x z).2.2 (s_PQ_type f v x z).2.1 (s_Mo_type g w x z).2.2 (s_Mo_type g w x z).2.1 ∧ chF (s_PQ_type f v x z).2.2 := by
  have hu := h.upL (by decide)
  by_cases c1 : z < 1
  · have e : s_Mo_in z 1 8 = 0 := if_pos c1
    have ec : s_PQ_type f v x z = (-102, v, f) := by unfold s_PQ_type; rw [if_pos c1]
    have em : s_Mo_type g w x z = (-102, w, g) := by unfold s_Mo_type; dsimp only; rw [e, if_pos rfl]
    have oc : ok_PQ_type f v x z := by unfold ok_PQ_type; rw [if_pos c1]; trivial
    have om : ok_Mo_type g w x z := by unfold ok_Mo_type; dsimp only; rw [e, if_pos rfl]; trivial
    rw [ec, em]
    exact ⟨oc, om, rfl, h, hc⟩
  · by_cases c2 : (8 : Int32) < z
    · have e : s_Mo_in z 1 8 = 0 := by unfold s_Mo_in; rw [if_neg c1, if_pos c2]
      have ec : s_PQ_type f v x z = (-102, v, f) := by unfold s_PQ_type; rw [if_neg c1, if_pos c2]
      have em : s_Mo_type g w x z = (-102, w, g) := by unfold s_Mo_type; dsimp only; rw [e, if_pos rfl]
      have oc : ok_PQ_type f v x z := by unfold ok_PQ_type; rw [if_neg c1, if_pos c2]; trivial
      have om : ok_Mo_type g w x z := by unfold ok_Mo_type; dsimp only; rw [e, if_pos rfl]; trivial
      rw [ec, em]
      exact ⟨oc, om, rfl, h, hc⟩
    · have e : s_Mo_in z 1 8 = 1 := by unfold s_Mo_in; rw [if_neg c1, if_neg c2]
      obtain ⟨t, ht1, ht, rfl⟩ : ∃ t : Nat, 1 ≤ t ∧ t ≤ 8 ∧ z = nI t := by
        rw [Int32.lt_iff_toInt_lt, i1] at c1
        rw [Int32.lt_iff_toInt_lt, show (8 : Int32).toInt = 8 by decide] at c2
        obtain ⟨n, hn, hn2, rfl⟩ := up_nI (v := z) (N := 8) ⟨by omega, by omega⟩
        rw [nI_toInt hn2] at c1
        exact ⟨n, by omega, hn, rfl⟩
      obtain ⟨n, hn, rfl, rfl, hs⟩ := h
      have ef : ((nI t).toInt - (0 : Int32).toInt).toNat + 1 = t + 1 := by
        rw [nI_toInt (by omega), i0]
        omega
      have eg : ((nI t - 1).toInt + 1).toNat + 1 = t + 1 := by
        rw [show nI t - 1 = nI (t - 1) from pk_sub (b := 1) ht1, nI_toInt (by omega)]
        omega
      obtain ⟨k1, k2⟩ := r_signs (x := x) (g := g) (w := nI n) ht t 0 (9 - t) (by omega)
      rw [show t + 1 + (9 - t) = 10 from by omega] at k1 k2
      have em0 : s_Mo_type g (nI n) x (nI t) = lp_Mo_type_16 g (nI n) x (nI t) 10 (nI 0) := by unfold s_Mo_type; dsimp only; rw [e, if_neg (by decide)]; rfl
      have om0 : ok_Mo_type g (nI n) x (nI t) = oklp_Mo_type_16 g (nI n) x (nI t) 10 (nI 0) := by unfold ok_Mo_type; dsimp only; rw [e, if_neg (by decide)]; rfl
      rw [em0, om0]
      unfold ok_PQ_type s_PQ_type
      rw [ef, eg, if_neg c1, if_neg c1, if_neg c2, if_neg c2]
      dsimp only
      by_cases c3 : lp_Text_areSigns x (nI t) (t + 1) (nI 0) = 0
      · have c3' : lp_Text_areSigns x (nI t) (t + 1) 0 = 0 := c3
        rw [if_pos c3', if_pos c3', (k1 c3).1]
        exact ⟨trivial, (k1 c3).2, rfl, ⟨n, hn, rfl, rfl, hs⟩, hc⟩
      · have c3' : ¬ lp_Text_areSigns x (nI t) (t + 1) 0 = 0 := c3
        rw [if_neg c3', if_neg c3', (k2 c3).1]
        by_cases c4 : nI n + nI t ≤ 2000
        · have c5 : n + t ≤ 2000 := by
            rw [nI_add] at c4
            exact (nI_leI (b := 2000) (by omega) (by decide)).mp c4
          obtain ⟨F, K, a1, a2, a3, a4, a5⟩ := r_add (x := x) t n 0 (9 - t) f g c5 hc hs
          rw [show t + 1 + (9 - t) = 10 from by omega] at a2 a5
          rw [Nat.add_zero] at a1
          rw [← dn_sub t ht1] at a1 a2 a5
          rw [if_pos c4, if_pos c4, if_pos c4, a1, a2]
          exact ⟨⟨hu, trivial⟩, (k2 c3).2 (fun _ => a5), rfl, ⟨n + t, c5, rfl, rfl, a3⟩, a4⟩
        · rw [if_neg c4, if_neg c4, if_neg c4]
          exact ⟨trivial, (k2 c3).2 (fun q => absurd q c4), rfl, ⟨n, hn, rfl, rfl, hs⟩, hc⟩
