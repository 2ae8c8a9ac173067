/-! numbers digit by digit: f i is the i-th digit of a -/
def Dg (f : Nat → Int32) (n a : Nat) : Prop := ∀ i, i < n → f i = nI (a / 10 ^ i % 10)
theorem p10 (i : Nat) : 0 < 10 ^ i := Nat.pow_pos (by decide)
theorem g_step (a X i : Nat) : a % 10 ^ (i + 1) * X / 10 ^ (i + 1) = (a / 10 ^ i % 10 * X + a % 10 ^ i * X / 10 ^ i) / 10 := by
  have h := p10 i
  rw [Nat.pow_succ, Nat.mod_mul, ← Nat.div_div_eq_div_mul]
  congr 1
  rw [Nat.add_mul, Nat.mul_assoc, Nat.add_mul_div_left _ _ h, Nat.add_comm]
theorem g_dig (a X i : Nat) : a * X / 10 ^ i % 10 = (a / 10 ^ i % 10 * X + a % 10 ^ i * X / 10 ^ i) % 10 := by
  have h := p10 i
  have e : a * X = a % 10 ^ i * X + 10 ^ i * (a / 10 ^ i * X) := by
    rw [← Nat.mul_assoc, ← Nat.add_mul, Nat.mod_add_div]
  have e2 : a / 10 ^ i * X = 10 * (a / 10 ^ i / 10 * X) + a / 10 ^ i % 10 * X := by
    rw [← Nat.mul_assoc, ← Nat.add_mul, Nat.div_add_mod]
  rw [e, Nat.add_mul_div_left _ _ h, e2]
  generalize a % 10 ^ i * X / 10 ^ i = r
  generalize a / 10 ^ i / 10 * X = s
  generalize a / 10 ^ i % 10 * X = t
  omega
theorem g_carry {a X i : Nat} (hX : X ≤ 2000) : a % 10 ^ i * X / 10 ^ i ≤ 2000 := by
  have h := p10 i
  have h1 : a % 10 ^ i < 10 ^ i := Nat.mod_lt _ h
  have h2 : a % 10 ^ i * X ≤ 10 ^ i * X := Nat.mul_le_mul_right X (Nat.le_of_lt h1)
  have h3 : a % 10 ^ i * X / 10 ^ i ≤ 10 ^ i * X / 10 ^ i := Nat.div_le_div_right h2
  rw [Nat.mul_div_cancel_left _ h] at h3
  omega
theorem g_v {d X c : Nat} (hd : d < 10) (hX : X ≤ 2000) (hc : c ≤ 2000) : nI d * nI X + nI c = nI (d * X + c) ∧ (nI d * nI X + nI c) / 10 = nI ((d * X + c) / 10) ∧ (nI d * nI X + nI c) - (nI d * nI X + nI c) / 10 * 10 = nI ((d * X + c) % 10) := by
  have h1 : d * X ≤ 9 * 2000 := Nat.mul_le_mul (by omega) hX
  have e : nI d * nI X + nI c = nI (d * X + c) := by rw [pk_mul, nI_add]
  refine ⟨e, ?_, ?_⟩
  · rw [e]
    exact pk_div (d := 10) (by omega) (by decide) (by decide)
  · rw [e]
    exact pk_rem (d := 10) (by omega) (by decide) (by decide)
theorem grow_lp {X a : Nat} (hX : X ≤ 2000) : ∀ (m i : Nat) (f : Nat → Int32), i + m = 240 → (∀ j, j < i → f j = nI (a * X / 10 ^ j % 10)) → (∀ j, i ≤ j → j < 240 → f j = nI (a / 10 ^ j % 10)) →
    Dg (lp_Mo_grow_15 (nI X) (m + 1) (nI (a % 10 ^ i * X / 10 ^ i)) (nI i) f).2.2 240 (a * X) := by
  intro m
  induction m with
  | zero =>
    intro i f hi h1 h2
    rw [lp_Mo_grow_15, if_pos (leL (N := 240) (a := 240) rfl (by omega) (by omega))]
    exact fun j hj => h1 j (by omega)
  | succ m ih =>
    intro i f hi h1 h2
    obtain ⟨e1, e2, e3⟩ := g_v (d := a / 10 ^ i % 10) (c := a % 10 ^ i * X / 10 ^ i) (by omega) hX (g_carry hX)
    rw [lp_Mo_grow_15, if_neg (geL (N := 240) (b := 240) rfl (by omega) (by decide)), nI_clamp (by omega), h2 i (Nat.le_refl _) (by omega), e3, e2, ← g_step, ← g_dig, nI_1]
    refine ih (i + 1) _ (by omega) (fun j hj => ?_) (fun j hj1 hj2 => ?_)
    · by_cases c : j = i
      · subst c
        rw [pk_us]
      · rw [pk_un c]
        exact h1 j (by omega)
    · rw [pk_un (by omega)]
      exact h2 j (by omega) hj2
theorem grow_1 {X a : Nat} {f : Nat → Int32} (hX : X ≤ 2000) (h : Dg f 240 a) : Dg (lp_Mo_grow_15 (nI X) (((240 - (0 : Int32).toInt).toNat) + 1) (0 : Int32) (0 : Int32) f).2.2 240 (a * X) := by
  have h1 := grow_lp (a := a) hX 240 0 f (by omega) (fun j hj => absurd hj (Nat.not_lt_zero _)) (fun j _ hj => h j hj)
  rw [Nat.pow_zero, Nat.mod_one, Nat.zero_mul, Nat.zero_div] at h1
  rw [show nI 0 = 0 from rfl] at h1
  rw [show ((240 - (0 : Int32).toInt).toNat) + 1 = 240 + 1 from by decide]
  exact h1
theorem grow_t {X Z : Nat} (hX : X ≤ 2000) (hZ : Z < 2 ^ 31) : ∀ (m t a : Nat) (f : Nat → Int32), t + m = Z → Dg f 240 a → Dg (lp_Mo_grow_3 (nI X) (nI Z) (m + 1) (nI t) f) 240 (a * X ^ m) := by
  intro m
  induction m with
  | zero =>
    intro t a f ht h
    rw [lp_Mo_grow_3, if_pos (nI_le (by omega) (by omega)), Nat.pow_zero, Nat.mul_one]
    exact h
  | succ m ih =>
    intro t a f ht h
    rw [lp_Mo_grow_3, if_neg (nI_ge (by omega) (by omega)), nI_1]
    have h1 := ih (t + 1) (a * X) _ (by omega) (grow_1 hX h)
    rw [Nat.pow_succ, Nat.mul_comm (X ^ m) X, ← Nat.mul_assoc]
    exact h1
theorem grow_z {X Z a : Nat} {f : Nat → Int32} (hX : X ≤ 2000) (hZ : Z < 2 ^ 31) (h : Dg f 240 a) : Dg (lp_Mo_grow_3 (nI X) (nI Z) ((((nI Z).toInt - (0 : Int32).toInt).toNat) + 1) (0 : Int32) f) 240 (a * X ^ Z) := by
  have e : ((nI Z).toInt - (0 : Int32).toInt).toNat + 1 = Z + 1 := by
    rw [nI_toInt hZ, i0]
    omega
  rw [e]
  exact grow_t hX hZ Z 0 a f (by omega) h
theorem begin_lp : ∀ (m i : Nat) (g : Nat → Int32), i + m = 240 → (∀ j, j < i → g j = 0) → Dg (lp_Mo_begin_2 (m + 1) (nI i) g) 240 1 := by
  intro m
  induction m with
  | zero =>
    intro i g hi h
    rw [lp_Mo_begin_2, if_pos (leL (N := 240) (a := 240) rfl (by omega) (by omega))]
    intro j hj
    by_cases c : j = 0
    · subst c
      rfl
    · rw [show (0 : Int32).toNatClampNeg = 0 from by decide, pk_un c, h j (by omega)]
      have h1 : 1 < 10 ^ j := Nat.one_lt_pow c (by decide)
      rw [Nat.div_eq_of_lt h1]
      rfl
  | succ m ih =>
    intro i g hi h
    rw [lp_Mo_begin_2, if_neg (geL (N := 240) (b := 240) rfl (by omega) (by decide)), nI_1, nI_clamp (by omega)]
    refine ih (i + 1) _ (by omega) (fun j hj => ?_)
    by_cases c : j = i
    · subst c
      rw [pk_us]
    · rw [pk_un c]
      exact h j (by omega)
theorem begin_1 (g : Nat → Int32) : Dg (lp_Mo_begin_2 (((240 - (0 : Int32).toInt).toNat) + 1) (0 : Int32) g) 240 1 := begin_lp 240 0 g (by omega) (fun j hj => absurd hj (Nat.not_lt_zero _))
/-- how far two numbers are apart -/
def far (a o : Nat) : Nat := if a < o then o - a else a - o
/-- a share -/
def shv (P Q A O T : Nat) : Nat := if T = 0 then P + Q else if O = 0 ∨ O = T then P ^ far A O * Q ^ (T + 1 - far A O) else (Q - P) * P ^ far A O * Q ^ (T - far A O)
theorem share_Mo {P Q A O T : Nat} {f : Nat → Int32} (h1 : P < Q) (h2 : Q ≤ 1000) (hA : A ≤ T) (hO : O ≤ T) (hT : T ≤ 30) : Dg (s_Mo_shareInto (nI P) (nI Q) f (nI A) (nI O) (nI T)) 240 (shv P Q A O T) := by
  have hb := begin_1 f
  have g1 : ∀ {X a : Nat} {f : Nat → Int32}, X ≤ 2000 → Dg f 240 a → Dg (lp_Mo_grow_3 (nI X) 1 ((((1 : Int32).toInt - (0 : Int32).toInt).toNat) + 1) (0 : Int32) f) 240 (a * X) := fun {X a f} hX h => by
    have := grow_z (Z := 1) hX (by decide) h
    rw [Nat.pow_one] at this
    exact this
  unfold s_Mo_shareInto
  dsimp only
  have eq0 : ∀ k : Nat, k ≤ 30 → (nI k = 0 ↔ k = 0) := fun k hk => nI_eq (b := 0) (by omega) (by decide)
  by_cases c : O ≤ A
  · have hf : far A O = A - O := by unfold far; rw [if_neg (by omega)]
    rw [if_pos (nI_le c (by omega)), pk_sub c, nI_1, pk_sub (by omega), pk_sub (by omega), pk_sub (by omega), nI_add]
    by_cases c0 : T = 0
    · rw [if_pos ((eq0 T hT).mpr c0)]
      have := g1 (X := P + Q) (by omega) hb
      rw [Nat.one_mul] at this
      unfold shv
      rw [if_pos c0]
      exact this
    · rw [if_neg (fun q => c0 ((eq0 T hT).mp q))]
      unfold shv
      rw [if_neg c0, hf]
      by_cases c1 : O = 0
      · rw [if_pos ((eq0 O (by omega)).mpr c1), if_pos (Or.inl c1)]
        have := grow_z (X := Q) (Z := T + 1 - (A - O)) (by omega) (by omega) (grow_z (X := P) (Z := A - O) (by omega) (by omega) hb)
        rw [Nat.one_mul] at this
        exact this
      · rw [if_neg (fun q => c1 ((eq0 O (by omega)).mp q))]
        by_cases c2 : O = T
        · rw [if_pos (by rw [c2]), if_pos (Or.inr c2)]
          have := grow_z (X := Q) (Z := T + 1 - (A - O)) (by omega) (by omega) (grow_z (X := P) (Z := A - O) (by omega) (by omega) hb)
          rw [Nat.one_mul] at this
          exact this
        · rw [if_neg (ne_nI (by omega) (by omega) c2), if_neg (by omega)]
          have := grow_z (X := Q) (Z := T - (A - O)) (by omega) (by omega) (grow_z (X := P) (Z := A - O) (by omega) (by omega) (g1 (X := Q - P) (by omega) hb))
          rw [Nat.one_mul] at this
          exact this
  · have hf : far A O = O - A := by unfold far; rw [if_pos (by omega)]
    rw [if_neg (nI_ge (by omega) (by omega)), pk_sub (by omega), nI_1, pk_sub (by omega), pk_sub (by omega), pk_sub (by omega), nI_add]
    by_cases c0 : T = 0
    · rw [if_pos ((eq0 T hT).mpr c0)]
      have := g1 (X := P + Q) (by omega) hb
      rw [Nat.one_mul] at this
      unfold shv
      rw [if_pos c0]
      exact this
    · rw [if_neg (fun q => c0 ((eq0 T hT).mp q))]
      unfold shv
      rw [if_neg c0, hf]
      by_cases c1 : O = 0
      · rw [if_pos ((eq0 O (by omega)).mpr c1), if_pos (Or.inl c1)]
        have := grow_z (X := Q) (Z := T + 1 - (O - A)) (by omega) (by omega) (grow_z (X := P) (Z := O - A) (by omega) (by omega) hb)
        rw [Nat.one_mul] at this
        exact this
      · rw [if_neg (fun q => c1 ((eq0 O (by omega)).mp q))]
        by_cases c2 : O = T
        · rw [if_pos (by rw [c2]), if_pos (Or.inr c2)]
          have := grow_z (X := Q) (Z := T + 1 - (O - A)) (by omega) (by omega) (grow_z (X := P) (Z := O - A) (by omega) (by omega) hb)
          rw [Nat.one_mul] at this
          exact this
        · rw [if_neg (ne_nI (by omega) (by omega) c2), if_neg (by omega)]
          have := grow_z (X := Q) (Z := T - (O - A)) (by omega) (by omega) (grow_z (X := P) (Z := O - A) (by omega) (by omega) (g1 (X := Q - P) (by omega) hb))
          rw [Nat.one_mul] at this
          exact this
/-! within: the reference finds it true of all -/
theorem atMost_lp {A B : Nat} {f g : Nat → Int32} (hf : Dg f 240 A) (hg : Dg g 240 B) (hAB : A ≤ B) : ∀ (i b : Nat), i < 240 → A / 10 ^ (i + 1) = B / 10 ^ (i + 1) → lp_Mo_isAtMost f g (i + 1 + b) (nI i) = 1 := by
  intro i
  induction i with
  | zero =>
    intro b hi he
    rw [show 0 + 1 + b = b + 1 from by omega, lp_Mo_isAtMost, if_pos (by decide), nI_clamp (by decide), hf 0 hi, hg 0 hi, if_neg (nI_nlt ?_ (by omega))]
    rw [Nat.pow_zero, Nat.div_one, Nat.div_one]
    rw [Nat.zero_add, Nat.pow_one] at he
    omega
  | succ i ih =>
    intro b hi he
    rw [show i + 1 + 1 + b = (i + 1 + b) + 1 from by omega, lp_Mo_isAtMost, if_neg (nI_nle (by omega) (by omega)), nI_clamp (by omega), hf _ hi, hg _ hi]
    have hd : A / 10 ^ (i + 1) ≤ B / 10 ^ (i + 1) := Nat.div_le_div_right hAB
    rw [Nat.pow_succ, ← Nat.div_div_eq_div_mul, ← Nat.div_div_eq_div_mul] at he
    by_cases c : A / 10 ^ (i + 1) % 10 = B / 10 ^ (i + 1) % 10
    · rw [c, if_pos rfl, pk_m1]
      exact ih b (by omega) (by omega)
    · rw [if_neg (ne_nI (by omega) (by omega) c), if_neg (nI_nlt (by omega) (by omega))]
theorem atMost_1 {A B : Nat} {f g : Nat → Int32} (hf : Dg f 240 A) (hg : Dg g 240 B) (hAB : A ≤ B) (hB : B < 10 ^ 240) : lp_Mo_isAtMost f g (((239 : Int32).toInt.toNat) + 1) (239 : Int32) = 1 := by
  have h := atMost_lp hf hg hAB 239 0 (by decide) (by rw [Nat.div_eq_of_lt (Nat.lt_of_le_of_lt hAB hB), Nat.div_eq_of_lt hB])
  exact h
theorem pw_le {p q m n s t : Nat} (hpq : p ≤ q) (h1 : n ≤ m) (h2 : m + s = n + t) : p ^ m * q ^ s ≤ p ^ n * q ^ t := by
  obtain ⟨k, rfl⟩ : ∃ k, m = n + k := ⟨m - n, by omega⟩
  have ht : t = k + s := by omega
  subst ht
  rw [Nat.pow_add, Nat.pow_add, Nat.mul_assoc]
  exact Nat.mul_le_mul_left _ (Nat.mul_le_mul_right _ (Nat.pow_le_pow_left hpq k))
theorem far_le {a o T : Nat} (ha : a ≤ T) (ho : o ≤ T) : far a o ≤ T := by
  unfold far
  split <;> omega
theorem far_tri (a b o : Nat) : far b o ≤ far a b + far a o := by
  unfold far
  split <;> split <;> split <;> omega
theorem near_le {P Q A B O T : Nat} (h1 : P < Q) (hA : A ≤ T) (hB : B ≤ T) (hO : O ≤ T) : shv P Q A O T * P ^ far A B ≤ shv P Q B O T * Q ^ far A B := by
  have t1 := far_le hA hO
  have t2 := far_le hB hO
  have t3 := far_tri A B O
  unfold shv
  by_cases c0 : T = 0
  · rw [if_pos c0, if_pos c0]
    exact Nat.mul_le_mul_left _ (Nat.pow_le_pow_left (by omega) _)
  · rw [if_neg c0, if_neg c0]
    by_cases c1 : O = 0 ∨ O = T
    · rw [if_pos c1, if_pos c1]
      have h := pw_le (p := P) (q := Q) (m := far A B + far A O) (n := far B O) (s := T + 1 - far A O) (t := T + 1 - far B O + far A B) (by omega) (by omega) (by omega)
      rw [Nat.pow_add, Nat.pow_add] at h
      have e1 : P ^ far A O * Q ^ (T + 1 - far A O) * P ^ far A B = P ^ far A B * P ^ far A O * Q ^ (T + 1 - far A O) := by
        rw [Nat.mul_comm _ (P ^ far A B), Nat.mul_assoc]
      have e2 : P ^ far B O * Q ^ (T + 1 - far B O) * Q ^ far A B = P ^ far B O * (Q ^ (T + 1 - far B O) * Q ^ far A B) := Nat.mul_assoc _ _ _
      rw [e1, e2]
      exact h
    · rw [if_neg c1, if_neg c1]
      have h := pw_le (p := P) (q := Q) (m := far A B + far A O) (n := far B O) (s := T - far A O) (t := T - far B O + far A B) (by omega) (by omega) (by omega)
      rw [Nat.pow_add, Nat.pow_add] at h
      have e1 : (Q - P) * P ^ far A O * Q ^ (T - far A O) * P ^ far A B = (Q - P) * (P ^ far A B * P ^ far A O * Q ^ (T - far A O)) := by
        rw [Nat.mul_comm _ (P ^ far A B), Nat.mul_assoc (Q - P), Nat.mul_assoc (P ^ far A B), Nat.mul_left_comm]
      have e2 : (Q - P) * P ^ far B O * Q ^ (T - far B O) * Q ^ far A B = (Q - P) * (P ^ far B O * (Q ^ (T - far B O) * Q ^ far A B)) := by
        rw [Nat.mul_assoc (Q - P), Nat.mul_assoc (Q - P), Nat.mul_assoc]
      rw [e1, e2]
      exact Nat.mul_le_mul_left _ h
theorem shv_le {P Q A O T : Nat} (h1 : P < Q) (h2 : Q ≤ 1000) (hA : A ≤ T) (hO : O ≤ T) (hT : T ≤ 30) : shv P Q A O T ≤ 1000 ^ 31 * 2 := by
  have t1 := far_le hA hO
  have hp : ∀ k, P ^ k ≤ 1000 ^ k := fun k => Nat.pow_le_pow_left (by omega) k
  have hq : ∀ k, Q ^ k ≤ 1000 ^ k := fun k => Nat.pow_le_pow_left h2 k
  have hm : ∀ {a b : Nat}, a + b ≤ 31 → 1000 ^ a * 1000 ^ b ≤ 1000 ^ 31 := fun {a b} h => by
    rw [← Nat.pow_add]
    exact Nat.pow_le_pow_right (by decide) h
  unfold shv
  split
  · have : (1000 : Nat) ^ 31 ≥ 1000 := by decide
    omega
  · split
    · have h3 := Nat.le_trans (Nat.mul_le_mul (hp (far A O)) (hq (T + 1 - far A O))) (hm (by omega))
      omega
    · have h3 : (Q - P) * P ^ far A O * Q ^ (T - far A O) ≤ 1000 ^ 1 * 1000 ^ far A O * 1000 ^ (T - far A O) := Nat.mul_le_mul (Nat.mul_le_mul (by omega) (hp _)) (hq _)
      rw [← Nat.pow_add] at h3
      have h4 := Nat.le_trans h3 (hm (by omega))
      omega
theorem near_1 {P Q A B O T : Nat} {f g : Nat → Int32} (h0 : 1 ≤ P) (h1 : P < Q) (h2 : Q ≤ 1000) (hA : A ≤ T) (hB : B ≤ T) (hO : O ≤ T) (hT : T ≤ 30) : (s_Mo_isNear (nI P) (nI Q) f g (nI A) (nI B) (nI O) (nI T)).1 = 1 := by
  have sa := share_Mo (f := f) h1 h2 hA hO hT
  have sb := share_Mo (f := g) h1 h2 hB hO hT
  have hle := near_le (O := O) h1 hA hB hO
  have tf := far_le hA hB
  have hbig : shv P Q B O T * Q ^ far A B < 10 ^ 240 := by
    have k1 := shv_le h1 h2 hB hO hT
    have k2 : Q ^ far A B ≤ 1000 ^ 30 := Nat.le_trans (Nat.pow_le_pow_left h2 _) (Nat.pow_le_pow_right (by decide) (by omega))
    have k3 := Nat.mul_le_mul k1 k2
    have k4 : 1000 ^ 31 * 2 * 1000 ^ 30 < 10 ^ 240 := by decide
    exact Nat.lt_of_le_of_lt k3 k4
  unfold s_Mo_isNear
  dsimp only
  by_cases c : B ≤ A
  · have hf : far A B = A - B := by unfold far; rw [if_neg (by omega)]
    rw [hf] at hle hbig
    rw [if_pos (nI_le c (by omega)), pk_sub c]
    exact atMost_1 (grow_z (by omega) (by omega) sa) (grow_z (by omega) (by omega) sb) hle hbig
  · have hf : far A B = B - A := by unfold far; rw [if_pos (by omega)]
    rw [hf] at hle hbig
    rw [if_neg (nI_ge (by omega) (by omega)), pk_sub (by omega)]
    exact atMost_1 (grow_z (by omega) (by omega) sa) (grow_z (by omega) (by omega) sb) hle hbig
theorem far_comm (a b : Nat) : far a b = far b a := by
  unfold far
  split <;> split <;> omega
theorem within_lp {P Q A B T : Nat} (h0 : 1 ≤ P) (h1 : P < Q) (h2 : Q ≤ 1000) (hA : A ≤ T) (hB : B ≤ T) (hT : T ≤ 30) : ∀ (m o b : Nat) (f g : Nat → Int32), o + m = T + 1 → ∃ F K, lp_Mo_within_36 (nI P) (nI Q) (nI A) (nI B) (nI T) (m + 1 + b) (1 : Int32) (nI o) f g = (1, F, K) ∧ oklp_Mo_within_36 (nI P) (nI Q) (nI A) (nI B) (nI T) (m + 1 + b) (1 : Int32) (nI o) f g := by
  intro m
  induction m with
  | zero =>
    intro o b f g h
    refine ⟨f, g, ?_, ?_⟩
    · rw [show 0 + 1 + b = b + 1 from by omega, lp_Mo_within_36, if_pos (nI_lt (by omega) (by omega))]
    · rw [show 0 + 1 + b = b + 1 from by omega, oklp_Mo_within_36, if_pos (nI_lt (by omega) (by omega))]
      exact ⟨isB_1, trivial⟩
  | succ m ih =>
    intro o b f g h
    obtain ⟨r1, hr1⟩ : ∃ r, s_Mo_isNear (nI P) (nI Q) f g (nI A) (nI B) (nI o) (nI T) = r := ⟨_, rfl⟩
    obtain ⟨r2, hr2⟩ : ∃ r, s_Mo_isNear (nI P) (nI Q) r1.2.1 r1.2.2 (nI B) (nI A) (nI o) (nI T) = r := ⟨_, rfl⟩
    have k1 : r1.1 = 1 := by rw [← hr1]; exact near_1 h0 h1 h2 hA hB (by omega) hT
    have k2 : r2.1 = 1 := by rw [← hr2]; exact near_1 h0 h1 h2 hB hA (by omega) hT
    obtain ⟨F, K, e1, e2⟩ := ih (o + 1) b r2.2.1 r2.2.2 (by omega)
    refine ⟨F, K, ?_, ?_⟩
    · rw [show m + 1 + 1 + b = (m + 1 + b) + 1 from by omega, lp_Mo_within_36, if_neg (nI_nlt (by omega) (by omega)), if_neg (by decide)]
      dsimp only
      rw [hr1, k1, if_neg (by decide), hr2, k2, if_neg (by decide), nI_1]
      exact e1
    · rw [show m + 1 + 1 + b = (m + 1 + b) + 1 from by omega, oklp_Mo_within_36, if_neg (nI_nlt (by omega) (by omega)), if_neg (by decide)]
      dsimp only
      rw [hr1, k1, if_neg (by decide), hr2, k2, if_neg (by decide), nI_1]
      exact e2
theorem r_within {p q x z v : Int32} {P Q : Nat} {f g : Nat → Int32} (hp : p = nI P) (hq : q = nI Q) (h0 : 1 ≤ P) (h1 : P < Q) (h2 : Q ≤ 1000) : ok_Mo_within p q f g x z v ∧ s_PQ_within x z v = (s_Mo_within p q f g x z v).1 := by
  subst hp hq
  have hin : ∀ a b : Int32, s_Mo_in a 0 b = s_PQ_isUpTo a b := fun a b => rfl
  unfold ok_Mo_within s_PQ_within s_Mo_within
  dsimp only
  rw [hin, hin, hin]
  by_cases c1 : s_PQ_isUpTo v 30 = 0
  · rw [if_pos c1, if_pos c1, if_pos c1]
    exact ⟨trivial, rfl⟩
  · rw [if_neg c1, if_neg c1, if_neg c1]
    by_cases c2 : s_PQ_isUpTo x v = 0
    · rw [if_pos c2, if_pos c2, if_pos c2]
      exact ⟨trivial, rfl⟩
    · rw [if_neg c2, if_neg c2, if_neg c2]
      by_cases c3 : s_PQ_isUpTo z v = 0
      · rw [if_pos c3, if_pos c3, if_pos c3]
        exact ⟨trivial, rfl⟩
      · rw [if_neg c3, if_neg c3, if_neg c3]
        obtain ⟨T, hT, hT2, rfl⟩ := upto_nI c1
        obtain ⟨A, hA, hA2, rfl⟩ := upto_nI c2
        obtain ⟨B, hB, hB2, rfl⟩ := upto_nI c3
        rw [show (30 : Int32).toInt = 30 by decide] at hT
        rw [nI_toInt hT2] at hA hB
        obtain ⟨F, K, e1, e2⟩ := within_lp h0 h1 h2 (A := A) (B := B) (T := T) (by omega) (by omega) (by omega) (T + 1) 0 (30 - T) f g (by omega)
        rw [show T + 1 + 1 + (30 - T) = 32 from by omega] at e1 e2
        refine ⟨e2, ?_⟩
        have e3 : lp_Mo_within_36 (nI P) (nI Q) (nI A) (nI B) (nI T) 32 (1 : Int32) (0 : Int32) f g = (1, F, K) := e1
        rw [e3]
