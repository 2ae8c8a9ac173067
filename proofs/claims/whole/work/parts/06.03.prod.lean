/-! the class's products, and share -/
/-- the first s digits of a, the highest not 0 -/
def NumR (g : Nat → Int32) (s a : Nat) : Prop := 1 ≤ s ∧ s ≤ 96 ∧ 10 ^ (s - 1) ≤ a ∧ a < 10 ^ s ∧ Dg g s a
theorem t1_lp {X a s : Nat} (hX : 1 ≤ X) (hX2 : X ≤ 2000) (hs : 1 ≤ s) (hs2 : s ≤ 96) (ha : a < 10 ^ s) (ha0 : 10 ^ (s - 1) ≤ a) (hm : a * X < 10 ^ 96) : ∀ (m i : Nat) (g : Nat → Int32), i + m = 96 → (∀ j, j < i → g j = nI (a * X / 10 ^ j % 10)) → (∀ j, i ≤ j → j < s → g j = nI (a / 10 ^ j % 10)) → (i ≤ s ∨ 10 ^ (i - 1) ≤ a * X) →
    ∃ (s' : Nat) (F : Nat → Int32), lp_Prod_timesOnce (nI X) (m + 1) (nI (a % 10 ^ i * X / 10 ^ i)) (nI i) g (nI (max s i)) = (nI s', F) ∧ NumR F s' (a * X) := by
  have haX : a ≤ a * X := Nat.le_mul_of_pos_right a (by omega)
  intro m
  induction m with
  | zero =>
    intro i g hi h1 h2 h3
    have hi' : i = 96 := by omega
    subst hi'
    refine ⟨96, g, ?_, ⟨by decide, by decide, ?_, hm, fun j hj => h1 j hj⟩⟩
    · rw [lp_Prod_timesOnce, if_pos (leL (N := 96) (a := 96) rfl (by omega) (by omega)), Nat.max_eq_right hs2]
    · rcases h3 with h3 | h3
      · have h9 : s = 96 := by omega
        rw [h9] at ha0
        exact Nat.le_trans ha0 haX
      · exact h3
  | succ m ih =>
    intro i g hi h1 h2 h3
    have hni : ¬ (96 : Int32) ≤ nI i := geL (N := 96) (b := 96) rfl (by omega) (by decide)
    by_cases c : i < s
    · have hmx : max s i = s := Nat.max_eq_left (by omega)
      obtain ⟨e1, e2, e3⟩ := g_v (d := a / 10 ^ i % 10) (X := X) (c := a % 10 ^ i * X / 10 ^ i) (by omega) hX2 (g_carry hX2)
      have hsz : (if nI s < nI (i + 1) then nI (i + 1) else nI s) = nI (max s (i + 1)) := by
        rw [Nat.max_eq_left (show i + 1 ≤ s by omega), if_neg (nI_nlt (by omega) (by omega))]
      obtain ⟨s', F, r1, r2⟩ := ih (i + 1) (upd g i (nI (a * X / 10 ^ i % 10))) (by omega) (fun j hj => by
        by_cases d : j = i
        · subst d
          rw [pk_us]
        · rw [pk_un d]
          exact h1 j (by omega)) (fun j hj hj2 => by
        rw [pk_un (by omega)]
        exact h2 j (by omega) hj2) (Or.inl (by omega))
      refine ⟨s', F, ?_, r2⟩
      rw [lp_Prod_timesOnce, if_neg hni, hmx, if_pos (nI_lt c (by omega)), if_neg (nI_ge c (by omega)), nI_clamp (by omega), h2 i (Nat.le_refl _) c, e3, e2, ← g_step, ← g_dig, nI_1, hsz]
      exact r1
    · have hmx : max s i = i := Nat.max_eq_right (by omega)
      have hmod : a % 10 ^ i = a := Nat.mod_eq_of_lt (Nat.lt_of_lt_of_le ha (Nat.pow_le_pow_right (by decide) (by omega)))
      have hii : ¬ nI i < nI i := nI_nlt (Nat.le_refl _) (by omega)
      by_cases d : a * X / 10 ^ i = 0
      · refine ⟨i, g, ?_, ?_⟩
        · rw [lp_Prod_timesOnce, if_neg hni, hmx, if_neg hii, hmod, d, if_pos (by decide)]
        · have hlt : a * X < 10 ^ i := by
            rcases Nat.lt_or_ge (a * X) (10 ^ i) with h | h
            · exact h
            · have := Nat.div_pos h (p10 i)
              omega
          refine ⟨by omega, by omega, ?_, hlt, h1⟩
          rcases h3 with h3 | h3
          · have h9 : i = s := by omega
            rw [h9]
            exact Nat.le_trans ha0 haX
          · exact h3
      · have hge : 10 ^ i ≤ a * X := by
          rcases Nat.lt_or_ge (a * X) (10 ^ i) with h | h
          · exact absurd (Nat.div_eq_of_lt h) d
          · exact h
        have hc := g_carry (a := a) (i := i) hX2
        have hq : a % 10 ^ (i + 1) * X / 10 ^ (i + 1) = a * X / 10 ^ i / 10 := by
          rw [g_step, hmod, Nat.div_eq_of_lt (show a < 10 ^ i by rw [← hmod]; exact Nat.mod_lt _ (p10 i))]
          rw [Nat.zero_mod, Nat.zero_mul, Nat.zero_add]
        rw [hmod] at hc
        have hsz : (if nI i < nI (i + 1) then nI (i + 1) else nI i) = nI (max s (i + 1)) := by
          rw [Nat.max_eq_right (show s ≤ i + 1 by omega), if_pos (nI_lt (by omega) (by omega))]
        obtain ⟨s', F, r1, r2⟩ := ih (i + 1) (upd g i (nI (a * X / 10 ^ i % 10))) (by omega) (fun j hj => by
          by_cases d : j = i
          · subst d
            rw [pk_us]
          · rw [pk_un d]
            exact h1 j (by omega)) (fun j hj hj2 => absurd hj2 (by omega)) (Or.inr hge)
        refine ⟨s', F, ?_, r2⟩
        have e2 : nI (a * X / 10 ^ i) / 10 = nI (a * X / 10 ^ i / 10) := pk_div (d := 10) (by omega) (by decide) (by decide)
        have e3 : nI (a * X / 10 ^ i) - nI (a * X / 10 ^ i) / 10 * 10 = nI (a * X / 10 ^ i % 10) := pk_rem (d := 10) (by omega) (by decide) (by decide)
        rw [lp_Prod_timesOnce, if_neg hni, hmx, if_neg hii, hmod, if_neg (nI_nle (Nat.pos_of_ne_zero d) (by omega)), if_pos (nI_le (Nat.le_refl _) (by omega)), Int32.zero_add, e3, e2, nI_1, hsz, nI_clamp (by omega), ← hq]
        exact r1
theorem times1 {X a s : Nat} {g : Nat → Int32} (hX : 1 ≤ X) (hX2 : X ≤ 2000) (h : NumR g s a) (hm : a * X < 10 ^ 96) : ∃ (s' : Nat) (F : Nat → Int32), lp_Prod_timesOnce (nI X) (((96 - (0 : Int32).toInt).toNat) + 1) (0 : Int32) (0 : Int32) g (nI s) = (nI s', F) ∧ NumR F s' (a * X) := by
  obtain ⟨h1, h2, h3, h4, h5⟩ := h
  have h6 := t1_lp hX hX2 h1 h2 h4 h3 hm 96 0 g (by omega) (fun j hj => absurd hj (Nat.not_lt_zero _)) (fun j _ hj => h5 j hj) (Or.inl (Nat.zero_le _))
  rw [Nat.pow_zero, Nat.mod_one, Nat.zero_mul, Nat.zero_div, Nat.max_eq_left (Nat.zero_le _)] at h6
  exact h6
theorem times_t {X Z : Nat} (hX : 1 ≤ X) (hX2 : X ≤ 2000) (hZ : Z < 2 ^ 31) : ∀ (m t a s : Nat) (g : Nat → Int32), t + m = Z → NumR g s a → a * X ^ m < 10 ^ 96 → ∃ (s' : Nat) (F : Nat → Int32), lp_Prod_times (nI X) (nI Z) (m + 1) (nI t) g (nI s) = (nI s', F) ∧ NumR F s' (a * X ^ m) := by
  intro m
  induction m with
  | zero =>
    intro t a s g ht h hm
    refine ⟨s, g, ?_, ?_⟩
    · rw [lp_Prod_times, if_pos (nI_le (by omega) (by omega))]
    · rw [Nat.pow_zero, Nat.mul_one]
      exact h
  | succ m ih =>
    intro t a s g ht h hm
    have e : a * X ^ (m + 1) = a * X * X ^ m := by rw [Nat.pow_succ, Nat.mul_comm (X ^ m) X, ← Nat.mul_assoc]
    rw [e] at hm ⊢
    have hle : a * X ≤ a * X * X ^ m := Nat.le_mul_of_pos_right _ (Nat.pow_pos hX)
    obtain ⟨s1, F1, r1, r2⟩ := times1 hX hX2 h (Nat.lt_of_le_of_lt hle hm)
    obtain ⟨s2, F2, q1, q2⟩ := ih (t + 1) (a * X) s1 F1 (by omega) r2 hm
    refine ⟨s2, F2, ?_, q2⟩
    rw [lp_Prod_times, if_neg (nI_ge (by omega) (by omega))]
    dsimp only
    rw [r1, nI_1]
    exact q1
theorem times_z {X Z a s : Nat} {g : Nat → Int32} (hX : 1 ≤ X) (hX2 : X ≤ 2000) (hZ : Z < 2 ^ 31) (h : NumR g s a) (hm : a * X ^ Z < 10 ^ 96) : ∃ (s' : Nat) (F : Nat → Int32), lp_Prod_times (nI X) (nI Z) ((((nI Z).toInt - (0 : Int32).toInt).toNat) + 1) (0 : Int32) g (nI s) = (nI s', F) ∧ NumR F s' (a * X ^ Z) := by
  have e : ((nI Z).toInt - (0 : Int32).toInt).toNat + 1 = Z + 1 := by
    rw [nI_toInt hZ, i0]
    omega
  rw [e]
  exact times_t hX hX2 hZ Z 0 a s g (by omega) h hm
theorem abs_nI {A O : Nat} (hA : A ≤ 30) (hO : O ≤ 30) : (if (0 : Int32) ≤ (nI A - nI O) then nI A - nI O else 0 - (nI A - nI O)) = nI (far A O) := by
  unfold far
  by_cases c : A < O
  · have e : (nI A - nI O).toInt = (A : Int) - O := pk_sub_toInt (by omega) (by omega)
    rw [if_pos c, if_neg (by rw [Int32.le_iff_toInt_le, i0, e]; omega)]
    apply Int32.toInt_inj.mp
    rw [Int32.toInt_sub, i0, e, nI_toInt (by omega), Int.bmod_eq_of_le (by omega) (by omega)]
    omega
  · rw [if_neg c, pk_sub (by omega), if_pos (nI_pos' (by omega))]
theorem bd31 {a X i m : Nat} (ha : a ≤ 1000 ^ i) (hX : X ≤ 1000) : a * X ^ m ≤ 1000 ^ (i + m) := by
  rw [Nat.pow_add]
  exact Nat.mul_le_mul ha (Nat.pow_le_pow_left hX m)
theorem bd96 {a i : Nat} (h : a ≤ 1000 ^ i) (hi : i ≤ 31) : a < 10 ^ 96 := by
  have h1 : 1000 ^ i ≤ 1000 ^ 31 := Nat.pow_le_pow_right (by decide) hi
  have h2 : 1000 ^ 31 < 10 ^ 96 := by decide
  omega
theorem one_Num (g : Nat → Int32) : NumR (upd g (0 : Int32).toNatClampNeg 1) 1 1 := by
  refine ⟨by decide, by decide, by decide, by decide, fun j hj => ?_⟩
  have : j = 0 := by omega
  subst this
  rfl
theorem share_PQ {P Q A O T : Nat} {f : Nat → Int32} (h0 : 1 ≤ P) (h1 : P < Q) (h2 : Q ≤ 1000) (hA : A ≤ T) (hO : O ≤ T) (hT : T ≤ 30) : ∃ (s : Nat) (F : Nat → Int32), s_PQ_workOutShare (nI P) (nI Q) f (nI A) (nI O) (nI T) = (nI s, F) ∧ NumR F s (shv P Q A O T) := by
  have t1 := far_le hA hO
  unfold s_PQ_workOutShare
  rw [abs_nI (by omega) (by omega), pk_sub t1, pk_sub (by omega), nI_add]
  dsimp only
  have three : ∀ {X : Nat}, 1 ≤ X → X ≤ 1000 → ∃ (s : Nat) (F : Nat → Int32), (let r1 := (lp_Prod_times (nI X) 1 ((((1 : Int32).toInt - (0 : Int32).toInt).toNat) + 1) (0 : Int32) (upd f (0 : Int32).toNatClampNeg 1) 1);
      let r2 := (lp_Prod_times (nI P) (nI (far A O)) ((((nI (far A O)).toInt - (0 : Int32).toInt).toNat) + 1) (0 : Int32) r1.2 r1.1);
      let r3 := (lp_Prod_times (nI Q) (nI (T - far A O)) ((((nI (T - far A O)).toInt - (0 : Int32).toInt).toNat) + 1) (0 : Int32) r2.2 r2.1);
      (r3.1, r3.2)) = (nI s, F) ∧ NumR F s (X * P ^ far A O * Q ^ (T - far A O)) := by
    intro X hx1 hx2
    have b1 : 1 * X ^ 1 ≤ 1000 ^ (0 + 1) := bd31 (by decide) hx2
    obtain ⟨s1, F1, a1, a2⟩ := times_z (Z := 1) (s := 1) hx1 (by omega) (by decide) (one_Num f) (bd96 b1 (by omega))
    have b2 : 1 * X ^ 1 * P ^ far A O ≤ 1000 ^ (0 + 1 + far A O) := bd31 b1 (by omega)
    obtain ⟨s2, F2, c1, c2⟩ := times_z (X := P) (Z := far A O) h0 (by omega) (by omega) a2 (bd96 b2 (by omega))
    have b3 : 1 * X ^ 1 * P ^ far A O * Q ^ (T - far A O) ≤ 1000 ^ (0 + 1 + far A O + (T - far A O)) := bd31 b2 h2
    obtain ⟨s3, F3, d1, d2⟩ := times_z (X := Q) (Z := T - far A O) (by omega) (by omega) (by omega) c2 (bd96 b3 (by omega))
    rw [Nat.one_mul, Nat.pow_one] at d2
    refine ⟨s3, F3, ?_, d2⟩
    have a1' : lp_Prod_times (nI X) 1 ((((1 : Int32).toInt - (0 : Int32).toInt).toNat) + 1) (0 : Int32) (upd f (0 : Int32).toNatClampNeg 1) 1 = (nI s1, F1) := a1
    dsimp only
    rw [a1']
    dsimp only
    rw [c1]
    dsimp only
    rw [d1]
  have eq0 : ∀ k : Nat, k ≤ 30 → (nI k = 0 ↔ k = 0) := fun k hk => nI_eq (b := 0) (by omega) (by decide)
  unfold shv
  by_cases c0 : T = 0
  · rw [if_pos ((eq0 T hT).mpr c0), if_pos c0]
    have b1 : 1 * (P + Q) ^ 1 < 10 ^ 96 := by
      rw [Nat.one_mul, Nat.pow_one]
      have : 2000 < 10 ^ 96 := by decide
      omega
    obtain ⟨s1, F1, a1, a2⟩ := times_z (X := P + Q) (Z := 1) (s := 1) (by omega) (by omega) (by decide) (one_Num f) b1
    rw [Nat.one_mul, Nat.pow_one] at a2
    refine ⟨s1, F1, ?_, a2⟩
    have a1' : lp_Prod_times (nI (P + Q)) 1 ((((1 : Int32).toInt - (0 : Int32).toInt).toNat) + 1) (0 : Int32) (upd f (0 : Int32).toNatClampNeg 1) 1 = (nI s1, F1) := a1
    rw [a1']
  · rw [if_neg (fun q => c0 ((eq0 T hT).mp q)), if_neg c0]
    have ee : P ^ far A O * Q ^ (T + 1 - far A O) = Q * P ^ far A O * Q ^ (T - far A O) := by
      rw [show T + 1 - far A O = (T - far A O) + 1 from by omega, Nat.pow_succ, Nat.mul_comm (Q ^ (T - far A O)) Q, ← Nat.mul_assoc, Nat.mul_comm (P ^ far A O) Q]
    by_cases c1 : O = 0
    · rw [if_pos ((eq0 O (by omega)).mpr c1), if_pos (Or.inl c1), ee]
      exact three (by omega) h2
    · rw [if_neg (fun q => c1 ((eq0 O (by omega)).mp q))]
      by_cases c2 : O = T
      · rw [if_pos (by rw [c2]), if_pos (Or.inr c2), ee]
        exact three (by omega) h2
      · rw [if_neg (ne_nI (by omega) (by omega) c2), if_neg (by omega)]
        exact three (by omega) (by omega)
/-! writing the digits -/
theorem sh52 {a s : Nat} {g : Nat → Int32} {w : Int32} (hD : Dg g 240 a) (h1 : 1 ≤ s) (h2 : 10 ^ (s - 1) ≤ a) (h3 : a < 10 ^ s) : ∀ (i b : Nat), s - 1 ≤ i → i < 240 → lp_Mo_share_52 (i + 1 + b) (nI i) w g = nI (s - 1) ∧ oklp_Mo_share_52 (i + 1 + b) (nI i) w g := by
  intro i
  induction i with
  | zero =>
    intro b hi _
    rw [show 0 + 1 + b = b + 1 from by omega, lp_Mo_share_52, oklp_Mo_share_52, if_pos (by decide), if_pos (by decide)]
    rw [show s - 1 = 0 from by omega]
    exact ⟨rfl, trivial⟩
  | succ i ih =>
    intro b hi hl
    have hp : ¬ nI (i + 1) ≤ 0 := nI_nle (by omega) (by omega)
    rw [show i + 1 + 1 + b = (i + 1 + b) + 1 from by omega, lp_Mo_share_52, oklp_Mo_share_52, if_neg hp, if_neg hp, nI_clamp (by omega), hD _ hl]
    by_cases c : s - 1 = i + 1
    · have hd : ¬ a / 10 ^ (i + 1) % 10 = 0 := by
        rw [c] at h2
        have k1 := Nat.div_pos h2 (p10 (i + 1))
        have k2 : a / 10 ^ (i + 1) < 10 := by
          apply Nat.div_lt_of_lt_mul
          have h9 : 10 ^ s = 10 ^ (i + 1) * 10 := by rw [show s = i + 1 + 1 from by omega, Nat.pow_succ]
          rw [← h9]
          exact h3
        omega
      rw [if_neg (neR (N := 0) (j := 0) rfl (by omega) (by decide) hd), if_neg (neR (N := 0) (j := 0) rfl (by omega) (by decide) hd), c]
      exact ⟨rfl, vp_in_nI (by omega) (by decide), trivial⟩
    · have hd : a / 10 ^ (i + 1) = 0 := Nat.div_eq_of_lt (Nat.lt_of_lt_of_le h3 (Nat.pow_le_pow_right (by decide) (by omega)))
      rw [hd, Nat.zero_mod, if_pos (show nI 0 = 0 from rfl), if_pos (show nI 0 = 0 from rfl), pk_m1]
      obtain ⟨k1, k2⟩ := ih b (by omega) (by omega)
      exact ⟨k1, vp_in_nI (by omega) (by decide), k2⟩
theorem dig_ch {d : Nat} (hd : d < 10) : vp_nar .char (((48 + nI d).toUInt32 % 65536).toInt32) = nI (48 + d) ∧ (48 + nI d : Int32) = nI (48 + d) := by
  have e : (48 + nI d : Int32) = nI (48 + d) := nI_add 48 d
  refine ⟨?_, e⟩
  rw [pk_vc, e, pk_char, pk_tn (by omega), Nat.mod_eq_of_lt (by omega)]
theorem w_lp {a : Nat} {d e : Nat → Int32} {u : Int32} : ∀ (c n x b : Nat) (f g : Nat → Int32), n + c ≤ 4000 → c ≤ 240 → Dg d c a → Dg e 240 a → (∀ i, i < 1 * n → f i = g i) → ∃ F K : Nat → Int32, lp_Prod_writeInto d (c + 1 + x) (dn c) f (nI n) = (nI (n + c), F) ∧ lp_Mo_share_77 (c + 1 + b) u (dn c) g (nI n) e = (nI (n + c), nI (n + c), K, e) ∧ (∀ i, i < 1 * (n + c) → F i = K i) ∧ oklp_Mo_share_77 (c + 1 + b) u (dn c) g (nI n) e := by
  intro c
  induction c with
  | zero =>
    intro n x b f g h1 h2 h3 h4 h5
    refine ⟨f, g, ?_, ?_, h5, ?_⟩
    · rw [show 0 + 1 + x = x + 1 from by omega, lp_Prod_writeInto, if_pos dn_lt0]
      rfl
    · rw [show 0 + 1 + b = b + 1 from by omega, lp_Mo_share_77, if_pos dn_lt0]
      rfl
    · rw [show 0 + 1 + b = b + 1 from by omega, oklp_Mo_share_77, if_pos dn_lt0]
      trivial
  | succ c ih =>
    intro n x b f g h1 h2 h3 h4 h5
    obtain ⟨F, K, e1, e2, e3, e4⟩ := ih (n + 1) x b (upd f n (nI (48 + a / 10 ^ c % 10))) (upd g n (nI (48 + a / 10 ^ c % 10))) (by omega) (by omega) (fun i hi => h3 i (by omega)) h4 (fun i hi => upd_eq fun q => h5 i (by omega))
    rw [show n + 1 + c = n + (c + 1) from by omega] at e1 e2 e3
    obtain ⟨k1, k2⟩ := dig_ch (d := a / 10 ^ c % 10) (by omega)
    have hcl : (dn (c + 1)).toNatClampNeg = c := nI_clamp (by omega)
    refine ⟨F, K, ?_, ?_, e3, ?_⟩
    · rw [show c + 1 + 1 + x = (c + 1 + x) + 1 from by omega, lp_Prod_writeInto, if_neg (dn_nlt (by omega)), hcl, h3 c (by omega)]
      unfold s_Out_add
      dsimp only
      rw [if_neg (geL (N := 4000) (b := 4000) rfl (by omega) (by decide)), k1, dn_m1, nI_1, nI_clamp (by omega)]
      exact e1
    · rw [show c + 1 + 1 + b = (c + 1 + b) + 1 from by omega, lp_Mo_share_77, if_neg (dn_nlt (by omega)), hcl, h4 c (by omega), k2, dn_m1, nI_1, nI_clamp (by omega)]
      exact e2
    · rw [show c + 1 + 1 + b = (c + 1 + b) + 1 from by omega, oklp_Mo_share_77, if_neg (dn_nlt (by omega)), hcl, h4 c (by omega), k2, dn_m1, nI_1, nI_clamp (by omega)]
      exact ⟨vp_in_nI (by omega) (by decide), up_of (by omega) (by decide), e4⟩
theorem r_share {p q x z v sw wo sd : Int32} {P Q : Nat} {fw fd go ge : Nat → Int32} (hp : p = nI P) (hq : q = nI Q) (h0 : 1 ≤ P) (h1 : P < Q) (h2 : Q ≤ 1000) (h : SeqR 4000 1 fw sw go wo) :
    ok_PQ_share p q fw fd x z v ∧ ok_Mo_share p q go ge x z v ∧ (s_PQ_share p q fw sw fd sd x z v).1 = (s_Mo_share p q go wo ge x z v).1 ∧
    SeqR 4000 1 (s_PQ_share p q fw sw fd sd x z v).2.2.1 (s_PQ_share p q fw sw fd sd x z v).2.1 (s_Mo_share p q go wo ge x z v).2.2.1 (s_Mo_share p q go wo ge x z v).2.1 := by
  subst hp hq
  have hin : ∀ a b : Int32, s_Mo_in a 0 b = s_PQ_isUpTo a b := fun a b => rfl
  unfold ok_PQ_share ok_Mo_share s_PQ_share s_Mo_share
  dsimp only
  rw [hin, hin, hin]
  by_cases c1 : s_PQ_isUpTo v 30 = 0
  · rw [if_pos c1, if_pos c1, if_pos c1, if_pos c1]
    exact ⟨trivial, trivial, rfl, h⟩
  · rw [if_neg c1, if_neg c1, if_neg c1, if_neg c1]
    by_cases c2 : s_PQ_isUpTo x v = 0
    · rw [if_pos c2, if_pos c2, if_pos c2, if_pos c2]
      exact ⟨trivial, trivial, rfl, h⟩
    · rw [if_neg c2, if_neg c2, if_neg c2, if_neg c2]
      by_cases c3 : s_PQ_isUpTo z v = 0
      · rw [if_pos c3, if_pos c3, if_pos c3, if_pos c3]
        exact ⟨trivial, trivial, rfl, h⟩
      · rw [if_neg c3, if_neg c3, if_neg c3, if_neg c3]
        obtain ⟨T, hT, hT2, rfl⟩ := upto_nI c1
        obtain ⟨A, hA, hA2, rfl⟩ := upto_nI c2
        obtain ⟨O, hO, hO2, rfl⟩ := upto_nI c3
        rw [show (30 : Int32).toInt = 30 by decide] at hT
        rw [nI_toInt hT2] at hA hO
        obtain ⟨s, F, w1, ⟨n1, n2, n3, n4, n5⟩⟩ := share_PQ (f := fd) h0 h1 h2 (A := A) (O := O) (T := T) (by omega) (by omega) (by omega)
        have hMo := share_Mo (f := ge) h1 h2 (A := A) (O := O) (T := T) (by omega) (by omega) (by omega)
        obtain ⟨G1, hG1⟩ : ∃ r, s_Mo_shareInto (nI P) (nI Q) ge (nI A) (nI O) (nI T) = r := ⟨_, rfl⟩
        rw [hG1] at hMo
        rw [w1, hG1]
        dsimp only
        have es : (if (96 : Int32) < nI s then (96 : Int32) else nI s) - 1 = dn s := by
          rw [if_neg (nltL (N := 96) (a := 96) rfl n2 (by decide)), dn_sub s n1]
        have ef : ((dn s).toInt + 1).toNat + 1 = s + 1 := by
          obtain ⟨k, rfl⟩ : ∃ k, s = k + 1 := ⟨s - 1, by omega⟩
          show ((nI k).toInt + 1).toNat + 1 = k + 1 + 1
          rw [nI_toInt (by omega)]
          omega
        rw [es, ef]
        obtain ⟨k1, k2⟩ := sh52 (w := 0) hMo n1 n3 n4 239 1 (by omega) (by decide)
        have k1' : lp_Mo_share_52 241 (239 : Int32) (0 : Int32) G1 = nI (s - 1) := k1
        have k2' : oklp_Mo_share_52 241 (239 : Int32) (0 : Int32) G1 := k2
        have ed : nI (s - 1) = dn s := by
          obtain ⟨k, rfl⟩ : ∃ k, s = k + 1 := ⟨s - 1, by omega⟩
          rfl
        obtain ⟨F2, K2, e1, e2, e3, e4⟩ := w_lp (u := dn s) s 0 0 (240 - s) fw go (by omega) (by omega) n5 hMo (fun i hi => absurd hi (by omega))
        rw [Nat.add_zero] at e1
        rw [show s + 1 + (240 - s) = 241 from by omega] at e2 e4
        rw [Nat.zero_add] at e1 e2 e3
        have e1' : lp_Prod_writeInto F (s + 1) (dn s) fw 0 = (nI s, F2) := e1
        have e2' : lp_Mo_share_77 241 (dn s) (dn s) go (0 : Int32) G1 = (nI s, nI s, K2, G1) := e2
        have e4' : oklp_Mo_share_77 241 (dn s) (dn s) go (0 : Int32) G1 := e4
        rw [k1', ed, e1', e2']
        exact ⟨⟨⟨by decide, by decide⟩, up_of n2 (by decide), trivial⟩, ⟨k2', e4'⟩, rfl, s, by omega, rfl, rfl, e3⟩
