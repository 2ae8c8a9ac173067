/-! conditions: the code of both sides, and what it comes to -/
def NumC (S W C : Nat → Int32) (P : Nat → Nat → Nat → Prop) : Prop :=
  (∀ i, S i = 2 → C (2 * i) = 15 → C (2 * i + 1) = W i → P i (i + 1) 1) ∧
  (∀ i c, S i = 3 → C (2 * i) = 13 → W i = nI c → C (2 * i + 1) = nI c → c < 6 → P i (i + 1) 1) ∧
  (∀ a b h, P a b h → S b = -1 → C (2 * b) = 41 → P a (b + 1) h) ∧
  (∀ a b c h h' k, P a b h → P b c h' → 23 ≤ k → k ≤ 25 → S c = nI k → C (2 * c) = nI (km k) → P a (c + 1) (max h (h' + 1)))
/-- the code from a to b comes to a number, with at most h on the pile -/
def NumD (S W C : Nat → Int32) (a b h : Nat) : Prop := ∀ P : Nat → Nat → Nat → Prop, NumC S W C P → P a b h
theorem NumD.lit {S W C : Nat → Int32} {i : Nat} (h1 : S i = 2) (h2 : C (2 * i) = 15) (h3 : C (2 * i + 1) = W i) : NumD S W C i (i + 1) 1 := fun _ hP => hP.1 i h1 h2 h3
theorem NumD.col {S W C : Nat → Int32} {i c : Nat} (h1 : S i = 3) (h2 : C (2 * i) = 13) (h3 : W i = nI c) (h4 : C (2 * i + 1) = nI c) (h5 : c < 6) : NumD S W C i (i + 1) 1 := fun _ hP => hP.2.1 i c h1 h2 h3 h4 h5
theorem NumD.neg {S W C : Nat → Int32} {a b h : Nat} (d : NumD S W C a b h) (h1 : S b = -1) (h2 : C (2 * b) = 41) : NumD S W C a (b + 1) h := fun P hP => hP.2.2.1 a b h (d P hP) h1 h2
theorem NumD.bin {S W C : Nat → Int32} {a b c h h' k : Nat} (d1 : NumD S W C a b h) (d2 : NumD S W C b c h') (k1 : 23 ≤ k) (k2 : k ≤ 25) (h1 : S c = nI k) (h2 : C (2 * c) = nI (km k)) : NumD S W C a (c + 1) (max h (h' + 1)) := fun P hP => hP.2.2.2 a b c h h' k (d1 P hP) (d2 P hP) k1 k2 h1 h2
theorem NumD.ind {S W C : Nat → Int32} {P : Nat → Nat → Nat → Prop} (h1 : ∀ i, S i = 2 → C (2 * i) = 15 → C (2 * i + 1) = W i → P i (i + 1) 1) (h2 : ∀ i c, S i = 3 → C (2 * i) = 13 → W i = nI c → C (2 * i + 1) = nI c → c < 6 → P i (i + 1) 1)
    (h3 : ∀ a b h, NumD S W C a b h → P a b h → S b = -1 → C (2 * b) = 41 → P a (b + 1) h) (h4 : ∀ a b c h h' k, NumD S W C a b h → NumD S W C b c h' → P a b h → P b c h' → 23 ≤ k → k ≤ 25 → S c = nI k → C (2 * c) = nI (km k) → P a (c + 1) (max h (h' + 1)))
    {a b h : Nat} (d : NumD S W C a b h) : P a b h :=
  (d (fun a b h => NumD S W C a b h ∧ P a b h) ⟨fun i e1 e2 e3 => ⟨NumD.lit e1 e2 e3, h1 i e1 e2 e3⟩, fun i c e1 e2 e3 e4 e5 => ⟨NumD.col e1 e2 e3 e4 e5, h2 i c e1 e2 e3 e4 e5⟩, fun a b h d e1 e2 => ⟨NumD.neg d.1 e1 e2, h3 a b h d.1 d.2 e1 e2⟩, fun a b c h h' k d1 d2 k1 k2 e1 e2 => ⟨NumD.bin d1.1 d2.1 k1 k2 e1 e2, h4 a b c h h' k d1.1 d2.1 d1.2 d2.2 k1 k2 e1 e2⟩⟩).2
def BooC (S W C : Nat → Int32) (L : Nat) (P : Nat → Nat → Nat → Prop) : Prop :=
  (∀ i l, S i = 4 → C (2 * i) = 40 → W i = nI l → C (2 * i + 1) = nI l → l < L → P i (i + 1) 1) ∧
  (∀ a b c h h' k, NumD S W C a b h → NumD S W C b c h' → 17 ≤ k → k ≤ 22 → S c = nI k → C (2 * c) = nI (km k) → P a (c + 1) (max h (h' + 1))) ∧
  (∀ a b h, P a b h → S b = 16 → C (2 * b) = 10 → P a (b + 1) h) ∧
  (∀ a b c h h' k, P a b h → P b c h' → 14 ≤ k → k ≤ 15 → S c = nI k → C (2 * c) = nI (km k) → P a (c + 1) (max h (h' + 1)))
/-- the code from a to b comes to a truth; it may name the first L lets -/
def BooD (S W C : Nat → Int32) (L a b h : Nat) : Prop := ∀ P : Nat → Nat → Nat → Prop, BooC S W C L P → P a b h
theorem BooD.name {S W C : Nat → Int32} {L i l : Nat} (h1 : S i = 4) (h2 : C (2 * i) = 40) (h3 : W i = nI l) (h4 : C (2 * i + 1) = nI l) (h5 : l < L) : BooD S W C L i (i + 1) 1 := fun _ hP => hP.1 i l h1 h2 h3 h4 h5
theorem BooD.cmp {S W C : Nat → Int32} {L a b c h h' k : Nat} (d1 : NumD S W C a b h) (d2 : NumD S W C b c h') (k1 : 17 ≤ k) (k2 : k ≤ 22) (h1 : S c = nI k) (h2 : C (2 * c) = nI (km k)) : BooD S W C L a (c + 1) (max h (h' + 1)) := fun _ hP => hP.2.1 a b c h h' k d1 d2 k1 k2 h1 h2
theorem BooD.not {S W C : Nat → Int32} {L a b h : Nat} (d : BooD S W C L a b h) (h1 : S b = 16) (h2 : C (2 * b) = 10) : BooD S W C L a (b + 1) h := fun P hP => hP.2.2.1 a b h (d P hP) h1 h2
theorem BooD.bin {S W C : Nat → Int32} {L a b c h h' k : Nat} (d1 : BooD S W C L a b h) (d2 : BooD S W C L b c h') (k1 : 14 ≤ k) (k2 : k ≤ 15) (h1 : S c = nI k) (h2 : C (2 * c) = nI (km k)) : BooD S W C L a (c + 1) (max h (h' + 1)) := fun P hP => hP.2.2.2 a b c h h' k (d1 P hP) (d2 P hP) k1 k2 h1 h2
theorem BooD.ind {S W C : Nat → Int32} {L : Nat} {P : Nat → Nat → Nat → Prop} (h1 : ∀ i l, S i = 4 → C (2 * i) = 40 → W i = nI l → C (2 * i + 1) = nI l → l < L → P i (i + 1) 1) (h2 : ∀ a b c h h' k, NumD S W C a b h → NumD S W C b c h' → 17 ≤ k → k ≤ 22 → S c = nI k → C (2 * c) = nI (km k) → P a (c + 1) (max h (h' + 1)))
    (h3 : ∀ a b h, BooD S W C L a b h → P a b h → S b = 16 → C (2 * b) = 10 → P a (b + 1) h) (h4 : ∀ a b c h h' k, BooD S W C L a b h → BooD S W C L b c h' → P a b h → P b c h' → 14 ≤ k → k ≤ 15 → S c = nI k → C (2 * c) = nI (km k) → P a (c + 1) (max h (h' + 1)))
    {a b h : Nat} (d : BooD S W C L a b h) : P a b h :=
  (d (fun a b h => BooD S W C L a b h ∧ P a b h) ⟨fun i l e1 e2 e3 e4 e5 => ⟨BooD.name e1 e2 e3 e4 e5, h1 i l e1 e2 e3 e4 e5⟩, fun a b c h h' k d1 d2 k1 k2 e1 e2 => ⟨BooD.cmp d1 d2 k1 k2 e1 e2, h2 a b c h h' k d1 d2 k1 k2 e1 e2⟩, fun a b h d e1 e2 => ⟨BooD.not d.1 e1 e2, h3 a b h d.1 d.2 e1 e2⟩, fun a b c h h' k d1 d2 k1 k2 e1 e2 => ⟨BooD.bin d1.1 d2.1 k1 k2 e1 e2, h4 a b c h h' k d1.1 d2.1 d1.2 d2.2 k1 k2 e1 e2⟩⟩).2
theorem NumD.lt {S W C : Nat → Int32} {a b h : Nat} (d : NumD S W C a b h) : a < b ∧ 1 ≤ h :=
  NumD.ind (P := fun a b h => a < b ∧ 1 ≤ h) (fun i _ _ _ => ⟨by omega, by omega⟩) (fun i c _ _ _ _ _ => ⟨by omega, by omega⟩) (fun a b h _ ih _ _ => ⟨by have := ih.1; omega, ih.2⟩) (fun a b c h h' k _ _ i1 i2 _ _ _ _ => ⟨by have := i1.1; have := i2.1; omega, by have := i1.2; omega⟩) d
theorem BooD.lt {S W C : Nat → Int32} {L a b h : Nat} (d : BooD S W C L a b h) : a < b ∧ 1 ≤ h :=
  BooD.ind (P := fun a b h => a < b ∧ 1 ≤ h) (fun i l _ _ _ _ _ => ⟨by omega, by omega⟩) (fun a b c h h' k d1 d2 _ _ _ _ => ⟨by have := d1.lt; have := d2.lt; omega, by have := d1.lt; omega⟩) (fun a b h _ ih _ _ => ⟨by have := ih.1; omega, ih.2⟩) (fun a b c h h' k _ _ i1 i2 _ _ _ _ => ⟨by have := i1.1; have := i2.1; omega, by have := i1.2; omega⟩) d
theorem NumD.move {S W C S' W' C' : Nat → Int32} {a b h n : Nat} (d : NumD S W C a b h) (hb : b ≤ n) (h1 : ∀ i, i < n → S' i = S i) (h2 : ∀ i, i < n → W' i = W i) (h3 : ∀ i, i < 2 * n → C' i = C i) : NumD S' W' C' a b h := by
  refine NumD.ind (P := fun a b h => b ≤ n → NumD S' W' C' a b h) ?_ ?_ ?_ ?_ d hb
  · intro i e1 e2 e3 hb
    exact .lit (by rw [h1 _ (by omega)]; exact e1) (by rw [h3 _ (by omega)]; exact e2) (by rw [h3 _ (by omega), h2 _ (by omega)]; exact e3)
  · intro i c e1 e2 e3 e4 e5 hb
    exact .col (by rw [h1 _ (by omega)]; exact e1) (by rw [h3 _ (by omega)]; exact e2) (by rw [h2 _ (by omega)]; exact e3) (by rw [h3 _ (by omega)]; exact e4) e5
  · intro a b h d ih e1 e2 hb
    exact .neg (ih (by omega)) (by rw [h1 _ (by omega)]; exact e1) (by rw [h3 _ (by omega)]; exact e2)
  · intro a b c h h' k d1 d2 ih1 ih2 k1 k2 e1 e2 hb
    exact .bin (ih1 (by have := d2.lt; omega)) (ih2 (by omega)) k1 k2 (by rw [h1 _ (by omega)]; exact e1) (by rw [h3 _ (by omega)]; exact e2)
theorem BooD.move {S W C S' W' C' : Nat → Int32} {L L' a b h n : Nat} (d : BooD S W C L a b h) (hL : L ≤ L') (hb : b ≤ n) (h1 : ∀ i, i < n → S' i = S i) (h2 : ∀ i, i < n → W' i = W i) (h3 : ∀ i, i < 2 * n → C' i = C i) : BooD S' W' C' L' a b h := by
  refine BooD.ind (P := fun a b h => b ≤ n → BooD S' W' C' L' a b h) ?_ ?_ ?_ ?_ d hb
  · intro i l e1 e2 e3 e4 e5 hb
    exact .name (by rw [h1 _ (by omega)]; exact e1) (by rw [h3 _ (by omega)]; exact e2) (by rw [h2 _ (by omega)]; exact e3) (by rw [h3 _ (by omega)]; exact e4) (by omega)
  · intro a b c h h' k d1 d2 k1 k2 e1 e2 hb
    exact .cmp (d1.move (by have := d2.lt; omega) h1 h2 h3) (d2.move (by omega) h1 h2 h3) k1 k2 (by rw [h1 _ (by omega)]; exact e1) (by rw [h3 _ (by omega)]; exact e2)
  · intro a b h d ih e1 e2 hb
    exact .not (ih (by omega)) (by rw [h1 _ (by omega)]; exact e1) (by rw [h3 _ (by omega)]; exact e2)
  · intro a b c h h' k d1 d2 ih1 ih2 k1 k2 e1 e2 hb
    exact .bin (ih1 (by have := d2.lt; omega)) (ih2 (by omega)) k1 k2 (by rw [h1 _ (by omega)]; exact e1) (by rw [h3 _ (by omega)]; exact e2)
/-! the class's steps -/
theorem push_nI {g : Nat → Int32} {k : Nat} {x : Int32} (hk : k < 64) : s_Cond_push g (nI k) x = (nI (k + 1), upd g k x) := by
  unfold s_Cond_push
  rw [if_neg (geL (N := 64) (b := 64) rfl hk (by decide)), nI_1, nI_clamp (by omega)]
theorem pop_nI {g : Nat → Int32} {k : Nat} (hk : k < 64) : s_Cond_pop g (nI (k + 1)) = (g k, nI k) := by
  unfold s_Cond_pop
  rw [if_neg (nltR (N := 1) (b := 1) rfl (by omega) (by omega)), if_pos (leR (N := 64) (b := 64) rfl (by omega) (by decide)), nI_pred, nI_clamp (by omega)]
theorem tabAt_nI {tb : Nat → Int32} {r c : Nat} (hr : r < 60) (hc : c < 6) : s_Tab_at tb (nI r) (nI c) = tb (6 * r + c) := by
  unfold s_Tab_at
  rw [t_6', nI_add, if_neg (nI_pos (by omega)), if_neg (geL (N := 360) (b := 360) rfl (by omega) (by decide)), nI_clamp (by omega)]
theorem take_2 {g ho tb : Nat → Int32} {k : Nat} {z row : Int32} (hk : k < 64) : s_Cond_take g (nI k) ho tb 2 z row = (nI (k + 1), upd g k z) := by
  unfold s_Cond_take
  rw [if_neg (by decide), if_pos rfl, push_nI hk]
theorem take_3 {g ho tb : Nat → Int32} {k r c : Nat} (hk : k < 64) (hr : r < 60) (hc : c < 6) : s_Cond_take g (nI k) ho tb 3 (nI c) (nI r) = (nI (k + 1), upd g k (tb (6 * r + c))) := by
  unfold s_Cond_take
  rw [if_neg (by decide), if_neg (by decide), if_pos rfl, tabAt_nI hr hc]
  dsimp only
  rw [push_nI hk]
theorem take_4 {g ho tb : Nat → Int32} {k l : Nat} {row : Int32} (hk : k < 64) (hl : l < 10) : s_Cond_take g (nI k) ho tb 4 (nI l) row = (nI (k + 1), upd g k (if ho l = 0 then 0 else 1)) := by
  unfold s_Cond_take
  rw [if_neg (by decide), if_neg (by decide), if_neg (by decide), if_pos rfl, if_neg (nI_pos (by omega)), if_neg (geL (N := 10) (b := 10) rfl hl (by decide)), nI_clamp (by omega), push_nI hk, push_nI hk]
  by_cases c : ho l = 0
  · rw [if_pos c, if_pos c]
  · rw [if_neg c, if_neg c]
theorem take_neg {g ho tb : Nat → Int32} {k : Nat} {z row : Int32} (hk : k < 64) : s_Cond_take g (nI (k + 1)) ho tb (-1) z row = (nI (k + 1), upd g k (-(g k))) := by
  unfold s_Cond_take
  rw [if_pos rfl, pop_nI hk]
  dsimp only
  rw [push_nI hk]
theorem take_not {g ho tb : Nat → Int32} {k : Nat} {z row : Int32} (hk : k < 64) : s_Cond_take g (nI (k + 1)) ho tb 16 z row = (nI (k + 1), upd g k (1 - g k)) := by
  unfold s_Cond_take
  rw [if_neg (by decide), if_neg (by decide), if_neg (by decide), if_neg (by decide), if_pos rfl, pop_nI hk]
  dsimp only
  rw [push_nI hk]
theorem take_bin {g ho tb : Nat → Int32} {k s : Nat} {z row : Int32} (hk : k + 1 < 64) (hs : 14 ≤ s) (hs2 : s ≤ 25) (hs3 : s ≠ 16) : s_Cond_take g (nI (k + 2)) ho tb (nI s) z row = (nI (k + 1), upd g k (s_Cond_joined (nI s) (g k) (g (k + 1)))) := by
  have h1 : ¬ nI s = -1 := fun q => by
    have := congrArg Int32.toInt q
    rw [nI_toInt (by omega), show (-1 : Int32).toInt = -1 by decide] at this
    omega
  unfold s_Cond_take
  rw [if_neg h1, if_neg (neR (N := 2) (j := 2) rfl (by omega) (by decide) (by omega)), if_neg (neR (N := 3) (j := 3) rfl (by omega) (by decide) (by omega)), if_neg (neR (N := 4) (j := 4) rfl (by omega) (by decide) (by omega)), if_neg (neR (N := 16) (j := 16) rfl (by omega) (by decide) (by omega)), pop_nI hk]
  dsimp only
  rw [pop_nI (by omega)]
  dsimp only
  rw [push_nI (by omega)]
theorem c_step {S W ho tb g : Nat → Int32} {e r k i m : Nat} (hi : i < e) (he : e ≤ 2000) {H : Nat} {G : Nat → Int32} (ht : s_Cond_take g (nI k) ho tb (S i) (W i) (nI r) = (nI H, G)) : lp_Cond_hold S W ho tb (nI e) (nI r) (m + 1) (nI i) g (nI k) = lp_Cond_hold S W ho tb (nI e) (nI r) m (nI (i + 1)) G (nI H) := by
  rw [lp_Cond_hold, if_neg (nI_ge hi (by omega)), if_neg (geL (N := 2000) (b := 2000) rfl (by omega) (by decide)), if_neg (geL (N := 2000) (b := 2000) rfl (by omega) (by decide)), nI_clamp (by omega), ht, nI_1]
/-! the reference's steps -/
theorem jud_17 (x y : Int32) : s_Mo_judge 20 x y = s_Cond_joined 17 x y := by
  have e1 : s_Mo_judge 20 x y = if y < x then 0 else 1 := rfl
  have e2 : s_Cond_joined 17 x y = if (if y < x then (0 : Int32) else 1) = 0 then 0 else 1 := rfl
  rw [e1, e2]
  by_cases h : y < x
  · rw [if_pos h, if_pos rfl]
  · rw [if_neg h, if10]
theorem jud_18 (x y : Int32) : s_Mo_judge 21 x y = s_Cond_joined 18 x y := by
  have e1 : s_Mo_judge 21 x y = if x < y then 0 else 1 := rfl
  have e2 : s_Cond_joined 18 x y = if (if x < y then (0 : Int32) else 1) = 0 then 0 else 1 := rfl
  rw [e1, e2]
  by_cases h : x < y
  · rw [if_pos h, if_pos rfl]
  · rw [if_neg h, if10]
theorem jud_19 (x y : Int32) : s_Mo_judge 22 x y = s_Cond_joined 19 x y := by
  have e1 : s_Mo_judge 22 x y = if x = y then 0 else 1 := rfl
  have e2 : s_Cond_joined 19 x y = if (if x = y then (0 : Int32) else 1) = 0 then 0 else 1 := rfl
  rw [e1, e2]
  by_cases h : x = y
  · rw [if_pos h, if_pos rfl]
  · rw [if_neg h, if10]
theorem jud_20 (x y : Int32) : s_Mo_judge 18 x y = s_Cond_joined 20 x y := by
  have e1 : s_Mo_judge 18 x y = if y ≤ x then 0 else 1 := rfl
  have e2 : s_Cond_joined 20 x y = if (if y ≤ x then (0 : Int32) else 1) = 0 then 0 else 1 := rfl
  rw [e1, e2]
  by_cases h : y ≤ x
  · rw [if_pos h, if_pos rfl]
  · rw [if_neg h, if10]
theorem jud_21 (x y : Int32) : s_Mo_judge 19 x y = s_Cond_joined 21 x y := by
  have e1 : s_Mo_judge 19 x y = if x ≤ y then 0 else 1 := rfl
  have e2 : s_Cond_joined 21 x y = if (if x ≤ y then (0 : Int32) else 1) = 0 then 0 else 1 := rfl
  rw [e1, e2]
  by_cases h : x ≤ y
  · rw [if_pos h, if_pos rfl]
  · rw [if_neg h, if10]
theorem jud_22 (x y : Int32) : s_Mo_judge 17 x y = s_Cond_joined 22 x y := by
  have e1 : s_Mo_judge 17 x y = if x = y then 1 else 0 := rfl
  have e2 : s_Cond_joined 22 x y = if (if x = y then (1 : Int32) else 0) = 0 then 0 else 1 := rfl
  rw [e1, e2]
  by_cases h : x = y
  · rw [if_pos h, if10]
  · rw [if_neg h, if_pos rfl]
theorem mo_15 {T C lv p : Nat → Int32} {e r k i m : Nat} (hi : i < e) (he : e ≤ 2000) (hk : k < 400) (hc : C (2 * i) = 15) :
    lp_Mo_work_6 T C lv (nI (2 * e)) (nI r) (m + 1) (nI k) (nI (2 * i)) p = lp_Mo_work_6 T C lv (nI (2 * e)) (nI r) m (nI (k + 1)) (nI (2 * (i + 1))) (upd p k (C (2 * i + 1))) ∧
    (oklp_Mo_work_6 T C lv (nI (2 * e)) (nI r) m (nI (k + 1)) (nI (2 * (i + 1))) (upd p k (C (2 * i + 1))) → oklp_Mo_work_6 T C lv (nI (2 * e)) (nI r) (m + 1) (nI k) (nI (2 * i)) p) := by
  have hlt : ¬ nI (2 * e) ≤ nI (2 * i) := nI_ge (by omega) (by omega)
  have e1 : (nI (2 * i)).toNatClampNeg = 2 * i := nI_clamp (by omega)
  have e2 : (nI (2 * i) + 1).toNatClampNeg = 2 * i + 1 := pk_cl (2 * i + 1) (nI_add (2 * i) 1)
  have e3 : nI (2 * i) + 2 = nI (2 * (i + 1)) := nI_add (2 * i) 2
  have v1 : vp_in (nI (2 * i)) 4000 := vp_in_nI (by omega) (by decide)
  have v2 : vp_in (nI (2 * i) + 1) 4000 := pk_in (2 * i + 1) 4000 (by omega) (nI_add (2 * i) 1)
  have e4 : (nI k).toNatClampNeg = k := nI_clamp (by omega)
  have v3 : vp_in (nI k) 400 := vp_in_nI (by omega) (by decide)
  rw [lp_Mo_work_6, oklp_Mo_work_6, if_neg hlt, if_neg hlt, e1, e2, e3, e4, hc, nI_1 k, if_pos rfl, if_pos rfl, if_pos rfl, if_pos rfl]
  exact ⟨rfl, fun z => ⟨v1, v2, v3, z⟩⟩
theorem mo_13 {T C lv p : Nat → Int32} {e r k i m c : Nat} (hi : i < e) (he : e ≤ 2000) (hk : k < 400) (hc : C (2 * i) = 13) (hw : C (2 * i + 1) = nI c) (hc6 : c < 6) (hr : r < 60) :
    lp_Mo_work_6 T C lv (nI (2 * e)) (nI r) (m + 1) (nI k) (nI (2 * i)) p = lp_Mo_work_6 T C lv (nI (2 * e)) (nI r) m (nI (k + 1)) (nI (2 * (i + 1))) (upd p k (T (6 * r + c))) ∧
    (oklp_Mo_work_6 T C lv (nI (2 * e)) (nI r) m (nI (k + 1)) (nI (2 * (i + 1))) (upd p k (T (6 * r + c))) → oklp_Mo_work_6 T C lv (nI (2 * e)) (nI r) (m + 1) (nI k) (nI (2 * i)) p) := by
  have hlt : ¬ nI (2 * e) ≤ nI (2 * i) := nI_ge (by omega) (by omega)
  have e1 : (nI (2 * i)).toNatClampNeg = 2 * i := nI_clamp (by omega)
  have e2 : (nI (2 * i) + 1).toNatClampNeg = 2 * i + 1 := pk_cl (2 * i + 1) (nI_add (2 * i) 1)
  have e3 : nI (2 * i) + 2 = nI (2 * (i + 1)) := nI_add (2 * i) 2
  have v1 : vp_in (nI (2 * i)) 4000 := vp_in_nI (by omega) (by decide)
  have v2 : vp_in (nI (2 * i) + 1) 4000 := pk_in (2 * i + 1) 4000 (by omega) (nI_add (2 * i) 1)
  have e4 : (nI k).toNatClampNeg = k := nI_clamp (by omega)
  have v3 : vp_in (nI k) 400 := vp_in_nI (by omega) (by decide)
  rw [lp_Mo_work_6, oklp_Mo_work_6, if_neg hlt, if_neg hlt, e1, e2, e3, e4, hc, hw, nI_1 k, if_neg (by decide), if_pos rfl, if_neg (by decide), if_pos rfl, if_neg (by decide), if_pos rfl, if_neg (by decide), if_pos rfl]
  have e5 : (6 * nI r + nI c).toNatClampNeg = 6 * r + c := pk_cl (6 * r + c) (by rw [mo_6, nI_add])
  rw [e5]
  exact ⟨rfl, fun z => ⟨v1, v2, pk_in (6 * r + c) 366 (by omega) (by rw [mo_6, nI_add]), v3, z⟩⟩
theorem mo_40 {T C lv p : Nat → Int32} {e r k i m c : Nat} (hi : i < e) (he : e ≤ 2000) (hk : k < 400) (hc : C (2 * i) = 40) (hw : C (2 * i + 1) = nI c) (hc6 : c < 10) :
    lp_Mo_work_6 T C lv (nI (2 * e)) (nI r) (m + 1) (nI k) (nI (2 * i)) p = lp_Mo_work_6 T C lv (nI (2 * e)) (nI r) m (nI (k + 1)) (nI (2 * (i + 1))) (upd p k (lv c)) ∧
    (oklp_Mo_work_6 T C lv (nI (2 * e)) (nI r) m (nI (k + 1)) (nI (2 * (i + 1))) (upd p k (lv c)) → oklp_Mo_work_6 T C lv (nI (2 * e)) (nI r) (m + 1) (nI k) (nI (2 * i)) p) := by
  have hlt : ¬ nI (2 * e) ≤ nI (2 * i) := nI_ge (by omega) (by omega)
  have e1 : (nI (2 * i)).toNatClampNeg = 2 * i := nI_clamp (by omega)
  have e2 : (nI (2 * i) + 1).toNatClampNeg = 2 * i + 1 := pk_cl (2 * i + 1) (nI_add (2 * i) 1)
  have e3 : nI (2 * i) + 2 = nI (2 * (i + 1)) := nI_add (2 * i) 2
  have v1 : vp_in (nI (2 * i)) 4000 := vp_in_nI (by omega) (by decide)
  have v2 : vp_in (nI (2 * i) + 1) 4000 := pk_in (2 * i + 1) 4000 (by omega) (nI_add (2 * i) 1)
  have e4 : (nI k).toNatClampNeg = k := nI_clamp (by omega)
  have v3 : vp_in (nI k) 400 := vp_in_nI (by omega) (by decide)
  rw [lp_Mo_work_6, oklp_Mo_work_6, if_neg hlt, if_neg hlt, e1, e2, e3, e4, hc, hw, nI_1 k, if_neg (by decide), if_neg (by decide), if_pos rfl, if_neg (by decide), if_neg (by decide), if_neg (by decide), if_neg (by decide), if_pos rfl, if_neg (by decide), if_neg (by decide)]
  rw [nI_clamp (show c < 2 ^ 31 by omega)]
  exact ⟨rfl, fun z => ⟨v1, v2, vp_in_nI hc6 (by decide), v3, z⟩⟩
theorem mo_10 {T C lv p : Nat → Int32} {e r k i m : Nat} (hi : i < e) (he : e ≤ 2000) (hk : k < 400) (hc : C (2 * i) = 10) :
    lp_Mo_work_6 T C lv (nI (2 * e)) (nI r) (m + 1) (nI (k + 1)) (nI (2 * i)) p = lp_Mo_work_6 T C lv (nI (2 * e)) (nI r) m (nI (k + 1)) (nI (2 * (i + 1))) (upd p k (1 - p k)) ∧
    (oklp_Mo_work_6 T C lv (nI (2 * e)) (nI r) m (nI (k + 1)) (nI (2 * (i + 1))) (upd p k (1 - p k)) → oklp_Mo_work_6 T C lv (nI (2 * e)) (nI r) (m + 1) (nI (k + 1)) (nI (2 * i)) p) := by
  have hlt : ¬ nI (2 * e) ≤ nI (2 * i) := nI_ge (by omega) (by omega)
  have e1 : (nI (2 * i)).toNatClampNeg = 2 * i := nI_clamp (by omega)
  have e2 : (nI (2 * i) + 1).toNatClampNeg = 2 * i + 1 := pk_cl (2 * i + 1) (nI_add (2 * i) 1)
  have e3 : nI (2 * i) + 2 = nI (2 * (i + 1)) := nI_add (2 * i) 2
  have v1 : vp_in (nI (2 * i)) 4000 := vp_in_nI (by omega) (by decide)
  have v2 : vp_in (nI (2 * i) + 1) 4000 := pk_in (2 * i + 1) 4000 (by omega) (nI_add (2 * i) 1)
  have e4 : (nI k).toNatClampNeg = k := nI_clamp (by omega)
  have v3 : vp_in (nI k) 400 := vp_in_nI (by omega) (by decide)
  rw [lp_Mo_work_6, oklp_Mo_work_6, if_neg hlt, if_neg hlt, e1, e2, e3, nI_pred k, e4, hc, if_neg (by decide), if_neg (by decide), if_neg (by decide), if_pos rfl, if_pos rfl, if_neg (by decide), if_neg (by decide), if_neg (by decide), if_pos rfl, if_pos rfl]
  exact ⟨rfl, fun z => ⟨v1, v2, v3, v3, z⟩⟩
theorem mo_41 {T C lv p : Nat → Int32} {e r k i m : Nat} (hi : i < e) (he : e ≤ 2000) (hk : k < 400) (hc : C (2 * i) = 41) :
    lp_Mo_work_6 T C lv (nI (2 * e)) (nI r) (m + 1) (nI (k + 1)) (nI (2 * i)) p = lp_Mo_work_6 T C lv (nI (2 * e)) (nI r) m (nI (k + 1)) (nI (2 * (i + 1))) (upd p k (-(p k))) ∧
    (oklp_Mo_work_6 T C lv (nI (2 * e)) (nI r) m (nI (k + 1)) (nI (2 * (i + 1))) (upd p k (-(p k))) → oklp_Mo_work_6 T C lv (nI (2 * e)) (nI r) (m + 1) (nI (k + 1)) (nI (2 * i)) p) := by
  have hlt : ¬ nI (2 * e) ≤ nI (2 * i) := nI_ge (by omega) (by omega)
  have e1 : (nI (2 * i)).toNatClampNeg = 2 * i := nI_clamp (by omega)
  have e2 : (nI (2 * i) + 1).toNatClampNeg = 2 * i + 1 := pk_cl (2 * i + 1) (nI_add (2 * i) 1)
  have e3 : nI (2 * i) + 2 = nI (2 * (i + 1)) := nI_add (2 * i) 2
  have v1 : vp_in (nI (2 * i)) 4000 := vp_in_nI (by omega) (by decide)
  have v2 : vp_in (nI (2 * i) + 1) 4000 := pk_in (2 * i + 1) 4000 (by omega) (nI_add (2 * i) 1)
  have e4 : (nI k).toNatClampNeg = k := nI_clamp (by omega)
  have v3 : vp_in (nI k) 400 := vp_in_nI (by omega) (by decide)
  rw [lp_Mo_work_6, oklp_Mo_work_6, if_neg hlt, if_neg hlt, e1, e2, e3, nI_pred k, e4, hc, if_neg (by decide), if_neg (by decide), if_neg (by decide), if_neg (by decide), if_pos rfl, if_neg (by decide), if_neg (by decide), if_neg (by decide), if_neg (by decide), if_neg (by decide), if_pos rfl, if_neg (by decide)]
  exact ⟨rfl, fun z => ⟨v1, v2, v3, v3, z⟩⟩
theorem mo_b23 {T C lv p : Nat → Int32} {e r k i m : Nat} (hi : i < e) (he : e ≤ 2000) (hk : k + 1 < 400) (hc : C (2 * i) = 23) :
    lp_Mo_work_6 T C lv (nI (2 * e)) (nI r) (m + 1) (nI (k + 2)) (nI (2 * i)) p = lp_Mo_work_6 T C lv (nI (2 * e)) (nI r) m (nI (k + 1)) (nI (2 * (i + 1))) (upd p k (s_Cond_joined 23 (p k) (p (k + 1)))) ∧
    (oklp_Mo_work_6 T C lv (nI (2 * e)) (nI r) m (nI (k + 1)) (nI (2 * (i + 1))) (upd p k (s_Cond_joined 23 (p k) (p (k + 1)))) → oklp_Mo_work_6 T C lv (nI (2 * e)) (nI r) (m + 1) (nI (k + 2)) (nI (2 * i)) p) := by
  have hlt : ¬ nI (2 * e) ≤ nI (2 * i) := nI_ge (by omega) (by omega)
  have e1 : (nI (2 * i)).toNatClampNeg = 2 * i := nI_clamp (by omega)
  have e2 : (nI (2 * i) + 1).toNatClampNeg = 2 * i + 1 := pk_cl (2 * i + 1) (nI_add (2 * i) 1)
  have e3 : nI (2 * i) + 2 = nI (2 * (i + 1)) := nI_add (2 * i) 2
  have v1 : vp_in (nI (2 * i)) 4000 := vp_in_nI (by omega) (by decide)
  have v2 : vp_in (nI (2 * i) + 1) 4000 := pk_in (2 * i + 1) 4000 (by omega) (nI_add (2 * i) 1)
  have e4 : (nI k).toNatClampNeg = k := nI_clamp (by omega)
  have v3 : vp_in (nI k) 400 := vp_in_nI (by omega) (by decide)
  have e6 : nI (k + 2) - 2 = nI k := pk_sub (a := k + 2) (b := 2) (by omega)
  have e7 : nI (k + 2) - 1 = nI (k + 1) := nI_pred (k + 1)
  have e8 : nI (k + 2) + (-1) = nI (k + 1) := pk_m1 (k + 1)
  have e9 : (nI (k + 1)).toNatClampNeg = k + 1 := nI_clamp (by omega)
  have v4 : vp_in (nI (k + 1)) 400 := vp_in_nI (by omega) (by decide)
  rw [lp_Mo_work_6, oklp_Mo_work_6, if_neg hlt, if_neg hlt, e1, e2, e3, e6, e7, e8, nI_pred k, e4, e9, hc, if_neg (by decide), if_neg (by decide), if_neg (by decide), if_neg (by decide), if_neg (by decide), if_pos rfl, if_neg (by decide), if_neg (by decide), if_neg (by decide), if_neg (by decide), if_neg (by decide), if_pos rfl]
  exact ⟨rfl, fun z => ⟨v1, v2, v3, v4, v3, z⟩⟩
theorem mo_b24 {T C lv p : Nat → Int32} {e r k i m : Nat} (hi : i < e) (he : e ≤ 2000) (hk : k + 1 < 400) (hc : C (2 * i) = 24) :
    lp_Mo_work_6 T C lv (nI (2 * e)) (nI r) (m + 1) (nI (k + 2)) (nI (2 * i)) p = lp_Mo_work_6 T C lv (nI (2 * e)) (nI r) m (nI (k + 1)) (nI (2 * (i + 1))) (upd p k (s_Cond_joined 24 (p k) (p (k + 1)))) ∧
    (oklp_Mo_work_6 T C lv (nI (2 * e)) (nI r) m (nI (k + 1)) (nI (2 * (i + 1))) (upd p k (s_Cond_joined 24 (p k) (p (k + 1)))) → oklp_Mo_work_6 T C lv (nI (2 * e)) (nI r) (m + 1) (nI (k + 2)) (nI (2 * i)) p) := by
  have hlt : ¬ nI (2 * e) ≤ nI (2 * i) := nI_ge (by omega) (by omega)
  have e1 : (nI (2 * i)).toNatClampNeg = 2 * i := nI_clamp (by omega)
  have e2 : (nI (2 * i) + 1).toNatClampNeg = 2 * i + 1 := pk_cl (2 * i + 1) (nI_add (2 * i) 1)
  have e3 : nI (2 * i) + 2 = nI (2 * (i + 1)) := nI_add (2 * i) 2
  have v1 : vp_in (nI (2 * i)) 4000 := vp_in_nI (by omega) (by decide)
  have v2 : vp_in (nI (2 * i) + 1) 4000 := pk_in (2 * i + 1) 4000 (by omega) (nI_add (2 * i) 1)
  have e4 : (nI k).toNatClampNeg = k := nI_clamp (by omega)
  have v3 : vp_in (nI k) 400 := vp_in_nI (by omega) (by decide)
  have e6 : nI (k + 2) - 2 = nI k := pk_sub (a := k + 2) (b := 2) (by omega)
  have e7 : nI (k + 2) - 1 = nI (k + 1) := nI_pred (k + 1)
  have e8 : nI (k + 2) + (-1) = nI (k + 1) := pk_m1 (k + 1)
  have e9 : (nI (k + 1)).toNatClampNeg = k + 1 := nI_clamp (by omega)
  have v4 : vp_in (nI (k + 1)) 400 := vp_in_nI (by omega) (by decide)
  rw [lp_Mo_work_6, oklp_Mo_work_6, if_neg hlt, if_neg hlt, e1, e2, e3, e6, e7, e8, nI_pred k, e4, e9, hc, if_neg (by decide), if_neg (by decide), if_neg (by decide), if_neg (by decide), if_neg (by decide), if_neg (by decide), if_pos rfl, if_neg (by decide), if_neg (by decide), if_neg (by decide), if_neg (by decide), if_neg (by decide), if_neg (by decide), if_pos rfl]
  exact ⟨rfl, fun z => ⟨v1, v2, v3, v4, v3, z⟩⟩
theorem mo_b25 {T C lv p : Nat → Int32} {e r k i m : Nat} (hi : i < e) (he : e ≤ 2000) (hk : k + 1 < 400) (hc : C (2 * i) = 25) :
    lp_Mo_work_6 T C lv (nI (2 * e)) (nI r) (m + 1) (nI (k + 2)) (nI (2 * i)) p = lp_Mo_work_6 T C lv (nI (2 * e)) (nI r) m (nI (k + 1)) (nI (2 * (i + 1))) (upd p k (s_Cond_joined 25 (p k) (p (k + 1)))) ∧
    (oklp_Mo_work_6 T C lv (nI (2 * e)) (nI r) m (nI (k + 1)) (nI (2 * (i + 1))) (upd p k (s_Cond_joined 25 (p k) (p (k + 1)))) → oklp_Mo_work_6 T C lv (nI (2 * e)) (nI r) (m + 1) (nI (k + 2)) (nI (2 * i)) p) := by
  have hlt : ¬ nI (2 * e) ≤ nI (2 * i) := nI_ge (by omega) (by omega)
  have e1 : (nI (2 * i)).toNatClampNeg = 2 * i := nI_clamp (by omega)
  have e2 : (nI (2 * i) + 1).toNatClampNeg = 2 * i + 1 := pk_cl (2 * i + 1) (nI_add (2 * i) 1)
  have e3 : nI (2 * i) + 2 = nI (2 * (i + 1)) := nI_add (2 * i) 2
  have v1 : vp_in (nI (2 * i)) 4000 := vp_in_nI (by omega) (by decide)
  have v2 : vp_in (nI (2 * i) + 1) 4000 := pk_in (2 * i + 1) 4000 (by omega) (nI_add (2 * i) 1)
  have e4 : (nI k).toNatClampNeg = k := nI_clamp (by omega)
  have v3 : vp_in (nI k) 400 := vp_in_nI (by omega) (by decide)
  have e6 : nI (k + 2) - 2 = nI k := pk_sub (a := k + 2) (b := 2) (by omega)
  have e7 : nI (k + 2) - 1 = nI (k + 1) := nI_pred (k + 1)
  have e8 : nI (k + 2) + (-1) = nI (k + 1) := pk_m1 (k + 1)
  have e9 : (nI (k + 1)).toNatClampNeg = k + 1 := nI_clamp (by omega)
  have v4 : vp_in (nI (k + 1)) 400 := vp_in_nI (by omega) (by decide)
  rw [lp_Mo_work_6, oklp_Mo_work_6, if_neg hlt, if_neg hlt, e1, e2, e3, e6, e7, e8, nI_pred k, e4, e9, hc, if_neg (by decide), if_neg (by decide), if_neg (by decide), if_neg (by decide), if_neg (by decide), if_neg (by decide), if_neg (by decide), if_pos rfl, if_neg (by decide), if_neg (by decide), if_neg (by decide), if_neg (by decide), if_neg (by decide), if_neg (by decide), if_neg (by decide), if_pos rfl]
  exact ⟨rfl, fun z => ⟨v1, v2, v3, v4, v3, z⟩⟩
theorem mo_b14 {T C lv p : Nat → Int32} {e r k i m : Nat} (hi : i < e) (he : e ≤ 2000) (hk : k + 1 < 400) (hc : C (2 * i) = 11) :
    lp_Mo_work_6 T C lv (nI (2 * e)) (nI r) (m + 1) (nI (k + 2)) (nI (2 * i)) p = lp_Mo_work_6 T C lv (nI (2 * e)) (nI r) m (nI (k + 1)) (nI (2 * (i + 1))) (upd p k (s_Cond_joined 14 (p k) (p (k + 1)))) ∧
    (oklp_Mo_work_6 T C lv (nI (2 * e)) (nI r) m (nI (k + 1)) (nI (2 * (i + 1))) (upd p k (s_Cond_joined 14 (p k) (p (k + 1)))) → oklp_Mo_work_6 T C lv (nI (2 * e)) (nI r) (m + 1) (nI (k + 2)) (nI (2 * i)) p) := by
  have hlt : ¬ nI (2 * e) ≤ nI (2 * i) := nI_ge (by omega) (by omega)
  have e1 : (nI (2 * i)).toNatClampNeg = 2 * i := nI_clamp (by omega)
  have e2 : (nI (2 * i) + 1).toNatClampNeg = 2 * i + 1 := pk_cl (2 * i + 1) (nI_add (2 * i) 1)
  have e3 : nI (2 * i) + 2 = nI (2 * (i + 1)) := nI_add (2 * i) 2
  have v1 : vp_in (nI (2 * i)) 4000 := vp_in_nI (by omega) (by decide)
  have v2 : vp_in (nI (2 * i) + 1) 4000 := pk_in (2 * i + 1) 4000 (by omega) (nI_add (2 * i) 1)
  have e4 : (nI k).toNatClampNeg = k := nI_clamp (by omega)
  have v3 : vp_in (nI k) 400 := vp_in_nI (by omega) (by decide)
  have e6 : nI (k + 2) - 2 = nI k := pk_sub (a := k + 2) (b := 2) (by omega)
  have e7 : nI (k + 2) - 1 = nI (k + 1) := nI_pred (k + 1)
  have e8 : nI (k + 2) + (-1) = nI (k + 1) := pk_m1 (k + 1)
  have e9 : (nI (k + 1)).toNatClampNeg = k + 1 := nI_clamp (by omega)
  have v4 : vp_in (nI (k + 1)) 400 := vp_in_nI (by omega) (by decide)
  rw [lp_Mo_work_6, oklp_Mo_work_6, if_neg hlt, if_neg hlt, e1, e2, e3, e6, e7, e8, nI_pred k, e4, e9, hc, if_neg (by decide), if_neg (by decide), if_neg (by decide), if_neg (by decide), if_neg (by decide), if_neg (by decide), if_neg (by decide), if_neg (by decide), if_pos rfl, if_neg (by decide), if_neg (by decide), if_neg (by decide), if_neg (by decide), if_neg (by decide), if_neg (by decide), if_neg (by decide), if_neg (by decide), if_pos rfl]
  exact ⟨rfl, fun z => ⟨v1, v2, v3, v4, v3, z⟩⟩
theorem mo_b15 {T C lv p : Nat → Int32} {e r k i m : Nat} (hi : i < e) (he : e ≤ 2000) (hk : k + 1 < 400) (hc : C (2 * i) = 12) :
    lp_Mo_work_6 T C lv (nI (2 * e)) (nI r) (m + 1) (nI (k + 2)) (nI (2 * i)) p = lp_Mo_work_6 T C lv (nI (2 * e)) (nI r) m (nI (k + 1)) (nI (2 * (i + 1))) (upd p k (s_Cond_joined 15 (p k) (p (k + 1)))) ∧
    (oklp_Mo_work_6 T C lv (nI (2 * e)) (nI r) m (nI (k + 1)) (nI (2 * (i + 1))) (upd p k (s_Cond_joined 15 (p k) (p (k + 1)))) → oklp_Mo_work_6 T C lv (nI (2 * e)) (nI r) (m + 1) (nI (k + 2)) (nI (2 * i)) p) := by
  have hlt : ¬ nI (2 * e) ≤ nI (2 * i) := nI_ge (by omega) (by omega)
  have e1 : (nI (2 * i)).toNatClampNeg = 2 * i := nI_clamp (by omega)
  have e2 : (nI (2 * i) + 1).toNatClampNeg = 2 * i + 1 := pk_cl (2 * i + 1) (nI_add (2 * i) 1)
  have e3 : nI (2 * i) + 2 = nI (2 * (i + 1)) := nI_add (2 * i) 2
  have v1 : vp_in (nI (2 * i)) 4000 := vp_in_nI (by omega) (by decide)
  have v2 : vp_in (nI (2 * i) + 1) 4000 := pk_in (2 * i + 1) 4000 (by omega) (nI_add (2 * i) 1)
  have e4 : (nI k).toNatClampNeg = k := nI_clamp (by omega)
  have v3 : vp_in (nI k) 400 := vp_in_nI (by omega) (by decide)
  have e6 : nI (k + 2) - 2 = nI k := pk_sub (a := k + 2) (b := 2) (by omega)
  have e7 : nI (k + 2) - 1 = nI (k + 1) := nI_pred (k + 1)
  have e8 : nI (k + 2) + (-1) = nI (k + 1) := pk_m1 (k + 1)
  have e9 : (nI (k + 1)).toNatClampNeg = k + 1 := nI_clamp (by omega)
  have v4 : vp_in (nI (k + 1)) 400 := vp_in_nI (by omega) (by decide)
  rw [lp_Mo_work_6, oklp_Mo_work_6, if_neg hlt, if_neg hlt, e1, e2, e3, e6, e7, e8, nI_pred k, e4, e9, hc, if_neg (by decide), if_neg (by decide), if_neg (by decide), if_neg (by decide), if_neg (by decide), if_neg (by decide), if_neg (by decide), if_neg (by decide), if_neg (by decide), if_pos rfl, if_neg (by decide), if_neg (by decide), if_neg (by decide), if_neg (by decide), if_neg (by decide), if_neg (by decide), if_neg (by decide), if_neg (by decide), if_neg (by decide), if_pos rfl]
  exact ⟨rfl, fun z => ⟨v1, v2, v3, v4, v3, z⟩⟩
theorem mo_b17 {T C lv p : Nat → Int32} {e r k i m : Nat} (hi : i < e) (he : e ≤ 2000) (hk : k + 1 < 400) (hc : C (2 * i) = 20) :
    lp_Mo_work_6 T C lv (nI (2 * e)) (nI r) (m + 1) (nI (k + 2)) (nI (2 * i)) p = lp_Mo_work_6 T C lv (nI (2 * e)) (nI r) m (nI (k + 1)) (nI (2 * (i + 1))) (upd p k (s_Cond_joined 17 (p k) (p (k + 1)))) ∧
    (oklp_Mo_work_6 T C lv (nI (2 * e)) (nI r) m (nI (k + 1)) (nI (2 * (i + 1))) (upd p k (s_Cond_joined 17 (p k) (p (k + 1)))) → oklp_Mo_work_6 T C lv (nI (2 * e)) (nI r) (m + 1) (nI (k + 2)) (nI (2 * i)) p) := by
  have hlt : ¬ nI (2 * e) ≤ nI (2 * i) := nI_ge (by omega) (by omega)
  have e1 : (nI (2 * i)).toNatClampNeg = 2 * i := nI_clamp (by omega)
  have e2 : (nI (2 * i) + 1).toNatClampNeg = 2 * i + 1 := pk_cl (2 * i + 1) (nI_add (2 * i) 1)
  have e3 : nI (2 * i) + 2 = nI (2 * (i + 1)) := nI_add (2 * i) 2
  have v1 : vp_in (nI (2 * i)) 4000 := vp_in_nI (by omega) (by decide)
  have v2 : vp_in (nI (2 * i) + 1) 4000 := pk_in (2 * i + 1) 4000 (by omega) (nI_add (2 * i) 1)
  have e4 : (nI k).toNatClampNeg = k := nI_clamp (by omega)
  have v3 : vp_in (nI k) 400 := vp_in_nI (by omega) (by decide)
  have e6 : nI (k + 2) - 2 = nI k := pk_sub (a := k + 2) (b := 2) (by omega)
  have e7 : nI (k + 2) - 1 = nI (k + 1) := nI_pred (k + 1)
  have e8 : nI (k + 2) + (-1) = nI (k + 1) := pk_m1 (k + 1)
  have e9 : (nI (k + 1)).toNatClampNeg = k + 1 := nI_clamp (by omega)
  have v4 : vp_in (nI (k + 1)) 400 := vp_in_nI (by omega) (by decide)
  rw [lp_Mo_work_6, oklp_Mo_work_6, if_neg hlt, if_neg hlt, e1, e2, e3, e6, e7, e8, nI_pred k, e4, e9, hc, if_neg (by decide), if_neg (by decide), if_neg (by decide), if_neg (by decide), if_neg (by decide), if_neg (by decide), if_neg (by decide), if_neg (by decide), if_neg (by decide), if_neg (by decide), if_neg (by decide), if_neg (by decide), if_neg (by decide), if_neg (by decide), if_neg (by decide), if_neg (by decide), if_neg (by decide), if_neg (by decide), if_neg (by decide), if_neg (by decide)]
  have ej : s_Mo_judge 20 (p k) (p (k + 1)) = s_Cond_joined 17 (p k) (p (k + 1)) := jud_17 _ _
  dsimp only
  rw [ej]
  exact ⟨rfl, fun z => ⟨v1, v2, v3, v4, v3, z⟩⟩
theorem mo_b18 {T C lv p : Nat → Int32} {e r k i m : Nat} (hi : i < e) (he : e ≤ 2000) (hk : k + 1 < 400) (hc : C (2 * i) = 21) :
    lp_Mo_work_6 T C lv (nI (2 * e)) (nI r) (m + 1) (nI (k + 2)) (nI (2 * i)) p = lp_Mo_work_6 T C lv (nI (2 * e)) (nI r) m (nI (k + 1)) (nI (2 * (i + 1))) (upd p k (s_Cond_joined 18 (p k) (p (k + 1)))) ∧
    (oklp_Mo_work_6 T C lv (nI (2 * e)) (nI r) m (nI (k + 1)) (nI (2 * (i + 1))) (upd p k (s_Cond_joined 18 (p k) (p (k + 1)))) → oklp_Mo_work_6 T C lv (nI (2 * e)) (nI r) (m + 1) (nI (k + 2)) (nI (2 * i)) p) := by
  have hlt : ¬ nI (2 * e) ≤ nI (2 * i) := nI_ge (by omega) (by omega)
  have e1 : (nI (2 * i)).toNatClampNeg = 2 * i := nI_clamp (by omega)
  have e2 : (nI (2 * i) + 1).toNatClampNeg = 2 * i + 1 := pk_cl (2 * i + 1) (nI_add (2 * i) 1)
  have e3 : nI (2 * i) + 2 = nI (2 * (i + 1)) := nI_add (2 * i) 2
  have v1 : vp_in (nI (2 * i)) 4000 := vp_in_nI (by omega) (by decide)
  have v2 : vp_in (nI (2 * i) + 1) 4000 := pk_in (2 * i + 1) 4000 (by omega) (nI_add (2 * i) 1)
  have e4 : (nI k).toNatClampNeg = k := nI_clamp (by omega)
  have v3 : vp_in (nI k) 400 := vp_in_nI (by omega) (by decide)
  have e6 : nI (k + 2) - 2 = nI k := pk_sub (a := k + 2) (b := 2) (by omega)
  have e7 : nI (k + 2) - 1 = nI (k + 1) := nI_pred (k + 1)
  have e8 : nI (k + 2) + (-1) = nI (k + 1) := pk_m1 (k + 1)
  have e9 : (nI (k + 1)).toNatClampNeg = k + 1 := nI_clamp (by omega)
  have v4 : vp_in (nI (k + 1)) 400 := vp_in_nI (by omega) (by decide)
  rw [lp_Mo_work_6, oklp_Mo_work_6, if_neg hlt, if_neg hlt, e1, e2, e3, e6, e7, e8, nI_pred k, e4, e9, hc, if_neg (by decide), if_neg (by decide), if_neg (by decide), if_neg (by decide), if_neg (by decide), if_neg (by decide), if_neg (by decide), if_neg (by decide), if_neg (by decide), if_neg (by decide), if_neg (by decide), if_neg (by decide), if_neg (by decide), if_neg (by decide), if_neg (by decide), if_neg (by decide), if_neg (by decide), if_neg (by decide), if_neg (by decide), if_neg (by decide)]
  have ej : s_Mo_judge 21 (p k) (p (k + 1)) = s_Cond_joined 18 (p k) (p (k + 1)) := jud_18 _ _
  dsimp only
  rw [ej]
  exact ⟨rfl, fun z => ⟨v1, v2, v3, v4, v3, z⟩⟩
theorem mo_b19 {T C lv p : Nat → Int32} {e r k i m : Nat} (hi : i < e) (he : e ≤ 2000) (hk : k + 1 < 400) (hc : C (2 * i) = 22) :
    lp_Mo_work_6 T C lv (nI (2 * e)) (nI r) (m + 1) (nI (k + 2)) (nI (2 * i)) p = lp_Mo_work_6 T C lv (nI (2 * e)) (nI r) m (nI (k + 1)) (nI (2 * (i + 1))) (upd p k (s_Cond_joined 19 (p k) (p (k + 1)))) ∧
    (oklp_Mo_work_6 T C lv (nI (2 * e)) (nI r) m (nI (k + 1)) (nI (2 * (i + 1))) (upd p k (s_Cond_joined 19 (p k) (p (k + 1)))) → oklp_Mo_work_6 T C lv (nI (2 * e)) (nI r) (m + 1) (nI (k + 2)) (nI (2 * i)) p) := by
  have hlt : ¬ nI (2 * e) ≤ nI (2 * i) := nI_ge (by omega) (by omega)
  have e1 : (nI (2 * i)).toNatClampNeg = 2 * i := nI_clamp (by omega)
  have e2 : (nI (2 * i) + 1).toNatClampNeg = 2 * i + 1 := pk_cl (2 * i + 1) (nI_add (2 * i) 1)
  have e3 : nI (2 * i) + 2 = nI (2 * (i + 1)) := nI_add (2 * i) 2
  have v1 : vp_in (nI (2 * i)) 4000 := vp_in_nI (by omega) (by decide)
  have v2 : vp_in (nI (2 * i) + 1) 4000 := pk_in (2 * i + 1) 4000 (by omega) (nI_add (2 * i) 1)
  have e4 : (nI k).toNatClampNeg = k := nI_clamp (by omega)
  have v3 : vp_in (nI k) 400 := vp_in_nI (by omega) (by decide)
  have e6 : nI (k + 2) - 2 = nI k := pk_sub (a := k + 2) (b := 2) (by omega)
  have e7 : nI (k + 2) - 1 = nI (k + 1) := nI_pred (k + 1)
  have e8 : nI (k + 2) + (-1) = nI (k + 1) := pk_m1 (k + 1)
  have e9 : (nI (k + 1)).toNatClampNeg = k + 1 := nI_clamp (by omega)
  have v4 : vp_in (nI (k + 1)) 400 := vp_in_nI (by omega) (by decide)
  rw [lp_Mo_work_6, oklp_Mo_work_6, if_neg hlt, if_neg hlt, e1, e2, e3, e6, e7, e8, nI_pred k, e4, e9, hc, if_neg (by decide), if_neg (by decide), if_neg (by decide), if_neg (by decide), if_neg (by decide), if_neg (by decide), if_neg (by decide), if_neg (by decide), if_neg (by decide), if_neg (by decide), if_neg (by decide), if_neg (by decide), if_neg (by decide), if_neg (by decide), if_neg (by decide), if_neg (by decide), if_neg (by decide), if_neg (by decide), if_neg (by decide), if_neg (by decide)]
  have ej : s_Mo_judge 22 (p k) (p (k + 1)) = s_Cond_joined 19 (p k) (p (k + 1)) := jud_19 _ _
  dsimp only
  rw [ej]
  exact ⟨rfl, fun z => ⟨v1, v2, v3, v4, v3, z⟩⟩
theorem mo_b20 {T C lv p : Nat → Int32} {e r k i m : Nat} (hi : i < e) (he : e ≤ 2000) (hk : k + 1 < 400) (hc : C (2 * i) = 18) :
    lp_Mo_work_6 T C lv (nI (2 * e)) (nI r) (m + 1) (nI (k + 2)) (nI (2 * i)) p = lp_Mo_work_6 T C lv (nI (2 * e)) (nI r) m (nI (k + 1)) (nI (2 * (i + 1))) (upd p k (s_Cond_joined 20 (p k) (p (k + 1)))) ∧
    (oklp_Mo_work_6 T C lv (nI (2 * e)) (nI r) m (nI (k + 1)) (nI (2 * (i + 1))) (upd p k (s_Cond_joined 20 (p k) (p (k + 1)))) → oklp_Mo_work_6 T C lv (nI (2 * e)) (nI r) (m + 1) (nI (k + 2)) (nI (2 * i)) p) := by
  have hlt : ¬ nI (2 * e) ≤ nI (2 * i) := nI_ge (by omega) (by omega)
  have e1 : (nI (2 * i)).toNatClampNeg = 2 * i := nI_clamp (by omega)
  have e2 : (nI (2 * i) + 1).toNatClampNeg = 2 * i + 1 := pk_cl (2 * i + 1) (nI_add (2 * i) 1)
  have e3 : nI (2 * i) + 2 = nI (2 * (i + 1)) := nI_add (2 * i) 2
  have v1 : vp_in (nI (2 * i)) 4000 := vp_in_nI (by omega) (by decide)
  have v2 : vp_in (nI (2 * i) + 1) 4000 := pk_in (2 * i + 1) 4000 (by omega) (nI_add (2 * i) 1)
  have e4 : (nI k).toNatClampNeg = k := nI_clamp (by omega)
  have v3 : vp_in (nI k) 400 := vp_in_nI (by omega) (by decide)
  have e6 : nI (k + 2) - 2 = nI k := pk_sub (a := k + 2) (b := 2) (by omega)
  have e7 : nI (k + 2) - 1 = nI (k + 1) := nI_pred (k + 1)
  have e8 : nI (k + 2) + (-1) = nI (k + 1) := pk_m1 (k + 1)
  have e9 : (nI (k + 1)).toNatClampNeg = k + 1 := nI_clamp (by omega)
  have v4 : vp_in (nI (k + 1)) 400 := vp_in_nI (by omega) (by decide)
  rw [lp_Mo_work_6, oklp_Mo_work_6, if_neg hlt, if_neg hlt, e1, e2, e3, e6, e7, e8, nI_pred k, e4, e9, hc, if_neg (by decide), if_neg (by decide), if_neg (by decide), if_neg (by decide), if_neg (by decide), if_neg (by decide), if_neg (by decide), if_neg (by decide), if_neg (by decide), if_neg (by decide), if_neg (by decide), if_neg (by decide), if_neg (by decide), if_neg (by decide), if_neg (by decide), if_neg (by decide), if_neg (by decide), if_neg (by decide), if_neg (by decide), if_neg (by decide)]
  have ej : s_Mo_judge 18 (p k) (p (k + 1)) = s_Cond_joined 20 (p k) (p (k + 1)) := jud_20 _ _
  dsimp only
  rw [ej]
  exact ⟨rfl, fun z => ⟨v1, v2, v3, v4, v3, z⟩⟩
theorem mo_b21 {T C lv p : Nat → Int32} {e r k i m : Nat} (hi : i < e) (he : e ≤ 2000) (hk : k + 1 < 400) (hc : C (2 * i) = 19) :
    lp_Mo_work_6 T C lv (nI (2 * e)) (nI r) (m + 1) (nI (k + 2)) (nI (2 * i)) p = lp_Mo_work_6 T C lv (nI (2 * e)) (nI r) m (nI (k + 1)) (nI (2 * (i + 1))) (upd p k (s_Cond_joined 21 (p k) (p (k + 1)))) ∧
    (oklp_Mo_work_6 T C lv (nI (2 * e)) (nI r) m (nI (k + 1)) (nI (2 * (i + 1))) (upd p k (s_Cond_joined 21 (p k) (p (k + 1)))) → oklp_Mo_work_6 T C lv (nI (2 * e)) (nI r) (m + 1) (nI (k + 2)) (nI (2 * i)) p) := by
  have hlt : ¬ nI (2 * e) ≤ nI (2 * i) := nI_ge (by omega) (by omega)
  have e1 : (nI (2 * i)).toNatClampNeg = 2 * i := nI_clamp (by omega)
  have e2 : (nI (2 * i) + 1).toNatClampNeg = 2 * i + 1 := pk_cl (2 * i + 1) (nI_add (2 * i) 1)
  have e3 : nI (2 * i) + 2 = nI (2 * (i + 1)) := nI_add (2 * i) 2
  have v1 : vp_in (nI (2 * i)) 4000 := vp_in_nI (by omega) (by decide)
  have v2 : vp_in (nI (2 * i) + 1) 4000 := pk_in (2 * i + 1) 4000 (by omega) (nI_add (2 * i) 1)
  have e4 : (nI k).toNatClampNeg = k := nI_clamp (by omega)
  have v3 : vp_in (nI k) 400 := vp_in_nI (by omega) (by decide)
  have e6 : nI (k + 2) - 2 = nI k := pk_sub (a := k + 2) (b := 2) (by omega)
  have e7 : nI (k + 2) - 1 = nI (k + 1) := nI_pred (k + 1)
  have e8 : nI (k + 2) + (-1) = nI (k + 1) := pk_m1 (k + 1)
  have e9 : (nI (k + 1)).toNatClampNeg = k + 1 := nI_clamp (by omega)
  have v4 : vp_in (nI (k + 1)) 400 := vp_in_nI (by omega) (by decide)
  rw [lp_Mo_work_6, oklp_Mo_work_6, if_neg hlt, if_neg hlt, e1, e2, e3, e6, e7, e8, nI_pred k, e4, e9, hc, if_neg (by decide), if_neg (by decide), if_neg (by decide), if_neg (by decide), if_neg (by decide), if_neg (by decide), if_neg (by decide), if_neg (by decide), if_neg (by decide), if_neg (by decide), if_neg (by decide), if_neg (by decide), if_neg (by decide), if_neg (by decide), if_neg (by decide), if_neg (by decide), if_neg (by decide), if_neg (by decide), if_neg (by decide), if_neg (by decide)]
  have ej : s_Mo_judge 19 (p k) (p (k + 1)) = s_Cond_joined 21 (p k) (p (k + 1)) := jud_21 _ _
  dsimp only
  rw [ej]
  exact ⟨rfl, fun z => ⟨v1, v2, v3, v4, v3, z⟩⟩
theorem mo_b22 {T C lv p : Nat → Int32} {e r k i m : Nat} (hi : i < e) (he : e ≤ 2000) (hk : k + 1 < 400) (hc : C (2 * i) = 17) :
    lp_Mo_work_6 T C lv (nI (2 * e)) (nI r) (m + 1) (nI (k + 2)) (nI (2 * i)) p = lp_Mo_work_6 T C lv (nI (2 * e)) (nI r) m (nI (k + 1)) (nI (2 * (i + 1))) (upd p k (s_Cond_joined 22 (p k) (p (k + 1)))) ∧
    (oklp_Mo_work_6 T C lv (nI (2 * e)) (nI r) m (nI (k + 1)) (nI (2 * (i + 1))) (upd p k (s_Cond_joined 22 (p k) (p (k + 1)))) → oklp_Mo_work_6 T C lv (nI (2 * e)) (nI r) (m + 1) (nI (k + 2)) (nI (2 * i)) p) := by
  have hlt : ¬ nI (2 * e) ≤ nI (2 * i) := nI_ge (by omega) (by omega)
  have e1 : (nI (2 * i)).toNatClampNeg = 2 * i := nI_clamp (by omega)
  have e2 : (nI (2 * i) + 1).toNatClampNeg = 2 * i + 1 := pk_cl (2 * i + 1) (nI_add (2 * i) 1)
  have e3 : nI (2 * i) + 2 = nI (2 * (i + 1)) := nI_add (2 * i) 2
  have v1 : vp_in (nI (2 * i)) 4000 := vp_in_nI (by omega) (by decide)
  have v2 : vp_in (nI (2 * i) + 1) 4000 := pk_in (2 * i + 1) 4000 (by omega) (nI_add (2 * i) 1)
  have e4 : (nI k).toNatClampNeg = k := nI_clamp (by omega)
  have v3 : vp_in (nI k) 400 := vp_in_nI (by omega) (by decide)
  have e6 : nI (k + 2) - 2 = nI k := pk_sub (a := k + 2) (b := 2) (by omega)
  have e7 : nI (k + 2) - 1 = nI (k + 1) := nI_pred (k + 1)
  have e8 : nI (k + 2) + (-1) = nI (k + 1) := pk_m1 (k + 1)
  have e9 : (nI (k + 1)).toNatClampNeg = k + 1 := nI_clamp (by omega)
  have v4 : vp_in (nI (k + 1)) 400 := vp_in_nI (by omega) (by decide)
  rw [lp_Mo_work_6, oklp_Mo_work_6, if_neg hlt, if_neg hlt, e1, e2, e3, e6, e7, e8, nI_pred k, e4, e9, hc, if_neg (by decide), if_neg (by decide), if_neg (by decide), if_neg (by decide), if_neg (by decide), if_neg (by decide), if_neg (by decide), if_neg (by decide), if_neg (by decide), if_neg (by decide), if_neg (by decide), if_neg (by decide), if_neg (by decide), if_neg (by decide), if_neg (by decide), if_neg (by decide), if_neg (by decide), if_neg (by decide), if_neg (by decide), if_neg (by decide)]
  have ej : s_Mo_judge 17 (p k) (p (k + 1)) = s_Cond_joined 22 (p k) (p (k + 1)) := jud_22 _ _
  dsimp only
  rw [ej]
  exact ⟨rfl, fun z => ⟨v1, v2, v3, v4, v3, z⟩⟩
