/-! pure rows of my own: numbers within bounds, places in arrays -/
def up (v : Int32) (N : Nat) : Prop := 0 ≤ v.toInt ∧ v.toInt ≤ (N : Int)
theorem ly_mk {i : Int32} {n : Nat} (a : 0 ≤ i.toInt) (b : i.toInt < (n : Int)) : vp_in i n := vp_in_iff.mpr ⟨a, b⟩
theorem i0 : (0 : Int32).toInt = 0 := by decide
theorem i1 : (1 : Int32).toInt = 1 := by decide
theorem ly_lo {i : Int32} (h : ¬ i < 0) : 0 ≤ i.toInt := by
  rw [Int32.lt_iff_toInt_lt, i0] at h
  omega
theorem ly_hi {i N : Int32} {n : Nat} (hN : N.toInt = (n : Int)) (h : ¬ N ≤ i) : i.toInt < (n : Int) := by
  rw [Int32.le_iff_toInt_le, hN] at h
  omega
theorem ly_hi2 {i N : Int32} {n : Nat} (hN : N.toInt = (n : Int)) (h : i < N) : i.toInt < (n : Int) := by
  rw [Int32.lt_iff_toInt_lt, hN] at h
  omega
theorem ly_hiV {i v : Int32} {n : Nat} (hv : v.toInt ≤ (n : Int)) (h : ¬ v ≤ i) : i.toInt < (n : Int) := by
  rw [Int32.le_iff_toInt_le] at h
  omega
theorem ly_hiW {i v : Int32} {n : Nat} (hv : v.toInt ≤ (n : Int)) (h : i < v) : i.toInt < (n : Int) := by
  rw [Int32.lt_iff_toInt_lt] at h
  omega
theorem up_nI {v : Int32} {N : Nat} (h : up v N) : ∃ n : Nat, n ≤ N ∧ n < 2 ^ 31 ∧ v = nI n := by
  obtain ⟨j, hj, rfl⟩ := nI_of (x := v) (by rw [Int32.lt_iff_toInt_lt, i0]; exact Int.not_lt.mpr h.1)
  have := h.2
  rw [nI_toInt hj] at this
  exact ⟨j, by omega, hj, rfl⟩
theorem up_of {n N : Nat} (h : n ≤ N) (hN : N < 2 ^ 31) : up (nI n) N := by
  unfold up
  rw [nI_toInt (by omega)]
  omega
theorem up_add1 {v N : Int32} {n : Nat} (hz : up v n) (hN : N.toInt = (n : Int)) (h : ¬ N ≤ v) : up (v + 1) n := by
  obtain ⟨j, hj, hj2, rfl⟩ := up_nI hz
  rw [Int32.le_iff_toInt_le, hN, nI_toInt hj2] at h
  rw [nI_1]
  have h2 : N.toInt < 2 ^ 31 := Int32.toInt_lt N
  exact up_of (by omega) (by omega)
theorem up_sub1 {v : Int32} {n : Nat} (hz : up v n) (h : ¬ v < 1) : up (v - 1) n := by
  obtain ⟨j, hj, hj2, rfl⟩ := up_nI hz
  rw [Int32.lt_iff_toInt_lt, i1, nI_toInt hj2] at h
  obtain ⟨k, rfl⟩ : ∃ k, j = k + 1 := ⟨j - 1, by omega⟩
  rw [nI_pred]
  unfold up
  rw [nI_toInt (by omega)]
  omega
theorem in_pop {v : Int32} (h1 : ¬ v < 1) (h2 : v ≤ 64) : vp_in (v - 1) 64 := by
  rw [Int32.lt_iff_toInt_lt, i1] at h1
  rw [Int32.le_iff_toInt_le, show (64 : Int32).toInt = 64 by decide] at h2
  obtain ⟨j, hj, hj2, rfl⟩ := up_nI (v := v) (N := 64) ⟨by omega, by omega⟩
  rw [nI_toInt hj2] at h1
  obtain ⟨k, rfl⟩ : ∃ k, j = k + 1 := ⟨j - 1, by omega⟩
  rw [nI_pred]
  exact vp_in_nI (by omega) (by omega)
theorem ly_inB {x N : Int32} {n b : Nat} (h1 : ¬ x < 0) (h2 : x ≤ N) (hN : N.toInt = (b : Int)) (hb : b < n) : vp_in x n := by
  rw [Int32.le_iff_toInt_le, hN] at h2
  exact ly_mk (ly_lo h1) (by omega)
theorem ly_inA {x N k : Int32} {n b j : Nat} (h1 : ¬ x < 0) (h2 : x ≤ N) (hN : N.toInt = (b : Int)) (hk : k.toInt = (j : Int)) (hb : b + j < n) (hn : n < 2 ^ 31) : vp_in (x + k) n := by
  rw [Int32.le_iff_toInt_le, hN] at h2
  obtain ⟨i, hi, hi2, rfl⟩ := up_nI (v := x) (N := b) ⟨ly_lo h1, h2⟩
  obtain ⟨i', hi', hi2', rfl⟩ := up_nI (v := k) (N := j) ⟨by omega, by omega⟩
  rw [nI_add]
  exact vp_in_nI (by omega) hn
/-! Table.remove: the copy's places -/
theorem t_rm {v row : Int32} (hz : up v 60) (c1 : ¬ row < 0) (c2 : row < v) : ∃ n r : Nat, n ≤ 60 ∧ r < n ∧ v = nI n ∧ row = nI r := by
  obtain ⟨n, hn, hn2, rfl⟩ := up_nI hz
  obtain ⟨r, hr, rfl⟩ := nI_of c1
  exact ⟨n, r, hn, (nI_ltI hr hn2).mp c2, rfl, rfl⟩
theorem t_6 (n : Nat) : nI n * 6 = nI (n * 6) := pk_mul n 6
theorem t_rm1 {v row : Int32} (hz : up v 60) (c1 : ¬ row < 0) (c2 : row < v) : ¬ (row + 1) * 6 < 0 := by
  obtain ⟨n, r, h1, h2, rfl, rfl⟩ := t_rm hz c1 c2
  rw [nI_1, t_6]
  exact nI_pos (by omega)
theorem t_rm2 {v row : Int32} (hz : up v 60) (c1 : ¬ row < 0) (c2 : row < v) : ¬ row * 6 < 0 := by
  obtain ⟨n, r, h1, h2, rfl, rfl⟩ := t_rm hz c1 c2
  rw [t_6]
  exact nI_pos (by omega)
theorem t_rm3 {v row : Int32} (hz : up v 60) (c1 : ¬ row < 0) (c2 : row < v) : ¬ v * 6 - (row + 1) * 6 < 0 := by
  obtain ⟨n, r, h1, h2, rfl, rfl⟩ := t_rm hz c1 c2
  rw [nI_1, t_6, t_6, pk_sub (by omega)]
  exact nI_pos (by omega)
theorem t_rm4 {v row : Int32} (hz : up v 60) (c1 : ¬ row < 0) (c2 : row < v) : ((row + 1) * 6).toNatClampNeg + (v * 6 - (row + 1) * 6).toNatClampNeg ≤ 360 := by
  obtain ⟨n, r, h1, h2, rfl, rfl⟩ := t_rm hz c1 c2
  rw [nI_1, t_6, t_6, pk_sub (by omega), nI_clamp (by omega), nI_clamp (by omega)]
  omega
theorem t_rm5 {v row : Int32} (hz : up v 60) (c1 : ¬ row < 0) (c2 : row < v) : (row * 6).toNatClampNeg + (v * 6 - (row + 1) * 6).toNatClampNeg ≤ 360 := by
  obtain ⟨n, r, h1, h2, rfl, rfl⟩ := t_rm hz c1 c2
  rw [nI_1, t_6, t_6, t_6, pk_sub (by omega), nI_clamp (by omega), nI_clamp (by omega)]
  omega
/-! Tape.remove: the copy's places -/
theorem tp_rm {v x : Int32} (hz : up v 3000) (c1 : ¬ x < 0) (c2 : x ≤ v) : ∃ n r : Nat, n ≤ 3000 ∧ r ≤ n ∧ v = nI n ∧ x = nI r := by
  obtain ⟨n, hn, hn2, rfl⟩ := up_nI hz
  obtain ⟨r, hr, rfl⟩ := nI_of c1
  exact ⟨n, r, hn, (nI_leI hr hn2).mp c2, rfl, rfl⟩
theorem tp_rm1 {v x : Int32} (_ : up v 3000) (c1 : ¬ x < 0) (_ : x ≤ v) : ¬ x < 0 := c1
theorem tp_rm2 {v x : Int32} (_ : up v 3000) (_ : ¬ x < 0) (_ : x ≤ v) : ¬ (0 : Int32) < 0 := by decide
theorem tp_rm3 {v x : Int32} (hz : up v 3000) (c1 : ¬ x < 0) (c2 : x ≤ v) : ¬ v - x < 0 := by
  obtain ⟨n, r, h1, h2, rfl, rfl⟩ := tp_rm hz c1 c2
  rw [pk_sub h2]
  exact nI_pos (by omega)
theorem tp_rm4 {v x : Int32} (hz : up v 3000) (c1 : ¬ x < 0) (c2 : x ≤ v) : x.toNatClampNeg + (v - x).toNatClampNeg ≤ 3000 := by
  obtain ⟨n, r, h1, h2, rfl, rfl⟩ := tp_rm hz c1 c2
  rw [pk_sub h2, nI_clamp (by omega), nI_clamp (by omega)]
  omega
theorem tp_rm5 {v x : Int32} (hz : up v 3000) (c1 : ¬ x < 0) (c2 : x ≤ v) : (0 : Int32).toNatClampNeg + (v - x).toNatClampNeg ≤ 3000 := by
  obtain ⟨n, r, h1, h2, rfl, rfl⟩ := tp_rm hz c1 c2
  rw [pk_sub h2, nI_clamp (by omega)]
  have e : (0 : Int32).toNatClampNeg = 0 := by decide
  omega
/-! loops that count -/
theorem mu_step {a b n : Nat} (h : a < b) (hm : b < n + 1) : a < n := Nat.lt_of_lt_of_le h (Nat.le_of_lt_succ hm)
theorem i32_succ {i : Int32} (h : i.toInt < 2147483647) : (i + 1).toInt = i.toInt + 1 := by
  have h1 := Int32.le_toInt i
  rw [Int32.toInt_add, i1]
  rw [Int.bmod_eq_of_le (by omega) (by omega)]
theorem i32_pred {i : Int32} (h : 0 ≤ i.toInt) : (i + (-1)).toInt = i.toInt - 1 := by
  have h1 := Int32.toInt_lt i
  rw [Int32.toInt_add, show ((-1 : Int32)).toInt = -1 by decide]
  rw [Int.bmod_eq_of_le (by omega) (by omega)]
  rfl
theorem mu_up {i z : Int32} (h : ¬ z ≤ i) : (z.toInt - (i + 1).toInt).toNat < (z.toInt - i.toInt).toNat := by
  rw [Int32.le_iff_toInt_le] at h
  have h2 := Int32.toInt_lt z
  rw [i32_succ (by omega)]
  omega
theorem mu_up' {i z : Int32} (h : i < z) : (z.toInt - (i + 1).toInt).toNat < (z.toInt - i.toInt).toNat := mu_up (fun g => by
  rw [Int32.lt_iff_toInt_lt] at h
  rw [Int32.le_iff_toInt_le] at g
  omega)
theorem mu_up2 {i z : Int32} (h : ¬ z < i) (hz : z.toInt ≤ 1000) : (z.toInt - (i + 1).toInt + 1).toNat < (z.toInt - i.toInt + 1).toNat := by
  rw [Int32.lt_iff_toInt_lt] at h
  rw [i32_succ (by omega)]
  omega
theorem mu_dn {i : Int32} (h : ¬ i < 0) : ((i + (-1)).toInt + 1).toNat < (i.toInt + 1).toNat := by
  have h1 := ly_lo h
  rw [i32_pred h1]
  omega
theorem ne_pos {w : Int32} (h : ¬ w ≤ 0) : ¬ w = 0 := fun e => h (by rw [e]; decide)
theorem mu_ten {w : Int32} (h : ¬ w ≤ 0) : (w / 10).toInt.toNat < w.toInt.toNat := by
  rw [Int32.le_iff_toInt_le, i0] at h
  obtain ⟨j, hj, rfl⟩ := nI_of (x := w) (by rw [Int32.lt_iff_toInt_lt, i0]; omega)
  rw [nI_toInt hj] at h
  rw [show (10 : Int32) = nI 10 from rfl, pk_div hj (by decide) (by decide), nI_toInt hj, nI_toInt (by omega)]
  omega
theorem mu_96 {i : Int32} (h : ¬ 96 ≤ i) : (96 - (i + 1).toInt).toNat < (96 - i.toInt).toNat := by
  rw [Int32.le_iff_toInt_le, show (96 : Int32).toInt = 96 by decide] at h
  rw [i32_succ (by omega)]
  omega
theorem i32_m1 {i : Int32} (h : -2147483648 < i.toInt) : (i - 1).toInt = i.toInt - 1 := by
  have h1 := Int32.toInt_lt i
  rw [Int32.toInt_sub, i1]
  rw [Int.bmod_eq_of_le (by omega) (by omega)]
theorem wi_1 {i : Int32} (h : ¬ i < 0) (hi : i.toInt < 96) : (i + (-1)).toInt < 96 := by
  rw [i32_pred (ly_lo h)]
  omega
theorem ho_0 (x : Int32) : 0 ≤ (if x < 0 then 0 else x).toInt := by
  split
  · decide
  · rename_i h
    exact ly_lo h
theorem ho_1 {i z : Int32} (h : ¬ z ≤ i) (hi : 0 ≤ i.toInt) : 0 ≤ (i + 1).toInt := by
  rw [Int32.le_iff_toInt_le] at h
  have h2 := Int32.toInt_lt z
  rw [i32_succ (by omega)]
  omega
theorem wi_0 {v : Int32} (hz : up v 96) : ((if 96 < v then 96 else v) - 1).toInt < 96 := by
  have h := hz.1
  have h2 := hz.2
  split
  · decide
  · rw [i32_m1 (by omega)]
    omega
/-! an array of chars holds chars -/
def chF (f : Nat → Int32) : Prop := ∀ j, narrow .char (.int (f j)) = .int (f j)
/-- a boolean's value -/
def isB (v : Int32) : Prop := narrow .boolean (.int v) = .int v
theorem isB_0 : isB 0 := by unfold isB; decide
theorem isB_1 : isB 1 := by unfold isB; decide
