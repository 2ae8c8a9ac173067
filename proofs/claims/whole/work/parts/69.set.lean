/-! cells replaced at their places, by a mask -/
theorem set_mid (y x : Nat × va_E) (l : va_W) : ∀ p : va_W, (p ++ x :: l).set p.length y = p ++ y :: l
  | [] => rfl
  | a :: p => congrArg (fun z => a :: z) (set_mid y x l p)
theorem setM_nil (l ys : va_W) : setM [] l ys = l := by
  cases l <;> cases ys <;> rfl
theorem setAll_nil (w ys : va_W) : setAll w [] ys = w := by
  cases ys <;> rfl
theorem setAll_Mk : ∀ (bs : List Bool) (p l ys : va_W), fitM bs l → setAll (p ++ l) (idxM p.length bs) ys = p ++ setM bs l ys
  | [], p, l, ys, _ => by
    show setAll (p ++ l) [] ys = p ++ setM [] l ys
    rw [setM_nil, setAll_nil]
  | true :: _, _, [], _, h => False.elim h
  | false :: _, _, [], _, h => False.elim h
  | false :: bs, p, x :: l, ys, h => by
    have ih := setAll_Mk bs (p ++ [x]) l ys h
    rw [List.length_append, List.append_assoc, List.append_assoc] at ih
    exact ih
  | true :: _, _, _ :: _, [], _ => rfl
  | true :: bs, p, x :: l, y :: ys, h => by
    show setAll ((p ++ x :: l).set p.length y) (idxM (p.length + 1) bs) ys = p ++ (y :: setM bs l ys)
    rw [set_mid]
    have ih := setAll_Mk bs (p ++ [y]) l ys h
    rw [List.length_append, List.append_assoc, List.append_assoc] at ih
    exact ih
theorem setAll_M {bs : List Bool} {ws is ys : _} (h : fitM bs ws) (hi : idxM 0 bs = is) : setAll ws is ys = setM bs ws ys := by
  subst hi
  exact setAll_Mk bs [] ws ys h
theorem setAll_app : ∀ (a b : List Nat) (xa xb ws : va_W), a.length = xa.length → setAll ws (a ++ b) (xa ++ xb) = setAll (setAll ws a xa) b xb
  | [], _, [], _, _, _ => rfl
  | [], _, _ :: _, _, _, h => absurd h (fun z => Nat.noConfusion z)
  | _ :: _, _, [], _, _, h => absurd h (fun z => Nat.noConfusion z)
  | i :: a, b, x :: xa, xb, ws, h => setAll_app a b xa xb (ws.set i x) (Nat.succ.inj h)
