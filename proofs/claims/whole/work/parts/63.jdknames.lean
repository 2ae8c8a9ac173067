/-! a call on a literal; what the JDK's members want -/
section LYL
variable {p : Program} {l : Launch} {e : Env} {R : Room} {s : State} {m : MethodId} {args : Array Value} {below : List Frame} {meth : Method} {c : Code} {H : Heap} {locs : List Loc} {cells slots : Nat} {Q : State → Prop}
variable {G : GG} {A : Nat → Prop} {cc : ByteArray} {pc : Nat} {ls : Array Slot} {ws w1 : va_W} {o : Option Value}
theorem ly_callL {Ts : List Cond} {own : String} {nL maxL n index mc ms i : Nat} {y : MethodName} {bytes : ByteArray} {ret : Option FieldType} {wsC : List Cond} {rm : Room} {As rest st0 st1 : List Value} {c1 s1 : Nat} {w0 wf : va_W}
    (S : CallFix p m c cc nL s args Ts own) (hA : ∀ q, s.heap.size ≤ q → A q) (hK : va_K G.1 classes (tysG G) s) (hZ : Zs G A s s.heap) (hP : va_P G.1 classes ws H) (hD : va_D A ws) (hS : va_S A s.heap H locs)
    (hC : Det l G y wsC rm mc ms (.ref (G.2.2.1 i) :: As) w0 o w1) (cw : CallW R s args own "java/lang/String" index y bytes maxL ret wsC rm mc ms n)
    (hi : i < nS)
    (isC : List Nat) (hc : isC.map (fun i => ws[i]?) = w0.map some) (hnc : va_nd isC = true) (hx1 : w1.map (fun q => q.1) = w0.map (fun q => q.1)) (hf : setAll ws isC w1 = wf)
    (hlen : As.length = n) (hsize : ls.size = nL) (hst : st0 = As.reverse ++ .ref (G.2.2.1 i) :: rest) (hW : (rest.map fun v => v.category).sum ≤ 8) (hdg : decode cc pc = .ok (.invokevirtual index, 3)) (hfit : cells + mc ≤ R.cells ∧ slots + ms ≤ R.slots) (hst1 : o.toList ++ rest = st1) (hc1 : cells + mc = c1) (hs1 : slots + ms = s1)
    (kk : ∀ (H1 : Heap) (locs1 : List Loc), va_P G.1 classes wf H1 → va_D A wf → va_S A s.heap H1 locs1 → W p l e R s m args below meth c H1 locs1 c1 s1 Q (F0 m (pc + 3) ls st1)) :
    W p l e R s m args below meth c H locs cells slots Q (F0 m pc ls st0) := by
  subst hst
  obtain ⟨h1, h2⟩ := ly_pre (av := .ref (G.2.2.1 i) :: As) hA hS hK hZ hP hD isC hc hnc
  exact ly_after hst1 hc1 hs1 hP hD hS hA isC hc hnc hx1 hf (va_runV S (hC H.size) cw ⟨h1, vk_recv hZ.1 hi hS, h2⟩ rfl hlen hsize rfl (lv_room hW) hdg hfit) kk
end LYL
theorem lenS_lt : ∀ k, k < nS → lenS.getD k 0 < 2 ^ 31 := by decide +kernel
theorem vi_1 {i : Int32} {n : Nat} (h : vp_in i n) : ¬ i < 0 := fun q => h (Or.inl q)
theorem vi_2 {i : Int32} {n : Nat} (hn : n < 2 ^ 31) (h : vp_in i n) : i < Int32.ofNat n := by
  rw [vp_in_iff] at h
  rw [Int32.lt_iff_toInt_lt]
  have e : (Int32.ofNat n).toInt = (n : Int) := nI_toInt hn
  omega
theorem sc_nar9 (b : Int32) : narrow .char (.int ((b &&& 255).toUInt32 % 65536).toInt32) = .int ((b &&& 255).toUInt32 % 65536).toInt32 := by
  rw [sc_c2]
  exact sc_nar b
