/-! THE LAYER: a contract that says exactly what comes out (Det: from these cells, with these arguments, this answer and these cells), its entry, its ends, its calls. My own; over the kit's worlds.
G: what is the same in every method: the classes' numbers and slots (G.1), the array classes, the addresses of the literals and of their bytes. -/
section LY
abbrev GG : Type := va_G × (ClassId × ClassId × ClassId × ClassId) × (Nat → Nat) × (Nat → Nat)
abbrev gI (G : GG) : ClassId := G.2.1.1
abbrev gC (G : GG) : ClassId := G.2.1.2.1
abbrev gZ (G : GG) : ClassId := G.2.1.2.2.1
abbrev gQ (G : GG) : ClassId := G.2.1.2.2.2
abbrev tysG (G : GG) : List (ClassId × FieldType) := [(gI G, .int), (gC G, .char), (gZ G, .boolean), (gQ G, .object R_Qu)]
/-- the literals lie where they lie, outside of what may change; the one link within the nest; the two statics of the JDK -/
def Zs (G : GG) (A : Nat → Prop) (U : State) (H : Heap) : Prop := vk_S nS lenS bytS G.2.2.1 G.2.2.2 A U H ∧ (∀ r ∈ refS, vk_R r.1 r.2.1 r.2.2.1 (G.2.2.1 r.2.2.2) U) ∧ va_Nw (.methodLinkNest R_Qu 49 y_PQ_nearest "PrivateQueries") U ∧ va_Z "java/lang/String" "COMPACT_STRINGS" "Z" (.int 1) A U H ∧ (va_Z "jdk/internal/util/Preconditions" "SIOOBE_FORMATTER" "Ljava/util/function/BiFunction;" .null A U H ∨ ∃ x : Nat, va_Z "jdk/internal/util/Preconditions" "SIOOBE_FORMATTER" "Ljava/util/function/BiFunction;" (.ref x) A U H)
theorem Zs.warm {G : GG} {A : Nat → Prop} {s U : State} {H : Heap} (hW : s.WarmedH U.vm) (h : Zs G A s H) : Zs G A U H := ⟨h.1.moved hW.alike, fun r hr => (h.2.1 r hr).warm hW, va_Nw.warmM hW h.2.2.1, va_Z.moved hW.alike h.2.2.2.1, h.2.2.2.2.imp (fun hx => va_Z.moved hW.alike hx) (fun hx => hx.elim (fun x hx => ⟨x, va_Z.moved hW.alike hx⟩))⟩
theorem Zs.same {G : GG} {A : Nat → Prop} {u U : State} {H : Heap} (hv : U.vm = u.vm) (h : Zs G A u H) : Zs G A U H := ⟨h.1.moved (by rw [hv]; exact Vm.Alike.refl _), fun r hr => (h.2.1 r hr).same hv, va_Nw.same rfl hv.symm h.2.2.1, va_Z.moved (by rw [hv]; exact Vm.Alike.refl _) h.2.2.2.1, h.2.2.2.2.imp (fun hx => va_Z.moved (by rw [hv]; exact Vm.Alike.refl _) hx) (fun hx => hx.elim (fun x hx => ⟨x, va_Z.moved (by rw [hv]; exact Vm.Alike.refl _) hx⟩))⟩
theorem Zs.kept {G : GG} {A : Nat → Prop} {U : State} {H H1 : Heap} (h : Zs G A U H) (hq : ∀ a : Nat, a < H.size → ¬ A a → H1[a]? = H[a]?) : Zs G A U H1 := ⟨h.1.kept hq, h.2.1, h.2.2.1, h.2.2.2.1.kept hq, h.2.2.2.2.imp (fun hx => hx.kept hq) (fun hx => hx.elim (fun x hx => ⟨x, hx.kept hq⟩))⟩
theorem Zs.narrow {G : GG} {A B : Nat → Prop} {U : State} {H : Heap} (h : Zs G A U H) (hAB : ∀ q, B q → A q) : Zs G B U H := ⟨h.1.narrow hAB, h.2.1, h.2.2.1, h.2.2.2.1.narrow hAB, h.2.2.2.2.imp (fun hx => hx.narrow hAB) (fun hx => hx.elim (fun x hx => ⟨x, hx.narrow hAB⟩))⟩
/-- a method's end: the answer, the cells, the frame -/
def ly_Q (G : GG) (A : Nat → Prop) (o : Option Value) (w1 : va_W) : Array Value → State → Outcome → State → Prop := fun _ st oc t =>
  oc = .returned o ∧ (va_P G.1 classes w1 t.heap ∧ va_D A w1) ∧ va_F A st t
/-- a method's start -/
def ly_B (G : GG) (w0 : va_W) (sz : Nat) : State → Prop := fun U => U.heap.size = sz ∧ va_P G.1 classes w0 U.heap ∧ va_K G.1 classes (tysG G) U ∧ va_D (fun _ => True) w0 ∧ Zs G (va_A w0 sz) U U.heap
/-- the contract: arguments av over the cells w0: answer o, cells w1, at most mc new cells of ms slots -/
def Det (l : Launch) (G : GG) (y : MethodName) (ws : List Cond) (rm : Room) (mc ms : Nat) (av : List Value) (w0 : va_W) (o : Option Value) (w1 : va_W) : Prop :=
  ∀ sz : Nat, Met l y ws rm (va_Pc av (ly_B G w0 sz)) (ly_Q G (va_A w0 sz) o w1) mc ms (va_A w0 sz)
theorem ly_blind {G : GG} {w0 : va_W} {sz : Nat} {av : List Value} : FrameBlind (va_Pc av (ly_B G w0 sz)) := by
  intro a U g mk q
  obtain ⟨q0, q1, qP, qK, qD, qZ⟩ := q
  exact ⟨q0, q1, qP, va_K.moved (u := U) (U := U.calling g mk a) (Vm.Alike.refl U.vm) qK, qD, Zs.same (u := U) (U := U.calling g mk a) rfl qZ⟩
theorem ly_fm {α : Type} {ws w : List α} {is : List Nat} (h : is.map (fun i => ws[i]?) = w.map some) : is.filterMap (fun i => ws[i]?) = w := by
  have e : is.filterMap (fun i => ws[i]?) = (is.map (fun i => ws[i]?)).filterMap id := by rw [List.filterMap_map]; rfl
  rw [e, h, List.filterMap_map]
  exact List.filterMap_some
theorem Det.of {l : Launch} {G : GG} {y : MethodName} {ws ws' : List Cond} {rm : Room} {mc ms : Nat} {av : List Value} {w0 w1 : va_W} {o : Option Value} {cc : ByteArray} {maxL : Nat} {ret : Option FieldType}
    (hy : plainName y.cls = true) (hw : ws = Cond.code y cc maxL ret :: ws') (hav : (lg_sl av).length ≤ maxL)
    (body : ∀ (p : Program) (e : Env) (s : State) (m : MethodId) (args : Array Value) (below : List Frame) (meth : Method) (c : Code) (A : Nat → Prop) (ls : Array Slot),
      p.tables.exec = Jvm.exec → c.code = cc → meth.sig.returnType = ret → c.maxLocals = maxL → s.vm.findClass y.cls = some m.cls → (∀ w ∈ ws, w.before args s = true) → meth.locks = false → meth.name = y.name → (∀ q, s.heap.size ≤ q → A q) →
      va_K G.1 classes (tysG G) s → Zs G A s s.heap → va_P G.1 classes w0 s.heap → va_D A w0 → va_S A s.heap s.heap [] → lv_has ls maxL (lv_args 0 av) →
      W p l e rm s m args below meth c s.heap [] 0 0 (MQ below (ly_Q G A o w1) args s mc ms A) (F0 m 0 ls [])) : Det l G y ws rm mc ms av w0 o w1 := by
  intro sz
  refine Met.ofW (cc := cc) (maxL := maxL) (ret := ret) hy hw ?_
  intro p e s m args below meth c s₁ B hml hv
  obtain ⟨rfl, hsz, hP, hK, hD0, hZ⟩ := hv
  subst hsz
  rw [lg_entry_eq]
  exact body p e s m _ below meth c (va_A w0 s.heap.size) _ B.exec B.bytes B.returns hml (findClass_of_methodNamed B.named) (atoms_spec (ws := ws) B.pre) B.notSynchronized (name_of_methodNamed B.named B.method).1 (fun q h => Or.inr h) hK hZ hP hD0.self va_S.rf (lv_entry av hav)
variable {p : Program} {l : Launch} {e : Env} {R : Room} {s : State} {m : MethodId} {args : Array Value} {below : List Frame} {meth : Method} {c : Code} {H : Heap} {locs : List Loc} {cells slots : Nat} {Q : State → Prop}
variable {G : GG} {A : Nat → Prop} {cc : ByteArray} {pc : Nat} {ls : Array Slot} {ws w1 : va_W} {o : Option Value}
theorem ly_iret {v : Int32} (hx : p.tables.exec = Jvm.exec) (hb : c.code = cc) (hr : meth.sig.returnType = some .int) (hlocks : meth.locks = false) (hP : va_P G.1 classes ws H) (hD : va_D A ws) (hS : va_S A s.heap H locs) (hdg : decode cc pc = .ok (.ireturn, 1)) (ho : o = some (.int v)) (hw : w1 = ws) :
    W p l e R s m args below meth c H locs cells slots (MQ below (ly_Q G A o w1) args s cells slots A) (F0 m pc ls [.int v]) := by
  subst ho hw
  exact W.iret hx hb hr (fun t ht _ => ⟨rfl, ⟨by rw [ht]; exact hP, hD⟩, hS.F ht⟩) hS.2.2 hdg hlocks
theorem ly_zret {v : Int32} {ty : FieldType} (hx : p.tables.exec = Jvm.exec) (hb : c.code = cc) (hr : meth.sig.returnType = some ty) (hlocks : meth.locks = false) (hP : va_P G.1 classes ws H) (hD : va_D A ws) (hS : va_S A s.heap H locs) (hdg : decode cc pc = .ok (.ireturn, 1)) (hn : narrow ty (.int v) = .int v) (ho : o = some (.int v)) (hw : w1 = ws) :
    W p l e R s m args below meth c H locs cells slots (MQ below (ly_Q G A o w1) args s cells slots A) (F0 m pc ls [.int v]) := by
  subst ho hw
  exact W.zret hx hb hr hn (fun t ht _ => ⟨rfl, ⟨by rw [ht]; exact hP, hD⟩, hS.F ht⟩) hS.2.2 hdg hlocks
theorem ly_vret (hx : p.tables.exec = Jvm.exec) (hb : c.code = cc) (hr : meth.sig.returnType = none) (hlocks : meth.locks = false) (hP : va_P G.1 classes ws H) (hD : va_D A ws) (hS : va_S A s.heap H locs) (hdg : decode cc pc = .ok (.return_, 1)) (ho : o = none) (hw : w1 = ws) :
    W p l e R s m args below meth c H locs cells slots (MQ below (ly_Q G A o w1) args s cells slots A) (F0 m pc ls []) := by
  subst ho hw
  exact W.vret hx hb hr (fun t ht _ => ⟨rfl, ⟨by rw [ht]; exact hP, hD⟩, hS.F ht⟩) hS.2.2 hdg hlocks
theorem ly_aret {v : Value} {rt : FieldType} (hx : p.tables.exec = Jvm.exec) (hb : c.code = cc) (hr : meth.sig.returnType = some rt) (hlocks : meth.locks = false) (hP : va_P G.1 classes ws H) (hD : va_D A ws) (hS : va_S A s.heap H locs) (hdg : decode cc pc = .ok (.areturn, 1)) (hrt : (∃ n, rt = .object n) ∨ ∃ t, rt = .array t) (hv : v = .null ∨ ∃ a, v = .ref a) (ho : o = some v) (hw : w1 = ws) :
    W p l e R s m args below meth c H locs cells slots (MQ below (ly_Q G A o w1) args s cells slots A) (F0 m pc ls [v]) := by
  subst ho hw
  exact W.aret hx hb hr hrt hv (fun t ht _ => ⟨rfl, ⟨by rw [ht]; exact hP, hD⟩, hS.F ht⟩) hS.2.2 hdg hlocks
/-- cells replaced at their places -/
def setAll : va_W → List Nat → va_W → va_W
  | ws, i :: is, x :: xs => setAll (ws.set i x) is xs
  | ws, _, _ => ws
theorem setAll_P {D : va_G} {cl : List vw_C} {H1 : Heap} : ∀ (is : List Nat) (xs ws : va_W), is.length = xs.length → (∀ (k : Nat) (q : Nat × va_E), ws[k]? = some q → k ∉ is → va_at D cl q H1) → (∀ q ∈ xs, va_at D cl q H1) → va_P D cl (setAll ws is xs) H1 := by
  intro is
  induction is with
  | nil =>
    intro xs ws hl h1 _ k q hk
    cases xs with
    | nil => exact h1 k q hk List.not_mem_nil
    | cons x xs => cases hl
  | cons i is ih =>
    intro xs ws hl h1 h2
    cases xs with
    | nil => cases hl
    | cons x xs =>
      refine ih xs (ws.set i x) (Nat.succ.inj hl) (fun k q hk hn => ?_) (fun q hq => h2 q (List.mem_cons_of_mem _ hq))
      by_cases hki : k = i
      · subst hki
        have hlt : k < (ws.set k x).length := (List.getElem?_eq_some_iff.mp hk).1
        rw [List.length_set] at hlt
        rw [List.getElem?_set_self hlt] at hk
        cases hk
        exact h2 x List.mem_cons_self
      · rw [List.getElem?_set_ne (Ne.symm hki)] at hk
        exact h1 k q hk (fun hm => by
          rcases List.mem_cons.mp hm with e | e
          · exact hki e
          · exact hn e)
theorem setAll_D {A : Nat → Prop} : ∀ (is : List Nat) (w0 xs ws : va_W), va_nd is = true → is.map (fun i => ws[i]?) = w0.map some → xs.map (fun q => q.1) = w0.map (fun q => q.1) → va_D A ws → va_D A (setAll ws is xs) := by
  intro is
  induction is with
  | nil =>
    intro w0 xs ws _ _ _ hD
    cases xs <;> exact hD
  | cons i is ih =>
    intro w0 xs ws hn hc hx hD
    cases w0 with
    | nil => cases hc
    | cons y w0 =>
      cases xs with
      | nil => cases hx
      | cons x xs =>
        have hc1 : ws[i]? = some y := (List.cons.inj hc).1
        have hc2 : is.map (fun i => ws[i]?) = w0.map some := (List.cons.inj hc).2
        have hx1 : x.1 = y.1 := (List.cons.inj hx).1
        have hx2 := (List.cons.inj hx).2
        have hni : i ∉ is := by
          have h3 : (decide (i ∉ is) && va_nd is) = true := hn
          exact of_decide_eq_true (Bool.and_eq_true_iff.mp h3).1
        have hnd : va_nd is = true := by
          have h3 : (decide (i ∉ is) && va_nd is) = true := hn
          exact (Bool.and_eq_true_iff.mp h3).2
        refine ih w0 xs (ws.set i x) hnd ?_ hx2 ?_
        · rw [← hc2]
          apply List.map_congr_left
          intro j hj
          exact List.getElem?_set_ne (fun e => by subst e; exact hni hj)
        · obtain ⟨xa, xe⟩ := x
          obtain ⟨ya, ye⟩ := y
          have e : xa = ya := hx1
          subst e
          exact hD.set hc1
/-- behind a call: the callee's cells as it left them, in their places; the others as they were -/
theorem ly_after {mc ms : Nat} {w0 wf : va_W} {a : Array Value} {rest st0 st1 : List Value} {c1 s1 : Nat} (hst1 : o.toList ++ rest = st1) (hc1 : cells + mc = c1) (hs1 : slots + ms = s1)
    (hP : va_P G.1 classes ws H) (hD : va_D A ws) (hS : va_S A s.heap H locs) (hA : ∀ q, s.heap.size ≤ q → A q)
    (isC : List Nat) (hc : isC.map (fun i => ws[i]?) = w0.map some) (hnc : va_nd isC = true) (hx1 : w1.map (fun q => q.1) = w0.map (fun q => q.1)) (hf : setAll ws isC w1 = wf)
    (run : va_Run p l e R s m args below meth c H locs cells slots mc ms (F0 m pc ls st0) rest (ly_Q G (va_A w0 H.size) o w1 a) (va_A w0 H.size))
    (kk : ∀ (H1 : Heap) (locs1 : List Loc), va_P G.1 classes wf H1 → va_D A wf → va_S A s.heap H1 locs1 → W p l e R s m args below meth c H1 locs1 c1 s1 Q (F0 m (pc + 3) ls st1)) :
    W p l e R s m args below meth c H locs cells slots Q (F0 m pc ls st0) := by
  subst hst1 hc1 hs1 hf
  intro T hT X
  have hFc := va_free (wc := w0) hD hS hA isC hc
  obtain ⟨v, st₀, t, T', L, h0, X', hL, e1, e2, ⟨hv, ⟨hP1, hD1⟩, hz, hk⟩, st⟩ := run T hT X
  cases hv
  rw [h0] at hz hk
  have hlen : isC.length = w1.length := by
    have h1 := congrArg List.length hc
    have h2 := congrArg List.length hx1
    simp only [List.length_map] at h1 h2
    omega
  have hPj : va_P G.1 classes (setAll ws isC w1) t.heap := by
    refine setAll_P isC w1 ws hlen (fun k q hkq hn => ?_) (fun q hq => ?_)
    · refine (hP k q hkq).kept (hk q.1 ((hP k q hkq).lt) (fun z => ?_))
      rcases z with ⟨j, e9, h9⟩ | h9
      · have h8 : (isC.map (fun i => ws[i]?))[j]? = some (some (q.1, e9)) := by rw [hc, List.getElem?_map, h9]; rfl
        rw [List.getElem?_map] at h8
        cases hi : isC[j]? with
        | none => rw [hi] at h8; cases h8
        | some i =>
          rw [hi] at h8
          have h7 : ws[i]? = some (q.1, e9) := Option.some.inj h8
          have hki := hD.1 k i q (q.1, e9) hkq h7 rfl
          exact hn (hki ▸ List.mem_of_getElem? hi)
      · exact absurd h9 (Nat.not_le.mpr (hP k q hkq).lt)
    · obtain ⟨j, hj⟩ := List.getElem?_of_mem hq
      exact hP1 j q hj
  obtain ⟨t2, a1, b1⟩ := kk T'.heap (locs ++ L) (by rw [e1]; exact hPj) (setAll_D isC w0 w1 ws hnc hc hx1 hD)
    ⟨Nat.le_trans hS.1 (by rw [e1]; exact hz), fun q h1 h2 => by rw [e1, hk q (Nat.lt_of_lt_of_le h1 hS.1) (fun z => h2 (hFc q z))]; exact hS.2.1 q h1 h2, fun q hq => by
      rcases List.mem_append.mp hq with h | h
      · exact hS.2.2 q h
      · exact hFc _ (hL q h)⟩ T' rfl X'
  exact ⟨t2, st t2 a1, b1⟩
theorem ly_pre {w0 : va_W} {av : List Value} (hA : ∀ q, s.heap.size ≤ q → A q) (hS : va_S A s.heap H locs) (hK : va_K G.1 classes (tysG G) s) (hZ : Zs G A s s.heap) (hP : va_P G.1 classes ws H) (hD : va_D A ws) (isC : List Nat) (hc : isC.map (fun i => ws[i]?) = w0.map some) (hnc : va_nd isC = true) : PreS s H (va_Pc av (ly_B G w0 H.size)) av :=
  ⟨ly_blind, fun U hU hW => ⟨rfl, by rw [hU], by rw [hU]; exact hP.sub isC (ly_fm hc), va_K.moved hW.alike hK, (hD.sub isC hnc hc).weaken (fun _ _ _ _ => trivial), Zs.warm hW (by rw [hU]; exact (hZ.kept hS.2.1).narrow (va_free (wc := w0) hD hS hA isC hc))⟩⟩
theorem ly_callS {Ts : List Cond} {own : String} {nL maxL n index mc ms : Nat} {y : MethodName} {bytes : ByteArray} {ret : Option FieldType} {wsC : List Cond} {rm : Room} {As rest st0 st1 : List Value} {c1 s1 : Nat} {w0 wf : va_W}
    (S : CallFix p m c cc nL s args Ts own) (hA : ∀ q, s.heap.size ≤ q → A q) (hK : va_K G.1 classes (tysG G) s) (hZ : Zs G A s s.heap) (hP : va_P G.1 classes ws H) (hD : va_D A ws) (hS : va_S A s.heap H locs)
    (hC : Det l G y wsC rm mc ms As w0 o w1) (cw : CallB R s args own index y bytes maxL ret wsC rm mc ms n ∧ (Cond.static y).before args s = true)
    (isC : List Nat) (hc : isC.map (fun i => ws[i]?) = w0.map some) (hnc : va_nd isC = true) (hx1 : w1.map (fun q => q.1) = w0.map (fun q => q.1)) (hf : setAll ws isC w1 = wf)
    (hlen : As.length = n) (hsize : ls.size = nL) (hst : st0 = As.reverse ++ rest) (hW : (rest.map fun v => v.category).sum ≤ 8) (hdg : decode cc pc = .ok (.invokestatic index, 3)) (hfit : cells + mc ≤ R.cells ∧ slots + ms ≤ R.slots) (hst1 : o.toList ++ rest = st1) (hc1 : cells + mc = c1) (hs1 : slots + ms = s1)
    (kk : ∀ (H1 : Heap) (locs1 : List Loc), va_P G.1 classes wf H1 → va_D A wf → va_S A s.heap H1 locs1 → W p l e R s m args below meth c H1 locs1 c1 s1 Q (F0 m (pc + 3) ls st1)) :
    W p l e R s m args below meth c H locs cells slots Q (F0 m pc ls st0) := by
  subst hst
  exact ly_after hst1 hc1 hs1 hP hD hS hA isC hc hnc hx1 hf (va_runS S (hC H.size) cw (ly_pre hA hS hK hZ hP hD isC hc hnc) rfl hlen hsize rfl (lv_room hW) hdg hfit) kk
theorem ly_callV {Ts : List Cond} {own C : String} {nL maxL n index mc ms ci q0 b : Nat} {y : MethodName} {bytes : ByteArray} {ret : Option FieldType} {wsC : List Cond} {rm : Room} {As rest st0 st1 : List Value} {c1 s1 : Nat} {w0 wf : va_W} {q : vw_C} {fs : List Value}
    (S : CallFix p m c cc nL s args Ts own) (hA : ∀ q, s.heap.size ≤ q → A q) (hK : va_K G.1 classes (tysG G) s) (hZ : Zs G A s s.heap) (hP : va_P G.1 classes ws H) (hD : va_D A ws) (hS : va_S A s.heap H locs)
    (hC : Det l G y wsC rm mc ms (.ref b :: As) w0 o w1) (cw : CallW R s args own C index y bytes maxL ret wsC rm mc ms n)
    (hcl : classes[ci]? = some q) (hqC : q.1 = C) (he : ws[q0]? = some (b, .inr (ci, fs)))
    (isC : List Nat) (hc : isC.map (fun i => ws[i]?) = w0.map some) (hnc : va_nd isC = true) (hx1 : w1.map (fun q => q.1) = w0.map (fun q => q.1)) (hf : setAll ws isC w1 = wf)
    (hlen : As.length = n) (hsize : ls.size = nL) (hst : st0 = As.reverse ++ .ref b :: rest) (hW : (rest.map fun v => v.category).sum ≤ 8) (hdg : decode cc pc = .ok (.invokevirtual index, 3)) (hfit : cells + mc ≤ R.cells ∧ slots + ms ≤ R.slots) (hst1 : o.toList ++ rest = st1) (hc1 : cells + mc = c1) (hs1 : slots + ms = s1)
    (kk : ∀ (H1 : Heap) (locs1 : List Loc), va_P G.1 classes wf H1 → va_D A wf → va_S A s.heap H1 locs1 → W p l e R s m args below meth c H1 locs1 c1 s1 Q (F0 m (pc + 3) ls st1)) :
    W p l e R s m args below meth c H locs cells slots Q (F0 m pc ls st0) := by
  subst hst
  subst hqC
  obtain ⟨h1, h2⟩ := ly_pre (av := .ref b :: As) hA hS hK hZ hP hD isC hc hnc
  exact ly_after hst1 hc1 hs1 hP hD hS hA isC hc hnc hx1 hf (va_runV S (hC H.size) cw ⟨h1, va_recv hK hP hcl he, h2⟩ rfl hlen hsize rfl (lv_room hW) hdg hfit) kk
theorem ly_callI {Ts : List Cond} {own : String} {nL maxL n index mc ms b : Nat} {y : MethodName} {bytes : ByteArray} {wsC : List Cond} {rm : Room} {As rest st0 st1 : List Value} {c1 s1 : Nat} {w0 wf : va_W}
    (S : CallFix p m c cc nL s args Ts own) (hA : ∀ q, s.heap.size ≤ q → A q) (hK : va_K G.1 classes (tysG G) s) (hZ : Zs G A s s.heap) (hP : va_P G.1 classes ws H) (hD : va_D A ws) (hS : va_S A s.heap H locs)
    (hC : Det l G y wsC rm mc ms (.ref b :: As) w0 o w1) (cw : CallB R s args own index y bytes maxL none wsC rm mc ms n ∧ y.name = "<init>" ∧ (Cond.instanceMethod y).before args s = true)
    (isC : List Nat) (hc : isC.map (fun i => ws[i]?) = w0.map some) (hnc : va_nd isC = true) (hx1 : w1.map (fun q => q.1) = w0.map (fun q => q.1)) (hf : setAll ws isC w1 = wf)
    (hlen : As.length = n) (hsize : ls.size = nL) (hst : st0 = As.reverse ++ .ref b :: rest) (hW : (rest.map fun v => v.category).sum ≤ 8) (hdg : decode cc pc = .ok (.invokespecial index, 3)) (hfit : cells + mc ≤ R.cells ∧ slots + ms ≤ R.slots) (hst1 : o.toList ++ rest = st1) (hc1 : cells + mc = c1) (hs1 : slots + ms = s1)
    (kk : ∀ (H1 : Heap) (locs1 : List Loc), va_P G.1 classes wf H1 → va_D A wf → va_S A s.heap H1 locs1 → W p l e R s m args below meth c H1 locs1 c1 s1 Q (F0 m (pc + 3) ls st1)) :
    W p l e R s m args below meth c H locs cells slots Q (F0 m pc ls st0) := by
  subst hst
  exact ly_after hst1 hc1 hs1 hP hD hS hA isC hc hnc hx1 hf (va_runI S (hC H.size) cw (ly_pre (av := .ref b :: As) hA hS hK hZ hP hD isC hc hnc) rfl hlen hsize rfl (lv_room hW) hdg hfit) kk
theorem ly_callSN {Ts : List Cond} {own host : String} {nL maxL n index mc ms : Nat} {y : MethodName} {bytes : ByteArray} {ret : Option FieldType} {wsC : List Cond} {rm : Room} {As rest st0 st1 : List Value} {c1 s1 : Nat} {w0 wf : va_W}
    (S : CallFix p m c cc nL s args Ts own) (hA : ∀ q, s.heap.size ≤ q → A q) (hK : va_K G.1 classes (tysG G) s) (hZ : Zs G A s s.heap) (hP : va_P G.1 classes ws H) (hD : va_D A ws) (hS : va_S A s.heap H locs)
    (hC : Det l G y wsC rm mc ms As w0 o w1) (cw : va_CN R s args own index y host bytes maxL ret wsC rm mc ms n ∧ (Cond.static y).before args s = true ∧ True)
    (isC : List Nat) (hc : isC.map (fun i => ws[i]?) = w0.map some) (hnc : va_nd isC = true) (hx1 : w1.map (fun q => q.1) = w0.map (fun q => q.1)) (hf : setAll ws isC w1 = wf)
    (hlen : As.length = n) (hsize : ls.size = nL) (hst : st0 = As.reverse ++ rest) (hW : (rest.map fun v => v.category).sum ≤ 8) (hdg : decode cc pc = .ok (.invokestatic index, 3)) (hfit : cells + mc ≤ R.cells ∧ slots + ms ≤ R.slots) (hst1 : o.toList ++ rest = st1) (hc1 : cells + mc = c1) (hs1 : slots + ms = s1)
    (kk : ∀ (H1 : Heap) (locs1 : List Loc), va_P G.1 classes wf H1 → va_D A wf → va_S A s.heap H1 locs1 → W p l e R s m args below meth c H1 locs1 c1 s1 Q (F0 m (pc + 3) ls st1)) :
    W p l e R s m args below meth c H locs cells slots Q (F0 m pc ls st0) := by
  subst hst
  exact ly_after hst1 hc1 hs1 hP hD hS hA isC hc hnc hx1 hf (va_runSN S (hC H.size) cw (ly_pre hA hS hK hZ hP hD isC hc hnc) rfl hlen hsize rfl (lv_room hW) hdg hfit) kk
end LY
/-! places in an array, by the tests that stand before them in the code -/
theorem ly_in {i : Int32} {n : Nat} {N : Int32} (hN : N.toInt = (n : Int)) (h1 : ¬ i < 0) (h2 : ¬ N ≤ i) : vp_in i n := by
  rw [vp_in_iff]
  rw [Int32.lt_iff_toInt_lt] at h1
  rw [Int32.le_iff_toInt_le, hN] at h2
  have h0 : (0 : Int32).toInt = 0 := by decide
  omega
theorem ly_in2 {i : Int32} {n : Nat} {N : Int32} (hN : N.toInt = (n : Int)) (h1 : ¬ i < 0) (h2 : i < N) : vp_in i n := by
  rw [vp_in_iff]
  rw [Int32.lt_iff_toInt_lt] at h1 h2
  rw [hN] at h2
  have h0 : (0 : Int32).toInt = 0 := by decide
  omega
theorem ly_ne {x k : Int32} {a : Int} (h : ¬ x = k) (hk : k.toInt = a) : x.toInt ≠ a := fun e => h (Int32.toInt_inj.mp (e.trans hk.symm))
