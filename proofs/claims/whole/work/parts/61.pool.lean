/-! the twelve questions of a script: cells at addresses qa j that hold Q j; one of them in front, the others behind -/
theorem P_mem {D : va_G} {cl : List vw_C} {ws : va_W} {H : Heap} : va_P D cl ws H ↔ ∀ q ∈ ws, va_at D cl q H :=
  ⟨fun h q hq => by obtain ⟨k, hk⟩ := List.getElem?_of_mem hq; exact h k q hk, fun h k q hk => h q (List.mem_of_getElem? hk)⟩
theorem D_nd {A : Nat → Prop} {ws : va_W} : va_D A ws ↔ (ws.map (fun q => q.1)).Nodup ∧ ∀ q ∈ ws, A q.1 := by
  constructor
  · intro h
    refine ⟨?_, fun q hq => by obtain ⟨k, hk⟩ := List.getElem?_of_mem hq; exact h.2 k q hk⟩
    refine List.pairwise_iff_getElem.mpr (fun i j hi hj hij e => ?_)
    rw [List.length_map] at hi hj
    rw [List.getElem_map, List.getElem_map] at e
    have := h.1 i j ws[i] ws[j] (List.getElem?_eq_getElem hi) (List.getElem?_eq_getElem hj) e
    omega
  · intro h
    refine ⟨fun i j p q hp hq e => ?_, fun k q hk => h.2 q (List.mem_of_getElem? hk)⟩
    have hi : i < (ws.map (fun q => q.1)).length := by rw [List.length_map]; exact (List.getElem?_eq_some_iff.mp hp).1
    refine (List.getElem?_inj hi h.1).mp ?_
    rw [List.getElem?_map, List.getElem?_map, hp, hq]
    show some p.1 = some q.1
    rw [e]
theorem P_perm {D : va_G} {cl : List vw_C} {w1 w2 : va_W} {H : Heap} (p : List.Perm w1 w2) (h : va_P D cl w1 H) : va_P D cl w2 H := P_mem.mpr (fun q hq => P_mem.mp h q (p.mem_iff.mpr hq))
theorem D_perm {A : Nat → Prop} {w1 w2 : va_W} (p : List.Perm w1 w2) (h : va_D A w1) : va_D A w2 := by
  have h1 := D_nd.mp h
  exact D_nd.mpr ⟨(p.map (fun q => q.1)).nodup_iff.mp h1.1, fun q hq => h1.2 q (p.mem_iff.mpr hq)⟩
theorem q_perm0 : ∀ J, J < 12 → List.Perm (List.range 12) (J :: (List.range 12).filter (fun j => decide (j ≠ J))) := by decide
theorem q_perm {X Y : va_W} {qa : Nat → Nat} {Q : Nat → Nat → Int32} {J : Nat} (hJ : J < 12) : List.Perm (X ++ (qcells qa Q ++ Y)) (X ++ (qcell qa Q J :: (Y ++ qrest qa Q J))) := by
  refine List.Perm.append_left X ?_
  have h1 : List.Perm (qcells qa Q) (qcell qa Q J :: qrest qa Q J) := (q_perm0 J hJ).map (qcell qa Q)
  refine (h1.append_right Y).trans ?_
  exact (List.perm_append_comm (l₁ := qrest qa Q J) (l₂ := Y)).cons _
theorem q_focP {X Y : va_W} {D : va_G} {cl : List vw_C} {H : Heap} {qa : Nat → Nat} {Q : Nat → Nat → Int32} {J : Nat} (hJ : J < 12) (h : va_P D cl (X ++ (qcells qa Q ++ Y)) H) : va_P D cl (X ++ ((qa J, .inr (9, qfs (Q J))) :: (Y ++ qrest qa Q J))) H := P_perm (q_perm hJ) h
theorem q_focD {X Y : va_W} {A : Nat → Prop} {qa : Nat → Nat} {Q : Nat → Nat → Int32} {J : Nat} (hJ : J < 12) (h : va_D A (X ++ (qcells qa Q ++ Y))) : va_D A (X ++ ((qa J, .inr (9, qfs (Q J))) :: (Y ++ qrest qa Q J))) := D_perm (q_perm hJ) h
theorem q_rest {qa : Nat → Nat} {Q : Nat → Nat → Int32} {J : Nat} {F : Nat → Int32} : qrest qa (updQ Q J F) J = qrest qa Q J := by
  unfold qrest
  apply List.map_congr_left
  intro j hj
  have h := of_decide_eq_true (List.mem_filter.mp hj).2
  unfold qcell updQ
  rw [if_neg h]
theorem q_cell {qa : Nat → Nat} {Q : Nat → Nat → Int32} {J : Nat} {F : Nat → Int32} : qcell qa (updQ Q J F) J = (qa J, .inr (9, qfs F)) := by
  unfold qcell updQ
  rw [if_pos rfl]
theorem q_unP {X Y : va_W} {D : va_G} {cl : List vw_C} {H : Heap} {qa : Nat → Nat} {Q : Nat → Nat → Int32} {J : Nat} {F : Nat → Int32} (hJ : J < 12) (h : va_P D cl (X ++ ((qa J, .inr (9, qfs F)) :: (Y ++ qrest qa Q J))) H) : va_P D cl (X ++ (qcells qa (updQ Q J F) ++ Y)) H := by
  refine P_perm (q_perm (Q := updQ Q J F) hJ).symm ?_
  rw [q_rest, q_cell]
  exact h
theorem q_unD {X Y : va_W} {A : Nat → Prop} {qa : Nat → Nat} {Q : Nat → Nat → Int32} {J : Nat} {F : Nat → Int32} (hJ : J < 12) (h : va_D A (X ++ ((qa J, .inr (9, qfs F)) :: (Y ++ qrest qa Q J)))) : va_D A (X ++ (qcells qa (updQ Q J F) ++ Y)) := by
  refine D_perm (q_perm (Q := updQ Q J F) hJ).symm ?_
  rw [q_rest, q_cell]
  exact h
theorem q_baP {X Y : va_W} {D : va_G} {cl : List vw_C} {H : Heap} {qa : Nat → Nat} {Q : Nat → Nat → Int32} {J : Nat} (hJ : J < 12) (h : va_P D cl (X ++ ((qa J, .inr (9, qfs (Q J))) :: (Y ++ qrest qa Q J))) H) : va_P D cl (X ++ (qcells qa Q ++ Y)) H := P_perm (q_perm hJ).symm h
theorem q_baD {X Y : va_W} {A : Nat → Prop} {qa : Nat → Nat} {Q : Nat → Nat → Int32} {J : Nat} (hJ : J < 12) (h : va_D A (X ++ ((qa J, .inr (9, qfs (Q J))) :: (Y ++ qrest qa Q J)))) : va_D A (X ++ (qcells qa Q ++ Y)) := D_perm (q_perm hJ).symm h
theorem s_qj_in (x : Int32) : vp_in (if (0 : Int32) < (if (12 - 1 : Int32) < x then (12 - 1 : Int32) else x) then (if (12 - 1 : Int32) < x then (12 - 1 : Int32) else x) else 0) 12 := by
  by_cases h : (12 - 1 : Int32) < x
  · rw [if_pos h]
    exact ly_mk (by decide) (by decide)
  · rw [if_neg h]
    rw [Int32.lt_iff_toInt_lt, show (12 - 1 : Int32).toInt = 11 by decide] at h
    by_cases h2 : (0 : Int32) < x
    · rw [if_pos h2]
      rw [Int32.lt_iff_toInt_lt, i0] at h2
      exact ly_mk (by omega) (by omega)
    · rw [if_neg h2]
      exact ly_mk (by decide) (by decide)
theorem s_qj_lt (x : Int32) : s_qj x < 12 := by
  have h := s_qj_in x
  exact Nat.not_le.mp (fun g => h (Or.inr g))
