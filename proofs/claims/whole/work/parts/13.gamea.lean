set_option maxHeartbeats 4000000 in
set_option maxRecDepth 100000 in
theorem t_X7_isPress_0 {p : Program} {l : Launch} {e : Env} {s : State} {m : MethodId} {args : Array Value} {below : List Frame} {meth : Method} {c : Code} {D : va_G} {cI cJ cZ cR cN : ClassId} {x0 : Int32} {H : Heap} {r : Int32} (hB : fr_BX p s m args meth c cX7_isPress (some .boolean) 1 RX7 wsX7_isPress) (hcx : fr_cx D cI cJ cZ cR cN s) (hm : m_X7_isPress x0 = r) {locs : List Loc} {ls : Array Slot} (hS : va_S (fun _ => False) s.heap H locs) (hl : lv_has ls 1 [(0, .int x0)]) : W p l e ({ frames := 0, cells := 0, slots := 0, locals := 0 } : Room) s m args below meth c H locs 0 0 (MQ below (fr_Ri H r) args s 0 0 (fun _ => False)) (F0 m 0 ls []) := by
  obtain ⟨hx, hb, hr, hml, hown, hts, hlocks⟩ := id hB
  have hK := hcx.1
  unfold m_X7_isPress at hm
  refine lv_iload_n hx hb dX7_isPress_0 rfl (lv_at hl 0 rfl) ?_
  refine lv_if_lt (tgt := 13) hx hb dX7_isPress_1 (by decide) (fun c_1 => ?_) (fun c_1 => ?_)
  · have hm := fr_tip c_1 hm
    refine lv_iconst (v := (0 : Int32)) hx hb dX7_isPress_13 (by decide) ?_
    exact W.zret (v := (0 : Int32)) hx hb hr rfl (fun t ht hW => ⟨⟨_, (), rfl, hm, ht⟩, hS.F ht⟩) hS.2.2 dX7_isPress_14 hlocks
  · have hm := fr_tin c_1 hm
    refine lv_iload_n hx hb dX7_isPress_4 rfl (lv_at hl 0 rfl) ?_
    refine lv_iconst (v := (5 : Int32)) hx hb dX7_isPress_5 (by decide) ?_
    refine lv_icmp_ge (tgt := 13) hx hb dX7_isPress_6 (by decide) (fun c_2 => ?_) (fun c_2 => ?_)
    · have hm := fr_tip c_2 hm
      refine lv_iconst (v := (0 : Int32)) hx hb dX7_isPress_13 (by decide) ?_
      exact W.zret (v := (0 : Int32)) hx hb hr rfl (fun t ht hW => ⟨⟨_, (), rfl, hm, ht⟩, hS.F ht⟩) hS.2.2 dX7_isPress_14 hlocks
    · have hm := fr_tin c_2 hm
      refine lv_iconst (v := (1 : Int32)) hx hb dX7_isPress_9 (by decide) ?_
      refine lv_goto (tgt := 14) hx hb dX7_isPress_10 (by decide) ?_
      exact W.zret (v := (1 : Int32)) hx hb hr rfl (fun t ht hW => ⟨⟨_, (), rfl, hm, ht⟩, hS.F ht⟩) hS.2.2 dX7_isPress_14 hlocks
set_option maxHeartbeats 4000000 in
set_option maxRecDepth 100000 in
theorem c_X7_isPress {l : Launch} {D : va_G} {cI cJ cZ cR cN : ClassId} {x0 : Int32} {H0 : Heap} : Met l yX7_isPress wsX7_isPress ({ frames := 0, cells := 0, slots := 0, locals := 0 } : Room) (fr_Pr D cI cJ cZ cR cN [.int x0] H0) (fr_Ri H0 (m_X7_isPress x0)) 0 0 (fun _ => False) := by
  refine fr_ofW (cc := cX7_isPress) (maxL := 1) (ret := (some .boolean)) (by decide +kernel) rfl ?_
  intro p e s m args below meth c s₁ B hml hv
  obtain ⟨rfl, hH, hcx⟩ := hv
  subst hH
  have hB : fr_BX p s m _ meth c cX7_isPress (some .boolean) 1 RX7 wsX7_isPress := ⟨B.exec, B.bytes, B.returns, hml, findClass_of_methodNamed B.named, atoms_spec (ws := wsX7_isPress) B.pre, B.notSynchronized⟩
  have hl := lv_entry ([.int x0]) (n := 1) (Nat.le_of_ble_eq_true rfl)
  rw [lg_entry_eq]
  generalize (lg_sl ([.int x0]) ++ List.replicate (1 - (lg_sl ([.int x0])).length) Slot.unset).toArray = ls at hl ⊢
  have hl : lv_has ls 1 [(0, .int x0)] := hl
  exact t_X7_isPress_0 hB hcx rfl va_S.rf hl
set_option maxHeartbeats 4000000 in
set_option maxRecDepth 100000 in
theorem t_X0_isSize_0 {p : Program} {l : Launch} {e : Env} {s : State} {m : MethodId} {args : Array Value} {below : List Frame} {meth : Method} {c : Code} {D : va_G} {cI cJ cZ cR cN : ClassId} {x0 : Int32} {H : Heap} {r : Int32} (hB : fr_BX p s m args meth c cX0_isSize (some .boolean) 1 RX0 wsX0_isSize) (hcx : fr_cx D cI cJ cZ cR cN s) (hm : m_X0_isSize x0 = r) {locs : List Loc} {ls : Array Slot} (hS : va_S (fun _ => False) s.heap H locs) (hl : lv_has ls 1 [(0, .int x0)]) : W p l e ({ frames := 0, cells := 0, slots := 0, locals := 0 } : Room) s m args below meth c H locs 0 0 (MQ below (fr_Ri H r) args s 0 0 (fun _ => False)) (F0 m 0 ls []) := by
  obtain ⟨hx, hb, hr, hml, hown, hts, hlocks⟩ := id hB
  have hK := hcx.1
  unfold m_X0_isSize at hm
  refine lv_iload_n hx hb dX0_isSize_0 rfl (lv_at hl 0 rfl) ?_
  refine lv_iconst (v := (2 : Int32)) hx hb dX0_isSize_1 (by decide) ?_
  refine lv_icmp_lt (tgt := 15) hx hb dX0_isSize_2 (by decide) (fun c_1 => ?_) (fun c_1 => ?_)
  · have hm := fr_tip c_1 hm
    refine lv_iconst (v := (0 : Int32)) hx hb dX0_isSize_15 (by decide) ?_
    exact W.zret (v := (0 : Int32)) hx hb hr rfl (fun t ht hW => ⟨⟨_, (), rfl, hm, ht⟩, hS.F ht⟩) hS.2.2 dX0_isSize_16 hlocks
  · have hm := fr_tin c_1 hm
    refine lv_iload_n hx hb dX0_isSize_5 rfl (lv_at hl 0 rfl) ?_
    refine lv_bipush (v := (8 : Int32)) hx hb dX0_isSize_6 (by decide) ?_
    refine lv_icmp_gt (tgt := 15) hx hb dX0_isSize_8 (by decide) (fun c_2 => ?_) (fun c_2 => ?_)
    · have hm := fr_tip c_2 hm
      refine lv_iconst (v := (0 : Int32)) hx hb dX0_isSize_15 (by decide) ?_
      exact W.zret (v := (0 : Int32)) hx hb hr rfl (fun t ht hW => ⟨⟨_, (), rfl, hm, ht⟩, hS.F ht⟩) hS.2.2 dX0_isSize_16 hlocks
    · have hm := fr_tin c_2 hm
      refine lv_iconst (v := (1 : Int32)) hx hb dX0_isSize_11 (by decide) ?_
      refine lv_goto (tgt := 16) hx hb dX0_isSize_12 (by decide) ?_
      exact W.zret (v := (1 : Int32)) hx hb hr rfl (fun t ht hW => ⟨⟨_, (), rfl, hm, ht⟩, hS.F ht⟩) hS.2.2 dX0_isSize_16 hlocks
set_option maxHeartbeats 4000000 in
set_option maxRecDepth 100000 in
theorem c_X0_isSize {l : Launch} {D : va_G} {cI cJ cZ cR cN : ClassId} {x0 : Int32} {H0 : Heap} : Met l yX0_isSize wsX0_isSize ({ frames := 0, cells := 0, slots := 0, locals := 0 } : Room) (fr_Pr D cI cJ cZ cR cN [.int x0] H0) (fr_Ri H0 (m_X0_isSize x0)) 0 0 (fun _ => False) := by
  refine fr_ofW (cc := cX0_isSize) (maxL := 1) (ret := (some .boolean)) (by decide +kernel) rfl ?_
  intro p e s m args below meth c s₁ B hml hv
  obtain ⟨rfl, hH, hcx⟩ := hv
  subst hH
  have hB : fr_BX p s m _ meth c cX0_isSize (some .boolean) 1 RX0 wsX0_isSize := ⟨B.exec, B.bytes, B.returns, hml, findClass_of_methodNamed B.named, atoms_spec (ws := wsX0_isSize) B.pre, B.notSynchronized⟩
  have hl := lv_entry ([.int x0]) (n := 1) (Nat.le_of_ble_eq_true rfl)
  rw [lg_entry_eq]
  generalize (lg_sl ([.int x0]) ++ List.replicate (1 - (lg_sl ([.int x0])).length) Slot.unset).toArray = ls at hl ⊢
  have hl : lv_has ls 1 [(0, .int x0)] := hl
  exact t_X0_isSize_0 hB hcx rfl va_S.rf hl
set_option maxHeartbeats 4000000 in
set_option maxRecDepth 100000 in
theorem t_X0_isKind_0 {p : Program} {l : Launch} {e : Env} {s : State} {m : MethodId} {args : Array Value} {below : List Frame} {meth : Method} {c : Code} {D : va_G} {cI cJ cZ cR cN : ClassId} {x0 : Int32} {H : Heap} {r : Int32} (hB : fr_BX p s m args meth c cX0_isKind (some .boolean) 1 RX0 wsX0_isKind) (hcx : fr_cx D cI cJ cZ cR cN s) (hm : m_X0_isKind x0 = r) {locs : List Loc} {ls : Array Slot} (hS : va_S (fun _ => False) s.heap H locs) (hl : lv_has ls 1 [(0, .int x0)]) : W p l e ({ frames := 0, cells := 0, slots := 0, locals := 0 } : Room) s m args below meth c H locs 0 0 (MQ below (fr_Ri H r) args s 0 0 (fun _ => False)) (F0 m 0 ls []) := by
  obtain ⟨hx, hb, hr, hml, hown, hts, hlocks⟩ := id hB
  have hK := hcx.1
  unfold m_X0_isKind at hm
  refine lv_iload_n hx hb dX0_isKind_0 rfl (lv_at hl 0 rfl) ?_
  refine lv_if_lt (tgt := 14) hx hb dX0_isKind_1 (by decide) (fun c_1 => ?_) (fun c_1 => ?_)
  · have hm := fr_tip c_1 hm
    refine lv_iconst (v := (0 : Int32)) hx hb dX0_isKind_14 (by decide) ?_
    exact W.zret (v := (0 : Int32)) hx hb hr rfl (fun t ht hW => ⟨⟨_, (), rfl, hm, ht⟩, hS.F ht⟩) hS.2.2 dX0_isKind_15 hlocks
  · have hm := fr_tin c_1 hm
    refine lv_iload_n hx hb dX0_isKind_4 rfl (lv_at hl 0 rfl) ?_
    refine lv_bipush (v := (8 : Int32)) hx hb dX0_isKind_5 (by decide) ?_
    refine lv_icmp_gt (tgt := 14) hx hb dX0_isKind_7 (by decide) (fun c_2 => ?_) (fun c_2 => ?_)
    · have hm := fr_tip c_2 hm
      refine lv_iconst (v := (0 : Int32)) hx hb dX0_isKind_14 (by decide) ?_
      exact W.zret (v := (0 : Int32)) hx hb hr rfl (fun t ht hW => ⟨⟨_, (), rfl, hm, ht⟩, hS.F ht⟩) hS.2.2 dX0_isKind_15 hlocks
    · have hm := fr_tin c_2 hm
      refine lv_iconst (v := (1 : Int32)) hx hb dX0_isKind_10 (by decide) ?_
      refine lv_goto (tgt := 15) hx hb dX0_isKind_11 (by decide) ?_
      exact W.zret (v := (1 : Int32)) hx hb hr rfl (fun t ht hW => ⟨⟨_, (), rfl, hm, ht⟩, hS.F ht⟩) hS.2.2 dX0_isKind_15 hlocks
set_option maxHeartbeats 4000000 in
set_option maxRecDepth 100000 in
theorem c_X0_isKind {l : Launch} {D : va_G} {cI cJ cZ cR cN : ClassId} {x0 : Int32} {H0 : Heap} : Met l yX0_isKind wsX0_isKind ({ frames := 0, cells := 0, slots := 0, locals := 0 } : Room) (fr_Pr D cI cJ cZ cR cN [.int x0] H0) (fr_Ri H0 (m_X0_isKind x0)) 0 0 (fun _ => False) := by
  refine fr_ofW (cc := cX0_isKind) (maxL := 1) (ret := (some .boolean)) (by decide +kernel) rfl ?_
  intro p e s m args below meth c s₁ B hml hv
  obtain ⟨rfl, hH, hcx⟩ := hv
  subst hH
  have hB : fr_BX p s m _ meth c cX0_isKind (some .boolean) 1 RX0 wsX0_isKind := ⟨B.exec, B.bytes, B.returns, hml, findClass_of_methodNamed B.named, atoms_spec (ws := wsX0_isKind) B.pre, B.notSynchronized⟩
  have hl := lv_entry ([.int x0]) (n := 1) (Nat.le_of_ble_eq_true rfl)
  rw [lg_entry_eq]
  generalize (lg_sl ([.int x0]) ++ List.replicate (1 - (lg_sl ([.int x0])).length) Slot.unset).toArray = ls at hl ⊢
  have hl : lv_has ls 1 [(0, .int x0)] := hl
  exact t_X0_isKind_0 hB hcx rfl va_S.rf hl
set_option maxHeartbeats 4000000 in
set_option maxRecDepth 100000 in
theorem t_X0_cellAt_0 {p : Program} {l : Launch} {e : Env} {s : State} {m : MethodId} {args : Array Value} {below : List Frame} {meth : Method} {c : Code} {D : va_G} {cI cJ cZ cR cN : ClassId} {x0 : Int32} {x1 : Int32} {H : Heap} {r : Int32} (hB : fr_BX p s m args meth c cX0_cellAt (some .int) 2 RX0 wsX0_cellAt) (hcx : fr_cx D cI cJ cZ cR cN s) (hm : m_X0_cellAt x0 x1 = r) {locs : List Loc} {ls : Array Slot} (hS : va_S (fun _ => False) s.heap H locs) (hl : lv_has ls 2 [(0, .int x0), (1, .int x1)]) : W p l e ({ frames := 0, cells := 0, slots := 0, locals := 0 } : Room) s m args below meth c H locs 0 0 (MQ below (fr_Ri H r) args s 0 0 (fun _ => False)) (F0 m 0 ls []) := by
  obtain ⟨hx, hb, hr, hml, hown, hts, hlocks⟩ := id hB
  have hK := hcx.1
  unfold m_X0_cellAt at hm
  refine lv_iload_n hx hb dX0_cellAt_0 rfl (lv_at hl 1 rfl) ?_
  refine lv_bipush (v := (8 : Int32)) hx hb dX0_cellAt_1 (by decide) ?_
  refine lv_imul hx hb dX0_cellAt_3 ?_
  refine lv_iload_n hx hb dX0_cellAt_4 rfl (lv_at hl 0 rfl) ?_
  refine lv_iadd hx hb dX0_cellAt_5 ?_
  exact W.iret (v := ((x1 * (8 : Int32)) + x0)) hx hb hr (fun t ht hW => ⟨⟨_, (), rfl, hm, ht⟩, hS.F ht⟩) hS.2.2 dX0_cellAt_6 hlocks
set_option maxHeartbeats 4000000 in
set_option maxRecDepth 100000 in
theorem c_X0_cellAt {l : Launch} {D : va_G} {cI cJ cZ cR cN : ClassId} {x0 : Int32} {x1 : Int32} {H0 : Heap} : Met l yX0_cellAt wsX0_cellAt ({ frames := 0, cells := 0, slots := 0, locals := 0 } : Room) (fr_Pr D cI cJ cZ cR cN [.int x0, .int x1] H0) (fr_Ri H0 (m_X0_cellAt x0 x1)) 0 0 (fun _ => False) := by
  refine fr_ofW (cc := cX0_cellAt) (maxL := 2) (ret := (some .int)) (by decide +kernel) rfl ?_
  intro p e s m args below meth c s₁ B hml hv
  obtain ⟨rfl, hH, hcx⟩ := hv
  subst hH
  have hB : fr_BX p s m _ meth c cX0_cellAt (some .int) 2 RX0 wsX0_cellAt := ⟨B.exec, B.bytes, B.returns, hml, findClass_of_methodNamed B.named, atoms_spec (ws := wsX0_cellAt) B.pre, B.notSynchronized⟩
  have hl := lv_entry ([.int x0, .int x1]) (n := 2) (Nat.le_of_ble_eq_true rfl)
  rw [lg_entry_eq]
  generalize (lg_sl ([.int x0, .int x1]) ++ List.replicate (2 - (lg_sl ([.int x0, .int x1])).length) Slot.unset).toArray = ls at hl ⊢
  have hl : lv_has ls 2 [(0, .int x0), (1, .int x1)] := hl
  exact t_X0_cellAt_0 hB hcx rfl va_S.rf hl
set_option maxHeartbeats 4000000 in
set_option maxRecDepth 100000 in
theorem t_X0_xOf_0 {p : Program} {l : Launch} {e : Env} {s : State} {m : MethodId} {args : Array Value} {below : List Frame} {meth : Method} {c : Code} {D : va_G} {cI cJ cZ cR cN : ClassId} {x0 : Int32} {H : Heap} {r : Int32} (hB : fr_BX p s m args meth c cX0_xOf (some .int) 1 RX0 wsX0_xOf) (hcx : fr_cx D cI cJ cZ cR cN s) (hm : m_X0_xOf x0 = r) {locs : List Loc} {ls : Array Slot} (hS : va_S (fun _ => False) s.heap H locs) (hl : lv_has ls 1 [(0, .int x0)]) : W p l e ({ frames := 0, cells := 0, slots := 0, locals := 0 } : Room) s m args below meth c H locs 0 0 (MQ below (fr_Ri H r) args s 0 0 (fun _ => False)) (F0 m 0 ls []) := by
  obtain ⟨hx, hb, hr, hml, hown, hts, hlocks⟩ := id hB
  have hK := hcx.1
  unfold m_X0_xOf at hm
  refine lv_iload_n hx hb dX0_xOf_0 rfl (lv_at hl 0 rfl) ?_
  refine lv_bipush (v := (8 : Int32)) hx hb dX0_xOf_1 (by decide) ?_
  refine lv_irem hx hb dX0_xOf_3 (by decide) ?_
  exact W.iret (v := (x0 - x0 / (8 : Int32) * (8 : Int32))) hx hb hr (fun t ht hW => ⟨⟨_, (), rfl, hm, ht⟩, hS.F ht⟩) hS.2.2 dX0_xOf_4 hlocks
set_option maxHeartbeats 4000000 in
set_option maxRecDepth 100000 in
theorem c_X0_xOf {l : Launch} {D : va_G} {cI cJ cZ cR cN : ClassId} {x0 : Int32} {H0 : Heap} : Met l yX0_xOf wsX0_xOf ({ frames := 0, cells := 0, slots := 0, locals := 0 } : Room) (fr_Pr D cI cJ cZ cR cN [.int x0] H0) (fr_Ri H0 (m_X0_xOf x0)) 0 0 (fun _ => False) := by
  refine fr_ofW (cc := cX0_xOf) (maxL := 1) (ret := (some .int)) (by decide +kernel) rfl ?_
  intro p e s m args below meth c s₁ B hml hv
  obtain ⟨rfl, hH, hcx⟩ := hv
  subst hH
  have hB : fr_BX p s m _ meth c cX0_xOf (some .int) 1 RX0 wsX0_xOf := ⟨B.exec, B.bytes, B.returns, hml, findClass_of_methodNamed B.named, atoms_spec (ws := wsX0_xOf) B.pre, B.notSynchronized⟩
  have hl := lv_entry ([.int x0]) (n := 1) (Nat.le_of_ble_eq_true rfl)
  rw [lg_entry_eq]
  generalize (lg_sl ([.int x0]) ++ List.replicate (1 - (lg_sl ([.int x0])).length) Slot.unset).toArray = ls at hl ⊢
  have hl : lv_has ls 1 [(0, .int x0)] := hl
  exact t_X0_xOf_0 hB hcx rfl va_S.rf hl
set_option maxHeartbeats 4000000 in
set_option maxRecDepth 100000 in
theorem t_X0_yOf_0 {p : Program} {l : Launch} {e : Env} {s : State} {m : MethodId} {args : Array Value} {below : List Frame} {meth : Method} {c : Code} {D : va_G} {cI cJ cZ cR cN : ClassId} {x0 : Int32} {H : Heap} {r : Int32} (hB : fr_BX p s m args meth c cX0_yOf (some .int) 1 RX0 wsX0_yOf) (hcx : fr_cx D cI cJ cZ cR cN s) (hm : m_X0_yOf x0 = r) {locs : List Loc} {ls : Array Slot} (hS : va_S (fun _ => False) s.heap H locs) (hl : lv_has ls 1 [(0, .int x0)]) : W p l e ({ frames := 0, cells := 0, slots := 0, locals := 0 } : Room) s m args below meth c H locs 0 0 (MQ below (fr_Ri H r) args s 0 0 (fun _ => False)) (F0 m 0 ls []) := by
  obtain ⟨hx, hb, hr, hml, hown, hts, hlocks⟩ := id hB
  have hK := hcx.1
  unfold m_X0_yOf at hm
  refine lv_iload_n hx hb dX0_yOf_0 rfl (lv_at hl 0 rfl) ?_
  refine lv_bipush (v := (8 : Int32)) hx hb dX0_yOf_1 (by decide) ?_
  refine lv_idiv hx hb dX0_yOf_3 (by decide) ?_
  exact W.iret (v := (x0 / (8 : Int32))) hx hb hr (fun t ht hW => ⟨⟨_, (), rfl, hm, ht⟩, hS.F ht⟩) hS.2.2 dX0_yOf_4 hlocks
set_option maxHeartbeats 4000000 in
set_option maxRecDepth 100000 in
theorem c_X0_yOf {l : Launch} {D : va_G} {cI cJ cZ cR cN : ClassId} {x0 : Int32} {H0 : Heap} : Met l yX0_yOf wsX0_yOf ({ frames := 0, cells := 0, slots := 0, locals := 0 } : Room) (fr_Pr D cI cJ cZ cR cN [.int x0] H0) (fr_Ri H0 (m_X0_yOf x0)) 0 0 (fun _ => False) := by
  refine fr_ofW (cc := cX0_yOf) (maxL := 1) (ret := (some .int)) (by decide +kernel) rfl ?_
  intro p e s m args below meth c s₁ B hml hv
  obtain ⟨rfl, hH, hcx⟩ := hv
  subst hH
  have hB : fr_BX p s m _ meth c cX0_yOf (some .int) 1 RX0 wsX0_yOf := ⟨B.exec, B.bytes, B.returns, hml, findClass_of_methodNamed B.named, atoms_spec (ws := wsX0_yOf) B.pre, B.notSynchronized⟩
  have hl := lv_entry ([.int x0]) (n := 1) (Nat.le_of_ble_eq_true rfl)
  rw [lg_entry_eq]
  generalize (lg_sl ([.int x0]) ++ List.replicate (1 - (lg_sl ([.int x0])).length) Slot.unset).toArray = ls at hl ⊢
  have hl : lv_has ls 1 [(0, .int x0)] := hl
  exact t_X0_yOf_0 hB hcx rfl va_S.rf hl
set_option maxHeartbeats 4000000 in
set_option maxRecDepth 100000 in
theorem t_X0_cellOf_0 {p : Program} {l : Launch} {e : Env} {s : State} {m : MethodId} {args : Array Value} {below : List Frame} {meth : Method} {c : Code} {D : va_G} {cI cJ cZ cR cN : ClassId} {x0 : Int32} {H : Heap} {r : Int32} (hB : fr_BX p s m args meth c cX0_cellOf (some .int) 1 RX0 wsX0_cellOf) (hcx : fr_cx D cI cJ cZ cR cN s) (hm : m_X0_cellOf x0 = r) {locs : List Loc} {ls : Array Slot} (hS : va_S (fun _ => False) s.heap H locs) (hl : lv_has ls 1 [(0, .int x0)]) : W p l e ({ frames := 0, cells := 0, slots := 0, locals := 0 } : Room) s m args below meth c H locs 0 0 (MQ below (fr_Ri H r) args s 0 0 (fun _ => False)) (F0 m 0 ls []) := by
  obtain ⟨hx, hb, hr, hml, hown, hts, hlocks⟩ := id hB
  have hK := hcx.1
  unfold m_X0_cellOf at hm
  refine lv_iload_n hx hb dX0_cellOf_0 rfl (lv_at hl 0 rfl) ?_
  refine lv_bipush (v := (64 : Int32)) hx hb dX0_cellOf_1 (by decide) ?_
  refine lv_irem hx hb dX0_cellOf_3 (by decide) ?_
  exact W.iret (v := (x0 - x0 / (64 : Int32) * (64 : Int32))) hx hb hr (fun t ht hW => ⟨⟨_, (), rfl, hm, ht⟩, hS.F ht⟩) hS.2.2 dX0_cellOf_4 hlocks
set_option maxHeartbeats 4000000 in
set_option maxRecDepth 100000 in
theorem c_X0_cellOf {l : Launch} {D : va_G} {cI cJ cZ cR cN : ClassId} {x0 : Int32} {H0 : Heap} : Met l yX0_cellOf wsX0_cellOf ({ frames := 0, cells := 0, slots := 0, locals := 0 } : Room) (fr_Pr D cI cJ cZ cR cN [.int x0] H0) (fr_Ri H0 (m_X0_cellOf x0)) 0 0 (fun _ => False) := by
  refine fr_ofW (cc := cX0_cellOf) (maxL := 1) (ret := (some .int)) (by decide +kernel) rfl ?_
  intro p e s m args below meth c s₁ B hml hv
  obtain ⟨rfl, hH, hcx⟩ := hv
  subst hH
  have hB : fr_BX p s m _ meth c cX0_cellOf (some .int) 1 RX0 wsX0_cellOf := ⟨B.exec, B.bytes, B.returns, hml, findClass_of_methodNamed B.named, atoms_spec (ws := wsX0_cellOf) B.pre, B.notSynchronized⟩
  have hl := lv_entry ([.int x0]) (n := 1) (Nat.le_of_ble_eq_true rfl)
  rw [lg_entry_eq]
  generalize (lg_sl ([.int x0]) ++ List.replicate (1 - (lg_sl ([.int x0])).length) Slot.unset).toArray = ls at hl ⊢
  have hl : lv_has ls 1 [(0, .int x0)] := hl
  exact t_X0_cellOf_0 hB hcx rfl va_S.rf hl
set_option maxHeartbeats 4000000 in
set_option maxRecDepth 100000 in
theorem t_X0_keysOf_0 {p : Program} {l : Launch} {e : Env} {s : State} {m : MethodId} {args : Array Value} {below : List Frame} {meth : Method} {c : Code} {D : va_G} {cI cJ cZ cR cN : ClassId} {x0 : Int32} {H : Heap} {r : Int32} (hB : fr_BX p s m args meth c cX0_keysOf (some .int) 1 RX0 wsX0_keysOf) (hcx : fr_cx D cI cJ cZ cR cN s) (hm : m_X0_keysOf x0 = r) {locs : List Loc} {ls : Array Slot} (hS : va_S (fun _ => False) s.heap H locs) (hl : lv_has ls 1 [(0, .int x0)]) : W p l e ({ frames := 0, cells := 0, slots := 0, locals := 0 } : Room) s m args below meth c H locs 0 0 (MQ below (fr_Ri H r) args s 0 0 (fun _ => False)) (F0 m 0 ls []) := by
  obtain ⟨hx, hb, hr, hml, hown, hts, hlocks⟩ := id hB
  have hK := hcx.1
  unfold m_X0_keysOf at hm
  refine lv_iload_n hx hb dX0_keysOf_0 rfl (lv_at hl 0 rfl) ?_
  refine lv_bipush (v := (64 : Int32)) hx hb dX0_keysOf_1 (by decide) ?_
  refine lv_idiv hx hb dX0_keysOf_3 (by decide) ?_
  exact W.iret (v := (x0 / (64 : Int32))) hx hb hr (fun t ht hW => ⟨⟨_, (), rfl, hm, ht⟩, hS.F ht⟩) hS.2.2 dX0_keysOf_4 hlocks
set_option maxHeartbeats 4000000 in
set_option maxRecDepth 100000 in
theorem c_X0_keysOf {l : Launch} {D : va_G} {cI cJ cZ cR cN : ClassId} {x0 : Int32} {H0 : Heap} : Met l yX0_keysOf wsX0_keysOf ({ frames := 0, cells := 0, slots := 0, locals := 0 } : Room) (fr_Pr D cI cJ cZ cR cN [.int x0] H0) (fr_Ri H0 (m_X0_keysOf x0)) 0 0 (fun _ => False) := by
  refine fr_ofW (cc := cX0_keysOf) (maxL := 1) (ret := (some .int)) (by decide +kernel) rfl ?_
  intro p e s m args below meth c s₁ B hml hv
  obtain ⟨rfl, hH, hcx⟩ := hv
  subst hH
  have hB : fr_BX p s m _ meth c cX0_keysOf (some .int) 1 RX0 wsX0_keysOf := ⟨B.exec, B.bytes, B.returns, hml, findClass_of_methodNamed B.named, atoms_spec (ws := wsX0_keysOf) B.pre, B.notSynchronized⟩
  have hl := lv_entry ([.int x0]) (n := 1) (Nat.le_of_ble_eq_true rfl)
  rw [lg_entry_eq]
  generalize (lg_sl ([.int x0]) ++ List.replicate (1 - (lg_sl ([.int x0])).length) Slot.unset).toArray = ls at hl ⊢
  have hl : lv_has ls 1 [(0, .int x0)] := hl
  exact t_X0_keysOf_0 hB hcx rfl va_S.rf hl
set_option maxHeartbeats 4000000 in
set_option maxRecDepth 100000 in
theorem t_X0_spotOf_0 {p : Program} {l : Launch} {e : Env} {s : State} {m : MethodId} {args : Array Value} {below : List Frame} {meth : Method} {c : Code} {D : va_G} {cI cJ cZ cR cN : ClassId} {x0 : Int32} {H : Heap} {r : Int32} (hB : fr_BX p s m args meth c cX0_spotOf (some .int) 1 RX0 wsX0_spotOf) (hcx : fr_cx D cI cJ cZ cR cN s) (hm : m_X0_spotOf x0 = r) {locs : List Loc} {ls : Array Slot} (hS : va_S (fun _ => False) s.heap H locs) (hl : lv_has ls 1 [(0, .int x0)]) : W p l e ({ frames := 0, cells := 0, slots := 0, locals := 0 } : Room) s m args below meth c H locs 0 0 (MQ below (fr_Ri H r) args s 0 0 (fun _ => False)) (F0 m 0 ls []) := by
  obtain ⟨hx, hb, hr, hml, hown, hts, hlocks⟩ := id hB
  have hK := hcx.1
  unfold m_X0_spotOf at hm
  refine lv_iload_n hx hb dX0_spotOf_0 rfl (lv_at hl 0 rfl) ?_
  refine lv_sipush (v := (512 : Int32)) hx hb dX0_spotOf_1 (by decide) ?_
  refine lv_irem hx hb dX0_spotOf_4 (by decide) ?_
  exact W.iret (v := (x0 - x0 / (512 : Int32) * (512 : Int32))) hx hb hr (fun t ht hW => ⟨⟨_, (), rfl, hm, ht⟩, hS.F ht⟩) hS.2.2 dX0_spotOf_5 hlocks
set_option maxHeartbeats 4000000 in
set_option maxRecDepth 100000 in
theorem c_X0_spotOf {l : Launch} {D : va_G} {cI cJ cZ cR cN : ClassId} {x0 : Int32} {H0 : Heap} : Met l yX0_spotOf wsX0_spotOf ({ frames := 0, cells := 0, slots := 0, locals := 0 } : Room) (fr_Pr D cI cJ cZ cR cN [.int x0] H0) (fr_Ri H0 (m_X0_spotOf x0)) 0 0 (fun _ => False) := by
  refine fr_ofW (cc := cX0_spotOf) (maxL := 1) (ret := (some .int)) (by decide +kernel) rfl ?_
  intro p e s m args below meth c s₁ B hml hv
  obtain ⟨rfl, hH, hcx⟩ := hv
  subst hH
  have hB : fr_BX p s m _ meth c cX0_spotOf (some .int) 1 RX0 wsX0_spotOf := ⟨B.exec, B.bytes, B.returns, hml, findClass_of_methodNamed B.named, atoms_spec (ws := wsX0_spotOf) B.pre, B.notSynchronized⟩
  have hl := lv_entry ([.int x0]) (n := 1) (Nat.le_of_ble_eq_true rfl)
  rw [lg_entry_eq]
  generalize (lg_sl ([.int x0]) ++ List.replicate (1 - (lg_sl ([.int x0])).length) Slot.unset).toArray = ls at hl ⊢
  have hl : lv_has ls 1 [(0, .int x0)] := hl
  exact t_X0_spotOf_0 hB hcx rfl va_S.rf hl
set_option maxHeartbeats 4000000 in
set_option maxRecDepth 100000 in
theorem t_X0_outcomeOf_0 {p : Program} {l : Launch} {e : Env} {s : State} {m : MethodId} {args : Array Value} {below : List Frame} {meth : Method} {c : Code} {D : va_G} {cI cJ cZ cR cN : ClassId} {x0 : Int32} {H : Heap} {r : Int32} (hB : fr_BX p s m args meth c cX0_outcomeOf (some .int) 1 RX0 wsX0_outcomeOf) (hcx : fr_cx D cI cJ cZ cR cN s) (hm : m_X0_outcomeOf x0 = r) {locs : List Loc} {ls : Array Slot} (hS : va_S (fun _ => False) s.heap H locs) (hl : lv_has ls 1 [(0, .int x0)]) : W p l e ({ frames := 0, cells := 0, slots := 0, locals := 0 } : Room) s m args below meth c H locs 0 0 (MQ below (fr_Ri H r) args s 0 0 (fun _ => False)) (F0 m 0 ls []) := by
  obtain ⟨hx, hb, hr, hml, hown, hts, hlocks⟩ := id hB
  have hK := hcx.1
  unfold m_X0_outcomeOf at hm
  refine lv_iload_n hx hb dX0_outcomeOf_0 rfl (lv_at hl 0 rfl) ?_
  refine lv_sipush (v := (512 : Int32)) hx hb dX0_outcomeOf_1 (by decide) ?_
  refine lv_idiv hx hb dX0_outcomeOf_4 (by decide) ?_
  exact W.iret (v := (x0 / (512 : Int32))) hx hb hr (fun t ht hW => ⟨⟨_, (), rfl, hm, ht⟩, hS.F ht⟩) hS.2.2 dX0_outcomeOf_5 hlocks
set_option maxHeartbeats 4000000 in
set_option maxRecDepth 100000 in
theorem c_X0_outcomeOf {l : Launch} {D : va_G} {cI cJ cZ cR cN : ClassId} {x0 : Int32} {H0 : Heap} : Met l yX0_outcomeOf wsX0_outcomeOf ({ frames := 0, cells := 0, slots := 0, locals := 0 } : Room) (fr_Pr D cI cJ cZ cR cN [.int x0] H0) (fr_Ri H0 (m_X0_outcomeOf x0)) 0 0 (fun _ => False) := by
  refine fr_ofW (cc := cX0_outcomeOf) (maxL := 1) (ret := (some .int)) (by decide +kernel) rfl ?_
  intro p e s m args below meth c s₁ B hml hv
  obtain ⟨rfl, hH, hcx⟩ := hv
  subst hH
  have hB : fr_BX p s m _ meth c cX0_outcomeOf (some .int) 1 RX0 wsX0_outcomeOf := ⟨B.exec, B.bytes, B.returns, hml, findClass_of_methodNamed B.named, atoms_spec (ws := wsX0_outcomeOf) B.pre, B.notSynchronized⟩
  have hl := lv_entry ([.int x0]) (n := 1) (Nat.le_of_ble_eq_true rfl)
  rw [lg_entry_eq]
  generalize (lg_sl ([.int x0]) ++ List.replicate (1 - (lg_sl ([.int x0])).length) Slot.unset).toArray = ls at hl ⊢
  have hl : lv_has ls 1 [(0, .int x0)] := hl
  exact t_X0_outcomeOf_0 hB hcx rfl va_S.rf hl
theorem in_X0_allCells_X0 : ∀ w ∈ wsX00, w ∈ wsX0_allCells := fun w h => List.mem_cons_of_mem _ (List.mem_append_right _ h)
set_option maxHeartbeats 4000000 in
set_option maxRecDepth 100000 in
theorem t_X0_allCells_15 {p : Program} {l : Launch} {e : Env} {s : State} {m : MethodId} {args : Array Value} {below : List Frame} {meth : Method} {c : Code} {D : va_G} {cI cJ cZ cR cN : ClassId} {a_z a_z_kinds a_z_openWith a_z_keyCells a_z_round : Nat} {z_goalCells : Int64} {z_width : Int32} {z_height : Int32} {z_roundLength : Int32} {z_startCell : Int32} {F : Nat} {H : Heap} {r : Int64} (hB : fr_BX p s m args meth c cX0_allCells (some .long) 5 RX0 wsX0_allCells) (hcx : fr_cx D cI cJ cZ cR cN s) {k4_ : Int64 → Int32 → Option (Int64)} (hk4 : ∀ (v1 : Int64) (v3 : Int32) (locs : List Loc) (ls : Array Slot), k4_ v1 v3 = some r → va_P D vwCl [(a_z, .inr (ob_X0 a_z_kinds a_z_openWith a_z_keyCells z_goalCells a_z_round z_width z_height z_roundLength z_startCell))] H → va_S (fun _ => False) s.heap H locs → lv_has ls 5 [(0, .ref a_z), (1, .long v1), (3, .int v3)] → W p l e ({ frames := 1, cells := 0, slots := 0, locals := 21 } : Room) s m args below meth c H locs 0 0 (MQ below (fr_Rl H r) args s 0 0 (fun _ => False)) (F0 m 4 ls [])) : ∀ (n : Nat) (v1 : Int64) (v3 : Int32) (v4 : Int32) (locs : List Loc) (ls : Array Slot), m_X0_allCells_b15 F z_width z_height k4_ n v1 v3 v4 = some r → va_P D vwCl [(a_z, .inr (ob_X0 a_z_kinds a_z_openWith a_z_keyCells z_goalCells a_z_round z_width z_height z_roundLength z_startCell))] H → va_S (fun _ => False) s.heap H locs → lv_has ls 5 [(0, .ref a_z), (1, .long v1), (3, .int v3), (4, .int v4)] → W p l e ({ frames := 1, cells := 0, slots := 0, locals := 21 } : Room) s m args below meth c H locs 0 0 (MQ below (fr_Rl H r) args s 0 0 (fun _ => False)) (F0 m 15 ls []) := by
  obtain ⟨hx, hb, hr, hml, hown, hts, hlocks⟩ := id hB
  have hK := hcx.1
  intro n
  induction n with
  | zero =>
    intro v1 v3 v4 locs ls hm
    have hm : none = some _ := hm
    cases hm
  | succ n ih =>
    intro v1 v3 v4 locs ls hm hP hS hl
    rw [m_X0_allCells_b15] at hm
    refine lv_iload hx hb dX0_allCells_15 (lv_at hl 3 rfl) ?_
    refine lv_aload_n hx hb dX0_allCells_17 rfl (lv_at hl 0 rfl) ?_
    refine va_get (D := D) (ci := 0) (v := .int z_width) (C := RX0) (T := TX0) (N := 9) hx hb hts in_X0_allCells_X0 hown hK hP 0 rfl rfl 5 (by decide) (hts (.fieldLink RX0 29 "FastestRun$Game" "width" "I") (List.mem_of_getElem? (i := 2) rfl)) (fun _ h9 => h9) rfl dX0_allCells_18 ?_
    refine lv_icmp_ge (tgt := 41) hx hb dX0_allCells_21 (by decide) (fun c_2 => ?_) (fun c_2 => ?_)
    · have hm := fr_ifp c_2 hm
      refine lv_iinc (v := (v3 + 1)) (lv' := [(3, .int (v3 + 1)), (0, .ref a_z), (1, .long v1), (4, .int v4)]) hx hb dX0_allCells_41 hl (k := 2) rfl rfl (by decide) rfl (fun ls hl => ?_)
      refine lv_goto (tgt := 4) hx hb dX0_allCells_44 (by decide) ?_
      exact hk4 _ _ _ _ hm hP hS (lv_sub hl [1, 2, 0] rfl)
    · have hm := fr_ifn c_2 hm
      refine lv_lload_n hx hb dX0_allCells_24 rfl (lv_at hl 1 rfl) ?_
      refine lv_lconst (v := (1 : Int64)) hx hb dX0_allCells_25 (by decide) ?_
      refine lv_iload hx hb dX0_allCells_26 (lv_at hl 3 rfl) ?_
      refine lv_iload_n hx hb dX0_allCells_28 rfl (lv_at hl 2 rfl) ?_
      refine fr_roi (va_runS (As := [.int v4, .int v3]) (rest := [.long (1 : Int64), .long v1]) ⟨hx, hb, hml, hown, hts⟩ (c_X0_cellAt (l := l) (x0 := v4) (x1 := v3) (D := D) (cI := cI) (cJ := cJ) (cZ := cZ) (cR := cR) (cN := cN) (H0 := H)) (va_cwS 2 hts gX0_allCells_X0_cellAt rfl rfl rfl (by decide +kernel) ⟨Nat.le_of_ble_eq_true rfl, Nat.le_of_ble_eq_true rfl⟩) (fr_psr hcx) rfl rfl hl.1 rfl (lv_room (Nat.le_of_ble_eq_true rfl)) dX0_allCells_29 ⟨Nat.zero_le _, Nat.zero_le _⟩) hS (fun locs hS => ?_)
      refine lv_lshl (v := ((1 : Int64) <<< ((m_X0_cellAt v4 v3).toInt64 &&& 63))) hx hb dX0_allCells_32 rfl ?_
      refine lv_lor hx hb dX0_allCells_33 ?_
      refine lv_lstore_n (lv' := [(1, .long (v1 ||| ((1 : Int64) <<< ((m_X0_cellAt v4 v3).toInt64 &&& 63)))), (0, .ref a_z), (3, .int v3), (4, .int v4)]) hx hb dX0_allCells_34 rfl hl (by decide) rfl (fun ls hl => ?_)
      refine lv_iinc (v := (v4 + 1)) (lv' := [(4, .int (v4 + 1)), (1, .long (v1 ||| ((1 : Int64) <<< ((m_X0_cellAt v4 v3).toInt64 &&& 63)))), (0, .ref a_z), (3, .int v3)]) hx hb dX0_allCells_35 hl (k := 3) rfl rfl (by decide) rfl (fun ls hl => ?_)
      refine lv_goto (tgt := 15) hx hb dX0_allCells_38 (by decide) ?_
      exact ih _ _ _ _ _ hm hP hS (lv_sub hl [2, 1, 3, 0] rfl)
set_option maxHeartbeats 4000000 in
set_option maxRecDepth 100000 in
theorem t_X0_allCells_4 {p : Program} {l : Launch} {e : Env} {s : State} {m : MethodId} {args : Array Value} {below : List Frame} {meth : Method} {c : Code} {D : va_G} {cI cJ cZ cR cN : ClassId} {a_z a_z_kinds a_z_openWith a_z_keyCells a_z_round : Nat} {z_goalCells : Int64} {z_width : Int32} {z_height : Int32} {z_roundLength : Int32} {z_startCell : Int32} {F : Nat} {H : Heap} {r : Int64} (hB : fr_BX p s m args meth c cX0_allCells (some .long) 5 RX0 wsX0_allCells) (hcx : fr_cx D cI cJ cZ cR cN s) : ∀ (n : Nat) (v1 : Int64) (v3 : Int32) (locs : List Loc) (ls : Array Slot), m_X0_allCells_b4 F z_width z_height n v1 v3 = some r → va_P D vwCl [(a_z, .inr (ob_X0 a_z_kinds a_z_openWith a_z_keyCells z_goalCells a_z_round z_width z_height z_roundLength z_startCell))] H → va_S (fun _ => False) s.heap H locs → lv_has ls 5 [(0, .ref a_z), (1, .long v1), (3, .int v3)] → W p l e ({ frames := 1, cells := 0, slots := 0, locals := 21 } : Room) s m args below meth c H locs 0 0 (MQ below (fr_Rl H r) args s 0 0 (fun _ => False)) (F0 m 4 ls []) := by
  obtain ⟨hx, hb, hr, hml, hown, hts, hlocks⟩ := id hB
  have hK := hcx.1
  intro n
  induction n with
  | zero =>
    intro v1 v3 locs ls hm
    have hm : none = some _ := hm
    cases hm
  | succ n ih =>
    intro v1 v3 locs ls hm hP hS hl
    rw [m_X0_allCells_b4] at hm
    refine lv_iload_n hx hb dX0_allCells_4 rfl (lv_at hl 2 rfl) ?_
    refine lv_aload_n hx hb dX0_allCells_5 rfl (lv_at hl 0 rfl) ?_
    refine va_get (D := D) (ci := 0) (v := .int z_height) (C := RX0) (T := TX0) (N := 9) hx hb hts in_X0_allCells_X0 hown hK hP 0 rfl rfl 6 (by decide) (hts (.fieldLink RX0 33 "FastestRun$Game" "height" "I") (List.mem_of_getElem? (i := 1) rfl)) (fun _ h9 => h9) rfl dX0_allCells_6 ?_
    refine lv_icmp_ge (tgt := 47) hx hb dX0_allCells_9 (by decide) (fun c_1 => ?_) (fun c_1 => ?_)
    · have hm := fr_ifp c_1 hm
      refine lv_lload_n hx hb dX0_allCells_47 rfl (lv_at hl 1 rfl) ?_
      exact W.lret (v := v1) hx hb hr (fun t ht hW => ⟨⟨_, (), rfl, (Option.some.inj hm), ht⟩, hS.F ht⟩) hS.2.2 dX0_allCells_48 hlocks
    · have hm := fr_ifn c_1 hm
      refine lv_iconst (v := (0 : Int32)) hx hb dX0_allCells_12 (by decide) ?_
      refine lv_istore (lv' := [(4, .int (0 : Int32)), (0, .ref a_z), (1, .long v1), (3, .int v3)]) hx hb dX0_allCells_13 hl (by decide) rfl (fun ls hl => ?_)
      exact t_X0_allCells_15 hB hcx ih _ _ _ _ _ _ hm hP hS (lv_sub hl [1, 2, 3, 0] rfl)
set_option maxHeartbeats 4000000 in
set_option maxRecDepth 100000 in
theorem t_X0_allCells_0 {p : Program} {l : Launch} {e : Env} {s : State} {m : MethodId} {args : Array Value} {below : List Frame} {meth : Method} {c : Code} {D : va_G} {cI cJ cZ cR cN : ClassId} {a_z a_z_kinds a_z_openWith a_z_keyCells a_z_round : Nat} {z_goalCells : Int64} {z_width : Int32} {z_height : Int32} {z_roundLength : Int32} {z_startCell : Int32} {F : Nat} {H : Heap} {r : Int64} (hB : fr_BX p s m args meth c cX0_allCells (some .long) 5 RX0 wsX0_allCells) (hcx : fr_cx D cI cJ cZ cR cN s) (hm : m_X0_allCells F z_width z_height = some r) {locs : List Loc} {ls : Array Slot} (hP : va_P D vwCl [(a_z, .inr (ob_X0 a_z_kinds a_z_openWith a_z_keyCells z_goalCells a_z_round z_width z_height z_roundLength z_startCell))] H) (hS : va_S (fun _ => False) s.heap H locs) (hl : lv_has ls 5 [(0, .ref a_z)]) : W p l e ({ frames := 1, cells := 0, slots := 0, locals := 21 } : Room) s m args below meth c H locs 0 0 (MQ below (fr_Rl H r) args s 0 0 (fun _ => False)) (F0 m 0 ls []) := by
  obtain ⟨hx, hb, hr, hml, hown, hts, hlocks⟩ := id hB
  have hK := hcx.1
  unfold m_X0_allCells at hm
  refine lv_lconst (v := (0 : Int64)) hx hb dX0_allCells_0 (by decide) ?_
  refine lv_lstore_n (lv' := [(1, .long (0 : Int64)), (0, .ref a_z)]) hx hb dX0_allCells_1 rfl hl (by decide) rfl (fun ls hl => ?_)
  refine lv_iconst (v := (0 : Int32)) hx hb dX0_allCells_2 (by decide) ?_
  refine lv_istore_n (lv' := [(3, .int (0 : Int32)), (1, .long (0 : Int64)), (0, .ref a_z)]) hx hb dX0_allCells_3 rfl hl (by decide) rfl (fun ls hl => ?_)
  exact t_X0_allCells_4 hB hcx _ _ _ _ _ hm hP hS (lv_sub hl [2, 1, 0] rfl)
set_option maxHeartbeats 4000000 in
set_option maxRecDepth 100000 in
theorem c_X0_allCells {l : Launch} {D : va_G} {cI cJ cZ cR cN : ClassId} {a_z a_z_kinds a_z_openWith a_z_keyCells a_z_round : Nat} {z_goalCells : Int64} {z_width : Int32} {z_height : Int32} {z_roundLength : Int32} {z_startCell : Int32} {F : Nat} {H0 : Heap} {r : Int64} (hm : m_X0_allCells F z_width z_height = some r) (hP : va_P D vwCl [(a_z, .inr (ob_X0 a_z_kinds a_z_openWith a_z_keyCells z_goalCells a_z_round z_width z_height z_roundLength z_startCell))] H0) : Met l yX0_allCells wsX0_allCells ({ frames := 1, cells := 0, slots := 0, locals := 21 } : Room) (fr_Pr D cI cJ cZ cR cN [.ref a_z] H0) (fr_Rl H0 r) 0 0 (fun _ => False) := by
  refine fr_ofW (cc := cX0_allCells) (maxL := 5) (ret := (some .long)) (by decide +kernel) rfl ?_
  intro p e s m args below meth c s₁ B hml hv
  obtain ⟨rfl, hH, hcx⟩ := hv
  subst hH
  have hB : fr_BX p s m _ meth c cX0_allCells (some .long) 5 RX0 wsX0_allCells := ⟨B.exec, B.bytes, B.returns, hml, findClass_of_methodNamed B.named, atoms_spec (ws := wsX0_allCells) B.pre, B.notSynchronized⟩
  have hl := lv_entry ([.ref a_z]) (n := 5) (Nat.le_of_ble_eq_true rfl)
  rw [lg_entry_eq]
  generalize (lg_sl ([.ref a_z]) ++ List.replicate (5 - (lg_sl ([.ref a_z])).length) Slot.unset).toArray = ls at hl ⊢
  have hl : lv_has ls 5 [(0, .ref a_z)] := hl
  exact t_X0_allCells_0 hB hcx hm hP va_S.rf hl
theorem in_X0_lay_X0 : ∀ w ∈ wsX00, w ∈ wsX0_lay := fun w h => List.mem_cons_of_mem _ (List.mem_append_right _ h)
set_option maxHeartbeats 4000000 in
set_option maxRecDepth 100000 in
theorem t_X0_lay_0 {p : Program} {l : Launch} {e : Env} {s : State} {m : MethodId} {args : Array Value} {below : List Frame} {meth : Method} {c : Code} {D : va_G} {cI cJ cZ cR cN : ClassId} {A : Nat → Prop} {a_z a_z_kinds a_z_openWith a_z_keyCells a_z_round : Nat} {z_goalCells : Int64} {z_width : Int32} {z_height : Int32} {z_roundLength : Int32} {z_startCell : Int32} {z_kinds : Nat → Int32} {z_openWith : Nat → Int64} {z_keyCells : Nat → Int64} {F : Nat} {x1 : Int32} {x2 : Int32} {H : Heap} {z_goalCells' : Int64} {z_width' : Int32} {z_height' : Int32} {z_roundLength' : Int32} {z_startCell' : Int32} {z_kinds' : Nat → Int32} {z_openWith' : Nat → Int64} {z_keyCells' : Nat → Int64} (hB : fr_BX p s m args meth c cX0_lay none 3 RX0 wsX0_lay) (hcx : fr_cx D cI cJ cZ cR cN s) (hA : ∀ q, s.heap.size ≤ q → A q) (hm : m_X0_lay F x1 x2 z_goalCells z_width z_height z_roundLength z_startCell z_kinds z_openWith z_keyCells = some (z_goalCells', z_width', z_height', z_roundLength', z_startCell', z_kinds', z_openWith', z_keyCells')) {locs : List Loc} {ls : Array Slot} (hP : va_P D vwCl [(a_z, .inr (ob_X0 a_z_kinds a_z_openWith a_z_keyCells z_goalCells a_z_round z_width z_height z_roundLength z_startCell)), (a_z_kinds, .inl (cI, 64, .inl z_kinds)), (a_z_openWith, .inl (cJ, 8, .inr (.inl z_openWith))), (a_z_keyCells, .inl (cJ, 3, .inr (.inl z_keyCells)))] H) (hD : va_D A [(a_z, .inr (ob_X0 a_z_kinds a_z_openWith a_z_keyCells z_goalCells a_z_round z_width z_height z_roundLength z_startCell)), (a_z_kinds, .inl (cI, 64, .inl z_kinds)), (a_z_openWith, .inl (cJ, 8, .inr (.inl z_openWith))), (a_z_keyCells, .inl (cJ, 3, .inr (.inl z_keyCells)))]) (hS : va_S A s.heap H locs) (hl : lv_has ls 3 [(0, .ref a_z), (1, .int x1), (2, .int x2)]) : W p l e ({ frames := 2, cells := 0, slots := 0, locals := 45 } : Room) s m args below meth c H locs 0 0 (MQ below (fr_Wv D [(a_z, .inr (ob_X0 a_z_kinds a_z_openWith a_z_keyCells z_goalCells' a_z_round z_width' z_height' z_roundLength' z_startCell')), (a_z_kinds, .inl (cI, 64, .inl z_kinds')), (a_z_openWith, .inl (cJ, 8, .inr (.inl z_openWith'))), (a_z_keyCells, .inl (cJ, 3, .inr (.inl z_keyCells')))] A) args s 0 0 A) (F0 m 0 ls []) := by
  obtain ⟨hx, hb, hr, hml, hown, hts, hlocks⟩ := id hB
  have hK := hcx.1
  unfold m_X0_lay at hm
  refine lv_aload_n hx hb dX0_lay_0 rfl (lv_at hl 0 rfl) ?_
  refine lv_iload_n hx hb dX0_lay_1 rfl (lv_at hl 1 rfl) ?_
  refine va_put (D := D) (ci := 0) (v := .int x1) (ty := .int) (C := RX0) (T := TX0) (N := 9) hx hb hts in_X0_lay_X0 tyX0 tyX0_ok nmX0 hown hK hP hD hS 0 rfl rfl 5 (by decide) (hts (.fieldLink RX0 29 "FastestRun$Game" "width" "I") (List.mem_of_getElem? (i := 1) rfl)) (fun _ h9 => h9) rfl (by decide +kernel) rfl rfl (Nat.le_of_ble_eq_true rfl) dX0_lay_2 (fun H locs hP hD hS => ?_)
  have hP : va_P D vwCl [(a_z, .inr (ob_X0 a_z_kinds a_z_openWith a_z_keyCells z_goalCells a_z_round x1 z_height z_roundLength z_startCell)), (a_z_kinds, .inl (cI, 64, .inl z_kinds)), (a_z_openWith, .inl (cJ, 8, .inr (.inl z_openWith))), (a_z_keyCells, .inl (cJ, 3, .inr (.inl z_keyCells)))] H := hP
  have hD : va_D A [(a_z, .inr (ob_X0 a_z_kinds a_z_openWith a_z_keyCells z_goalCells a_z_round x1 z_height z_roundLength z_startCell)), (a_z_kinds, .inl (cI, 64, .inl z_kinds)), (a_z_openWith, .inl (cJ, 8, .inr (.inl z_openWith))), (a_z_keyCells, .inl (cJ, 3, .inr (.inl z_keyCells)))] := hD
  refine lv_aload_n hx hb dX0_lay_5 rfl (lv_at hl 0 rfl) ?_
  refine lv_iload_n hx hb dX0_lay_6 rfl (lv_at hl 2 rfl) ?_
  refine va_put (D := D) (ci := 0) (v := .int x2) (ty := .int) (C := RX0) (T := TX0) (N := 9) hx hb hts in_X0_lay_X0 tyX0 tyX0_ok nmX0 hown hK hP hD hS 0 rfl rfl 6 (by decide) (hts (.fieldLink RX0 33 "FastestRun$Game" "height" "I") (List.mem_of_getElem? (i := 2) rfl)) (fun _ h9 => h9) rfl (by decide +kernel) rfl rfl (Nat.le_of_ble_eq_true rfl) dX0_lay_7 (fun H locs hP hD hS => ?_)
  have hP : va_P D vwCl [(a_z, .inr (ob_X0 a_z_kinds a_z_openWith a_z_keyCells z_goalCells a_z_round x1 x2 z_roundLength z_startCell)), (a_z_kinds, .inl (cI, 64, .inl z_kinds)), (a_z_openWith, .inl (cJ, 8, .inr (.inl z_openWith))), (a_z_keyCells, .inl (cJ, 3, .inr (.inl z_keyCells)))] H := hP
  have hD : va_D A [(a_z, .inr (ob_X0 a_z_kinds a_z_openWith a_z_keyCells z_goalCells a_z_round x1 x2 z_roundLength z_startCell)), (a_z_kinds, .inl (cI, 64, .inl z_kinds)), (a_z_openWith, .inl (cJ, 8, .inr (.inl z_openWith))), (a_z_keyCells, .inl (cJ, 3, .inr (.inl z_keyCells)))] := hD
  refine lv_aload_n hx hb dX0_lay_10 rfl (lv_at hl 0 rfl) ?_
  refine lv_iconst (v := (0 : Int32)) hx hb dX0_lay_11 (by decide) ?_
  refine va_put (D := D) (ci := 0) (v := .int (0 : Int32)) (ty := .int) (C := RX0) (T := TX0) (N := 9) hx hb hts in_X0_lay_X0 tyX0 tyX0_ok nmX0 hown hK hP hD hS 0 rfl rfl 7 (by decide) (hts (.fieldLink RX0 36 "FastestRun$Game" "roundLength" "I") (List.mem_of_getElem? (i := 3) rfl)) (fun _ h9 => h9) rfl (by decide +kernel) rfl rfl (Nat.le_of_ble_eq_true rfl) dX0_lay_12 (fun H locs hP hD hS => ?_)
  have hP : va_P D vwCl [(a_z, .inr (ob_X0 a_z_kinds a_z_openWith a_z_keyCells z_goalCells a_z_round x1 x2 (0 : Int32) z_startCell)), (a_z_kinds, .inl (cI, 64, .inl z_kinds)), (a_z_openWith, .inl (cJ, 8, .inr (.inl z_openWith))), (a_z_keyCells, .inl (cJ, 3, .inr (.inl z_keyCells)))] H := hP
  have hD : va_D A [(a_z, .inr (ob_X0 a_z_kinds a_z_openWith a_z_keyCells z_goalCells a_z_round x1 x2 (0 : Int32) z_startCell)), (a_z_kinds, .inl (cI, 64, .inl z_kinds)), (a_z_openWith, .inl (cJ, 8, .inr (.inl z_openWith))), (a_z_keyCells, .inl (cJ, 3, .inr (.inl z_keyCells)))] := hD
  refine lv_aload_n hx hb dX0_lay_15 rfl (lv_at hl 0 rfl) ?_
  refine lv_iconst (v := (0 : Int32)) hx hb dX0_lay_16 (by decide) ?_
  refine va_put (D := D) (ci := 0) (v := .int (0 : Int32)) (ty := .int) (C := RX0) (T := TX0) (N := 9) hx hb hts in_X0_lay_X0 tyX0 tyX0_ok nmX0 hown hK hP hD hS 0 rfl rfl 8 (by decide) (hts (.fieldLink RX0 39 "FastestRun$Game" "startCell" "I") (List.mem_of_getElem? (i := 4) rfl)) (fun _ h9 => h9) rfl (by decide +kernel) rfl rfl (Nat.le_of_ble_eq_true rfl) dX0_lay_17 (fun H locs hP hD hS => ?_)
  have hP : va_P D vwCl [(a_z, .inr (ob_X0 a_z_kinds a_z_openWith a_z_keyCells z_goalCells a_z_round x1 x2 (0 : Int32) (0 : Int32))), (a_z_kinds, .inl (cI, 64, .inl z_kinds)), (a_z_openWith, .inl (cJ, 8, .inr (.inl z_openWith))), (a_z_keyCells, .inl (cJ, 3, .inr (.inl z_keyCells)))] H := hP
  have hD : va_D A [(a_z, .inr (ob_X0 a_z_kinds a_z_openWith a_z_keyCells z_goalCells a_z_round x1 x2 (0 : Int32) (0 : Int32))), (a_z_kinds, .inl (cI, 64, .inl z_kinds)), (a_z_openWith, .inl (cJ, 8, .inr (.inl z_openWith))), (a_z_keyCells, .inl (cJ, 3, .inr (.inl z_keyCells)))] := hD
  refine lv_aload_n hx hb dX0_lay_20 rfl (lv_at hl 0 rfl) ?_
  refine va_get (D := D) (ci := 0) (v := .ref a_z_kinds) (C := RX0) (T := TX0) (N := 9) hx hb hts in_X0_lay_X0 hown hK hP 0 rfl rfl 0 (by decide) (hts (.fieldLink RX0 11 "FastestRun$Game" "kinds" "[I") (List.mem_of_getElem? (i := 5) rfl)) (fun _ h9 => h9) rfl dX0_lay_21 ?_
  refine lv_iconst (v := (0 : Int32)) hx hb dX0_lay_24 (by decide) ?_
  obtain ⟨o1, hc2, hm⟩ := fr_bd hm
  have hPc : va_P D vwCl [(a_z_kinds, .inl (cI, 64, .inl z_kinds))] H := (fr_sub (ws' := [(a_z_kinds, .inl (cI, 64, .inl z_kinds))]) hP [1] rfl)
  have hDc : va_D A [(a_z_kinds, .inl (cI, 64, .inl z_kinds))] := hD.sub (ws' := [(a_z_kinds, .inl (cI, 64, .inl z_kinds))]) [1] (by decide) rfl
  have hFc := va_free (wc := [(a_z_kinds, .inl (cI, 64, .inl z_kinds))]) hD hS hA [1] rfl
  refine fr_rwv (w1 := [(a_z_kinds, .inl (cI, 64, .inl o1))]) (wc := [(a_z_kinds, .inl (cI, 64, .inl z_kinds))]) (wr := [(a_z, .inr (ob_X0 a_z_kinds a_z_openWith a_z_keyCells z_goalCells a_z_round x1 x2 (0 : Int32) (0 : Int32))), (a_z_openWith, .inl (cJ, 8, .inr (.inl z_openWith))), (a_z_keyCells, .inl (cJ, 3, .inr (.inl z_keyCells)))]) (ws2 := [(a_z, .inr (ob_X0 a_z_kinds a_z_openWith a_z_keyCells z_goalCells a_z_round x1 x2 (0 : Int32) (0 : Int32))), (a_z_kinds, .inl (cI, 64, .inl o1)), (a_z_openWith, .inl (cJ, 8, .inr (.inl z_openWith))), (a_z_keyCells, .inl (cJ, 3, .inr (.inl z_keyCells)))]) (va_runS (As := [.ref a_z_kinds, .int (0 : Int32)]) (rest := []) ⟨hx, hb, hml, hown, hts⟩ (c_J7_fill_53178 (l := l) (x1 := (0 : Int32)) (D := D) (cI := cI) (cJ := cJ) (cZ := cZ) (cR := cR) (cN := cN) (y0' := o1) hc2 (sz := H.size)) (va_cwS 2 hts gX0_lay_J7_fill_53178 rfl rfl rfl (by decide +kernel) ⟨Nat.le_of_ble_eq_true rfl, Nat.le_of_ble_eq_true rfl⟩) (fr_psw hcx hPc hDc) rfl rfl hl.1 rfl (lv_room (Nat.le_of_ble_eq_true rfl)) dX0_lay_25 ⟨Nat.zero_le _, Nat.zero_le _⟩) hS hP hD hFc [1] [0, 2, 3] [0, 3, 1, 2] rfl rfl (by decide) (by decide) (by decide) rfl (fun H locs hP hD hS => ?_)
  refine lv_aload_n hx hb dX0_lay_28 rfl (lv_at hl 0 rfl) ?_
  refine va_get (D := D) (ci := 0) (v := .ref a_z_openWith) (C := RX0) (T := TX0) (N := 9) hx hb hts in_X0_lay_X0 hown hK hP 0 rfl rfl 1 (by decide) (hts (.fieldLink RX0 15 "FastestRun$Game" "openWith" "[J") (List.mem_of_getElem? (i := 6) rfl)) (fun _ h9 => h9) rfl dX0_lay_29 ?_
  refine lv_aload_n hx hb dX0_lay_32 rfl (lv_at hl 0 rfl) ?_
  obtain ⟨o3, hc4, hm⟩ := fr_bd hm
  refine fr_rol (va_runV (As := []) (rest := [.ref a_z_openWith]) ⟨hx, hb, hml, hown, hts⟩ (c_X0_allCells (l := l)  (D := D) (cI := cI) (cJ := cJ) (cZ := cZ) (cR := cR) (cN := cN) hc4 (fr_sub (ws' := [(a_z, .inr (ob_X0 a_z_kinds a_z_openWith a_z_keyCells z_goalCells a_z_round x1 x2 (0 : Int32) (0 : Int32)))]) hP [0] rfl)) (cwV 0 hts gX0_lay_X0_allCells rfl rfl rfl (by decide +kernel) ⟨Nat.le_of_ble_eq_true rfl, Nat.le_of_ble_eq_true rfl⟩) (fr_pvr hcx (va_recv hK hP (ci := 0) (q0 := 0) rfl rfl)) rfl rfl hl.1 rfl (lv_room (Nat.le_of_ble_eq_true rfl)) dX0_lay_33 ⟨Nat.zero_le _, Nat.zero_le _⟩) hS (fun locs hS => ?_)
  obtain ⟨o5, hc6, hm⟩ := fr_bd hm
  have hPc : va_P D vwCl [(a_z_openWith, .inl (cJ, 8, .inr (.inl z_openWith)))] H := (fr_sub (ws' := [(a_z_openWith, .inl (cJ, 8, .inr (.inl z_openWith)))]) hP [2] rfl)
  have hDc : va_D A [(a_z_openWith, .inl (cJ, 8, .inr (.inl z_openWith)))] := hD.sub (ws' := [(a_z_openWith, .inl (cJ, 8, .inr (.inl z_openWith)))]) [2] (by decide) rfl
  have hFc := va_free (wc := [(a_z_openWith, .inl (cJ, 8, .inr (.inl z_openWith)))]) hD hS hA [2] rfl
  refine fr_rwv (w1 := [(a_z_openWith, .inl (cJ, 8, .inr (.inl o5)))]) (wc := [(a_z_openWith, .inl (cJ, 8, .inr (.inl z_openWith)))]) (wr := [(a_z, .inr (ob_X0 a_z_kinds a_z_openWith a_z_keyCells z_goalCells a_z_round x1 x2 (0 : Int32) (0 : Int32))), (a_z_kinds, .inl (cI, 64, .inl o1)), (a_z_keyCells, .inl (cJ, 3, .inr (.inl z_keyCells)))]) (ws2 := [(a_z, .inr (ob_X0 a_z_kinds a_z_openWith a_z_keyCells z_goalCells a_z_round x1 x2 (0 : Int32) (0 : Int32))), (a_z_kinds, .inl (cI, 64, .inl o1)), (a_z_openWith, .inl (cJ, 8, .inr (.inl o5))), (a_z_keyCells, .inl (cJ, 3, .inr (.inl z_keyCells)))]) (va_runS (As := [.ref a_z_openWith, .long o3]) (rest := []) ⟨hx, hb, hml, hown, hts⟩ (c_J7_fill_d0a16 (l := l) (x1 := o3) (D := D) (cI := cI) (cJ := cJ) (cZ := cZ) (cR := cR) (cN := cN) (y0' := o5) hc6 (sz := H.size)) (va_cwS 2 hts gX0_lay_J7_fill_d0a16 rfl rfl rfl (by decide +kernel) ⟨Nat.le_of_ble_eq_true rfl, Nat.le_of_ble_eq_true rfl⟩) (fr_psw hcx hPc hDc) rfl rfl hl.1 rfl (lv_room (Nat.le_of_ble_eq_true rfl)) dX0_lay_36 ⟨Nat.zero_le _, Nat.zero_le _⟩) hS hP hD hFc [2] [0, 1, 3] [0, 1, 3, 2] rfl rfl (by decide) (by decide) (by decide) rfl (fun H locs hP hD hS => ?_)
  refine lv_aload_n hx hb dX0_lay_39 rfl (lv_at hl 0 rfl) ?_
  refine va_get (D := D) (ci := 0) (v := .ref a_z_keyCells) (C := RX0) (T := TX0) (N := 9) hx hb hts in_X0_lay_X0 hown hK hP 0 rfl rfl 2 (by decide) (hts (.fieldLink RX0 19 "FastestRun$Game" "keyCells" "[J") (List.mem_of_getElem? (i := 7) rfl)) (fun _ h9 => h9) rfl dX0_lay_40 ?_
  refine lv_lconst (v := (0 : Int64)) hx hb dX0_lay_43 (by decide) ?_
  obtain ⟨o7, hc8, hm⟩ := fr_bd hm
  have hPc : va_P D vwCl [(a_z_keyCells, .inl (cJ, 3, .inr (.inl z_keyCells)))] H := (fr_sub (ws' := [(a_z_keyCells, .inl (cJ, 3, .inr (.inl z_keyCells)))]) hP [3] rfl)
  have hDc : va_D A [(a_z_keyCells, .inl (cJ, 3, .inr (.inl z_keyCells)))] := hD.sub (ws' := [(a_z_keyCells, .inl (cJ, 3, .inr (.inl z_keyCells)))]) [3] (by decide) rfl
  have hFc := va_free (wc := [(a_z_keyCells, .inl (cJ, 3, .inr (.inl z_keyCells)))]) hD hS hA [3] rfl
  refine fr_rwv (w1 := [(a_z_keyCells, .inl (cJ, 3, .inr (.inl o7)))]) (wc := [(a_z_keyCells, .inl (cJ, 3, .inr (.inl z_keyCells)))]) (wr := [(a_z, .inr (ob_X0 a_z_kinds a_z_openWith a_z_keyCells z_goalCells a_z_round x1 x2 (0 : Int32) (0 : Int32))), (a_z_kinds, .inl (cI, 64, .inl o1)), (a_z_openWith, .inl (cJ, 8, .inr (.inl o5)))]) (ws2 := [(a_z, .inr (ob_X0 a_z_kinds a_z_openWith a_z_keyCells z_goalCells a_z_round x1 x2 (0 : Int32) (0 : Int32))), (a_z_kinds, .inl (cI, 64, .inl o1)), (a_z_openWith, .inl (cJ, 8, .inr (.inl o5))), (a_z_keyCells, .inl (cJ, 3, .inr (.inl o7)))]) (va_runS (As := [.ref a_z_keyCells, .long (0 : Int64)]) (rest := []) ⟨hx, hb, hml, hown, hts⟩ (c_J7_fill_d0a16 (l := l) (x1 := (0 : Int64)) (D := D) (cI := cI) (cJ := cJ) (cZ := cZ) (cR := cR) (cN := cN) (y0' := o7) hc8 (sz := H.size)) (va_cwS 2 hts gX0_lay_J7_fill_d0a16 rfl rfl rfl (by decide +kernel) ⟨Nat.le_of_ble_eq_true rfl, Nat.le_of_ble_eq_true rfl⟩) (fr_psw hcx hPc hDc) rfl rfl hl.1 rfl (lv_room (Nat.le_of_ble_eq_true rfl)) dX0_lay_44 ⟨Nat.zero_le _, Nat.zero_le _⟩) hS hP hD hFc [3] [0, 1, 2] [0, 1, 2, 3] rfl rfl (by decide) (by decide) (by decide) rfl (fun H locs hP hD hS => ?_)
  refine lv_aload_n hx hb dX0_lay_47 rfl (lv_at hl 0 rfl) ?_
  refine lv_lconst (v := (0 : Int64)) hx hb dX0_lay_48 (by decide) ?_
  refine va_put (D := D) (ci := 0) (v := .long (0 : Int64)) (ty := .long) (C := RX0) (T := TX0) (N := 9) hx hb hts in_X0_lay_X0 tyX0 tyX0_ok nmX0 hown hK hP hD hS 0 rfl rfl 3 (by decide) (hts (.fieldLink RX0 55 "FastestRun$Game" "goalCells" "J") (List.mem_of_getElem? (i := 8) rfl)) (fun _ h9 => h9) rfl (by decide +kernel) rfl rfl (Nat.le_of_ble_eq_true rfl) dX0_lay_49 (fun H locs hP hD hS => ?_)
  have hP : va_P D vwCl [(a_z, .inr (ob_X0 a_z_kinds a_z_openWith a_z_keyCells (0 : Int64) a_z_round x1 x2 (0 : Int32) (0 : Int32))), (a_z_kinds, .inl (cI, 64, .inl o1)), (a_z_openWith, .inl (cJ, 8, .inr (.inl o5))), (a_z_keyCells, .inl (cJ, 3, .inr (.inl o7)))] H := hP
  have hD : va_D A [(a_z, .inr (ob_X0 a_z_kinds a_z_openWith a_z_keyCells (0 : Int64) a_z_round x1 x2 (0 : Int32) (0 : Int32))), (a_z_kinds, .inl (cI, 64, .inl o1)), (a_z_openWith, .inl (cJ, 8, .inr (.inl o5))), (a_z_keyCells, .inl (cJ, 3, .inr (.inl o7)))] := hD
  cases hm
  exact W.vret hx hb hr (fun t ht hW => ⟨⟨(), rfl, trivial, by rw [ht]; exact hP, hD⟩, hS.F ht⟩) hS.2.2 dX0_lay_52 hlocks
set_option maxHeartbeats 4000000 in
set_option maxRecDepth 100000 in
theorem c_X0_lay {l : Launch} {D : va_G} {cI cJ cZ cR cN : ClassId} {a_z a_z_kinds a_z_openWith a_z_keyCells a_z_round : Nat} {z_goalCells : Int64} {z_width : Int32} {z_height : Int32} {z_roundLength : Int32} {z_startCell : Int32} {z_kinds : Nat → Int32} {z_openWith : Nat → Int64} {z_keyCells : Nat → Int64} {F : Nat} {x1 : Int32} {x2 : Int32} {z_goalCells' : Int64} {z_width' : Int32} {z_height' : Int32} {z_roundLength' : Int32} {z_startCell' : Int32} {z_kinds' : Nat → Int32} {z_openWith' : Nat → Int64} {z_keyCells' : Nat → Int64} {sz : Nat} (hm : m_X0_lay F x1 x2 z_goalCells z_width z_height z_roundLength z_startCell z_kinds z_openWith z_keyCells = some (z_goalCells', z_width', z_height', z_roundLength', z_startCell', z_kinds', z_openWith', z_keyCells')) : Met l yX0_lay wsX0_lay ({ frames := 2, cells := 0, slots := 0, locals := 45 } : Room) (fr_Pw D cI cJ cZ cR cN [.ref a_z, .int x1, .int x2] [(a_z, .inr (ob_X0 a_z_kinds a_z_openWith a_z_keyCells z_goalCells a_z_round z_width z_height z_roundLength z_startCell)), (a_z_kinds, .inl (cI, 64, .inl z_kinds)), (a_z_openWith, .inl (cJ, 8, .inr (.inl z_openWith))), (a_z_keyCells, .inl (cJ, 3, .inr (.inl z_keyCells)))] sz) (fr_Wv D [(a_z, .inr (ob_X0 a_z_kinds a_z_openWith a_z_keyCells z_goalCells' a_z_round z_width' z_height' z_roundLength' z_startCell')), (a_z_kinds, .inl (cI, 64, .inl z_kinds')), (a_z_openWith, .inl (cJ, 8, .inr (.inl z_openWith'))), (a_z_keyCells, .inl (cJ, 3, .inr (.inl z_keyCells')))] (va_A [(a_z, .inr (ob_X0 a_z_kinds a_z_openWith a_z_keyCells z_goalCells a_z_round z_width z_height z_roundLength z_startCell)), (a_z_kinds, .inl (cI, 64, .inl z_kinds)), (a_z_openWith, .inl (cJ, 8, .inr (.inl z_openWith))), (a_z_keyCells, .inl (cJ, 3, .inr (.inl z_keyCells)))] sz)) 0 0 (va_A [(a_z, .inr (ob_X0 a_z_kinds a_z_openWith a_z_keyCells z_goalCells a_z_round z_width z_height z_roundLength z_startCell)), (a_z_kinds, .inl (cI, 64, .inl z_kinds)), (a_z_openWith, .inl (cJ, 8, .inr (.inl z_openWith))), (a_z_keyCells, .inl (cJ, 3, .inr (.inl z_keyCells)))] sz) := by
  refine fr_ofW (cc := cX0_lay) (maxL := 3) (ret := none) (by decide +kernel) rfl ?_
  intro p e s m args below meth c s₁ B hml hv
  obtain ⟨rfl, hsz, hP, hD0, hcx⟩ := hv
  subst hsz
  have hD := hD0.self (sz := s.heap.size)
  have hB : fr_BX p s m _ meth c cX0_lay none 3 RX0 wsX0_lay := ⟨B.exec, B.bytes, B.returns, hml, findClass_of_methodNamed B.named, atoms_spec (ws := wsX0_lay) B.pre, B.notSynchronized⟩
  have hl := lv_entry ([.ref a_z, .int x1, .int x2]) (n := 3) (Nat.le_of_ble_eq_true rfl)
  rw [lg_entry_eq]
  generalize (lg_sl ([.ref a_z, .int x1, .int x2]) ++ List.replicate (3 - (lg_sl ([.ref a_z, .int x1, .int x2])).length) Slot.unset).toArray = ls at hl ⊢
  have hl : lv_has ls 3 [(0, .ref a_z), (1, .int x1), (2, .int x2)] := hl
  exact t_X0_lay_0 hB hcx (fun q h => Or.inr h) hm hP hD va_S.rf hl
set_option maxHeartbeats 4000000 in
set_option maxRecDepth 100000 in
theorem t_X0_lets_28 {p : Program} {l : Launch} {e : Env} {s : State} {m : MethodId} {args : Array Value} {below : List Frame} {meth : Method} {c : Code} {D : va_G} {cI cJ cZ cR cN : ClassId} {x0 : Int32} {x1 : Int32} {H : Heap} {r : Int32} (hB : fr_BX p s m args meth c cX0_lets (some .boolean) 2 RX0 wsX0_lets) (hcx : fr_cx D cI cJ cZ cR cN s) (hm : m_X0_lets_b28 x0 x1 = r) {locs : List Loc} {ls : Array Slot} (hS : va_S (fun _ => False) s.heap H locs) (hl : lv_has ls 2 [(0, .int x0)]) : W p l e ({ frames := 0, cells := 0, slots := 0, locals := 0 } : Room) s m args below meth c H locs 0 0 (MQ below (fr_Ri H r) args s 0 0 (fun _ => False)) (F0 m 28 ls []) := by
  obtain ⟨hx, hb, hr, hml, hown, hts, hlocks⟩ := id hB
  have hK := hcx.1
  unfold m_X0_lets_b28 at hm
  refine lv_iload_n hx hb dX0_lets_28 rfl (lv_at hl 0 rfl) ?_
  refine lv_iconst (v := (1 : Int32)) hx hb dX0_lets_29 (by decide) ?_
  refine lv_icmp_eq (tgt := 37) hx hb dX0_lets_30 (by decide) (fun c_4 => ?_) (fun c_4 => ?_)
  · have hm := fr_tip c_4 hm
    refine lv_iconst (v := (0 : Int32)) hx hb dX0_lets_37 (by decide) ?_
    exact W.zret (v := (0 : Int32)) hx hb hr rfl (fun t ht hW => ⟨⟨_, (), rfl, hm, ht⟩, hS.F ht⟩) hS.2.2 dX0_lets_38 hlocks
  · have hm := fr_tin c_4 hm
    refine lv_iconst (v := (1 : Int32)) hx hb dX0_lets_33 (by decide) ?_
    refine lv_goto (tgt := 38) hx hb dX0_lets_34 (by decide) ?_
    exact W.zret (v := (1 : Int32)) hx hb hr rfl (fun t ht hW => ⟨⟨_, (), rfl, hm, ht⟩, hS.F ht⟩) hS.2.2 dX0_lets_38 hlocks
set_option maxHeartbeats 4000000 in
set_option maxRecDepth 100000 in
theorem t_X0_lets_0 {p : Program} {l : Launch} {e : Env} {s : State} {m : MethodId} {args : Array Value} {below : List Frame} {meth : Method} {c : Code} {D : va_G} {cI cJ cZ cR cN : ClassId} {x0 : Int32} {x1 : Int32} {H : Heap} {r : Int32} (hB : fr_BX p s m args meth c cX0_lets (some .boolean) 2 RX0 wsX0_lets) (hcx : fr_cx D cI cJ cZ cR cN s) (hm : m_X0_lets x0 x1 = r) {locs : List Loc} {ls : Array Slot} (hS : va_S (fun _ => False) s.heap H locs) (hl : lv_has ls 2 [(0, .int x0), (1, .int x1)]) : W p l e ({ frames := 0, cells := 0, slots := 0, locals := 0 } : Room) s m args below meth c H locs 0 0 (MQ below (fr_Ri H r) args s 0 0 (fun _ => False)) (F0 m 0 ls []) := by
  obtain ⟨hx, hb, hr, hml, hown, hts, hlocks⟩ := id hB
  have hK := hcx.1
  unfold m_X0_lets at hm
  refine lv_iload_n hx hb dX0_lets_0 rfl (lv_at hl 0 rfl) ?_
  refine lv_iconst (v := (5 : Int32)) hx hb dX0_lets_1 (by decide) ?_
  refine lv_icmp_lt (tgt := 28) hx hb dX0_lets_2 (by decide) (fun c_1 => ?_) (fun c_1 => ?_)
  · have hm := fr_tip c_1 hm
    exact t_X0_lets_28 hB hcx hm hS (lv_sub hl [0] rfl)
  · have hm := fr_tin c_1 hm
    refine lv_iload_n hx hb dX0_lets_5 rfl (lv_at hl 0 rfl) ?_
    refine lv_bipush (v := (8 : Int32)) hx hb dX0_lets_6 (by decide) ?_
    refine lv_icmp_ge (tgt := 28) hx hb dX0_lets_8 (by decide) (fun c_2 => ?_) (fun c_2 => ?_)
    · have hm := fr_tip c_2 hm
      exact t_X0_lets_28 hB hcx hm hS (lv_sub hl [0] rfl)
    · have hm := fr_tin c_2 hm
      refine lv_iload_n hx hb dX0_lets_11 rfl (lv_at hl 1 rfl) ?_
      refine lv_iload_n hx hb dX0_lets_12 rfl (lv_at hl 0 rfl) ?_
      refine lv_iconst (v := (5 : Int32)) hx hb dX0_lets_13 (by decide) ?_
      refine lv_isub hx hb dX0_lets_14 ?_
      refine lv_ishr hx hb dX0_lets_15 ?_
      refine lv_iconst (v := (1 : Int32)) hx hb dX0_lets_16 (by decide) ?_
      refine lv_iand hx hb dX0_lets_17 ?_
      refine lv_iconst (v := (1 : Int32)) hx hb dX0_lets_18 (by decide) ?_
      refine lv_icmp_ne (tgt := 26) hx hb dX0_lets_19 (by decide) (fun c_3 => ?_) (fun c_3 => ?_)
      · have hm := fr_tin c_3 hm
        refine lv_iconst (v := (0 : Int32)) hx hb dX0_lets_26 (by decide) ?_
        exact W.zret (v := (0 : Int32)) hx hb hr rfl (fun t ht hW => ⟨⟨_, (), rfl, hm, ht⟩, hS.F ht⟩) hS.2.2 dX0_lets_27 hlocks
      · have hm := fr_tip c_3 hm
        refine lv_iconst (v := (1 : Int32)) hx hb dX0_lets_22 (by decide) ?_
        refine lv_goto (tgt := 27) hx hb dX0_lets_23 (by decide) ?_
        exact W.zret (v := (1 : Int32)) hx hb hr rfl (fun t ht hW => ⟨⟨_, (), rfl, hm, ht⟩, hS.F ht⟩) hS.2.2 dX0_lets_27 hlocks
set_option maxHeartbeats 4000000 in
set_option maxRecDepth 100000 in
theorem c_X0_lets {l : Launch} {D : va_G} {cI cJ cZ cR cN : ClassId} {x0 : Int32} {x1 : Int32} {H0 : Heap} : Met l yX0_lets wsX0_lets ({ frames := 0, cells := 0, slots := 0, locals := 0 } : Room) (fr_Pr D cI cJ cZ cR cN [.int x0, .int x1] H0) (fr_Ri H0 (m_X0_lets x0 x1)) 0 0 (fun _ => False) := by
  refine fr_ofW (cc := cX0_lets) (maxL := 2) (ret := (some .boolean)) (by decide +kernel) rfl ?_
  intro p e s m args below meth c s₁ B hml hv
  obtain ⟨rfl, hH, hcx⟩ := hv
  subst hH
  have hB : fr_BX p s m _ meth c cX0_lets (some .boolean) 2 RX0 wsX0_lets := ⟨B.exec, B.bytes, B.returns, hml, findClass_of_methodNamed B.named, atoms_spec (ws := wsX0_lets) B.pre, B.notSynchronized⟩
  have hl := lv_entry ([.int x0, .int x1]) (n := 2) (Nat.le_of_ble_eq_true rfl)
  rw [lg_entry_eq]
  generalize (lg_sl ([.int x0, .int x1]) ++ List.replicate (2 - (lg_sl ([.int x0, .int x1])).length) Slot.unset).toArray = ls at hl ⊢
  have hl : lv_has ls 2 [(0, .int x0), (1, .int x1)] := hl
  exact t_X0_lets_0 hB hcx rfl va_S.rf hl
set_option maxHeartbeats 4000000 in
set_option maxRecDepth 100000 in
theorem t_X0_with_0 {p : Program} {l : Launch} {e : Env} {s : State} {m : MethodId} {args : Array Value} {below : List Frame} {meth : Method} {c : Code} {D : va_G} {cI cJ cZ cR cN : ClassId} {x0 : Int64} {x2 : Int32} {x3 : Int32} {H : Heap} {r : Int64} (hB : fr_BX p s m args meth c cX0_with (some .long) 6 RX0 wsX0_with) (hcx : fr_cx D cI cJ cZ cR cN s) (hm : m_X0_with x0 x2 x3 = r) {locs : List Loc} {ls : Array Slot} (hS : va_S (fun _ => False) s.heap H locs) (hl : lv_has ls 6 [(0, .long x0), (2, .int x2), (3, .int x3)]) : W p l e ({ frames := 0, cells := 0, slots := 0, locals := 0 } : Room) s m args below meth c H locs 0 0 (MQ below (fr_Rl H r) args s 0 0 (fun _ => False)) (F0 m 0 ls []) := by
  obtain ⟨hx, hb, hr, hml, hown, hts, hlocks⟩ := id hB
  have hK := hcx.1
  unfold m_X0_with at hm
  refine lv_lconst (v := (1 : Int64)) hx hb dX0_with_0 (by decide) ?_
  refine lv_iload_n hx hb dX0_with_1 rfl (lv_at hl 1 rfl) ?_
  refine lv_lshl (v := ((1 : Int64) <<< (x2.toInt64 &&& 63))) hx hb dX0_with_2 rfl ?_
  refine lv_lstore (lv' := [(4, .long ((1 : Int64) <<< (x2.toInt64 &&& 63))), (0, .long x0), (2, .int x2), (3, .int x3)]) hx hb dX0_with_3 hl (by decide) rfl (fun ls hl => ?_)
  refine lv_iload_n hx hb dX0_with_5 rfl (lv_at hl 3 rfl) ?_
  refine lv_if_eq (tgt := 16) hx hb dX0_with_6 (by decide) (fun c_1 => ?_) (fun c_1 => ?_)
  · have hm := fr_tip c_1 hm
    refine lv_lload_n hx hb dX0_with_16 rfl (lv_at hl 1 rfl) ?_
    refine lv_lload hx hb dX0_with_17 (lv_at hl 0 rfl) ?_
    refine lv_ldc2 (v := (-1 : Int64)) hx hb hown (hts (.constantLong RX0 71 (-1)) (List.mem_of_getElem? (i := 1) rfl)) dX0_with_19 ?_
    refine lv_lxor hx hb dX0_with_22 ?_
    refine lv_land hx hb dX0_with_23 ?_
    exact W.lret (v := (x0 &&& (((1 : Int64) <<< (x2.toInt64 &&& 63)) ^^^ (-1 : Int64)))) hx hb hr (fun t ht hW => ⟨⟨_, (), rfl, hm, ht⟩, hS.F ht⟩) hS.2.2 dX0_with_24 hlocks
  · have hm := fr_tin c_1 hm
    refine lv_lload_n hx hb dX0_with_9 rfl (lv_at hl 1 rfl) ?_
    refine lv_lload hx hb dX0_with_10 (lv_at hl 0 rfl) ?_
    refine lv_lor hx hb dX0_with_12 ?_
    refine lv_goto (tgt := 24) hx hb dX0_with_13 (by decide) ?_
    exact W.lret (v := (x0 ||| ((1 : Int64) <<< (x2.toInt64 &&& 63)))) hx hb hr (fun t ht hW => ⟨⟨_, (), rfl, hm, ht⟩, hS.F ht⟩) hS.2.2 dX0_with_24 hlocks
set_option maxHeartbeats 4000000 in
set_option maxRecDepth 100000 in
theorem c_X0_with {l : Launch} {D : va_G} {cI cJ cZ cR cN : ClassId} {x0 : Int64} {x2 : Int32} {x3 : Int32} {H0 : Heap} : Met l yX0_with wsX0_with ({ frames := 0, cells := 0, slots := 0, locals := 0 } : Room) (fr_Pr D cI cJ cZ cR cN [.long x0, .int x2, .int x3] H0) (fr_Rl H0 (m_X0_with x0 x2 x3)) 0 0 (fun _ => False) := by
  refine fr_ofW (cc := cX0_with) (maxL := 6) (ret := (some .long)) (by decide +kernel) rfl ?_
  intro p e s m args below meth c s₁ B hml hv
  obtain ⟨rfl, hH, hcx⟩ := hv
  subst hH
  have hB : fr_BX p s m _ meth c cX0_with (some .long) 6 RX0 wsX0_with := ⟨B.exec, B.bytes, B.returns, hml, findClass_of_methodNamed B.named, atoms_spec (ws := wsX0_with) B.pre, B.notSynchronized⟩
  have hl := lv_entry ([.long x0, .int x2, .int x3]) (n := 6) (Nat.le_of_ble_eq_true rfl)
  rw [lg_entry_eq]
  generalize (lg_sl ([.long x0, .int x2, .int x3]) ++ List.replicate (6 - (lg_sl ([.long x0, .int x2, .int x3])).length) Slot.unset).toArray = ls at hl ⊢
  have hl : lv_has ls 6 [(0, .long x0), (2, .int x2), (3, .int x3)] := hl
  exact t_X0_with_0 hB hcx rfl va_S.rf hl
theorem in_X0_setKind_X0 : ∀ w ∈ wsX00, w ∈ wsX0_setKind := fun w h => List.mem_cons_of_mem _ (List.mem_append_right _ h)
set_option maxHeartbeats 4000000 in
set_option maxRecDepth 100000 in
theorem t_X0_setKind_111 {p : Program} {l : Launch} {e : Env} {s : State} {m : MethodId} {args : Array Value} {below : List Frame} {meth : Method} {c : Code} {D : va_G} {cI cJ cZ cR cN : ClassId} {A : Nat → Prop} {a_z a_z_kinds a_z_openWith a_z_keyCells a_z_round : Nat} {z_goalCells : Int64} {z_width : Int32} {z_height : Int32} {z_roundLength : Int32} {z_startCell : Int32} {z_kinds : Nat → Int32} {z_openWith : Nat → Int64} {z_keyCells : Nat → Int64} {F : Nat} {x1 : Int32} {x2 : Int32} {k0 : Int32} {k1 : Int32} {k2 : Int64} {H : Heap} {z_goalCells' : Int64} {z_kinds' : Nat → Int32} {z_openWith' : Nat → Int64} {z_keyCells' : Nat → Int64} (hB : fr_BX p s m args meth c cX0_setKind none 4 RX0 wsX0_setKind) (hcx : fr_cx D cI cJ cZ cR cN s) (hA : ∀ q, s.heap.size ≤ q → A q) (hm : m_X0_setKind_b111 F x1 x2 z_goalCells z_kinds z_openWith z_keyCells k0 k1 k2 = some (z_goalCells', z_kinds', z_openWith', z_keyCells')) {locs : List Loc} {ls : Array Slot} (hP : va_P D vwCl [(a_z, .inr (ob_X0 a_z_kinds a_z_openWith a_z_keyCells z_goalCells a_z_round z_width z_height z_roundLength z_startCell)), (a_z_kinds, .inl (cI, 64, .inl z_kinds)), (a_z_openWith, .inl (cJ, 8, .inr (.inl z_openWith))), (a_z_keyCells, .inl (cJ, 3, .inr (.inl z_keyCells)))] H) (hD : va_D A [(a_z, .inr (ob_X0 a_z_kinds a_z_openWith a_z_keyCells z_goalCells a_z_round z_width z_height z_roundLength z_startCell)), (a_z_kinds, .inl (cI, 64, .inl z_kinds)), (a_z_openWith, .inl (cJ, 8, .inr (.inl z_openWith))), (a_z_keyCells, .inl (cJ, 3, .inr (.inl z_keyCells)))]) (hS : va_S A s.heap H locs) (hl : lv_has ls 4 []) : W p l e ({ frames := 1, cells := 0, slots := 0, locals := 25 } : Room) s m args below meth c H locs 0 0 (MQ below (fr_Wv D [(a_z, .inr (ob_X0 a_z_kinds a_z_openWith a_z_keyCells z_goalCells' a_z_round z_width z_height z_roundLength z_startCell)), (a_z_kinds, .inl (cI, 64, .inl z_kinds')), (a_z_openWith, .inl (cJ, 8, .inr (.inl z_openWith'))), (a_z_keyCells, .inl (cJ, 3, .inr (.inl z_keyCells')))] A) args s 0 0 A) (F0 m 111 ls [.int k0, .int k1, .long k2, .ref a_z]) := by
  obtain ⟨hx, hb, hr, hml, hown, hts, hlocks⟩ := id hB
  have hK := hcx.1
  unfold m_X0_setKind_b111 at hm
  refine fr_rol (va_runS (As := [.long k2, .int k1, .int k0]) (rest := [.ref a_z]) ⟨hx, hb, hml, hown, hts⟩ (c_X0_with (l := l) (x0 := k2) (x2 := k1) (x3 := k0) (D := D) (cI := cI) (cJ := cJ) (cZ := cZ) (cR := cR) (cN := cN) (H0 := H)) (va_cwS 3 hts gX0_setKind_X0_with rfl rfl rfl (by decide +kernel) ⟨Nat.le_of_ble_eq_true rfl, Nat.le_of_ble_eq_true rfl⟩) (fr_psr hcx) rfl rfl hl.1 rfl (lv_room (Nat.le_of_ble_eq_true rfl)) dX0_setKind_111 ⟨Nat.zero_le _, Nat.zero_le _⟩) hS (fun locs hS => ?_)
  refine va_put (D := D) (ci := 0) (v := .long (m_X0_with k2 k1 k0)) (ty := .long) (C := RX0) (T := TX0) (N := 9) hx hb hts in_X0_setKind_X0 tyX0 tyX0_ok nmX0 hown hK hP hD hS 0 rfl rfl 3 (by decide) (hts (.fieldLink RX0 55 "FastestRun$Game" "goalCells" "J") (List.mem_of_getElem? (i := 4) rfl)) (fun _ h9 => h9) rfl (by decide +kernel) rfl rfl (Nat.le_of_ble_eq_true rfl) dX0_setKind_114 (fun H locs hP hD hS => ?_)
  have hP : va_P D vwCl [(a_z, .inr (ob_X0 a_z_kinds a_z_openWith a_z_keyCells (m_X0_with k2 k1 k0) a_z_round z_width z_height z_roundLength z_startCell)), (a_z_kinds, .inl (cI, 64, .inl z_kinds)), (a_z_openWith, .inl (cJ, 8, .inr (.inl z_openWith))), (a_z_keyCells, .inl (cJ, 3, .inr (.inl z_keyCells)))] H := hP
  have hD : va_D A [(a_z, .inr (ob_X0 a_z_kinds a_z_openWith a_z_keyCells (m_X0_with k2 k1 k0) a_z_round z_width z_height z_roundLength z_startCell)), (a_z_kinds, .inl (cI, 64, .inl z_kinds)), (a_z_openWith, .inl (cJ, 8, .inr (.inl z_openWith))), (a_z_keyCells, .inl (cJ, 3, .inr (.inl z_keyCells)))] := hD
  cases hm
  exact W.vret hx hb hr (fun t ht hW => ⟨⟨(), rfl, trivial, by rw [ht]; exact hP, hD⟩, hS.F ht⟩) hS.2.2 dX0_setKind_117 hlocks
set_option maxHeartbeats 4000000 in
set_option maxRecDepth 100000 in
theorem t_X0_setKind_94 {p : Program} {l : Launch} {e : Env} {s : State} {m : MethodId} {args : Array Value} {below : List Frame} {meth : Method} {c : Code} {D : va_G} {cI cJ cZ cR cN : ClassId} {A : Nat → Prop} {a_z a_z_kinds a_z_openWith a_z_keyCells a_z_round : Nat} {z_goalCells : Int64} {z_width : Int32} {z_height : Int32} {z_roundLength : Int32} {z_startCell : Int32} {z_kinds : Nat → Int32} {z_openWith : Nat → Int64} {z_keyCells : Nat → Int64} {F : Nat} {x1 : Int32} {x2 : Int32} {H : Heap} {z_goalCells' : Int64} {z_kinds' : Nat → Int32} {z_openWith' : Nat → Int64} {z_keyCells' : Nat → Int64} (hB : fr_BX p s m args meth c cX0_setKind none 4 RX0 wsX0_setKind) (hcx : fr_cx D cI cJ cZ cR cN s) (hA : ∀ q, s.heap.size ≤ q → A q) (hm : m_X0_setKind_b94 F x1 x2 z_goalCells z_kinds z_openWith z_keyCells = some (z_goalCells', z_kinds', z_openWith', z_keyCells')) {locs : List Loc} {ls : Array Slot} (hP : va_P D vwCl [(a_z, .inr (ob_X0 a_z_kinds a_z_openWith a_z_keyCells z_goalCells a_z_round z_width z_height z_roundLength z_startCell)), (a_z_kinds, .inl (cI, 64, .inl z_kinds)), (a_z_openWith, .inl (cJ, 8, .inr (.inl z_openWith))), (a_z_keyCells, .inl (cJ, 3, .inr (.inl z_keyCells)))] H) (hD : va_D A [(a_z, .inr (ob_X0 a_z_kinds a_z_openWith a_z_keyCells z_goalCells a_z_round z_width z_height z_roundLength z_startCell)), (a_z_kinds, .inl (cI, 64, .inl z_kinds)), (a_z_openWith, .inl (cJ, 8, .inr (.inl z_openWith))), (a_z_keyCells, .inl (cJ, 3, .inr (.inl z_keyCells)))]) (hS : va_S A s.heap H locs) (hl : lv_has ls 4 [(0, .ref a_z), (1, .int x1), (2, .int x2)]) : W p l e ({ frames := 1, cells := 0, slots := 0, locals := 25 } : Room) s m args below meth c H locs 0 0 (MQ below (fr_Wv D [(a_z, .inr (ob_X0 a_z_kinds a_z_openWith a_z_keyCells z_goalCells' a_z_round z_width z_height z_roundLength z_startCell)), (a_z_kinds, .inl (cI, 64, .inl z_kinds')), (a_z_openWith, .inl (cJ, 8, .inr (.inl z_openWith'))), (a_z_keyCells, .inl (cJ, 3, .inr (.inl z_keyCells')))] A) args s 0 0 A) (F0 m 94 ls []) := by
  obtain ⟨hx, hb, hr, hml, hown, hts, hlocks⟩ := id hB
  have hK := hcx.1
  unfold m_X0_setKind_b94 at hm
  refine lv_aload_n hx hb dX0_setKind_94 rfl (lv_at hl 0 rfl) ?_
  refine lv_aload_n hx hb dX0_setKind_95 rfl (lv_at hl 0 rfl) ?_
  refine va_get (D := D) (ci := 0) (v := .long z_goalCells) (C := RX0) (T := TX0) (N := 9) hx hb hts in_X0_setKind_X0 hown hK hP 0 rfl rfl 3 (by decide) (hts (.fieldLink RX0 55 "FastestRun$Game" "goalCells" "J") (List.mem_of_getElem? (i := 4) rfl)) (fun _ h9 => h9) rfl dX0_setKind_96 ?_
  refine lv_iload_n hx hb dX0_setKind_99 rfl (lv_at hl 1 rfl) ?_
  refine lv_iload_n hx hb dX0_setKind_100 rfl (lv_at hl 2 rfl) ?_
  refine lv_bipush (v := (8 : Int32)) hx hb dX0_setKind_101 (by decide) ?_
  refine lv_icmp_ne (tgt := 110) hx hb dX0_setKind_103 (by decide) (fun c_10 => ?_) (fun c_10 => ?_)
  · have hm := fr_ifn c_10 hm
    refine lv_iconst (v := (0 : Int32)) hx hb dX0_setKind_110 (by decide) ?_
    exact t_X0_setKind_111 hB hcx hA hm hP hD hS (lv_sub hl [] rfl)
  · have hm := fr_ifp c_10 hm
    refine lv_iconst (v := (1 : Int32)) hx hb dX0_setKind_106 (by decide) ?_
    refine lv_goto (tgt := 111) hx hb dX0_setKind_107 (by decide) ?_
    exact t_X0_setKind_111 hB hcx hA hm hP hD hS (lv_sub hl [] rfl)
set_option maxHeartbeats 4000000 in
set_option maxRecDepth 100000 in
theorem t_X0_setKind_84 {p : Program} {l : Launch} {e : Env} {s : State} {m : MethodId} {args : Array Value} {below : List Frame} {meth : Method} {c : Code} {D : va_G} {cI cJ cZ cR cN : ClassId} {A : Nat → Prop} {a_z a_z_kinds a_z_openWith a_z_keyCells a_z_round : Nat} {z_goalCells : Int64} {z_width : Int32} {z_height : Int32} {z_roundLength : Int32} {z_startCell : Int32} {z_kinds : Nat → Int32} {z_openWith : Nat → Int64} {z_keyCells : Nat → Int64} {F : Nat} {x1 : Int32} {x2 : Int32} {v3 : Int32} {k0 : Int32} {k1 : Int32} {k2 : Int64} {k3 : Int32} {H : Heap} {z_goalCells' : Int64} {z_kinds' : Nat → Int32} {z_openWith' : Nat → Int64} {z_keyCells' : Nat → Int64} (hB : fr_BX p s m args meth c cX0_setKind none 4 RX0 wsX0_setKind) (hcx : fr_cx D cI cJ cZ cR cN s) (hA : ∀ q, s.heap.size ≤ q → A q) {k55_ : Int64 → (Nat → Int32) → (Nat → Int64) → (Nat → Int64) → Int32 → Option (Int64 × (Nat → Int32) × (Nat → Int64) × (Nat → Int64))} (hk55 : ∀ (z_goalCells : Int64) (z_kinds : Nat → Int32) (z_openWith : Nat → Int64) (z_keyCells : Nat → Int64) (v3 : Int32) (H : Heap) (locs : List Loc) (ls : Array Slot), k55_ z_goalCells z_kinds z_openWith z_keyCells v3 = some (z_goalCells', z_kinds', z_openWith', z_keyCells') → va_P D vwCl [(a_z, .inr (ob_X0 a_z_kinds a_z_openWith a_z_keyCells z_goalCells a_z_round z_width z_height z_roundLength z_startCell)), (a_z_kinds, .inl (cI, 64, .inl z_kinds)), (a_z_openWith, .inl (cJ, 8, .inr (.inl z_openWith))), (a_z_keyCells, .inl (cJ, 3, .inr (.inl z_keyCells)))] H → va_D A [(a_z, .inr (ob_X0 a_z_kinds a_z_openWith a_z_keyCells z_goalCells a_z_round z_width z_height z_roundLength z_startCell)), (a_z_kinds, .inl (cI, 64, .inl z_kinds)), (a_z_openWith, .inl (cJ, 8, .inr (.inl z_openWith))), (a_z_keyCells, .inl (cJ, 3, .inr (.inl z_keyCells)))] → va_S A s.heap H locs → lv_has ls 4 [(0, .ref a_z), (1, .int x1), (2, .int x2), (3, .int v3)] → W p l e ({ frames := 1, cells := 0, slots := 0, locals := 25 } : Room) s m args below meth c H locs 0 0 (MQ below (fr_Wv D [(a_z, .inr (ob_X0 a_z_kinds a_z_openWith a_z_keyCells z_goalCells' a_z_round z_width z_height z_roundLength z_startCell)), (a_z_kinds, .inl (cI, 64, .inl z_kinds')), (a_z_openWith, .inl (cJ, 8, .inr (.inl z_openWith'))), (a_z_keyCells, .inl (cJ, 3, .inr (.inl z_keyCells')))] A) args s 0 0 A) (F0 m 55 ls [])) (hm : m_X0_setKind_b84 F x1 x2 k55_ z_goalCells z_kinds z_openWith z_keyCells v3 k0 k1 k2 k3 = some (z_goalCells', z_kinds', z_openWith', z_keyCells')) {locs : List Loc} {ls : Array Slot} (hP : va_P D vwCl [(a_z, .inr (ob_X0 a_z_kinds a_z_openWith a_z_keyCells z_goalCells a_z_round z_width z_height z_roundLength z_startCell)), (a_z_kinds, .inl (cI, 64, .inl z_kinds)), (a_z_openWith, .inl (cJ, 8, .inr (.inl z_openWith))), (a_z_keyCells, .inl (cJ, 3, .inr (.inl z_keyCells)))] H) (hD : va_D A [(a_z, .inr (ob_X0 a_z_kinds a_z_openWith a_z_keyCells z_goalCells a_z_round z_width z_height z_roundLength z_startCell)), (a_z_kinds, .inl (cI, 64, .inl z_kinds)), (a_z_openWith, .inl (cJ, 8, .inr (.inl z_openWith))), (a_z_keyCells, .inl (cJ, 3, .inr (.inl z_keyCells)))]) (hS : va_S A s.heap H locs) (hl : lv_has ls 4 [(0, .ref a_z), (1, .int x1), (2, .int x2), (3, .int v3)]) : W p l e ({ frames := 1, cells := 0, slots := 0, locals := 25 } : Room) s m args below meth c H locs 0 0 (MQ below (fr_Wv D [(a_z, .inr (ob_X0 a_z_kinds a_z_openWith a_z_keyCells z_goalCells' a_z_round z_width z_height z_roundLength z_startCell)), (a_z_kinds, .inl (cI, 64, .inl z_kinds')), (a_z_openWith, .inl (cJ, 8, .inr (.inl z_openWith'))), (a_z_keyCells, .inl (cJ, 3, .inr (.inl z_keyCells')))] A) args s 0 0 A) (F0 m 84 ls [.int k0, .int k1, .long k2, .int k3, .ref a_z_keyCells]) := by
  obtain ⟨hx, hb, hr, hml, hown, hts, hlocks⟩ := id hB
  have hK := hcx.1
  unfold m_X0_setKind_b84 at hm
  refine fr_rol (va_runS (As := [.long k2, .int k1, .int k0]) (rest := [.int k3, .ref a_z_keyCells]) ⟨hx, hb, hml, hown, hts⟩ (c_X0_with (l := l) (x0 := k2) (x2 := k1) (x3 := k0) (D := D) (cI := cI) (cJ := cJ) (cZ := cZ) (cR := cR) (cN := cN) (H0 := H)) (va_cwS 3 hts gX0_setKind_X0_with rfl rfl rfl (by decide +kernel) ⟨Nat.le_of_ble_eq_true rfl, Nat.le_of_ble_eq_true rfl⟩) (fr_psr hcx) rfl rfl hl.1 rfl (lv_room (Nat.le_of_ble_eq_true rfl)) dX0_setKind_84 ⟨Nat.zero_le _, Nat.zero_le _⟩) hS (fun locs hS => ?_)
  obtain ⟨h_11, hm⟩ := fr_ck hm
  refine va_last hx hb hK hP hD hS 3 1 rfl rfl h_11 dX0_setKind_87 (fun H locs hP hD hS => ?_)
  have hP : va_P D vwCl [(a_z, .inr (ob_X0 a_z_kinds a_z_openWith a_z_keyCells z_goalCells a_z_round z_width z_height z_roundLength z_startCell)), (a_z_kinds, .inl (cI, 64, .inl z_kinds)), (a_z_openWith, .inl (cJ, 8, .inr (.inl z_openWith))), (a_z_keyCells, .inl (cJ, 3, .inr (.inl (vp_updL z_keyCells k3.toNatClampNeg (m_X0_with k2 k1 k0)))))] H := hP
  have hD : va_D A [(a_z, .inr (ob_X0 a_z_kinds a_z_openWith a_z_keyCells z_goalCells a_z_round z_width z_height z_roundLength z_startCell)), (a_z_kinds, .inl (cI, 64, .inl z_kinds)), (a_z_openWith, .inl (cJ, 8, .inr (.inl z_openWith))), (a_z_keyCells, .inl (cJ, 3, .inr (.inl (vp_updL z_keyCells k3.toNatClampNeg (m_X0_with k2 k1 k0)))))] := hD
  refine lv_iinc (v := (v3 + 1)) (lv' := [(3, .int (v3 + 1)), (0, .ref a_z), (1, .int x1), (2, .int x2)]) hx hb dX0_setKind_88 hl (k := 3) rfl rfl (by decide) rfl (fun ls hl => ?_)
  refine lv_goto (tgt := 55) hx hb dX0_setKind_91 (by decide) ?_
  exact hk55 _ _ _ _ _ _ _ _ hm hP hD hS (lv_sub hl [1, 2, 3, 0] rfl)
set_option maxHeartbeats 4000000 in
set_option maxRecDepth 100000 in
theorem t_X0_setKind_55 {p : Program} {l : Launch} {e : Env} {s : State} {m : MethodId} {args : Array Value} {below : List Frame} {meth : Method} {c : Code} {D : va_G} {cI cJ cZ cR cN : ClassId} {A : Nat → Prop} {a_z a_z_kinds a_z_openWith a_z_keyCells a_z_round : Nat} {z_width : Int32} {z_height : Int32} {z_roundLength : Int32} {z_startCell : Int32} {F : Nat} {x1 : Int32} {x2 : Int32} {z_goalCells' : Int64} {z_kinds' : Nat → Int32} {z_openWith' : Nat → Int64} {z_keyCells' : Nat → Int64} (hB : fr_BX p s m args meth c cX0_setKind none 4 RX0 wsX0_setKind) (hcx : fr_cx D cI cJ cZ cR cN s) (hA : ∀ q, s.heap.size ≤ q → A q) : ∀ (n : Nat) (z_goalCells : Int64) (z_kinds : Nat → Int32) (z_openWith : Nat → Int64) (z_keyCells : Nat → Int64) (v3 : Int32) (H : Heap) (locs : List Loc) (ls : Array Slot), m_X0_setKind_b55 F x1 x2 n z_goalCells z_kinds z_openWith z_keyCells v3 = some (z_goalCells', z_kinds', z_openWith', z_keyCells') → va_P D vwCl [(a_z, .inr (ob_X0 a_z_kinds a_z_openWith a_z_keyCells z_goalCells a_z_round z_width z_height z_roundLength z_startCell)), (a_z_kinds, .inl (cI, 64, .inl z_kinds)), (a_z_openWith, .inl (cJ, 8, .inr (.inl z_openWith))), (a_z_keyCells, .inl (cJ, 3, .inr (.inl z_keyCells)))] H → va_D A [(a_z, .inr (ob_X0 a_z_kinds a_z_openWith a_z_keyCells z_goalCells a_z_round z_width z_height z_roundLength z_startCell)), (a_z_kinds, .inl (cI, 64, .inl z_kinds)), (a_z_openWith, .inl (cJ, 8, .inr (.inl z_openWith))), (a_z_keyCells, .inl (cJ, 3, .inr (.inl z_keyCells)))] → va_S A s.heap H locs → lv_has ls 4 [(0, .ref a_z), (1, .int x1), (2, .int x2), (3, .int v3)] → W p l e ({ frames := 1, cells := 0, slots := 0, locals := 25 } : Room) s m args below meth c H locs 0 0 (MQ below (fr_Wv D [(a_z, .inr (ob_X0 a_z_kinds a_z_openWith a_z_keyCells z_goalCells' a_z_round z_width z_height z_roundLength z_startCell)), (a_z_kinds, .inl (cI, 64, .inl z_kinds')), (a_z_openWith, .inl (cJ, 8, .inr (.inl z_openWith'))), (a_z_keyCells, .inl (cJ, 3, .inr (.inl z_keyCells')))] A) args s 0 0 A) (F0 m 55 ls []) := by
  obtain ⟨hx, hb, hr, hml, hown, hts, hlocks⟩ := id hB
  have hK := hcx.1
  intro n
  induction n with
  | zero =>
    intro z_goalCells z_kinds z_openWith z_keyCells v3 H locs ls hm
    have hm : none = some _ := hm
    cases hm
  | succ n ih =>
    intro z_goalCells z_kinds z_openWith z_keyCells v3 H locs ls hm hP hD hS hl
    rw [m_X0_setKind_b55] at hm
    refine lv_iload_n hx hb dX0_setKind_55 rfl (lv_at hl 3 rfl) ?_
    refine lv_iconst (v := (3 : Int32)) hx hb dX0_setKind_56 (by decide) ?_
    refine lv_icmp_ge (tgt := 94) hx hb dX0_setKind_57 (by decide) (fun c_7 => ?_) (fun c_7 => ?_)
    · have hm := fr_ifp c_7 hm
      exact t_X0_setKind_94 hB hcx hA hm hP hD hS (lv_sub hl [0, 1, 2] rfl)
    · have hm := fr_ifn c_7 hm
      refine lv_aload_n hx hb dX0_setKind_60 rfl (lv_at hl 0 rfl) ?_
      refine va_get (D := D) (ci := 0) (v := .ref a_z_keyCells) (C := RX0) (T := TX0) (N := 9) hx hb hts in_X0_setKind_X0 hown hK hP 0 rfl rfl 2 (by decide) (hts (.fieldLink RX0 19 "FastestRun$Game" "keyCells" "[J") (List.mem_of_getElem? (i := 3) rfl)) (fun _ h9 => h9) rfl dX0_setKind_61 ?_
      refine lv_iload_n hx hb dX0_setKind_64 rfl (lv_at hl 3 rfl) ?_
      refine lv_aload_n hx hb dX0_setKind_65 rfl (lv_at hl 0 rfl) ?_
      refine va_get (D := D) (ci := 0) (v := .ref a_z_keyCells) (C := RX0) (T := TX0) (N := 9) hx hb hts in_X0_setKind_X0 hown hK hP 0 rfl rfl 2 (by decide) (hts (.fieldLink RX0 19 "FastestRun$Game" "keyCells" "[J") (List.mem_of_getElem? (i := 3) rfl)) (fun _ h9 => h9) rfl dX0_setKind_66 ?_
      refine lv_iload_n hx hb dX0_setKind_69 rfl (lv_at hl 3 rfl) ?_
      obtain ⟨h_8, hm⟩ := fr_ck hm
      refine va_lald hx hb hK hP 3 1 rfl rfl h_8 dX0_setKind_70 ?_
      refine lv_iload_n hx hb dX0_setKind_71 rfl (lv_at hl 1 rfl) ?_
      refine lv_iload_n hx hb dX0_setKind_72 rfl (lv_at hl 2 rfl) ?_
      refine lv_iconst (v := (2 : Int32)) hx hb dX0_setKind_73 (by decide) ?_
      refine lv_iload_n hx hb dX0_setKind_74 rfl (lv_at hl 3 rfl) ?_
      refine lv_iadd hx hb dX0_setKind_75 ?_
      refine lv_icmp_ne (tgt := 83) hx hb dX0_setKind_76 (by decide) (fun c_9 => ?_) (fun c_9 => ?_)
      · have hm := fr_ifn c_9 hm
        refine lv_iconst (v := (0 : Int32)) hx hb dX0_setKind_83 (by decide) ?_
        exact t_X0_setKind_84 hB hcx hA ih hm hP hD hS (lv_sub hl [0, 1, 2, 3] rfl)
      · have hm := fr_ifp c_9 hm
        refine lv_iconst (v := (1 : Int32)) hx hb dX0_setKind_79 (by decide) ?_
        refine lv_goto (tgt := 84) hx hb dX0_setKind_80 (by decide) ?_
        exact t_X0_setKind_84 hB hcx hA ih hm hP hD hS (lv_sub hl [0, 1, 2, 3] rfl)
set_option maxHeartbeats 4000000 in
set_option maxRecDepth 100000 in
theorem t_X0_setKind_20 {p : Program} {l : Launch} {e : Env} {s : State} {m : MethodId} {args : Array Value} {below : List Frame} {meth : Method} {c : Code} {D : va_G} {cI cJ cZ cR cN : ClassId} {A : Nat → Prop} {a_z a_z_kinds a_z_openWith a_z_keyCells a_z_round : Nat} {z_width : Int32} {z_height : Int32} {z_roundLength : Int32} {z_startCell : Int32} {F : Nat} {x1 : Int32} {x2 : Int32} {z_goalCells' : Int64} {z_kinds' : Nat → Int32} {z_openWith' : Nat → Int64} {z_keyCells' : Nat → Int64} (hB : fr_BX p s m args meth c cX0_setKind none 4 RX0 wsX0_setKind) (hcx : fr_cx D cI cJ cZ cR cN s) (hA : ∀ q, s.heap.size ≤ q → A q) : ∀ (n : Nat) (z_goalCells : Int64) (z_kinds : Nat → Int32) (z_openWith : Nat → Int64) (z_keyCells : Nat → Int64) (v3 : Int32) (H : Heap) (locs : List Loc) (ls : Array Slot), m_X0_setKind_b20 F x1 x2 n z_goalCells z_kinds z_openWith z_keyCells v3 = some (z_goalCells', z_kinds', z_openWith', z_keyCells') → va_P D vwCl [(a_z, .inr (ob_X0 a_z_kinds a_z_openWith a_z_keyCells z_goalCells a_z_round z_width z_height z_roundLength z_startCell)), (a_z_kinds, .inl (cI, 64, .inl z_kinds)), (a_z_openWith, .inl (cJ, 8, .inr (.inl z_openWith))), (a_z_keyCells, .inl (cJ, 3, .inr (.inl z_keyCells)))] H → va_D A [(a_z, .inr (ob_X0 a_z_kinds a_z_openWith a_z_keyCells z_goalCells a_z_round z_width z_height z_roundLength z_startCell)), (a_z_kinds, .inl (cI, 64, .inl z_kinds)), (a_z_openWith, .inl (cJ, 8, .inr (.inl z_openWith))), (a_z_keyCells, .inl (cJ, 3, .inr (.inl z_keyCells)))] → va_S A s.heap H locs → lv_has ls 4 [(0, .ref a_z), (1, .int x1), (2, .int x2), (3, .int v3)] → W p l e ({ frames := 1, cells := 0, slots := 0, locals := 25 } : Room) s m args below meth c H locs 0 0 (MQ below (fr_Wv D [(a_z, .inr (ob_X0 a_z_kinds a_z_openWith a_z_keyCells z_goalCells' a_z_round z_width z_height z_roundLength z_startCell)), (a_z_kinds, .inl (cI, 64, .inl z_kinds')), (a_z_openWith, .inl (cJ, 8, .inr (.inl z_openWith'))), (a_z_keyCells, .inl (cJ, 3, .inr (.inl z_keyCells')))] A) args s 0 0 A) (F0 m 20 ls []) := by
  obtain ⟨hx, hb, hr, hml, hown, hts, hlocks⟩ := id hB
  have hK := hcx.1
  intro n
  induction n with
  | zero =>
    intro z_goalCells z_kinds z_openWith z_keyCells v3 H locs ls hm
    have hm : none = some _ := hm
    cases hm
  | succ n ih =>
    intro z_goalCells z_kinds z_openWith z_keyCells v3 H locs ls hm hP hD hS hl
    rw [m_X0_setKind_b20] at hm
    refine lv_iload_n hx hb dX0_setKind_20 rfl (lv_at hl 3 rfl) ?_
    refine lv_bipush (v := (8 : Int32)) hx hb dX0_setKind_21 (by decide) ?_
    refine lv_icmp_ge (tgt := 53) hx hb dX0_setKind_23 (by decide) (fun c_4 => ?_) (fun c_4 => ?_)
    · have hm := fr_ifp c_4 hm
      refine lv_iconst (v := (0 : Int32)) hx hb dX0_setKind_53 (by decide) ?_
      refine lv_istore_n (lv' := [(3, .int (0 : Int32)), (0, .ref a_z), (1, .int x1), (2, .int x2)]) hx hb dX0_setKind_54 rfl hl (by decide) rfl (fun ls hl => ?_)
      exact t_X0_setKind_55 hB hcx hA _ _ _ _ _ _ _ _ _ hm hP hD hS (lv_sub hl [1, 2, 3, 0] rfl)
    · have hm := fr_ifn c_4 hm
      refine lv_aload_n hx hb dX0_setKind_26 rfl (lv_at hl 0 rfl) ?_
      refine va_get (D := D) (ci := 0) (v := .ref a_z_openWith) (C := RX0) (T := TX0) (N := 9) hx hb hts in_X0_setKind_X0 hown hK hP 0 rfl rfl 1 (by decide) (hts (.fieldLink RX0 15 "FastestRun$Game" "openWith" "[J") (List.mem_of_getElem? (i := 2) rfl)) (fun _ h9 => h9) rfl dX0_setKind_27 ?_
      refine lv_iload_n hx hb dX0_setKind_30 rfl (lv_at hl 3 rfl) ?_
      refine lv_aload_n hx hb dX0_setKind_31 rfl (lv_at hl 0 rfl) ?_
      refine va_get (D := D) (ci := 0) (v := .ref a_z_openWith) (C := RX0) (T := TX0) (N := 9) hx hb hts in_X0_setKind_X0 hown hK hP 0 rfl rfl 1 (by decide) (hts (.fieldLink RX0 15 "FastestRun$Game" "openWith" "[J") (List.mem_of_getElem? (i := 2) rfl)) (fun _ h9 => h9) rfl dX0_setKind_32 ?_
      refine lv_iload_n hx hb dX0_setKind_35 rfl (lv_at hl 3 rfl) ?_
      obtain ⟨h_5, hm⟩ := fr_ck hm
      refine va_lald hx hb hK hP 2 1 rfl rfl h_5 dX0_setKind_36 ?_
      refine lv_iload_n hx hb dX0_setKind_37 rfl (lv_at hl 1 rfl) ?_
      refine lv_iload_n hx hb dX0_setKind_38 rfl (lv_at hl 2 rfl) ?_
      refine lv_iload_n hx hb dX0_setKind_39 rfl (lv_at hl 3 rfl) ?_
      refine fr_roi (va_runS (As := [.int x2, .int v3]) (rest := [.int x1, .long (z_openWith v3.toNatClampNeg), .int v3, .ref a_z_openWith]) ⟨hx, hb, hml, hown, hts⟩ (c_X0_lets (l := l) (x0 := x2) (x1 := v3) (D := D) (cI := cI) (cJ := cJ) (cZ := cZ) (cR := cR) (cN := cN) (H0 := H)) (va_cwS 2 hts gX0_setKind_X0_lets rfl rfl rfl (by decide +kernel) ⟨Nat.le_of_ble_eq_true rfl, Nat.le_of_ble_eq_true rfl⟩) (fr_psr hcx) rfl rfl hl.1 rfl (lv_room (Nat.le_of_ble_eq_true rfl)) dX0_setKind_40 ⟨Nat.zero_le _, Nat.zero_le _⟩) hS (fun locs hS => ?_)
      refine fr_rol (va_runS (As := [.long (z_openWith v3.toNatClampNeg), .int x1, .int (m_X0_lets x2 v3)]) (rest := [.int v3, .ref a_z_openWith]) ⟨hx, hb, hml, hown, hts⟩ (c_X0_with (l := l) (x0 := (z_openWith v3.toNatClampNeg)) (x2 := x1) (x3 := (m_X0_lets x2 v3)) (D := D) (cI := cI) (cJ := cJ) (cZ := cZ) (cR := cR) (cN := cN) (H0 := H)) (va_cwS 3 hts gX0_setKind_X0_with rfl rfl rfl (by decide +kernel) ⟨Nat.le_of_ble_eq_true rfl, Nat.le_of_ble_eq_true rfl⟩) (fr_psr hcx) rfl rfl hl.1 rfl (lv_room (Nat.le_of_ble_eq_true rfl)) dX0_setKind_43 ⟨Nat.zero_le _, Nat.zero_le _⟩) hS (fun locs hS => ?_)
      obtain ⟨h_6, hm⟩ := fr_ck hm
      refine va_last hx hb hK hP hD hS 2 1 rfl rfl h_6 dX0_setKind_46 (fun H locs hP hD hS => ?_)
      have hP : va_P D vwCl [(a_z, .inr (ob_X0 a_z_kinds a_z_openWith a_z_keyCells z_goalCells a_z_round z_width z_height z_roundLength z_startCell)), (a_z_kinds, .inl (cI, 64, .inl z_kinds)), (a_z_openWith, .inl (cJ, 8, .inr (.inl (vp_updL z_openWith v3.toNatClampNeg (m_X0_with (z_openWith v3.toNatClampNeg) x1 (m_X0_lets x2 v3)))))), (a_z_keyCells, .inl (cJ, 3, .inr (.inl z_keyCells)))] H := hP
      have hD : va_D A [(a_z, .inr (ob_X0 a_z_kinds a_z_openWith a_z_keyCells z_goalCells a_z_round z_width z_height z_roundLength z_startCell)), (a_z_kinds, .inl (cI, 64, .inl z_kinds)), (a_z_openWith, .inl (cJ, 8, .inr (.inl (vp_updL z_openWith v3.toNatClampNeg (m_X0_with (z_openWith v3.toNatClampNeg) x1 (m_X0_lets x2 v3)))))), (a_z_keyCells, .inl (cJ, 3, .inr (.inl z_keyCells)))] := hD
      refine lv_iinc (v := (v3 + 1)) (lv' := [(3, .int (v3 + 1)), (0, .ref a_z), (1, .int x1), (2, .int x2)]) hx hb dX0_setKind_47 hl (k := 3) rfl rfl (by decide) rfl (fun ls hl => ?_)
      refine lv_goto (tgt := 20) hx hb dX0_setKind_50 (by decide) ?_
      exact ih _ _ _ _ _ _ _ _ hm hP hD hS (lv_sub hl [1, 2, 3, 0] rfl)
set_option maxHeartbeats 4000000 in
set_option maxRecDepth 100000 in
theorem t_X0_setKind_0 {p : Program} {l : Launch} {e : Env} {s : State} {m : MethodId} {args : Array Value} {below : List Frame} {meth : Method} {c : Code} {D : va_G} {cI cJ cZ cR cN : ClassId} {A : Nat → Prop} {a_z a_z_kinds a_z_openWith a_z_keyCells a_z_round : Nat} {z_goalCells : Int64} {z_width : Int32} {z_height : Int32} {z_roundLength : Int32} {z_startCell : Int32} {z_kinds : Nat → Int32} {z_openWith : Nat → Int64} {z_keyCells : Nat → Int64} {F : Nat} {x1 : Int32} {x2 : Int32} {H : Heap} {z_goalCells' : Int64} {z_kinds' : Nat → Int32} {z_openWith' : Nat → Int64} {z_keyCells' : Nat → Int64} (hB : fr_BX p s m args meth c cX0_setKind none 4 RX0 wsX0_setKind) (hcx : fr_cx D cI cJ cZ cR cN s) (hA : ∀ q, s.heap.size ≤ q → A q) (hm : m_X0_setKind F x1 x2 z_goalCells z_kinds z_openWith z_keyCells = some (z_goalCells', z_kinds', z_openWith', z_keyCells')) {locs : List Loc} {ls : Array Slot} (hP : va_P D vwCl [(a_z, .inr (ob_X0 a_z_kinds a_z_openWith a_z_keyCells z_goalCells a_z_round z_width z_height z_roundLength z_startCell)), (a_z_kinds, .inl (cI, 64, .inl z_kinds)), (a_z_openWith, .inl (cJ, 8, .inr (.inl z_openWith))), (a_z_keyCells, .inl (cJ, 3, .inr (.inl z_keyCells)))] H) (hD : va_D A [(a_z, .inr (ob_X0 a_z_kinds a_z_openWith a_z_keyCells z_goalCells a_z_round z_width z_height z_roundLength z_startCell)), (a_z_kinds, .inl (cI, 64, .inl z_kinds)), (a_z_openWith, .inl (cJ, 8, .inr (.inl z_openWith))), (a_z_keyCells, .inl (cJ, 3, .inr (.inl z_keyCells)))]) (hS : va_S A s.heap H locs) (hl : lv_has ls 4 [(0, .ref a_z), (1, .int x1), (2, .int x2)]) : W p l e ({ frames := 1, cells := 0, slots := 0, locals := 25 } : Room) s m args below meth c H locs 0 0 (MQ below (fr_Wv D [(a_z, .inr (ob_X0 a_z_kinds a_z_openWith a_z_keyCells z_goalCells' a_z_round z_width z_height z_roundLength z_startCell)), (a_z_kinds, .inl (cI, 64, .inl z_kinds')), (a_z_openWith, .inl (cJ, 8, .inr (.inl z_openWith'))), (a_z_keyCells, .inl (cJ, 3, .inr (.inl z_keyCells')))] A) args s 0 0 A) (F0 m 0 ls []) := by
  obtain ⟨hx, hb, hr, hml, hown, hts, hlocks⟩ := id hB
  have hK := hcx.1
  unfold m_X0_setKind at hm
  refine lv_iload_n hx hb dX0_setKind_0 rfl (lv_at hl 1 rfl) ?_
  refine lv_if_lt (tgt := 10) hx hb dX0_setKind_1 (by decide) (fun c_1 => ?_) (fun c_1 => ?_)
  · have hm := fr_ifp c_1 hm
    cases hm
    exact W.vret hx hb hr (fun t ht hW => ⟨⟨(), rfl, trivial, by rw [ht]; exact hP, hD⟩, hS.F ht⟩) hS.2.2 dX0_setKind_10 hlocks
  · have hm := fr_ifn c_1 hm
    refine lv_iload_n hx hb dX0_setKind_4 rfl (lv_at hl 1 rfl) ?_
    refine lv_bipush (v := (64 : Int32)) hx hb dX0_setKind_5 (by decide) ?_
    refine lv_icmp_lt (tgt := 11) hx hb dX0_setKind_7 (by decide) (fun c_2 => ?_) (fun c_2 => ?_)
    · have hm := fr_ifp c_2 hm
      refine lv_aload_n hx hb dX0_setKind_11 rfl (lv_at hl 0 rfl) ?_
      refine va_get (D := D) (ci := 0) (v := .ref a_z_kinds) (C := RX0) (T := TX0) (N := 9) hx hb hts in_X0_setKind_X0 hown hK hP 0 rfl rfl 0 (by decide) (hts (.fieldLink RX0 11 "FastestRun$Game" "kinds" "[I") (List.mem_of_getElem? (i := 1) rfl)) (fun _ h9 => h9) rfl dX0_setKind_12 ?_
      refine lv_iload_n hx hb dX0_setKind_15 rfl (lv_at hl 1 rfl) ?_
      refine lv_iload_n hx hb dX0_setKind_16 rfl (lv_at hl 2 rfl) ?_
      obtain ⟨h_3, hm⟩ := fr_ck hm
      refine va_iast hx hb hK hP hD hS 1 0 rfl rfl h_3 dX0_setKind_17 (fun H locs hP hD hS => ?_)
      have hP : va_P D vwCl [(a_z, .inr (ob_X0 a_z_kinds a_z_openWith a_z_keyCells z_goalCells a_z_round z_width z_height z_roundLength z_startCell)), (a_z_kinds, .inl (cI, 64, .inl (upd z_kinds x1.toNatClampNeg x2))), (a_z_openWith, .inl (cJ, 8, .inr (.inl z_openWith))), (a_z_keyCells, .inl (cJ, 3, .inr (.inl z_keyCells)))] H := hP
      have hD : va_D A [(a_z, .inr (ob_X0 a_z_kinds a_z_openWith a_z_keyCells z_goalCells a_z_round z_width z_height z_roundLength z_startCell)), (a_z_kinds, .inl (cI, 64, .inl (upd z_kinds x1.toNatClampNeg x2))), (a_z_openWith, .inl (cJ, 8, .inr (.inl z_openWith))), (a_z_keyCells, .inl (cJ, 3, .inr (.inl z_keyCells)))] := hD
      refine lv_iconst (v := (0 : Int32)) hx hb dX0_setKind_18 (by decide) ?_
      refine lv_istore_n (lv' := [(3, .int (0 : Int32)), (0, .ref a_z), (1, .int x1), (2, .int x2)]) hx hb dX0_setKind_19 rfl hl (by decide) rfl (fun ls hl => ?_)
      exact t_X0_setKind_20 hB hcx hA _ _ _ _ _ _ _ _ _ hm hP hD hS (lv_sub hl [1, 2, 3, 0] rfl)
    · have hm := fr_ifn c_2 hm
      cases hm
      exact W.vret hx hb hr (fun t ht hW => ⟨⟨(), rfl, trivial, by rw [ht]; exact hP, hD⟩, hS.F ht⟩) hS.2.2 dX0_setKind_10 hlocks
set_option maxHeartbeats 4000000 in
set_option maxRecDepth 100000 in
theorem c_X0_setKind {l : Launch} {D : va_G} {cI cJ cZ cR cN : ClassId} {a_z a_z_kinds a_z_openWith a_z_keyCells a_z_round : Nat} {z_goalCells : Int64} {z_width : Int32} {z_height : Int32} {z_roundLength : Int32} {z_startCell : Int32} {z_kinds : Nat → Int32} {z_openWith : Nat → Int64} {z_keyCells : Nat → Int64} {F : Nat} {x1 : Int32} {x2 : Int32} {z_goalCells' : Int64} {z_kinds' : Nat → Int32} {z_openWith' : Nat → Int64} {z_keyCells' : Nat → Int64} {sz : Nat} (hm : m_X0_setKind F x1 x2 z_goalCells z_kinds z_openWith z_keyCells = some (z_goalCells', z_kinds', z_openWith', z_keyCells')) : Met l yX0_setKind wsX0_setKind ({ frames := 1, cells := 0, slots := 0, locals := 25 } : Room) (fr_Pw D cI cJ cZ cR cN [.ref a_z, .int x1, .int x2] [(a_z, .inr (ob_X0 a_z_kinds a_z_openWith a_z_keyCells z_goalCells a_z_round z_width z_height z_roundLength z_startCell)), (a_z_kinds, .inl (cI, 64, .inl z_kinds)), (a_z_openWith, .inl (cJ, 8, .inr (.inl z_openWith))), (a_z_keyCells, .inl (cJ, 3, .inr (.inl z_keyCells)))] sz) (fr_Wv D [(a_z, .inr (ob_X0 a_z_kinds a_z_openWith a_z_keyCells z_goalCells' a_z_round z_width z_height z_roundLength z_startCell)), (a_z_kinds, .inl (cI, 64, .inl z_kinds')), (a_z_openWith, .inl (cJ, 8, .inr (.inl z_openWith'))), (a_z_keyCells, .inl (cJ, 3, .inr (.inl z_keyCells')))] (va_A [(a_z, .inr (ob_X0 a_z_kinds a_z_openWith a_z_keyCells z_goalCells a_z_round z_width z_height z_roundLength z_startCell)), (a_z_kinds, .inl (cI, 64, .inl z_kinds)), (a_z_openWith, .inl (cJ, 8, .inr (.inl z_openWith))), (a_z_keyCells, .inl (cJ, 3, .inr (.inl z_keyCells)))] sz)) 0 0 (va_A [(a_z, .inr (ob_X0 a_z_kinds a_z_openWith a_z_keyCells z_goalCells a_z_round z_width z_height z_roundLength z_startCell)), (a_z_kinds, .inl (cI, 64, .inl z_kinds)), (a_z_openWith, .inl (cJ, 8, .inr (.inl z_openWith))), (a_z_keyCells, .inl (cJ, 3, .inr (.inl z_keyCells)))] sz) := by
  refine fr_ofW (cc := cX0_setKind) (maxL := 4) (ret := none) (by decide +kernel) rfl ?_
  intro p e s m args below meth c s₁ B hml hv
  obtain ⟨rfl, hsz, hP, hD0, hcx⟩ := hv
  subst hsz
  have hD := hD0.self (sz := s.heap.size)
  have hB : fr_BX p s m _ meth c cX0_setKind none 4 RX0 wsX0_setKind := ⟨B.exec, B.bytes, B.returns, hml, findClass_of_methodNamed B.named, atoms_spec (ws := wsX0_setKind) B.pre, B.notSynchronized⟩
  have hl := lv_entry ([.ref a_z, .int x1, .int x2]) (n := 4) (Nat.le_of_ble_eq_true rfl)
  rw [lg_entry_eq]
  generalize (lg_sl ([.ref a_z, .int x1, .int x2]) ++ List.replicate (4 - (lg_sl ([.ref a_z, .int x1, .int x2])).length) Slot.unset).toArray = ls at hl ⊢
  have hl : lv_has ls 4 [(0, .ref a_z), (1, .int x1), (2, .int x2)] := hl
  exact t_X0_setKind_0 hB hcx (fun q h => Or.inr h) hm hP hD va_S.rf hl
theorem in_X0_has_X0 : ∀ w ∈ wsX00, w ∈ wsX0_has := fun w h => List.mem_cons_of_mem _ (List.mem_append_right _ h)
set_option maxHeartbeats 4000000 in
set_option maxRecDepth 100000 in
theorem t_X0_has_0 {p : Program} {l : Launch} {e : Env} {s : State} {m : MethodId} {args : Array Value} {below : List Frame} {meth : Method} {c : Code} {D : va_G} {cI cJ cZ cR cN : ClassId} {a_z a_z_kinds a_z_openWith a_z_keyCells a_z_round : Nat} {z_goalCells : Int64} {z_width : Int32} {z_height : Int32} {z_roundLength : Int32} {z_startCell : Int32} {x1 : Int32} {x2 : Int32} {H : Heap} {r : Int32} (hB : fr_BX p s m args meth c cX0_has (some .boolean) 3 RX0 wsX0_has) (hcx : fr_cx D cI cJ cZ cR cN s) (hm : m_X0_has z_width z_height x1 x2 = r) {locs : List Loc} {ls : Array Slot} (hP : va_P D vwCl [(a_z, .inr (ob_X0 a_z_kinds a_z_openWith a_z_keyCells z_goalCells a_z_round z_width z_height z_roundLength z_startCell))] H) (hS : va_S (fun _ => False) s.heap H locs) (hl : lv_has ls 3 [(0, .ref a_z), (1, .int x1), (2, .int x2)]) : W p l e ({ frames := 0, cells := 0, slots := 0, locals := 0 } : Room) s m args below meth c H locs 0 0 (MQ below (fr_Ri H r) args s 0 0 (fun _ => False)) (F0 m 0 ls []) := by
  obtain ⟨hx, hb, hr, hml, hown, hts, hlocks⟩ := id hB
  have hK := hcx.1
  unfold m_X0_has at hm
  refine lv_iload_n hx hb dX0_has_0 rfl (lv_at hl 1 rfl) ?_
  refine lv_if_lt (tgt := 28) hx hb dX0_has_1 (by decide) (fun c_1 => ?_) (fun c_1 => ?_)
  · have hm := fr_tip c_1 hm
    refine lv_iconst (v := (0 : Int32)) hx hb dX0_has_28 (by decide) ?_
    exact W.zret (v := (0 : Int32)) hx hb hr rfl (fun t ht hW => ⟨⟨_, (), rfl, hm, ht⟩, hS.F ht⟩) hS.2.2 dX0_has_29 hlocks
  · have hm := fr_tin c_1 hm
    refine lv_iload_n hx hb dX0_has_4 rfl (lv_at hl 1 rfl) ?_
    refine lv_aload_n hx hb dX0_has_5 rfl (lv_at hl 0 rfl) ?_
    refine va_get (D := D) (ci := 0) (v := .int z_width) (C := RX0) (T := TX0) (N := 9) hx hb hts in_X0_has_X0 hown hK hP 0 rfl rfl 5 (by decide) (hts (.fieldLink RX0 29 "FastestRun$Game" "width" "I") (List.mem_of_getElem? (i := 1) rfl)) (fun _ h9 => h9) rfl dX0_has_6 ?_
    refine lv_icmp_ge (tgt := 28) hx hb dX0_has_9 (by decide) (fun c_2 => ?_) (fun c_2 => ?_)
    · have hm := fr_tip c_2 hm
      refine lv_iconst (v := (0 : Int32)) hx hb dX0_has_28 (by decide) ?_
      exact W.zret (v := (0 : Int32)) hx hb hr rfl (fun t ht hW => ⟨⟨_, (), rfl, hm, ht⟩, hS.F ht⟩) hS.2.2 dX0_has_29 hlocks
    · have hm := fr_tin c_2 hm
      refine lv_iload_n hx hb dX0_has_12 rfl (lv_at hl 2 rfl) ?_
      refine lv_if_lt (tgt := 28) hx hb dX0_has_13 (by decide) (fun c_3 => ?_) (fun c_3 => ?_)
      · have hm := fr_tip c_3 hm
        refine lv_iconst (v := (0 : Int32)) hx hb dX0_has_28 (by decide) ?_
        exact W.zret (v := (0 : Int32)) hx hb hr rfl (fun t ht hW => ⟨⟨_, (), rfl, hm, ht⟩, hS.F ht⟩) hS.2.2 dX0_has_29 hlocks
      · have hm := fr_tin c_3 hm
        refine lv_iload_n hx hb dX0_has_16 rfl (lv_at hl 2 rfl) ?_
        refine lv_aload_n hx hb dX0_has_17 rfl (lv_at hl 0 rfl) ?_
        refine va_get (D := D) (ci := 0) (v := .int z_height) (C := RX0) (T := TX0) (N := 9) hx hb hts in_X0_has_X0 hown hK hP 0 rfl rfl 6 (by decide) (hts (.fieldLink RX0 33 "FastestRun$Game" "height" "I") (List.mem_of_getElem? (i := 2) rfl)) (fun _ h9 => h9) rfl dX0_has_18 ?_
        refine lv_icmp_ge (tgt := 28) hx hb dX0_has_21 (by decide) (fun c_4 => ?_) (fun c_4 => ?_)
        · have hm := fr_tip c_4 hm
          refine lv_iconst (v := (0 : Int32)) hx hb dX0_has_28 (by decide) ?_
          exact W.zret (v := (0 : Int32)) hx hb hr rfl (fun t ht hW => ⟨⟨_, (), rfl, hm, ht⟩, hS.F ht⟩) hS.2.2 dX0_has_29 hlocks
        · have hm := fr_tin c_4 hm
          refine lv_iconst (v := (1 : Int32)) hx hb dX0_has_24 (by decide) ?_
          refine lv_goto (tgt := 29) hx hb dX0_has_25 (by decide) ?_
          exact W.zret (v := (1 : Int32)) hx hb hr rfl (fun t ht hW => ⟨⟨_, (), rfl, hm, ht⟩, hS.F ht⟩) hS.2.2 dX0_has_29 hlocks
set_option maxHeartbeats 4000000 in
set_option maxRecDepth 100000 in
theorem c_X0_has {l : Launch} {D : va_G} {cI cJ cZ cR cN : ClassId} {a_z a_z_kinds a_z_openWith a_z_keyCells a_z_round : Nat} {z_goalCells : Int64} {z_width : Int32} {z_height : Int32} {z_roundLength : Int32} {z_startCell : Int32} {x1 : Int32} {x2 : Int32} {H0 : Heap} (hP : va_P D vwCl [(a_z, .inr (ob_X0 a_z_kinds a_z_openWith a_z_keyCells z_goalCells a_z_round z_width z_height z_roundLength z_startCell))] H0) : Met l yX0_has wsX0_has ({ frames := 0, cells := 0, slots := 0, locals := 0 } : Room) (fr_Pr D cI cJ cZ cR cN [.ref a_z, .int x1, .int x2] H0) (fr_Ri H0 (m_X0_has z_width z_height x1 x2)) 0 0 (fun _ => False) := by
  refine fr_ofW (cc := cX0_has) (maxL := 3) (ret := (some .boolean)) (by decide +kernel) rfl ?_
  intro p e s m args below meth c s₁ B hml hv
  obtain ⟨rfl, hH, hcx⟩ := hv
  subst hH
  have hB : fr_BX p s m _ meth c cX0_has (some .boolean) 3 RX0 wsX0_has := ⟨B.exec, B.bytes, B.returns, hml, findClass_of_methodNamed B.named, atoms_spec (ws := wsX0_has) B.pre, B.notSynchronized⟩
  have hl := lv_entry ([.ref a_z, .int x1, .int x2]) (n := 3) (Nat.le_of_ble_eq_true rfl)
  rw [lg_entry_eq]
  generalize (lg_sl ([.ref a_z, .int x1, .int x2]) ++ List.replicate (3 - (lg_sl ([.ref a_z, .int x1, .int x2])).length) Slot.unset).toArray = ls at hl ⊢
  have hl : lv_has ls 3 [(0, .ref a_z), (1, .int x1), (2, .int x2)] := hl
  exact t_X0_has_0 hB hcx rfl hP va_S.rf hl
theorem in_X0_lengthenRound_X0 : ∀ w ∈ wsX00, w ∈ wsX0_lengthenRound := fun w h => List.mem_cons_of_mem _ (List.mem_append_right _ h)
set_option maxHeartbeats 4000000 in
set_option maxRecDepth 100000 in
theorem t_X0_lengthenRound_0 {p : Program} {l : Launch} {e : Env} {s : State} {m : MethodId} {args : Array Value} {below : List Frame} {meth : Method} {c : Code} {D : va_G} {cI cJ cZ cR cN : ClassId} {A : Nat → Prop} {a_z a_z_kinds a_z_openWith a_z_keyCells a_z_round : Nat} {z_goalCells : Int64} {z_width : Int32} {z_height : Int32} {z_roundLength : Int32} {z_startCell : Int32} {z_round : Nat → Int32} {x1 : Int32} {H : Heap} {r : Int32} {z_roundLength' : Int32} {z_round' : Nat → Int32} (hB : fr_BX p s m args meth c cX0_lengthenRound (some .boolean) 2 RX0 wsX0_lengthenRound) (hcx : fr_cx D cI cJ cZ cR cN s) (hA : ∀ q, s.heap.size ≤ q → A q) (hm : m_X0_lengthenRound x1 z_roundLength z_round = some (r, z_roundLength', z_round')) {locs : List Loc} {ls : Array Slot} (hP : va_P D vwCl [(a_z, .inr (ob_X0 a_z_kinds a_z_openWith a_z_keyCells z_goalCells a_z_round z_width z_height z_roundLength z_startCell)), (a_z_round, .inl (cI, 6, .inl z_round))] H) (hD : va_D A [(a_z, .inr (ob_X0 a_z_kinds a_z_openWith a_z_keyCells z_goalCells a_z_round z_width z_height z_roundLength z_startCell)), (a_z_round, .inl (cI, 6, .inl z_round))]) (hS : va_S A s.heap H locs) (hl : lv_has ls 2 [(0, .ref a_z), (1, .int x1)]) : W p l e ({ frames := 0, cells := 0, slots := 0, locals := 0 } : Room) s m args below meth c H locs 0 0 (MQ below (fr_Wi D [(a_z, .inr (ob_X0 a_z_kinds a_z_openWith a_z_keyCells z_goalCells a_z_round z_width z_height z_roundLength' z_startCell)), (a_z_round, .inl (cI, 6, .inl z_round'))] A r) args s 0 0 A) (F0 m 0 ls []) := by
  obtain ⟨hx, hb, hr, hml, hown, hts, hlocks⟩ := id hB
  have hK := hcx.1
  unfold m_X0_lengthenRound at hm
  refine lv_aload_n hx hb dX0_lengthenRound_0 rfl (lv_at hl 0 rfl) ?_
  refine va_get (D := D) (ci := 0) (v := .int z_roundLength) (C := RX0) (T := TX0) (N := 9) hx hb hts in_X0_lengthenRound_X0 hown hK hP 0 rfl rfl 7 (by decide) (hts (.fieldLink RX0 36 "FastestRun$Game" "roundLength" "I") (List.mem_of_getElem? (i := 1) rfl)) (fun _ h9 => h9) rfl dX0_lengthenRound_1 ?_
  refine lv_bipush (v := (6 : Int32)) hx hb dX0_lengthenRound_4 (by decide) ?_
  refine lv_icmp_lt (tgt := 11) hx hb dX0_lengthenRound_6 (by decide) (fun c_1 => ?_) (fun c_1 => ?_)
  · have hm := fr_ifp c_1 hm
    refine lv_aload_n hx hb dX0_lengthenRound_11 rfl (lv_at hl 0 rfl) ?_
    refine va_get (D := D) (ci := 0) (v := .ref a_z_round) (C := RX0) (T := TX0) (N := 9) hx hb hts in_X0_lengthenRound_X0 hown hK hP 0 rfl rfl 4 (by decide) (hts (.fieldLink RX0 22 "FastestRun$Game" "round" "[I") (List.mem_of_getElem? (i := 2) rfl)) (fun _ h9 => h9) rfl dX0_lengthenRound_12 ?_
    refine lv_aload_n hx hb dX0_lengthenRound_15 rfl (lv_at hl 0 rfl) ?_
    refine va_get (D := D) (ci := 0) (v := .int z_roundLength) (C := RX0) (T := TX0) (N := 9) hx hb hts in_X0_lengthenRound_X0 hown hK hP 0 rfl rfl 7 (by decide) (hts (.fieldLink RX0 36 "FastestRun$Game" "roundLength" "I") (List.mem_of_getElem? (i := 1) rfl)) (fun _ h9 => h9) rfl dX0_lengthenRound_16 ?_
    refine lv_iload_n hx hb dX0_lengthenRound_19 rfl (lv_at hl 1 rfl) ?_
    obtain ⟨h_2, hm⟩ := fr_ck hm
    refine va_iast hx hb hK hP hD hS 1 0 rfl rfl h_2 dX0_lengthenRound_20 (fun H locs hP hD hS => ?_)
    have hP : va_P D vwCl [(a_z, .inr (ob_X0 a_z_kinds a_z_openWith a_z_keyCells z_goalCells a_z_round z_width z_height z_roundLength z_startCell)), (a_z_round, .inl (cI, 6, .inl (upd z_round z_roundLength.toNatClampNeg x1)))] H := hP
    have hD : va_D A [(a_z, .inr (ob_X0 a_z_kinds a_z_openWith a_z_keyCells z_goalCells a_z_round z_width z_height z_roundLength z_startCell)), (a_z_round, .inl (cI, 6, .inl (upd z_round z_roundLength.toNatClampNeg x1)))] := hD
    refine lv_aload_n hx hb dX0_lengthenRound_21 rfl (lv_at hl 0 rfl) ?_
    refine lv_dup hx hb dX0_lengthenRound_22 rfl ?_
    refine va_get (D := D) (ci := 0) (v := .int z_roundLength) (C := RX0) (T := TX0) (N := 9) hx hb hts in_X0_lengthenRound_X0 hown hK hP 0 rfl rfl 7 (by decide) (hts (.fieldLink RX0 36 "FastestRun$Game" "roundLength" "I") (List.mem_of_getElem? (i := 1) rfl)) (fun _ h9 => h9) rfl dX0_lengthenRound_23 ?_
    refine lv_iconst (v := (1 : Int32)) hx hb dX0_lengthenRound_26 (by decide) ?_
    refine lv_iadd hx hb dX0_lengthenRound_27 ?_
    refine va_put (D := D) (ci := 0) (v := .int (z_roundLength + (1 : Int32))) (ty := .int) (C := RX0) (T := TX0) (N := 9) hx hb hts in_X0_lengthenRound_X0 tyX0 tyX0_ok nmX0 hown hK hP hD hS 0 rfl rfl 7 (by decide) (hts (.fieldLink RX0 36 "FastestRun$Game" "roundLength" "I") (List.mem_of_getElem? (i := 1) rfl)) (fun _ h9 => h9) rfl (by decide +kernel) rfl rfl (Nat.le_of_ble_eq_true rfl) dX0_lengthenRound_28 (fun H locs hP hD hS => ?_)
    have hP : va_P D vwCl [(a_z, .inr (ob_X0 a_z_kinds a_z_openWith a_z_keyCells z_goalCells a_z_round z_width z_height (z_roundLength + (1 : Int32)) z_startCell)), (a_z_round, .inl (cI, 6, .inl (upd z_round z_roundLength.toNatClampNeg x1)))] H := hP
    have hD : va_D A [(a_z, .inr (ob_X0 a_z_kinds a_z_openWith a_z_keyCells z_goalCells a_z_round z_width z_height (z_roundLength + (1 : Int32)) z_startCell)), (a_z_round, .inl (cI, 6, .inl (upd z_round z_roundLength.toNatClampNeg x1)))] := hD
    refine lv_iconst (v := (1 : Int32)) hx hb dX0_lengthenRound_31 (by decide) ?_
    cases hm
    exact W.zret hx hb hr rfl (fun t ht hW => ⟨⟨_, (), rfl, rfl, by rw [ht]; exact hP, hD⟩, hS.F ht⟩) hS.2.2 dX0_lengthenRound_32 hlocks
  · have hm := fr_ifn c_1 hm
    refine lv_iconst (v := (0 : Int32)) hx hb dX0_lengthenRound_9 (by decide) ?_
    cases hm
    exact W.zret hx hb hr rfl (fun t ht hW => ⟨⟨_, (), rfl, rfl, by rw [ht]; exact hP, hD⟩, hS.F ht⟩) hS.2.2 dX0_lengthenRound_10 hlocks
set_option maxHeartbeats 4000000 in
set_option maxRecDepth 100000 in
theorem c_X0_lengthenRound {l : Launch} {D : va_G} {cI cJ cZ cR cN : ClassId} {a_z a_z_kinds a_z_openWith a_z_keyCells a_z_round : Nat} {z_goalCells : Int64} {z_width : Int32} {z_height : Int32} {z_roundLength : Int32} {z_startCell : Int32} {z_round : Nat → Int32} {x1 : Int32} {r : Int32} {z_roundLength' : Int32} {z_round' : Nat → Int32} {sz : Nat} (hm : m_X0_lengthenRound x1 z_roundLength z_round = some (r, z_roundLength', z_round')) : Met l yX0_lengthenRound wsX0_lengthenRound ({ frames := 0, cells := 0, slots := 0, locals := 0 } : Room) (fr_Pw D cI cJ cZ cR cN [.ref a_z, .int x1] [(a_z, .inr (ob_X0 a_z_kinds a_z_openWith a_z_keyCells z_goalCells a_z_round z_width z_height z_roundLength z_startCell)), (a_z_round, .inl (cI, 6, .inl z_round))] sz) (fr_Wi D [(a_z, .inr (ob_X0 a_z_kinds a_z_openWith a_z_keyCells z_goalCells a_z_round z_width z_height z_roundLength' z_startCell)), (a_z_round, .inl (cI, 6, .inl z_round'))] (va_A [(a_z, .inr (ob_X0 a_z_kinds a_z_openWith a_z_keyCells z_goalCells a_z_round z_width z_height z_roundLength z_startCell)), (a_z_round, .inl (cI, 6, .inl z_round))] sz) r) 0 0 (va_A [(a_z, .inr (ob_X0 a_z_kinds a_z_openWith a_z_keyCells z_goalCells a_z_round z_width z_height z_roundLength z_startCell)), (a_z_round, .inl (cI, 6, .inl z_round))] sz) := by
  refine fr_ofW (cc := cX0_lengthenRound) (maxL := 2) (ret := (some .boolean)) (by decide +kernel) rfl ?_
  intro p e s m args below meth c s₁ B hml hv
  obtain ⟨rfl, hsz, hP, hD0, hcx⟩ := hv
  subst hsz
  have hD := hD0.self (sz := s.heap.size)
  have hB : fr_BX p s m _ meth c cX0_lengthenRound (some .boolean) 2 RX0 wsX0_lengthenRound := ⟨B.exec, B.bytes, B.returns, hml, findClass_of_methodNamed B.named, atoms_spec (ws := wsX0_lengthenRound) B.pre, B.notSynchronized⟩
  have hl := lv_entry ([.ref a_z, .int x1]) (n := 2) (Nat.le_of_ble_eq_true rfl)
  rw [lg_entry_eq]
  generalize (lg_sl ([.ref a_z, .int x1]) ++ List.replicate (2 - (lg_sl ([.ref a_z, .int x1])).length) Slot.unset).toArray = ls at hl ⊢
  have hl : lv_has ls 2 [(0, .ref a_z), (1, .int x1)] := hl
  exact t_X0_lengthenRound_0 hB hcx (fun q h => Or.inr h) hm hP hD va_S.rf hl
theorem in_X0_startSpot_X0 : ∀ w ∈ wsX00, w ∈ wsX0_startSpot := fun w h => List.mem_cons_of_mem _ (List.mem_append_right _ h)
set_option maxHeartbeats 4000000 in
set_option maxRecDepth 100000 in
theorem t_X0_startSpot_0 {p : Program} {l : Launch} {e : Env} {s : State} {m : MethodId} {args : Array Value} {below : List Frame} {meth : Method} {c : Code} {D : va_G} {cI cJ cZ cR cN : ClassId} {a_z a_z_kinds a_z_openWith a_z_keyCells a_z_round : Nat} {z_goalCells : Int64} {z_width : Int32} {z_height : Int32} {z_roundLength : Int32} {z_startCell : Int32} {H : Heap} {r : Int32} (hB : fr_BX p s m args meth c cX0_startSpot (some .int) 1 RX0 wsX0_startSpot) (hcx : fr_cx D cI cJ cZ cR cN s) (hm : m_X0_startSpot z_startCell = r) {locs : List Loc} {ls : Array Slot} (hP : va_P D vwCl [(a_z, .inr (ob_X0 a_z_kinds a_z_openWith a_z_keyCells z_goalCells a_z_round z_width z_height z_roundLength z_startCell))] H) (hS : va_S (fun _ => False) s.heap H locs) (hl : lv_has ls 1 [(0, .ref a_z)]) : W p l e ({ frames := 0, cells := 0, slots := 0, locals := 0 } : Room) s m args below meth c H locs 0 0 (MQ below (fr_Ri H r) args s 0 0 (fun _ => False)) (F0 m 0 ls []) := by
  obtain ⟨hx, hb, hr, hml, hown, hts, hlocks⟩ := id hB
  have hK := hcx.1
  unfold m_X0_startSpot at hm
  refine lv_aload_n hx hb dX0_startSpot_0 rfl (lv_at hl 0 rfl) ?_
  refine va_get (D := D) (ci := 0) (v := .int z_startCell) (C := RX0) (T := TX0) (N := 9) hx hb hts in_X0_startSpot_X0 hown hK hP 0 rfl rfl 8 (by decide) (hts (.fieldLink RX0 39 "FastestRun$Game" "startCell" "I") (List.mem_of_getElem? (i := 1) rfl)) (fun _ h9 => h9) rfl dX0_startSpot_1 ?_
  exact W.iret (v := z_startCell) hx hb hr (fun t ht hW => ⟨⟨_, (), rfl, hm, ht⟩, hS.F ht⟩) hS.2.2 dX0_startSpot_4 hlocks
set_option maxHeartbeats 4000000 in
set_option maxRecDepth 100000 in
theorem c_X0_startSpot {l : Launch} {D : va_G} {cI cJ cZ cR cN : ClassId} {a_z a_z_kinds a_z_openWith a_z_keyCells a_z_round : Nat} {z_goalCells : Int64} {z_width : Int32} {z_height : Int32} {z_roundLength : Int32} {z_startCell : Int32} {H0 : Heap} (hP : va_P D vwCl [(a_z, .inr (ob_X0 a_z_kinds a_z_openWith a_z_keyCells z_goalCells a_z_round z_width z_height z_roundLength z_startCell))] H0) : Met l yX0_startSpot wsX0_startSpot ({ frames := 0, cells := 0, slots := 0, locals := 0 } : Room) (fr_Pr D cI cJ cZ cR cN [.ref a_z] H0) (fr_Ri H0 (m_X0_startSpot z_startCell)) 0 0 (fun _ => False) := by
  refine fr_ofW (cc := cX0_startSpot) (maxL := 1) (ret := (some .int)) (by decide +kernel) rfl ?_
  intro p e s m args below meth c s₁ B hml hv
  obtain ⟨rfl, hH, hcx⟩ := hv
  subst hH
  have hB : fr_BX p s m _ meth c cX0_startSpot (some .int) 1 RX0 wsX0_startSpot := ⟨B.exec, B.bytes, B.returns, hml, findClass_of_methodNamed B.named, atoms_spec (ws := wsX0_startSpot) B.pre, B.notSynchronized⟩
  have hl := lv_entry ([.ref a_z]) (n := 1) (Nat.le_of_ble_eq_true rfl)
  rw [lg_entry_eq]
  generalize (lg_sl ([.ref a_z]) ++ List.replicate (1 - (lg_sl ([.ref a_z])).length) Slot.unset).toArray = ls at hl ⊢
  have hl : lv_has ls 1 [(0, .ref a_z)] := hl
  exact t_X0_startSpot_0 hB hcx rfl hP va_S.rf hl
theorem in_X0_foeCell_X0 : ∀ w ∈ wsX00, w ∈ wsX0_foeCell := fun w h => List.mem_cons_of_mem _ (List.mem_append_right _ h)
set_option maxHeartbeats 4000000 in
set_option maxRecDepth 100000 in
theorem t_X0_foeCell_0 {p : Program} {l : Launch} {e : Env} {s : State} {m : MethodId} {args : Array Value} {below : List Frame} {meth : Method} {c : Code} {D : va_G} {cI cJ cZ cR cN : ClassId} {a_z a_z_kinds a_z_openWith a_z_keyCells a_z_round : Nat} {z_goalCells : Int64} {z_width : Int32} {z_height : Int32} {z_roundLength : Int32} {z_startCell : Int32} {z_round : Nat → Int32} {x1 : Int32} {H : Heap} {r : Int32} (hB : fr_BX p s m args meth c cX0_foeCell (some .int) 2 RX0 wsX0_foeCell) (hcx : fr_cx D cI cJ cZ cR cN s) (hm : m_X0_foeCell z_roundLength z_round x1 = some r) {locs : List Loc} {ls : Array Slot} (hP : va_P D vwCl [(a_z, .inr (ob_X0 a_z_kinds a_z_openWith a_z_keyCells z_goalCells a_z_round z_width z_height z_roundLength z_startCell)), (a_z_round, .inl (cI, 6, .inl z_round))] H) (hS : va_S (fun _ => False) s.heap H locs) (hl : lv_has ls 2 [(0, .ref a_z), (1, .int x1)]) : W p l e ({ frames := 1, cells := 0, slots := 0, locals := 22 } : Room) s m args below meth c H locs 0 0 (MQ below (fr_Ri H r) args s 0 0 (fun _ => False)) (F0 m 0 ls []) := by
  obtain ⟨hx, hb, hr, hml, hown, hts, hlocks⟩ := id hB
  have hK := hcx.1
  unfold m_X0_foeCell at hm
  refine lv_aload_n hx hb dX0_foeCell_0 rfl (lv_at hl 0 rfl) ?_
  refine va_get (D := D) (ci := 0) (v := .int z_roundLength) (C := RX0) (T := TX0) (N := 9) hx hb hts in_X0_foeCell_X0 hown hK hP 0 rfl rfl 7 (by decide) (hts (.fieldLink RX0 36 "FastestRun$Game" "roundLength" "I") (List.mem_of_getElem? (i := 1) rfl)) (fun _ h9 => h9) rfl dX0_foeCell_1 ?_
  refine lv_if_le (tgt := 23) hx hb dX0_foeCell_4 (by decide) (fun c_1 => ?_) (fun c_1 => ?_)
  · have hm := fr_ifp c_1 hm
    refine lv_iconst (v := (-1 : Int32)) hx hb dX0_foeCell_23 (by decide) ?_
    exact W.iret (v := (-1 : Int32)) hx hb hr (fun t ht hW => ⟨⟨_, (), rfl, (Option.some.inj hm), ht⟩, hS.F ht⟩) hS.2.2 dX0_foeCell_24 hlocks
  · have hm := fr_ifn c_1 hm
    refine lv_aload_n hx hb dX0_foeCell_7 rfl (lv_at hl 0 rfl) ?_
    refine va_get (D := D) (ci := 0) (v := .ref a_z_round) (C := RX0) (T := TX0) (N := 9) hx hb hts in_X0_foeCell_X0 hown hK hP 0 rfl rfl 4 (by decide) (hts (.fieldLink RX0 22 "FastestRun$Game" "round" "[I") (List.mem_of_getElem? (i := 2) rfl)) (fun _ h9 => h9) rfl dX0_foeCell_8 ?_
    refine lv_iload_n hx hb dX0_foeCell_11 rfl (lv_at hl 1 rfl) ?_
    refine lv_aload_n hx hb dX0_foeCell_12 rfl (lv_at hl 0 rfl) ?_
    refine va_get (D := D) (ci := 0) (v := .int z_roundLength) (C := RX0) (T := TX0) (N := 9) hx hb hts in_X0_foeCell_X0 hown hK hP 0 rfl rfl 7 (by decide) (hts (.fieldLink RX0 36 "FastestRun$Game" "roundLength" "I") (List.mem_of_getElem? (i := 1) rfl)) (fun _ h9 => h9) rfl dX0_foeCell_13 ?_
    obtain ⟨o2, hc3, hm⟩ := fr_bd hm
    refine fr_roi (va_runS (As := [.int x1, .int z_roundLength]) (rest := [.ref a_z_round]) ⟨hx, hb, hml, hown, hts⟩ (c_J9_floorMod_7cf53 (l := l) (x0 := x1) (x1 := z_roundLength) (D := D) (cI := cI) (cJ := cJ) (cZ := cZ) (cR := cR) (cN := cN) hc3 (H0 := H)) (va_cwS 2 hts gX0_foeCell_J9_floorMod_7cf53 rfl rfl rfl (by decide +kernel) ⟨Nat.le_of_ble_eq_true rfl, Nat.le_of_ble_eq_true rfl⟩) (fr_psr hcx) rfl rfl hl.1 rfl (lv_room (Nat.le_of_ble_eq_true rfl)) dX0_foeCell_16 ⟨Nat.zero_le _, Nat.zero_le _⟩) hS (fun locs hS => ?_)
    obtain ⟨h_4, hm⟩ := fr_ck hm
    refine va_iald hx hb hK hP 1 0 rfl rfl h_4 dX0_foeCell_19 ?_
    refine lv_goto (tgt := 24) hx hb dX0_foeCell_20 (by decide) ?_
    exact W.iret (v := (z_round o2.toNatClampNeg)) hx hb hr (fun t ht hW => ⟨⟨_, (), rfl, (Option.some.inj hm), ht⟩, hS.F ht⟩) hS.2.2 dX0_foeCell_24 hlocks
set_option maxHeartbeats 4000000 in
set_option maxRecDepth 100000 in
theorem c_X0_foeCell {l : Launch} {D : va_G} {cI cJ cZ cR cN : ClassId} {a_z a_z_kinds a_z_openWith a_z_keyCells a_z_round : Nat} {z_goalCells : Int64} {z_width : Int32} {z_height : Int32} {z_roundLength : Int32} {z_startCell : Int32} {z_round : Nat → Int32} {x1 : Int32} {H0 : Heap} {r : Int32} (hm : m_X0_foeCell z_roundLength z_round x1 = some r) (hP : va_P D vwCl [(a_z, .inr (ob_X0 a_z_kinds a_z_openWith a_z_keyCells z_goalCells a_z_round z_width z_height z_roundLength z_startCell)), (a_z_round, .inl (cI, 6, .inl z_round))] H0) : Met l yX0_foeCell wsX0_foeCell ({ frames := 1, cells := 0, slots := 0, locals := 22 } : Room) (fr_Pr D cI cJ cZ cR cN [.ref a_z, .int x1] H0) (fr_Ri H0 r) 0 0 (fun _ => False) := by
  refine fr_ofW (cc := cX0_foeCell) (maxL := 2) (ret := (some .int)) (by decide +kernel) rfl ?_
  intro p e s m args below meth c s₁ B hml hv
  obtain ⟨rfl, hH, hcx⟩ := hv
  subst hH
  have hB : fr_BX p s m _ meth c cX0_foeCell (some .int) 2 RX0 wsX0_foeCell := ⟨B.exec, B.bytes, B.returns, hml, findClass_of_methodNamed B.named, atoms_spec (ws := wsX0_foeCell) B.pre, B.notSynchronized⟩
  have hl := lv_entry ([.ref a_z, .int x1]) (n := 2) (Nat.le_of_ble_eq_true rfl)
  rw [lg_entry_eq]
  generalize (lg_sl ([.ref a_z, .int x1]) ++ List.replicate (2 - (lg_sl ([.ref a_z, .int x1])).length) Slot.unset).toArray = ls at hl ⊢
  have hl : lv_has ls 2 [(0, .ref a_z), (1, .int x1)] := hl
  exact t_X0_foeCell_0 hB hcx hm hP va_S.rf hl
