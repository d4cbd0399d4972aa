set_option maxHeartbeats 4000000 in
set_option maxRecDepth 100000 in
theorem t_X2_isRoom_0 {p : Program} {l : Launch} {e : Env} {s : State} {m : MethodId} {args : Array Value} {below : List Frame} {meth : Method} {c : Code} {D : va_G} {cI cJ cZ cR cN : ClassId} {x0 : Int32} {H : Heap} {r : Int32} (hB : fr_BX p s m args meth c cX2_isRoom (some .boolean) 1 RX2 wsX2_isRoom) (hcx : fr_cx D cI cJ cZ cR cN s) (hm : m_X2_isRoom x0 = r) {locs : List Loc} {ls : Array Slot} (hS : va_S (fun _ => False) s.heap H locs) (hl : lv_has ls 1 [(0, .int x0)]) : W p l e ({ frames := 0, cells := 0, slots := 0, locals := 0 } : Room) s m args below meth c H locs 0 0 (MQ below (fr_Ri H r) args s 0 0 (fun _ => False)) (F0 m 0 ls []) := by
  obtain ⟨hx, hb, hr, hml, hown, hts, hlocks⟩ := id hB
  have hK := hcx.1
  unfold m_X2_isRoom at hm
  refine lv_iload_n hx hb dX2_isRoom_0 rfl (lv_at hl 0 rfl) ?_
  refine lv_if_lt (tgt := 14) hx hb dX2_isRoom_1 (by decide) (fun c_1 => ?_) (fun c_1 => ?_)
  · have hm := fr_tip c_1 hm
    refine lv_iconst (v := (0 : Int32)) hx hb dX2_isRoom_14 (by decide) ?_
    exact W.zret (v := (0 : Int32)) hx hb hr rfl (fun t ht hW => ⟨⟨_, (), rfl, hm, ht⟩, hS.F ht⟩) hS.2.2 dX2_isRoom_15 hlocks
  · have hm := fr_tin c_1 hm
    refine lv_iload_n hx hb dX2_isRoom_4 rfl (lv_at hl 0 rfl) ?_
    refine lv_bipush (v := (10 : Int32)) hx hb dX2_isRoom_5 (by decide) ?_
    refine lv_icmp_ge (tgt := 14) hx hb dX2_isRoom_7 (by decide) (fun c_2 => ?_) (fun c_2 => ?_)
    · have hm := fr_tip c_2 hm
      refine lv_iconst (v := (0 : Int32)) hx hb dX2_isRoom_14 (by decide) ?_
      exact W.zret (v := (0 : Int32)) hx hb hr rfl (fun t ht hW => ⟨⟨_, (), rfl, hm, ht⟩, hS.F ht⟩) hS.2.2 dX2_isRoom_15 hlocks
    · have hm := fr_tin c_2 hm
      refine lv_iconst (v := (1 : Int32)) hx hb dX2_isRoom_10 (by decide) ?_
      refine lv_goto (tgt := 15) hx hb dX2_isRoom_11 (by decide) ?_
      exact W.zret (v := (1 : Int32)) hx hb hr rfl (fun t ht hW => ⟨⟨_, (), rfl, hm, ht⟩, hS.F ht⟩) hS.2.2 dX2_isRoom_15 hlocks
set_option maxHeartbeats 4000000 in
set_option maxRecDepth 100000 in
theorem c_X2_isRoom {l : Launch} {D : va_G} {cI cJ cZ cR cN : ClassId} {x0 : Int32} {H0 : Heap} : Met l yX2_isRoom wsX2_isRoom ({ frames := 0, cells := 0, slots := 0, locals := 0 } : Room) (fr_Pr D cI cJ cZ cR cN [.int x0] H0) (fr_Ri H0 (m_X2_isRoom x0)) 0 0 (fun _ => False) := by
  refine fr_ofW (cc := cX2_isRoom) (maxL := 1) (ret := (some .boolean)) (by decide +kernel) rfl ?_
  intro p e s m args below meth c s₁ B hml hv
  obtain ⟨rfl, hH, hcx⟩ := hv
  subst hH
  have hB : fr_BX p s m _ meth c cX2_isRoom (some .boolean) 1 RX2 wsX2_isRoom := ⟨B.exec, B.bytes, B.returns, hml, findClass_of_methodNamed B.named, atoms_spec (ws := wsX2_isRoom) B.pre, B.notSynchronized⟩
  have hl := lv_entry ([.int x0]) (n := 1) (Nat.le_of_ble_eq_true rfl)
  rw [lg_entry_eq]
  generalize (lg_sl ([.int x0]) ++ List.replicate (1 - (lg_sl ([.int x0])).length) Slot.unset).toArray = ls at hl ⊢
  have hl : lv_has ls 1 [(0, .int x0)] := hl
  exact t_X2_isRoom_0 hB hcx rfl va_S.rf hl
set_option maxHeartbeats 4000000 in
set_option maxRecDepth 100000 in
theorem t_X2_isThings_0 {p : Program} {l : Launch} {e : Env} {s : State} {m : MethodId} {args : Array Value} {below : List Frame} {meth : Method} {c : Code} {D : va_G} {cI cJ cZ cR cN : ClassId} {x0 : Int32} {H : Heap} {r : Int32} (hB : fr_BX p s m args meth c cX2_isThings (some .boolean) 1 RX2 wsX2_isThings) (hcx : fr_cx D cI cJ cZ cR cN s) (hm : m_X2_isThings x0 = r) {locs : List Loc} {ls : Array Slot} (hS : va_S (fun _ => False) s.heap H locs) (hl : lv_has ls 1 [(0, .int x0)]) : W p l e ({ frames := 0, cells := 0, slots := 0, locals := 0 } : Room) s m args below meth c H locs 0 0 (MQ below (fr_Ri H r) args s 0 0 (fun _ => False)) (F0 m 0 ls []) := by
  obtain ⟨hx, hb, hr, hml, hown, hts, hlocks⟩ := id hB
  have hK := hcx.1
  unfold m_X2_isThings at hm
  refine lv_iload_n hx hb dX2_isThings_0 rfl (lv_at hl 0 rfl) ?_
  refine lv_if_lt (tgt := 14) hx hb dX2_isThings_1 (by decide) (fun c_1 => ?_) (fun c_1 => ?_)
  · have hm := fr_tip c_1 hm
    refine lv_iconst (v := (0 : Int32)) hx hb dX2_isThings_14 (by decide) ?_
    exact W.zret (v := (0 : Int32)) hx hb hr rfl (fun t ht hW => ⟨⟨_, (), rfl, hm, ht⟩, hS.F ht⟩) hS.2.2 dX2_isThings_15 hlocks
  · have hm := fr_tin c_1 hm
    refine lv_iload_n hx hb dX2_isThings_4 rfl (lv_at hl 0 rfl) ?_
    refine lv_bipush (v := (16 : Int32)) hx hb dX2_isThings_5 (by decide) ?_
    refine lv_icmp_ge (tgt := 14) hx hb dX2_isThings_7 (by decide) (fun c_2 => ?_) (fun c_2 => ?_)
    · have hm := fr_tip c_2 hm
      refine lv_iconst (v := (0 : Int32)) hx hb dX2_isThings_14 (by decide) ?_
      exact W.zret (v := (0 : Int32)) hx hb hr rfl (fun t ht hW => ⟨⟨_, (), rfl, hm, ht⟩, hS.F ht⟩) hS.2.2 dX2_isThings_15 hlocks
    · have hm := fr_tin c_2 hm
      refine lv_iconst (v := (1 : Int32)) hx hb dX2_isThings_10 (by decide) ?_
      refine lv_goto (tgt := 15) hx hb dX2_isThings_11 (by decide) ?_
      exact W.zret (v := (1 : Int32)) hx hb hr rfl (fun t ht hW => ⟨⟨_, (), rfl, hm, ht⟩, hS.F ht⟩) hS.2.2 dX2_isThings_15 hlocks
set_option maxHeartbeats 4000000 in
set_option maxRecDepth 100000 in
theorem c_X2_isThings {l : Launch} {D : va_G} {cI cJ cZ cR cN : ClassId} {x0 : Int32} {H0 : Heap} : Met l yX2_isThings wsX2_isThings ({ frames := 0, cells := 0, slots := 0, locals := 0 } : Room) (fr_Pr D cI cJ cZ cR cN [.int x0] H0) (fr_Ri H0 (m_X2_isThings x0)) 0 0 (fun _ => False) := by
  refine fr_ofW (cc := cX2_isThings) (maxL := 1) (ret := (some .boolean)) (by decide +kernel) rfl ?_
  intro p e s m args below meth c s₁ B hml hv
  obtain ⟨rfl, hH, hcx⟩ := hv
  subst hH
  have hB : fr_BX p s m _ meth c cX2_isThings (some .boolean) 1 RX2 wsX2_isThings := ⟨B.exec, B.bytes, B.returns, hml, findClass_of_methodNamed B.named, atoms_spec (ws := wsX2_isThings) B.pre, B.notSynchronized⟩
  have hl := lv_entry ([.int x0]) (n := 1) (Nat.le_of_ble_eq_true rfl)
  rw [lg_entry_eq]
  generalize (lg_sl ([.int x0]) ++ List.replicate (1 - (lg_sl ([.int x0])).length) Slot.unset).toArray = ls at hl ⊢
  have hl : lv_has ls 1 [(0, .int x0)] := hl
  exact t_X2_isThings_0 hB hcx rfl va_S.rf hl
set_option maxHeartbeats 4000000 in
set_option maxRecDepth 100000 in
theorem t_X2_isTicks_0 {p : Program} {l : Launch} {e : Env} {s : State} {m : MethodId} {args : Array Value} {below : List Frame} {meth : Method} {c : Code} {D : va_G} {cI cJ cZ cR cN : ClassId} {x0 : Int32} {H : Heap} {r : Int32} (hB : fr_BX p s m args meth c cX2_isTicks (some .boolean) 1 RX2 wsX2_isTicks) (hcx : fr_cx D cI cJ cZ cR cN s) (hm : m_X2_isTicks x0 = r) {locs : List Loc} {ls : Array Slot} (hS : va_S (fun _ => False) s.heap H locs) (hl : lv_has ls 1 [(0, .int x0)]) : W p l e ({ frames := 0, cells := 0, slots := 0, locals := 0 } : Room) s m args below meth c H locs 0 0 (MQ below (fr_Ri H r) args s 0 0 (fun _ => False)) (F0 m 0 ls []) := by
  obtain ⟨hx, hb, hr, hml, hown, hts, hlocks⟩ := id hB
  have hK := hcx.1
  unfold m_X2_isTicks at hm
  refine lv_iload_n hx hb dX2_isTicks_0 rfl (lv_at hl 0 rfl) ?_
  refine lv_iconst (v := (1 : Int32)) hx hb dX2_isTicks_1 (by decide) ?_
  refine lv_icmp_lt (tgt := 15) hx hb dX2_isTicks_2 (by decide) (fun c_1 => ?_) (fun c_1 => ?_)
  · have hm := fr_tip c_1 hm
    refine lv_iconst (v := (0 : Int32)) hx hb dX2_isTicks_15 (by decide) ?_
    exact W.zret (v := (0 : Int32)) hx hb hr rfl (fun t ht hW => ⟨⟨_, (), rfl, hm, ht⟩, hS.F ht⟩) hS.2.2 dX2_isTicks_16 hlocks
  · have hm := fr_tin c_1 hm
    refine lv_iload_n hx hb dX2_isTicks_5 rfl (lv_at hl 0 rfl) ?_
    refine lv_bipush (v := (100 : Int32)) hx hb dX2_isTicks_6 (by decide) ?_
    refine lv_icmp_gt (tgt := 15) hx hb dX2_isTicks_8 (by decide) (fun c_2 => ?_) (fun c_2 => ?_)
    · have hm := fr_tip c_2 hm
      refine lv_iconst (v := (0 : Int32)) hx hb dX2_isTicks_15 (by decide) ?_
      exact W.zret (v := (0 : Int32)) hx hb hr rfl (fun t ht hW => ⟨⟨_, (), rfl, hm, ht⟩, hS.F ht⟩) hS.2.2 dX2_isTicks_16 hlocks
    · have hm := fr_tin c_2 hm
      refine lv_iconst (v := (1 : Int32)) hx hb dX2_isTicks_11 (by decide) ?_
      refine lv_goto (tgt := 16) hx hb dX2_isTicks_12 (by decide) ?_
      exact W.zret (v := (1 : Int32)) hx hb hr rfl (fun t ht hW => ⟨⟨_, (), rfl, hm, ht⟩, hS.F ht⟩) hS.2.2 dX2_isTicks_16 hlocks
set_option maxHeartbeats 4000000 in
set_option maxRecDepth 100000 in
theorem c_X2_isTicks {l : Launch} {D : va_G} {cI cJ cZ cR cN : ClassId} {x0 : Int32} {H0 : Heap} : Met l yX2_isTicks wsX2_isTicks ({ frames := 0, cells := 0, slots := 0, locals := 0 } : Room) (fr_Pr D cI cJ cZ cR cN [.int x0] H0) (fr_Ri H0 (m_X2_isTicks x0)) 0 0 (fun _ => False) := by
  refine fr_ofW (cc := cX2_isTicks) (maxL := 1) (ret := (some .boolean)) (by decide +kernel) rfl ?_
  intro p e s m args below meth c s₁ B hml hv
  obtain ⟨rfl, hH, hcx⟩ := hv
  subst hH
  have hB : fr_BX p s m _ meth c cX2_isTicks (some .boolean) 1 RX2 wsX2_isTicks := ⟨B.exec, B.bytes, B.returns, hml, findClass_of_methodNamed B.named, atoms_spec (ws := wsX2_isTicks) B.pre, B.notSynchronized⟩
  have hl := lv_entry ([.int x0]) (n := 1) (Nat.le_of_ble_eq_true rfl)
  rw [lg_entry_eq]
  generalize (lg_sl ([.int x0]) ++ List.replicate (1 - (lg_sl ([.int x0])).length) Slot.unset).toArray = ls at hl ⊢
  have hl : lv_has ls 1 [(0, .int x0)] := hl
  exact t_X2_isTicks_0 hB hcx rfl va_S.rf hl
set_option maxHeartbeats 4000000 in
set_option maxRecDepth 100000 in
theorem t_X2_isOdds_0 {p : Program} {l : Launch} {e : Env} {s : State} {m : MethodId} {args : Array Value} {below : List Frame} {meth : Method} {c : Code} {D : va_G} {cI cJ cZ cR cN : ClassId} {x0 : Int32} {H : Heap} {r : Int32} (hB : fr_BX p s m args meth c cX2_isOdds (some .boolean) 1 RX2 wsX2_isOdds) (hcx : fr_cx D cI cJ cZ cR cN s) (hm : m_X2_isOdds x0 = r) {locs : List Loc} {ls : Array Slot} (hS : va_S (fun _ => False) s.heap H locs) (hl : lv_has ls 1 [(0, .int x0)]) : W p l e ({ frames := 0, cells := 0, slots := 0, locals := 0 } : Room) s m args below meth c H locs 0 0 (MQ below (fr_Ri H r) args s 0 0 (fun _ => False)) (F0 m 0 ls []) := by
  obtain ⟨hx, hb, hr, hml, hown, hts, hlocks⟩ := id hB
  have hK := hcx.1
  unfold m_X2_isOdds at hm
  refine lv_iload_n hx hb dX2_isOdds_0 rfl (lv_at hl 0 rfl) ?_
  refine lv_iconst (v := (1 : Int32)) hx hb dX2_isOdds_1 (by decide) ?_
  refine lv_icmp_lt (tgt := 15) hx hb dX2_isOdds_2 (by decide) (fun c_1 => ?_) (fun c_1 => ?_)
  · have hm := fr_tip c_1 hm
    refine lv_iconst (v := (0 : Int32)) hx hb dX2_isOdds_15 (by decide) ?_
    exact W.zret (v := (0 : Int32)) hx hb hr rfl (fun t ht hW => ⟨⟨_, (), rfl, hm, ht⟩, hS.F ht⟩) hS.2.2 dX2_isOdds_16 hlocks
  · have hm := fr_tin c_1 hm
    refine lv_iload_n hx hb dX2_isOdds_5 rfl (lv_at hl 0 rfl) ?_
    refine lv_bipush (v := (8 : Int32)) hx hb dX2_isOdds_6 (by decide) ?_
    refine lv_icmp_gt (tgt := 15) hx hb dX2_isOdds_8 (by decide) (fun c_2 => ?_) (fun c_2 => ?_)
    · have hm := fr_tip c_2 hm
      refine lv_iconst (v := (0 : Int32)) hx hb dX2_isOdds_15 (by decide) ?_
      exact W.zret (v := (0 : Int32)) hx hb hr rfl (fun t ht hW => ⟨⟨_, (), rfl, hm, ht⟩, hS.F ht⟩) hS.2.2 dX2_isOdds_16 hlocks
    · have hm := fr_tin c_2 hm
      refine lv_iconst (v := (1 : Int32)) hx hb dX2_isOdds_11 (by decide) ?_
      refine lv_goto (tgt := 16) hx hb dX2_isOdds_12 (by decide) ?_
      exact W.zret (v := (1 : Int32)) hx hb hr rfl (fun t ht hW => ⟨⟨_, (), rfl, hm, ht⟩, hS.F ht⟩) hS.2.2 dX2_isOdds_16 hlocks
set_option maxHeartbeats 4000000 in
set_option maxRecDepth 100000 in
theorem c_X2_isOdds {l : Launch} {D : va_G} {cI cJ cZ cR cN : ClassId} {x0 : Int32} {H0 : Heap} : Met l yX2_isOdds wsX2_isOdds ({ frames := 0, cells := 0, slots := 0, locals := 0 } : Room) (fr_Pr D cI cJ cZ cR cN [.int x0] H0) (fr_Ri H0 (m_X2_isOdds x0)) 0 0 (fun _ => False) := by
  refine fr_ofW (cc := cX2_isOdds) (maxL := 1) (ret := (some .boolean)) (by decide +kernel) rfl ?_
  intro p e s m args below meth c s₁ B hml hv
  obtain ⟨rfl, hH, hcx⟩ := hv
  subst hH
  have hB : fr_BX p s m _ meth c cX2_isOdds (some .boolean) 1 RX2 wsX2_isOdds := ⟨B.exec, B.bytes, B.returns, hml, findClass_of_methodNamed B.named, atoms_spec (ws := wsX2_isOdds) B.pre, B.notSynchronized⟩
  have hl := lv_entry ([.int x0]) (n := 1) (Nat.le_of_ble_eq_true rfl)
  rw [lg_entry_eq]
  generalize (lg_sl ([.int x0]) ++ List.replicate (1 - (lg_sl ([.int x0])).length) Slot.unset).toArray = ls at hl ⊢
  have hl : lv_has ls 1 [(0, .int x0)] := hl
  exact t_X2_isOdds_0 hB hcx rfl va_S.rf hl
set_option maxHeartbeats 4000000 in
set_option maxRecDepth 100000 in
theorem t_X2_isWay_0 {p : Program} {l : Launch} {e : Env} {s : State} {m : MethodId} {args : Array Value} {below : List Frame} {meth : Method} {c : Code} {D : va_G} {cI cJ cZ cR cN : ClassId} {x0 : Int32} {x1 : Int32} {x2 : Int32} {x3 : Int32} {H : Heap} {r : Int32} (hB : fr_BX p s m args meth c cX2_isWay (some .boolean) 4 RX2 wsX2_isWay) (hcx : fr_cx D cI cJ cZ cR cN s) (hm : m_X2_isWay x0 x1 x2 x3 = r) {locs : List Loc} {ls : Array Slot} (hS : va_S (fun _ => False) s.heap H locs) (hl : lv_has ls 4 [(0, .int x0), (1, .int x1), (2, .int x2), (3, .int x3)]) : W p l e ({ frames := 1, cells := 0, slots := 0, locals := 20 } : Room) s m args below meth c H locs 0 0 (MQ below (fr_Ri H r) args s 0 0 (fun _ => False)) (F0 m 0 ls []) := by
  obtain ⟨hx, hb, hr, hml, hown, hts, hlocks⟩ := id hB
  have hK := hcx.1
  unfold m_X2_isWay at hm
  refine lv_iload_n hx hb dX2_isWay_0 rfl (lv_at hl 0 rfl) ?_
  refine fr_roi (va_runS (As := [.int x0]) (rest := []) ⟨hx, hb, hml, hown, hts⟩ (c_X2_isRoom (l := l) (x0 := x0) (D := D) (cI := cI) (cJ := cJ) (cZ := cZ) (cR := cR) (cN := cN) (H0 := H)) (va_cwS 1 hts gX2_isWay_X2_isRoom rfl rfl rfl (by decide +kernel) ⟨Nat.le_of_ble_eq_true rfl, Nat.le_of_ble_eq_true rfl⟩) (fr_psr hcx) rfl rfl hl.1 rfl (lv_room (Nat.le_of_ble_eq_true rfl)) dX2_isWay_1 ⟨Nat.zero_le _, Nat.zero_le _⟩) hS (fun locs hS => ?_)
  refine lv_if_eq (tgt := 32) hx hb dX2_isWay_4 (by decide) (fun c_1 => ?_) (fun c_1 => ?_)
  · have hm := fr_tip c_1 hm
    refine lv_iconst (v := (0 : Int32)) hx hb dX2_isWay_32 (by decide) ?_
    exact W.zret (v := (0 : Int32)) hx hb hr rfl (fun t ht hW => ⟨⟨_, (), rfl, hm, ht⟩, hS.F ht⟩) hS.2.2 dX2_isWay_33 hlocks
  · have hm := fr_tin c_1 hm
    refine lv_iload_n hx hb dX2_isWay_7 rfl (lv_at hl 1 rfl) ?_
    refine fr_roi (va_runS (As := [.int x1]) (rest := []) ⟨hx, hb, hml, hown, hts⟩ (c_X2_isRoom (l := l) (x0 := x1) (D := D) (cI := cI) (cJ := cJ) (cZ := cZ) (cR := cR) (cN := cN) (H0 := H)) (va_cwS 1 hts gX2_isWay_X2_isRoom rfl rfl rfl (by decide +kernel) ⟨Nat.le_of_ble_eq_true rfl, Nat.le_of_ble_eq_true rfl⟩) (fr_psr hcx) rfl rfl hl.1 rfl (lv_room (Nat.le_of_ble_eq_true rfl)) dX2_isWay_8 ⟨Nat.zero_le _, Nat.zero_le _⟩) hS (fun locs hS => ?_)
    refine lv_if_eq (tgt := 32) hx hb dX2_isWay_11 (by decide) (fun c_2 => ?_) (fun c_2 => ?_)
    · have hm := fr_tip c_2 hm
      refine lv_iconst (v := (0 : Int32)) hx hb dX2_isWay_32 (by decide) ?_
      exact W.zret (v := (0 : Int32)) hx hb hr rfl (fun t ht hW => ⟨⟨_, (), rfl, hm, ht⟩, hS.F ht⟩) hS.2.2 dX2_isWay_33 hlocks
    · have hm := fr_tin c_2 hm
      refine lv_iload_n hx hb dX2_isWay_14 rfl (lv_at hl 2 rfl) ?_
      refine fr_roi (va_runS (As := [.int x2]) (rest := []) ⟨hx, hb, hml, hown, hts⟩ (c_X2_isThings (l := l) (x0 := x2) (D := D) (cI := cI) (cJ := cJ) (cZ := cZ) (cR := cR) (cN := cN) (H0 := H)) (va_cwS 1 hts gX2_isWay_X2_isThings rfl rfl rfl (by decide +kernel) ⟨Nat.le_of_ble_eq_true rfl, Nat.le_of_ble_eq_true rfl⟩) (fr_psr hcx) rfl rfl hl.1 rfl (lv_room (Nat.le_of_ble_eq_true rfl)) dX2_isWay_15 ⟨Nat.zero_le _, Nat.zero_le _⟩) hS (fun locs hS => ?_)
      refine lv_if_eq (tgt := 32) hx hb dX2_isWay_18 (by decide) (fun c_3 => ?_) (fun c_3 => ?_)
      · have hm := fr_tip c_3 hm
        refine lv_iconst (v := (0 : Int32)) hx hb dX2_isWay_32 (by decide) ?_
        exact W.zret (v := (0 : Int32)) hx hb hr rfl (fun t ht hW => ⟨⟨_, (), rfl, hm, ht⟩, hS.F ht⟩) hS.2.2 dX2_isWay_33 hlocks
      · have hm := fr_tin c_3 hm
        refine lv_iload_n hx hb dX2_isWay_21 rfl (lv_at hl 3 rfl) ?_
        refine fr_roi (va_runS (As := [.int x3]) (rest := []) ⟨hx, hb, hml, hown, hts⟩ (c_X2_isThings (l := l) (x0 := x3) (D := D) (cI := cI) (cJ := cJ) (cZ := cZ) (cR := cR) (cN := cN) (H0 := H)) (va_cwS 1 hts gX2_isWay_X2_isThings rfl rfl rfl (by decide +kernel) ⟨Nat.le_of_ble_eq_true rfl, Nat.le_of_ble_eq_true rfl⟩) (fr_psr hcx) rfl rfl hl.1 rfl (lv_room (Nat.le_of_ble_eq_true rfl)) dX2_isWay_22 ⟨Nat.zero_le _, Nat.zero_le _⟩) hS (fun locs hS => ?_)
        refine lv_if_eq (tgt := 32) hx hb dX2_isWay_25 (by decide) (fun c_4 => ?_) (fun c_4 => ?_)
        · have hm := fr_tip c_4 hm
          refine lv_iconst (v := (0 : Int32)) hx hb dX2_isWay_32 (by decide) ?_
          exact W.zret (v := (0 : Int32)) hx hb hr rfl (fun t ht hW => ⟨⟨_, (), rfl, hm, ht⟩, hS.F ht⟩) hS.2.2 dX2_isWay_33 hlocks
        · have hm := fr_tin c_4 hm
          refine lv_iconst (v := (1 : Int32)) hx hb dX2_isWay_28 (by decide) ?_
          refine lv_goto (tgt := 33) hx hb dX2_isWay_29 (by decide) ?_
          exact W.zret (v := (1 : Int32)) hx hb hr rfl (fun t ht hW => ⟨⟨_, (), rfl, hm, ht⟩, hS.F ht⟩) hS.2.2 dX2_isWay_33 hlocks
set_option maxHeartbeats 4000000 in
set_option maxRecDepth 100000 in
theorem c_X2_isWay {l : Launch} {D : va_G} {cI cJ cZ cR cN : ClassId} {x0 : Int32} {x1 : Int32} {x2 : Int32} {x3 : Int32} {H0 : Heap} : Met l yX2_isWay wsX2_isWay ({ frames := 1, cells := 0, slots := 0, locals := 20 } : Room) (fr_Pr D cI cJ cZ cR cN [.int x0, .int x1, .int x2, .int x3] H0) (fr_Ri H0 (m_X2_isWay x0 x1 x2 x3)) 0 0 (fun _ => False) := by
  refine fr_ofW (cc := cX2_isWay) (maxL := 4) (ret := (some .boolean)) (by decide +kernel) rfl ?_
  intro p e s m args below meth c s₁ B hml hv
  obtain ⟨rfl, hH, hcx⟩ := hv
  subst hH
  have hB : fr_BX p s m _ meth c cX2_isWay (some .boolean) 4 RX2 wsX2_isWay := ⟨B.exec, B.bytes, B.returns, hml, findClass_of_methodNamed B.named, atoms_spec (ws := wsX2_isWay) B.pre, B.notSynchronized⟩
  have hl := lv_entry ([.int x0, .int x1, .int x2, .int x3]) (n := 4) (Nat.le_of_ble_eq_true rfl)
  rw [lg_entry_eq]
  generalize (lg_sl ([.int x0, .int x1, .int x2, .int x3]) ++ List.replicate (4 - (lg_sl ([.int x0, .int x1, .int x2, .int x3])).length) Slot.unset).toArray = ls at hl ⊢
  have hl : lv_has ls 4 [(0, .int x0), (1, .int x1), (2, .int x2), (3, .int x3)] := hl
  exact t_X2_isWay_0 hB hcx rfl va_S.rf hl
set_option maxHeartbeats 4000000 in
set_option maxRecDepth 100000 in
theorem t_X2_isAsked_0 {p : Program} {l : Launch} {e : Env} {s : State} {m : MethodId} {args : Array Value} {below : List Frame} {meth : Method} {c : Code} {D : va_G} {cI cJ cZ cR cN : ClassId} {x0 : Int32} {x1 : Int32} {x2 : Int32} {H : Heap} {r : Int32} (hB : fr_BX p s m args meth c cX2_isAsked (some .boolean) 3 RX2 wsX2_isAsked) (hcx : fr_cx D cI cJ cZ cR cN s) (hm : m_X2_isAsked x0 x1 x2 = r) {locs : List Loc} {ls : Array Slot} (hS : va_S (fun _ => False) s.heap H locs) (hl : lv_has ls 3 [(0, .int x0), (1, .int x1), (2, .int x2)]) : W p l e ({ frames := 1, cells := 0, slots := 0, locals := 20 } : Room) s m args below meth c H locs 0 0 (MQ below (fr_Ri H r) args s 0 0 (fun _ => False)) (F0 m 0 ls []) := by
  obtain ⟨hx, hb, hr, hml, hown, hts, hlocks⟩ := id hB
  have hK := hcx.1
  unfold m_X2_isAsked at hm
  refine lv_iload_n hx hb dX2_isAsked_0 rfl (lv_at hl 0 rfl) ?_
  refine fr_roi (va_runS (As := [.int x0]) (rest := []) ⟨hx, hb, hml, hown, hts⟩ (c_X2_isRoom (l := l) (x0 := x0) (D := D) (cI := cI) (cJ := cJ) (cZ := cZ) (cR := cR) (cN := cN) (H0 := H)) (va_cwS 1 hts gX2_isAsked_X2_isRoom rfl rfl rfl (by decide +kernel) ⟨Nat.le_of_ble_eq_true rfl, Nat.le_of_ble_eq_true rfl⟩) (fr_psr hcx) rfl rfl hl.1 rfl (lv_room (Nat.le_of_ble_eq_true rfl)) dX2_isAsked_1 ⟨Nat.zero_le _, Nat.zero_le _⟩) hS (fun locs hS => ?_)
  refine lv_if_eq (tgt := 29) hx hb dX2_isAsked_4 (by decide) (fun c_1 => ?_) (fun c_1 => ?_)
  · have hm := fr_tip c_1 hm
    refine lv_iconst (v := (0 : Int32)) hx hb dX2_isAsked_29 (by decide) ?_
    exact W.zret (v := (0 : Int32)) hx hb hr rfl (fun t ht hW => ⟨⟨_, (), rfl, hm, ht⟩, hS.F ht⟩) hS.2.2 dX2_isAsked_30 hlocks
  · have hm := fr_tin c_1 hm
    refine lv_iload_n hx hb dX2_isAsked_7 rfl (lv_at hl 1 rfl) ?_
    refine fr_roi (va_runS (As := [.int x1]) (rest := []) ⟨hx, hb, hml, hown, hts⟩ (c_X2_isThings (l := l) (x0 := x1) (D := D) (cI := cI) (cJ := cJ) (cZ := cZ) (cR := cR) (cN := cN) (H0 := H)) (va_cwS 1 hts gX2_isAsked_X2_isThings rfl rfl rfl (by decide +kernel) ⟨Nat.le_of_ble_eq_true rfl, Nat.le_of_ble_eq_true rfl⟩) (fr_psr hcx) rfl rfl hl.1 rfl (lv_room (Nat.le_of_ble_eq_true rfl)) dX2_isAsked_8 ⟨Nat.zero_le _, Nat.zero_le _⟩) hS (fun locs hS => ?_)
    refine lv_if_eq (tgt := 29) hx hb dX2_isAsked_11 (by decide) (fun c_2 => ?_) (fun c_2 => ?_)
    · have hm := fr_tip c_2 hm
      refine lv_iconst (v := (0 : Int32)) hx hb dX2_isAsked_29 (by decide) ?_
      exact W.zret (v := (0 : Int32)) hx hb hr rfl (fun t ht hW => ⟨⟨_, (), rfl, hm, ht⟩, hS.F ht⟩) hS.2.2 dX2_isAsked_30 hlocks
    · have hm := fr_tin c_2 hm
      refine lv_iload_n hx hb dX2_isAsked_14 rfl (lv_at hl 2 rfl) ?_
      refine lv_if_lt (tgt := 29) hx hb dX2_isAsked_15 (by decide) (fun c_3 => ?_) (fun c_3 => ?_)
      · have hm := fr_tip c_3 hm
        refine lv_iconst (v := (0 : Int32)) hx hb dX2_isAsked_29 (by decide) ?_
        exact W.zret (v := (0 : Int32)) hx hb hr rfl (fun t ht hW => ⟨⟨_, (), rfl, hm, ht⟩, hS.F ht⟩) hS.2.2 dX2_isAsked_30 hlocks
      · have hm := fr_tin c_3 hm
        refine lv_iload_n hx hb dX2_isAsked_18 rfl (lv_at hl 2 rfl) ?_
        refine lv_sipush (v := (300 : Int32)) hx hb dX2_isAsked_19 (by decide) ?_
        refine lv_icmp_gt (tgt := 29) hx hb dX2_isAsked_22 (by decide) (fun c_4 => ?_) (fun c_4 => ?_)
        · have hm := fr_tip c_4 hm
          refine lv_iconst (v := (0 : Int32)) hx hb dX2_isAsked_29 (by decide) ?_
          exact W.zret (v := (0 : Int32)) hx hb hr rfl (fun t ht hW => ⟨⟨_, (), rfl, hm, ht⟩, hS.F ht⟩) hS.2.2 dX2_isAsked_30 hlocks
        · have hm := fr_tin c_4 hm
          refine lv_iconst (v := (1 : Int32)) hx hb dX2_isAsked_25 (by decide) ?_
          refine lv_goto (tgt := 30) hx hb dX2_isAsked_26 (by decide) ?_
          exact W.zret (v := (1 : Int32)) hx hb hr rfl (fun t ht hW => ⟨⟨_, (), rfl, hm, ht⟩, hS.F ht⟩) hS.2.2 dX2_isAsked_30 hlocks
set_option maxHeartbeats 4000000 in
set_option maxRecDepth 100000 in
theorem c_X2_isAsked {l : Launch} {D : va_G} {cI cJ cZ cR cN : ClassId} {x0 : Int32} {x1 : Int32} {x2 : Int32} {H0 : Heap} : Met l yX2_isAsked wsX2_isAsked ({ frames := 1, cells := 0, slots := 0, locals := 20 } : Room) (fr_Pr D cI cJ cZ cR cN [.int x0, .int x1, .int x2] H0) (fr_Ri H0 (m_X2_isAsked x0 x1 x2)) 0 0 (fun _ => False) := by
  refine fr_ofW (cc := cX2_isAsked) (maxL := 3) (ret := (some .boolean)) (by decide +kernel) rfl ?_
  intro p e s m args below meth c s₁ B hml hv
  obtain ⟨rfl, hH, hcx⟩ := hv
  subst hH
  have hB : fr_BX p s m _ meth c cX2_isAsked (some .boolean) 3 RX2 wsX2_isAsked := ⟨B.exec, B.bytes, B.returns, hml, findClass_of_methodNamed B.named, atoms_spec (ws := wsX2_isAsked) B.pre, B.notSynchronized⟩
  have hl := lv_entry ([.int x0, .int x1, .int x2]) (n := 3) (Nat.le_of_ble_eq_true rfl)
  rw [lg_entry_eq]
  generalize (lg_sl ([.int x0, .int x1, .int x2]) ++ List.replicate (3 - (lg_sl ([.int x0, .int x1, .int x2])).length) Slot.unset).toArray = ls at hl ⊢
  have hl : lv_has ls 3 [(0, .int x0), (1, .int x1), (2, .int x2)] := hl
  exact t_X2_isAsked_0 hB hcx rfl va_S.rf hl
set_option maxHeartbeats 4000000 in
set_option maxRecDepth 100000 in
theorem t_X2_standAt_0 {p : Program} {l : Launch} {e : Env} {s : State} {m : MethodId} {args : Array Value} {below : List Frame} {meth : Method} {c : Code} {D : va_G} {cI cJ cZ cR cN : ClassId} {x0 : Int32} {x1 : Int32} {H : Heap} {r : Int32} (hB : fr_BX p s m args meth c cX2_standAt (some .int) 2 RX2 wsX2_standAt) (hcx : fr_cx D cI cJ cZ cR cN s) (hm : m_X2_standAt x0 x1 = r) {locs : List Loc} {ls : Array Slot} (hS : va_S (fun _ => False) s.heap H locs) (hl : lv_has ls 2 [(0, .int x0), (1, .int x1)]) : W p l e ({ frames := 0, cells := 0, slots := 0, locals := 0 } : Room) s m args below meth c H locs 0 0 (MQ below (fr_Ri H r) args s 0 0 (fun _ => False)) (F0 m 0 ls []) := by
  obtain ⟨hx, hb, hr, hml, hown, hts, hlocks⟩ := id hB
  have hK := hcx.1
  unfold m_X2_standAt at hm
  refine lv_iload_n hx hb dX2_standAt_0 rfl (lv_at hl 0 rfl) ?_
  refine lv_bipush (v := (16 : Int32)) hx hb dX2_standAt_1 (by decide) ?_
  refine lv_imul hx hb dX2_standAt_3 ?_
  refine lv_iload_n hx hb dX2_standAt_4 rfl (lv_at hl 1 rfl) ?_
  refine lv_iadd hx hb dX2_standAt_5 ?_
  exact W.iret (v := ((x0 * (16 : Int32)) + x1)) hx hb hr (fun t ht hW => ⟨⟨_, (), rfl, hm, ht⟩, hS.F ht⟩) hS.2.2 dX2_standAt_6 hlocks
set_option maxHeartbeats 4000000 in
set_option maxRecDepth 100000 in
theorem c_X2_standAt {l : Launch} {D : va_G} {cI cJ cZ cR cN : ClassId} {x0 : Int32} {x1 : Int32} {H0 : Heap} : Met l yX2_standAt wsX2_standAt ({ frames := 0, cells := 0, slots := 0, locals := 0 } : Room) (fr_Pr D cI cJ cZ cR cN [.int x0, .int x1] H0) (fr_Ri H0 (m_X2_standAt x0 x1)) 0 0 (fun _ => False) := by
  refine fr_ofW (cc := cX2_standAt) (maxL := 2) (ret := (some .int)) (by decide +kernel) rfl ?_
  intro p e s m args below meth c s₁ B hml hv
  obtain ⟨rfl, hH, hcx⟩ := hv
  subst hH
  have hB : fr_BX p s m _ meth c cX2_standAt (some .int) 2 RX2 wsX2_standAt := ⟨B.exec, B.bytes, B.returns, hml, findClass_of_methodNamed B.named, atoms_spec (ws := wsX2_standAt) B.pre, B.notSynchronized⟩
  have hl := lv_entry ([.int x0, .int x1]) (n := 2) (Nat.le_of_ble_eq_true rfl)
  rw [lg_entry_eq]
  generalize (lg_sl ([.int x0, .int x1]) ++ List.replicate (2 - (lg_sl ([.int x0, .int x1])).length) Slot.unset).toArray = ls at hl ⊢
  have hl : lv_has ls 2 [(0, .int x0), (1, .int x1)] := hl
  exact t_X2_standAt_0 hB hcx rfl va_S.rf hl
theorem in_X2_isFull_X2 : ∀ w ∈ wsX20, w ∈ wsX2_isFull := fun w h => List.mem_cons_of_mem _ (List.mem_append_right _ h)
set_option maxHeartbeats 4000000 in
set_option maxRecDepth 100000 in
theorem t_X2_isFull_0 {p : Program} {l : Launch} {e : Env} {s : State} {m : MethodId} {args : Array Value} {below : List Frame} {meth : Method} {c : Code} {D : va_G} {cI cJ cZ cR cN : ClassId} {a_z a_z_roads a_z_fewest a_z_chances a_z_stands a_z_isListed a_z_stepRoads a_z_stepThings : Nat} {z_length : Int32} {z_goalRoom : Int32} {z_goalThings : Int32} {z_anewPrice : Int32} {z_knownLevels : Int32} {z_standCount : Int32} {z_stepCount : Int32} {H : Heap} {r : Int32} (hB : fr_BX p s m args meth c cX2_isFull (some .boolean) 1 RX2 wsX2_isFull) (hcx : fr_cx D cI cJ cZ cR cN s) (hm : m_X2_isFull z_length = r) {locs : List Loc} {ls : Array Slot} (hP : va_P D vwCl [(a_z, .inr (ob_X2 a_z_roads z_length z_goalRoom z_goalThings z_anewPrice a_z_fewest a_z_chances z_knownLevels a_z_stands a_z_isListed z_standCount a_z_stepRoads a_z_stepThings z_stepCount))] H) (hS : va_S (fun _ => False) s.heap H locs) (hl : lv_has ls 1 [(0, .ref a_z)]) : W p l e ({ frames := 0, cells := 0, slots := 0, locals := 0 } : Room) s m args below meth c H locs 0 0 (MQ below (fr_Ri H r) args s 0 0 (fun _ => False)) (F0 m 0 ls []) := by
  obtain ⟨hx, hb, hr, hml, hown, hts, hlocks⟩ := id hB
  have hK := hcx.1
  unfold m_X2_isFull at hm
  refine lv_aload_n hx hb dX2_isFull_0 rfl (lv_at hl 0 rfl) ?_
  refine va_get (D := D) (ci := 2) (v := .int z_length) (C := RX2) (T := TX2) (N := 14) hx hb hts in_X2_isFull_X2 hown hK hP 0 rfl rfl 1 (by decide) (hts (.fieldLink RX2 46 "FastestRun$RoadMap" "length" "I") (List.mem_of_getElem? (i := 1) rfl)) (fun _ h9 => h9) rfl dX2_isFull_1 ?_
  refine lv_bipush (v := (40 : Int32)) hx hb dX2_isFull_4 (by decide) ?_
  refine lv_icmp_lt (tgt := 13) hx hb dX2_isFull_6 (by decide) (fun c_1 => ?_) (fun c_1 => ?_)
  · have hm := fr_tip c_1 hm
    refine lv_iconst (v := (0 : Int32)) hx hb dX2_isFull_13 (by decide) ?_
    exact W.zret (v := (0 : Int32)) hx hb hr rfl (fun t ht hW => ⟨⟨_, (), rfl, hm, ht⟩, hS.F ht⟩) hS.2.2 dX2_isFull_14 hlocks
  · have hm := fr_tin c_1 hm
    refine lv_iconst (v := (1 : Int32)) hx hb dX2_isFull_9 (by decide) ?_
    refine lv_goto (tgt := 14) hx hb dX2_isFull_10 (by decide) ?_
    exact W.zret (v := (1 : Int32)) hx hb hr rfl (fun t ht hW => ⟨⟨_, (), rfl, hm, ht⟩, hS.F ht⟩) hS.2.2 dX2_isFull_14 hlocks
set_option maxHeartbeats 4000000 in
set_option maxRecDepth 100000 in
theorem c_X2_isFull {l : Launch} {D : va_G} {cI cJ cZ cR cN : ClassId} {a_z a_z_roads a_z_fewest a_z_chances a_z_stands a_z_isListed a_z_stepRoads a_z_stepThings : Nat} {z_length : Int32} {z_goalRoom : Int32} {z_goalThings : Int32} {z_anewPrice : Int32} {z_knownLevels : Int32} {z_standCount : Int32} {z_stepCount : Int32} {H0 : Heap} (hP : va_P D vwCl [(a_z, .inr (ob_X2 a_z_roads z_length z_goalRoom z_goalThings z_anewPrice a_z_fewest a_z_chances z_knownLevels a_z_stands a_z_isListed z_standCount a_z_stepRoads a_z_stepThings z_stepCount))] H0) : Met l yX2_isFull wsX2_isFull ({ frames := 0, cells := 0, slots := 0, locals := 0 } : Room) (fr_Pr D cI cJ cZ cR cN [.ref a_z] H0) (fr_Ri H0 (m_X2_isFull z_length)) 0 0 (fun _ => False) := by
  refine fr_ofW (cc := cX2_isFull) (maxL := 1) (ret := (some .boolean)) (by decide +kernel) rfl ?_
  intro p e s m args below meth c s₁ B hml hv
  obtain ⟨rfl, hH, hcx⟩ := hv
  subst hH
  have hB : fr_BX p s m _ meth c cX2_isFull (some .boolean) 1 RX2 wsX2_isFull := ⟨B.exec, B.bytes, B.returns, hml, findClass_of_methodNamed B.named, atoms_spec (ws := wsX2_isFull) B.pre, B.notSynchronized⟩
  have hl := lv_entry ([.ref a_z]) (n := 1) (Nat.le_of_ble_eq_true rfl)
  rw [lg_entry_eq]
  generalize (lg_sl ([.ref a_z]) ++ List.replicate (1 - (lg_sl ([.ref a_z])).length) Slot.unset).toArray = ls at hl ⊢
  have hl : lv_has ls 1 [(0, .ref a_z)] := hl
  exact t_X2_isFull_0 hB hcx rfl hP va_S.rf hl
theorem in_X2_hasRoad_X2 : ∀ w ∈ wsX20, w ∈ wsX2_hasRoad := fun w h => List.mem_cons_of_mem _ (List.mem_append_right _ h)
set_option maxHeartbeats 4000000 in
set_option maxRecDepth 100000 in
theorem t_X2_hasRoad_0 {p : Program} {l : Launch} {e : Env} {s : State} {m : MethodId} {args : Array Value} {below : List Frame} {meth : Method} {c : Code} {D : va_G} {cI cJ cZ cR cN : ClassId} {a_z a_z_roads a_z_fewest a_z_chances a_z_stands a_z_isListed a_z_stepRoads a_z_stepThings : Nat} {z_length : Int32} {z_goalRoom : Int32} {z_goalThings : Int32} {z_anewPrice : Int32} {z_knownLevels : Int32} {z_standCount : Int32} {z_stepCount : Int32} {x1 : Int32} {H : Heap} {r : Int32} (hB : fr_BX p s m args meth c cX2_hasRoad (some .boolean) 2 RX2 wsX2_hasRoad) (hcx : fr_cx D cI cJ cZ cR cN s) (hm : m_X2_hasRoad z_length x1 = r) {locs : List Loc} {ls : Array Slot} (hP : va_P D vwCl [(a_z, .inr (ob_X2 a_z_roads z_length z_goalRoom z_goalThings z_anewPrice a_z_fewest a_z_chances z_knownLevels a_z_stands a_z_isListed z_standCount a_z_stepRoads a_z_stepThings z_stepCount))] H) (hS : va_S (fun _ => False) s.heap H locs) (hl : lv_has ls 2 [(0, .ref a_z), (1, .int x1)]) : W p l e ({ frames := 0, cells := 0, slots := 0, locals := 0 } : Room) s m args below meth c H locs 0 0 (MQ below (fr_Ri H r) args s 0 0 (fun _ => False)) (F0 m 0 ls []) := by
  obtain ⟨hx, hb, hr, hml, hown, hts, hlocks⟩ := id hB
  have hK := hcx.1
  unfold m_X2_hasRoad at hm
  refine lv_iload_n hx hb dX2_hasRoad_0 rfl (lv_at hl 1 rfl) ?_
  refine lv_if_lt (tgt := 16) hx hb dX2_hasRoad_1 (by decide) (fun c_1 => ?_) (fun c_1 => ?_)
  · have hm := fr_tip c_1 hm
    refine lv_iconst (v := (0 : Int32)) hx hb dX2_hasRoad_16 (by decide) ?_
    exact W.zret (v := (0 : Int32)) hx hb hr rfl (fun t ht hW => ⟨⟨_, (), rfl, hm, ht⟩, hS.F ht⟩) hS.2.2 dX2_hasRoad_17 hlocks
  · have hm := fr_tin c_1 hm
    refine lv_iload_n hx hb dX2_hasRoad_4 rfl (lv_at hl 1 rfl) ?_
    refine lv_aload_n hx hb dX2_hasRoad_5 rfl (lv_at hl 0 rfl) ?_
    refine va_get (D := D) (ci := 2) (v := .int z_length) (C := RX2) (T := TX2) (N := 14) hx hb hts in_X2_hasRoad_X2 hown hK hP 0 rfl rfl 1 (by decide) (hts (.fieldLink RX2 46 "FastestRun$RoadMap" "length" "I") (List.mem_of_getElem? (i := 1) rfl)) (fun _ h9 => h9) rfl dX2_hasRoad_6 ?_
    refine lv_icmp_ge (tgt := 16) hx hb dX2_hasRoad_9 (by decide) (fun c_2 => ?_) (fun c_2 => ?_)
    · have hm := fr_tip c_2 hm
      refine lv_iconst (v := (0 : Int32)) hx hb dX2_hasRoad_16 (by decide) ?_
      exact W.zret (v := (0 : Int32)) hx hb hr rfl (fun t ht hW => ⟨⟨_, (), rfl, hm, ht⟩, hS.F ht⟩) hS.2.2 dX2_hasRoad_17 hlocks
    · have hm := fr_tin c_2 hm
      refine lv_iconst (v := (1 : Int32)) hx hb dX2_hasRoad_12 (by decide) ?_
      refine lv_goto (tgt := 17) hx hb dX2_hasRoad_13 (by decide) ?_
      exact W.zret (v := (1 : Int32)) hx hb hr rfl (fun t ht hW => ⟨⟨_, (), rfl, hm, ht⟩, hS.F ht⟩) hS.2.2 dX2_hasRoad_17 hlocks
set_option maxHeartbeats 4000000 in
set_option maxRecDepth 100000 in
theorem c_X2_hasRoad {l : Launch} {D : va_G} {cI cJ cZ cR cN : ClassId} {a_z a_z_roads a_z_fewest a_z_chances a_z_stands a_z_isListed a_z_stepRoads a_z_stepThings : Nat} {z_length : Int32} {z_goalRoom : Int32} {z_goalThings : Int32} {z_anewPrice : Int32} {z_knownLevels : Int32} {z_standCount : Int32} {z_stepCount : Int32} {x1 : Int32} {H0 : Heap} (hP : va_P D vwCl [(a_z, .inr (ob_X2 a_z_roads z_length z_goalRoom z_goalThings z_anewPrice a_z_fewest a_z_chances z_knownLevels a_z_stands a_z_isListed z_standCount a_z_stepRoads a_z_stepThings z_stepCount))] H0) : Met l yX2_hasRoad wsX2_hasRoad ({ frames := 0, cells := 0, slots := 0, locals := 0 } : Room) (fr_Pr D cI cJ cZ cR cN [.ref a_z, .int x1] H0) (fr_Ri H0 (m_X2_hasRoad z_length x1)) 0 0 (fun _ => False) := by
  refine fr_ofW (cc := cX2_hasRoad) (maxL := 2) (ret := (some .boolean)) (by decide +kernel) rfl ?_
  intro p e s m args below meth c s₁ B hml hv
  obtain ⟨rfl, hH, hcx⟩ := hv
  subst hH
  have hB : fr_BX p s m _ meth c cX2_hasRoad (some .boolean) 2 RX2 wsX2_hasRoad := ⟨B.exec, B.bytes, B.returns, hml, findClass_of_methodNamed B.named, atoms_spec (ws := wsX2_hasRoad) B.pre, B.notSynchronized⟩
  have hl := lv_entry ([.ref a_z, .int x1]) (n := 2) (Nat.le_of_ble_eq_true rfl)
  rw [lg_entry_eq]
  generalize (lg_sl ([.ref a_z, .int x1]) ++ List.replicate (2 - (lg_sl ([.ref a_z, .int x1])).length) Slot.unset).toArray = ls at hl ⊢
  have hl : lv_has ls 2 [(0, .ref a_z), (1, .int x1)] := hl
  exact t_X2_hasRoad_0 hB hcx rfl hP va_S.rf hl
theorem in_X2_forgetChances_X2 : ∀ w ∈ wsX20, w ∈ wsX2_forgetChances := fun w h => List.mem_cons_of_mem _ (List.mem_append_right _ h)
set_option maxHeartbeats 4000000 in
set_option maxRecDepth 100000 in
theorem t_X2_forgetChances_7 {p : Program} {l : Launch} {e : Env} {s : State} {m : MethodId} {args : Array Value} {below : List Frame} {meth : Method} {c : Code} {D : va_G} {cI cJ cZ cR cN : ClassId} {A : Nat → Prop} {a_z a_z_roads a_z_fewest a_z_chances a_z_stands a_z_isListed a_z_stepRoads a_z_stepThings : Nat} {z_length : Int32} {z_goalRoom : Int32} {z_goalThings : Int32} {z_anewPrice : Int32} {z_knownLevels : Int32} {z_stands : Nat → Int32} {F : Nat} {z_standCount' : Int32} {z_stepCount' : Int32} {z_isListed' : Nat → Int32} (hB : fr_BX p s m args meth c cX2_forgetChances none 2 RX2 wsX2_forgetChances) (hcx : fr_cx D cI cJ cZ cR cN s) (hA : ∀ q, s.heap.size ≤ q → A q) : ∀ (n : Nat) (z_standCount : Int32) (z_stepCount : Int32) (z_isListed : Nat → Int32) (v1 : Int32) (H : Heap) (locs : List Loc) (ls : Array Slot), m_X2_forgetChances_b7 F z_stands n z_standCount z_stepCount z_isListed v1 = some (z_standCount', z_stepCount', z_isListed') → va_P D vwCl [(a_z, .inr (ob_X2 a_z_roads z_length z_goalRoom z_goalThings z_anewPrice a_z_fewest a_z_chances z_knownLevels a_z_stands a_z_isListed z_standCount a_z_stepRoads a_z_stepThings z_stepCount)), (a_z_stands, .inl (cI, 160, .inl z_stands)), (a_z_isListed, .inl (cZ, 160, .inl z_isListed))] H → va_D A [(a_z, .inr (ob_X2 a_z_roads z_length z_goalRoom z_goalThings z_anewPrice a_z_fewest a_z_chances z_knownLevels a_z_stands a_z_isListed z_standCount a_z_stepRoads a_z_stepThings z_stepCount)), (a_z_stands, .inl (cI, 160, .inl z_stands)), (a_z_isListed, .inl (cZ, 160, .inl z_isListed))] → va_S A s.heap H locs → lv_has ls 2 [(0, .ref a_z), (1, .int v1)] → W p l e ({ frames := 0, cells := 0, slots := 0, locals := 0 } : Room) s m args below meth c H locs 0 0 (MQ below (fr_Wv D [(a_z, .inr (ob_X2 a_z_roads z_length z_goalRoom z_goalThings z_anewPrice a_z_fewest a_z_chances z_knownLevels a_z_stands a_z_isListed z_standCount' a_z_stepRoads a_z_stepThings z_stepCount')), (a_z_stands, .inl (cI, 160, .inl z_stands)), (a_z_isListed, .inl (cZ, 160, .inl z_isListed'))] A) args s 0 0 A) (F0 m 7 ls []) := by
  obtain ⟨hx, hb, hr, hml, hown, hts, hlocks⟩ := id hB
  have hK := hcx.1
  intro n
  induction n with
  | zero =>
    intro z_standCount z_stepCount z_isListed v1 H locs ls hm
    have hm : none = some _ := hm
    cases hm
  | succ n ih =>
    intro z_standCount z_stepCount z_isListed v1 H locs ls hm hP hD hS hl
    rw [m_X2_forgetChances_b7] at hm
    refine lv_iload_n hx hb dX2_forgetChances_7 rfl (lv_at hl 1 rfl) ?_
    refine lv_aload_n hx hb dX2_forgetChances_8 rfl (lv_at hl 0 rfl) ?_
    refine va_get (D := D) (ci := 2) (v := .int z_standCount) (C := RX2) (T := TX2) (N := 14) hx hb hts in_X2_forgetChances_X2 hown hK hP 0 rfl rfl 10 (by decide) (hts (.fieldLink RX2 56 "FastestRun$RoadMap" "standCount" "I") (List.mem_of_getElem? (i := 2) rfl)) (fun _ h9 => h9) rfl dX2_forgetChances_9 ?_
    refine lv_icmp_ge (tgt := 33) hx hb dX2_forgetChances_12 (by decide) (fun c_1 => ?_) (fun c_1 => ?_)
    · have hm := fr_ifp c_1 hm
      refine lv_aload_n hx hb dX2_forgetChances_33 rfl (lv_at hl 0 rfl) ?_
      refine lv_iconst (v := (0 : Int32)) hx hb dX2_forgetChances_34 (by decide) ?_
      refine va_put (D := D) (ci := 2) (v := .int (0 : Int32)) (ty := .int) (C := RX2) (T := TX2) (N := 14) hx hb hts in_X2_forgetChances_X2 tyX2 tyX2_ok nmX2 hown hK hP hD hS 0 rfl rfl 10 (by decide) (hts (.fieldLink RX2 56 "FastestRun$RoadMap" "standCount" "I") (List.mem_of_getElem? (i := 2) rfl)) (fun _ h9 => h9) rfl (by decide +kernel) rfl rfl (Nat.le_of_ble_eq_true rfl) dX2_forgetChances_35 (fun H locs hP hD hS => ?_)
      have hP : va_P D vwCl [(a_z, .inr (ob_X2 a_z_roads z_length z_goalRoom z_goalThings z_anewPrice a_z_fewest a_z_chances z_knownLevels a_z_stands a_z_isListed (0 : Int32) a_z_stepRoads a_z_stepThings z_stepCount)), (a_z_stands, .inl (cI, 160, .inl z_stands)), (a_z_isListed, .inl (cZ, 160, .inl z_isListed))] H := hP
      have hD : va_D A [(a_z, .inr (ob_X2 a_z_roads z_length z_goalRoom z_goalThings z_anewPrice a_z_fewest a_z_chances z_knownLevels a_z_stands a_z_isListed (0 : Int32) a_z_stepRoads a_z_stepThings z_stepCount)), (a_z_stands, .inl (cI, 160, .inl z_stands)), (a_z_isListed, .inl (cZ, 160, .inl z_isListed))] := hD
      cases hm
      exact W.vret hx hb hr (fun t ht hW => ⟨⟨(), rfl, trivial, by rw [ht]; exact hP, hD⟩, hS.F ht⟩) hS.2.2 dX2_forgetChances_38 hlocks
    · have hm := fr_ifn c_1 hm
      refine lv_aload_n hx hb dX2_forgetChances_15 rfl (lv_at hl 0 rfl) ?_
      refine va_get (D := D) (ci := 2) (v := .ref a_z_isListed) (C := RX2) (T := TX2) (N := 14) hx hb hts in_X2_forgetChances_X2 hown hK hP 0 rfl rfl 9 (by decide) (hts (.fieldLink RX2 28 "FastestRun$RoadMap" "isListed" "[Z") (List.mem_of_getElem? (i := 3) rfl)) (fun _ h9 => h9) rfl dX2_forgetChances_16 ?_
      refine lv_aload_n hx hb dX2_forgetChances_19 rfl (lv_at hl 0 rfl) ?_
      refine va_get (D := D) (ci := 2) (v := .ref a_z_stands) (C := RX2) (T := TX2) (N := 14) hx hb hts in_X2_forgetChances_X2 hown hK hP 0 rfl rfl 8 (by decide) (hts (.fieldLink RX2 25 "FastestRun$RoadMap" "stands" "[I") (List.mem_of_getElem? (i := 4) rfl)) (fun _ h9 => h9) rfl dX2_forgetChances_20 ?_
      refine lv_iload_n hx hb dX2_forgetChances_23 rfl (lv_at hl 1 rfl) ?_
      obtain ⟨h_2, hm⟩ := fr_ck hm
      refine va_iald hx hb hK hP 1 0 rfl rfl h_2 dX2_forgetChances_24 ?_
      refine lv_iconst (v := (0 : Int32)) hx hb dX2_forgetChances_25 (by decide) ?_
      obtain ⟨h_3, hm⟩ := fr_ck hm
      refine va_zast hx hb hK hP hD hS 2 2 rfl rfl h_3 dX2_forgetChances_26 (fun H locs hP hD hS => ?_)
      have hP : va_P D vwCl [(a_z, .inr (ob_X2 a_z_roads z_length z_goalRoom z_goalThings z_anewPrice a_z_fewest a_z_chances z_knownLevels a_z_stands a_z_isListed z_standCount a_z_stepRoads a_z_stepThings z_stepCount)), (a_z_stands, .inl (cI, 160, .inl z_stands)), (a_z_isListed, .inl (cZ, 160, .inl (upd z_isListed (z_stands v1.toNatClampNeg).toNatClampNeg (vp_nar .boolean (0 : Int32)))))] H := hP
      have hD : va_D A [(a_z, .inr (ob_X2 a_z_roads z_length z_goalRoom z_goalThings z_anewPrice a_z_fewest a_z_chances z_knownLevels a_z_stands a_z_isListed z_standCount a_z_stepRoads a_z_stepThings z_stepCount)), (a_z_stands, .inl (cI, 160, .inl z_stands)), (a_z_isListed, .inl (cZ, 160, .inl (upd z_isListed (z_stands v1.toNatClampNeg).toNatClampNeg (vp_nar .boolean (0 : Int32)))))] := hD
      refine lv_iinc (v := (v1 + 1)) (lv' := [(1, .int (v1 + 1)), (0, .ref a_z)]) hx hb dX2_forgetChances_27 hl (k := 1) rfl rfl (by decide) rfl (fun ls hl => ?_)
      refine lv_goto (tgt := 7) hx hb dX2_forgetChances_30 (by decide) ?_
      exact ih _ _ _ _ _ _ _ hm hP hD hS (lv_sub hl [1, 0] rfl)
set_option maxHeartbeats 4000000 in
set_option maxRecDepth 100000 in
theorem t_X2_forgetChances_0 {p : Program} {l : Launch} {e : Env} {s : State} {m : MethodId} {args : Array Value} {below : List Frame} {meth : Method} {c : Code} {D : va_G} {cI cJ cZ cR cN : ClassId} {A : Nat → Prop} {a_z a_z_roads a_z_fewest a_z_chances a_z_stands a_z_isListed a_z_stepRoads a_z_stepThings : Nat} {z_length : Int32} {z_goalRoom : Int32} {z_goalThings : Int32} {z_anewPrice : Int32} {z_knownLevels : Int32} {z_standCount : Int32} {z_stepCount : Int32} {z_stands : Nat → Int32} {z_isListed : Nat → Int32} {F : Nat} {H : Heap} {z_standCount' : Int32} {z_stepCount' : Int32} {z_isListed' : Nat → Int32} (hB : fr_BX p s m args meth c cX2_forgetChances none 2 RX2 wsX2_forgetChances) (hcx : fr_cx D cI cJ cZ cR cN s) (hA : ∀ q, s.heap.size ≤ q → A q) (hm : m_X2_forgetChances F z_stands z_standCount z_stepCount z_isListed = some (z_standCount', z_stepCount', z_isListed')) {locs : List Loc} {ls : Array Slot} (hP : va_P D vwCl [(a_z, .inr (ob_X2 a_z_roads z_length z_goalRoom z_goalThings z_anewPrice a_z_fewest a_z_chances z_knownLevels a_z_stands a_z_isListed z_standCount a_z_stepRoads a_z_stepThings z_stepCount)), (a_z_stands, .inl (cI, 160, .inl z_stands)), (a_z_isListed, .inl (cZ, 160, .inl z_isListed))] H) (hD : va_D A [(a_z, .inr (ob_X2 a_z_roads z_length z_goalRoom z_goalThings z_anewPrice a_z_fewest a_z_chances z_knownLevels a_z_stands a_z_isListed z_standCount a_z_stepRoads a_z_stepThings z_stepCount)), (a_z_stands, .inl (cI, 160, .inl z_stands)), (a_z_isListed, .inl (cZ, 160, .inl z_isListed))]) (hS : va_S A s.heap H locs) (hl : lv_has ls 2 [(0, .ref a_z)]) : W p l e ({ frames := 0, cells := 0, slots := 0, locals := 0 } : Room) s m args below meth c H locs 0 0 (MQ below (fr_Wv D [(a_z, .inr (ob_X2 a_z_roads z_length z_goalRoom z_goalThings z_anewPrice a_z_fewest a_z_chances z_knownLevels a_z_stands a_z_isListed z_standCount' a_z_stepRoads a_z_stepThings z_stepCount')), (a_z_stands, .inl (cI, 160, .inl z_stands)), (a_z_isListed, .inl (cZ, 160, .inl z_isListed'))] A) args s 0 0 A) (F0 m 0 ls []) := by
  obtain ⟨hx, hb, hr, hml, hown, hts, hlocks⟩ := id hB
  have hK := hcx.1
  unfold m_X2_forgetChances at hm
  refine lv_aload_n hx hb dX2_forgetChances_0 rfl (lv_at hl 0 rfl) ?_
  refine lv_iconst (v := (0 : Int32)) hx hb dX2_forgetChances_1 (by decide) ?_
  refine va_put (D := D) (ci := 2) (v := .int (0 : Int32)) (ty := .int) (C := RX2) (T := TX2) (N := 14) hx hb hts in_X2_forgetChances_X2 tyX2 tyX2_ok nmX2 hown hK hP hD hS 0 rfl rfl 13 (by decide) (hts (.fieldLink RX2 53 "FastestRun$RoadMap" "stepCount" "I") (List.mem_of_getElem? (i := 1) rfl)) (fun _ h9 => h9) rfl (by decide +kernel) rfl rfl (Nat.le_of_ble_eq_true rfl) dX2_forgetChances_2 (fun H locs hP hD hS => ?_)
  have hP : va_P D vwCl [(a_z, .inr (ob_X2 a_z_roads z_length z_goalRoom z_goalThings z_anewPrice a_z_fewest a_z_chances z_knownLevels a_z_stands a_z_isListed z_standCount a_z_stepRoads a_z_stepThings (0 : Int32))), (a_z_stands, .inl (cI, 160, .inl z_stands)), (a_z_isListed, .inl (cZ, 160, .inl z_isListed))] H := hP
  have hD : va_D A [(a_z, .inr (ob_X2 a_z_roads z_length z_goalRoom z_goalThings z_anewPrice a_z_fewest a_z_chances z_knownLevels a_z_stands a_z_isListed z_standCount a_z_stepRoads a_z_stepThings (0 : Int32))), (a_z_stands, .inl (cI, 160, .inl z_stands)), (a_z_isListed, .inl (cZ, 160, .inl z_isListed))] := hD
  refine lv_iconst (v := (0 : Int32)) hx hb dX2_forgetChances_5 (by decide) ?_
  refine lv_istore_n (lv' := [(1, .int (0 : Int32)), (0, .ref a_z)]) hx hb dX2_forgetChances_6 rfl hl (by decide) rfl (fun ls hl => ?_)
  exact t_X2_forgetChances_7 hB hcx hA _ _ _ _ _ _ _ _ hm hP hD hS (lv_sub hl [1, 0] rfl)
set_option maxHeartbeats 4000000 in
set_option maxRecDepth 100000 in
theorem c_X2_forgetChances {l : Launch} {D : va_G} {cI cJ cZ cR cN : ClassId} {a_z a_z_roads a_z_fewest a_z_chances a_z_stands a_z_isListed a_z_stepRoads a_z_stepThings : Nat} {z_length : Int32} {z_goalRoom : Int32} {z_goalThings : Int32} {z_anewPrice : Int32} {z_knownLevels : Int32} {z_standCount : Int32} {z_stepCount : Int32} {z_stands : Nat → Int32} {z_isListed : Nat → Int32} {F : Nat} {z_standCount' : Int32} {z_stepCount' : Int32} {z_isListed' : Nat → Int32} {sz : Nat} (hm : m_X2_forgetChances F z_stands z_standCount z_stepCount z_isListed = some (z_standCount', z_stepCount', z_isListed')) : Met l yX2_forgetChances wsX2_forgetChances ({ frames := 0, cells := 0, slots := 0, locals := 0 } : Room) (fr_Pw D cI cJ cZ cR cN [.ref a_z] [(a_z, .inr (ob_X2 a_z_roads z_length z_goalRoom z_goalThings z_anewPrice a_z_fewest a_z_chances z_knownLevels a_z_stands a_z_isListed z_standCount a_z_stepRoads a_z_stepThings z_stepCount)), (a_z_stands, .inl (cI, 160, .inl z_stands)), (a_z_isListed, .inl (cZ, 160, .inl z_isListed))] sz) (fr_Wv D [(a_z, .inr (ob_X2 a_z_roads z_length z_goalRoom z_goalThings z_anewPrice a_z_fewest a_z_chances z_knownLevels a_z_stands a_z_isListed z_standCount' a_z_stepRoads a_z_stepThings z_stepCount')), (a_z_stands, .inl (cI, 160, .inl z_stands)), (a_z_isListed, .inl (cZ, 160, .inl z_isListed'))] (va_A [(a_z, .inr (ob_X2 a_z_roads z_length z_goalRoom z_goalThings z_anewPrice a_z_fewest a_z_chances z_knownLevels a_z_stands a_z_isListed z_standCount a_z_stepRoads a_z_stepThings z_stepCount)), (a_z_stands, .inl (cI, 160, .inl z_stands)), (a_z_isListed, .inl (cZ, 160, .inl z_isListed))] sz)) 0 0 (va_A [(a_z, .inr (ob_X2 a_z_roads z_length z_goalRoom z_goalThings z_anewPrice a_z_fewest a_z_chances z_knownLevels a_z_stands a_z_isListed z_standCount a_z_stepRoads a_z_stepThings z_stepCount)), (a_z_stands, .inl (cI, 160, .inl z_stands)), (a_z_isListed, .inl (cZ, 160, .inl z_isListed))] sz) := by
  refine fr_ofW (cc := cX2_forgetChances) (maxL := 2) (ret := none) (by decide +kernel) rfl ?_
  intro p e s m args below meth c s₁ B hml hv
  obtain ⟨rfl, hsz, hP, hD0, hcx⟩ := hv
  subst hsz
  have hD := hD0.self (sz := s.heap.size)
  have hB : fr_BX p s m _ meth c cX2_forgetChances none 2 RX2 wsX2_forgetChances := ⟨B.exec, B.bytes, B.returns, hml, findClass_of_methodNamed B.named, atoms_spec (ws := wsX2_forgetChances) B.pre, B.notSynchronized⟩
  have hl := lv_entry ([.ref a_z]) (n := 2) (Nat.le_of_ble_eq_true rfl)
  rw [lg_entry_eq]
  generalize (lg_sl ([.ref a_z]) ++ List.replicate (2 - (lg_sl ([.ref a_z])).length) Slot.unset).toArray = ls at hl ⊢
  have hl : lv_has ls 2 [(0, .ref a_z)] := hl
  exact t_X2_forgetChances_0 hB hcx (fun q h => Or.inr h) hm hP hD va_S.rf hl
theorem in_X2_openNext_X2 : ∀ w ∈ wsX20, w ∈ wsX2_openNext := fun w h => List.mem_cons_of_mem _ (List.mem_append_right _ h)
set_option maxHeartbeats 4000000 in
set_option maxRecDepth 100000 in
theorem t_X2_openNext_0 {p : Program} {l : Launch} {e : Env} {s : State} {m : MethodId} {args : Array Value} {below : List Frame} {meth : Method} {c : Code} {D : va_G} {cI cJ cZ cR cN : ClassId} {A : Nat → Prop} {a_z a_z_roads a_z_fewest a_z_chances a_z_stands a_z_isListed a_z_stepRoads a_z_stepThings : Nat} {z_length : Int32} {z_goalRoom : Int32} {z_goalThings : Int32} {z_anewPrice : Int32} {z_knownLevels : Int32} {z_standCount : Int32} {z_stepCount : Int32} {z_stands : Nat → Int32} {z_isListed : Nat → Int32} {F : Nat} {H : Heap} {r : Int32} {z_length' : Int32} {z_standCount' : Int32} {z_stepCount' : Int32} {z_isListed' : Nat → Int32} (hB : fr_BX p s m args meth c cX2_openNext (some .int) 1 RX2 wsX2_openNext) (hcx : fr_cx D cI cJ cZ cR cN s) (hA : ∀ q, s.heap.size ≤ q → A q) (hm : m_X2_openNext F z_stands z_length z_standCount z_stepCount z_isListed = some (r, z_length', z_standCount', z_stepCount', z_isListed')) {locs : List Loc} {ls : Array Slot} (hP : va_P D vwCl [(a_z, .inr (ob_X2 a_z_roads z_length z_goalRoom z_goalThings z_anewPrice a_z_fewest a_z_chances z_knownLevels a_z_stands a_z_isListed z_standCount a_z_stepRoads a_z_stepThings z_stepCount)), (a_z_stands, .inl (cI, 160, .inl z_stands)), (a_z_isListed, .inl (cZ, 160, .inl z_isListed))] H) (hD : va_D A [(a_z, .inr (ob_X2 a_z_roads z_length z_goalRoom z_goalThings z_anewPrice a_z_fewest a_z_chances z_knownLevels a_z_stands a_z_isListed z_standCount a_z_stepRoads a_z_stepThings z_stepCount)), (a_z_stands, .inl (cI, 160, .inl z_stands)), (a_z_isListed, .inl (cZ, 160, .inl z_isListed))]) (hS : va_S A s.heap H locs) (hl : lv_has ls 1 [(0, .ref a_z)]) : W p l e ({ frames := 1, cells := 0, slots := 0, locals := 21 } : Room) s m args below meth c H locs 0 0 (MQ below (fr_Wi D [(a_z, .inr (ob_X2 a_z_roads z_length' z_goalRoom z_goalThings z_anewPrice a_z_fewest a_z_chances z_knownLevels a_z_stands a_z_isListed z_standCount' a_z_stepRoads a_z_stepThings z_stepCount')), (a_z_stands, .inl (cI, 160, .inl z_stands)), (a_z_isListed, .inl (cZ, 160, .inl z_isListed'))] A r) args s 0 0 A) (F0 m 0 ls []) := by
  obtain ⟨hx, hb, hr, hml, hown, hts, hlocks⟩ := id hB
  have hK := hcx.1
  unfold m_X2_openNext at hm
  refine lv_aload_n hx hb dX2_openNext_0 rfl (lv_at hl 0 rfl) ?_
  obtain ⟨o1, hc2, hm⟩ := fr_bd hm
  have hPc : va_P D vwCl [(a_z, .inr (ob_X2 a_z_roads z_length z_goalRoom z_goalThings z_anewPrice a_z_fewest a_z_chances z_knownLevels a_z_stands a_z_isListed z_standCount a_z_stepRoads a_z_stepThings z_stepCount)), (a_z_stands, .inl (cI, 160, .inl z_stands)), (a_z_isListed, .inl (cZ, 160, .inl z_isListed))] H := hP
  have hDc : va_D A [(a_z, .inr (ob_X2 a_z_roads z_length z_goalRoom z_goalThings z_anewPrice a_z_fewest a_z_chances z_knownLevels a_z_stands a_z_isListed z_standCount a_z_stepRoads a_z_stepThings z_stepCount)), (a_z_stands, .inl (cI, 160, .inl z_stands)), (a_z_isListed, .inl (cZ, 160, .inl z_isListed))] := hD
  have hFc := va_free (wc := [(a_z, .inr (ob_X2 a_z_roads z_length z_goalRoom z_goalThings z_anewPrice a_z_fewest a_z_chances z_knownLevels a_z_stands a_z_isListed z_standCount a_z_stepRoads a_z_stepThings z_stepCount)), (a_z_stands, .inl (cI, 160, .inl z_stands)), (a_z_isListed, .inl (cZ, 160, .inl z_isListed))]) hD hS hA [0, 1, 2] rfl
  refine fr_rwv (w1 := [(a_z, .inr (ob_X2 a_z_roads z_length z_goalRoom z_goalThings z_anewPrice a_z_fewest a_z_chances z_knownLevels a_z_stands a_z_isListed o1.1 a_z_stepRoads a_z_stepThings o1.2.1)), (a_z_stands, .inl (cI, 160, .inl z_stands)), (a_z_isListed, .inl (cZ, 160, .inl o1.2.2))]) (wc := [(a_z, .inr (ob_X2 a_z_roads z_length z_goalRoom z_goalThings z_anewPrice a_z_fewest a_z_chances z_knownLevels a_z_stands a_z_isListed z_standCount a_z_stepRoads a_z_stepThings z_stepCount)), (a_z_stands, .inl (cI, 160, .inl z_stands)), (a_z_isListed, .inl (cZ, 160, .inl z_isListed))]) (wr := []) (ws2 := [(a_z, .inr (ob_X2 a_z_roads z_length z_goalRoom z_goalThings z_anewPrice a_z_fewest a_z_chances z_knownLevels a_z_stands a_z_isListed o1.1 a_z_stepRoads a_z_stepThings o1.2.1)), (a_z_stands, .inl (cI, 160, .inl z_stands)), (a_z_isListed, .inl (cZ, 160, .inl o1.2.2))]) (va_runV (As := []) (rest := []) ⟨hx, hb, hml, hown, hts⟩ (c_X2_forgetChances (l := l)  (D := D) (cI := cI) (cJ := cJ) (cZ := cZ) (cR := cR) (cN := cN) (z_standCount' := o1.1) (z_stepCount' := o1.2.1) (z_isListed' := o1.2.2) hc2 (sz := H.size)) (cwV 0 hts gX2_openNext_X2_forgetChances rfl rfl rfl (by decide +kernel) ⟨Nat.le_of_ble_eq_true rfl, Nat.le_of_ble_eq_true rfl⟩) (fr_pvw hcx hPc hDc (va_recv hK hP (ci := 2) (q0 := 0) rfl rfl)) rfl rfl hl.1 rfl (lv_room (Nat.le_of_ble_eq_true rfl)) dX2_openNext_1 ⟨Nat.zero_le _, Nat.zero_le _⟩) hS hP hD hFc [0, 1, 2] [] [0, 1, 2] rfl rfl (by decide) (by decide) (by decide) rfl (fun H locs hP hD hS => ?_)
  refine lv_aload_n hx hb dX2_openNext_4 rfl (lv_at hl 0 rfl) ?_
  refine lv_dup hx hb dX2_openNext_5 rfl ?_
  refine va_get (D := D) (ci := 2) (v := .int z_length) (C := RX2) (T := TX2) (N := 14) hx hb hts in_X2_openNext_X2 hown hK hP 0 rfl rfl 1 (by decide) (hts (.fieldLink RX2 46 "FastestRun$RoadMap" "length" "I") (List.mem_of_getElem? (i := 1) rfl)) (fun _ h9 => h9) rfl dX2_openNext_6 ?_
  refine lv_iconst (v := (1 : Int32)) hx hb dX2_openNext_9 (by decide) ?_
  refine lv_iadd hx hb dX2_openNext_10 ?_
  refine va_put (D := D) (ci := 2) (v := .int (z_length + (1 : Int32))) (ty := .int) (C := RX2) (T := TX2) (N := 14) hx hb hts in_X2_openNext_X2 tyX2 tyX2_ok nmX2 hown hK hP hD hS 0 rfl rfl 1 (by decide) (hts (.fieldLink RX2 46 "FastestRun$RoadMap" "length" "I") (List.mem_of_getElem? (i := 1) rfl)) (fun _ h9 => h9) rfl (by decide +kernel) rfl rfl (Nat.le_of_ble_eq_true rfl) dX2_openNext_11 (fun H locs hP hD hS => ?_)
  have hP : va_P D vwCl [(a_z, .inr (ob_X2 a_z_roads (z_length + (1 : Int32)) z_goalRoom z_goalThings z_anewPrice a_z_fewest a_z_chances z_knownLevels a_z_stands a_z_isListed o1.1 a_z_stepRoads a_z_stepThings o1.2.1)), (a_z_stands, .inl (cI, 160, .inl z_stands)), (a_z_isListed, .inl (cZ, 160, .inl o1.2.2))] H := hP
  have hD : va_D A [(a_z, .inr (ob_X2 a_z_roads (z_length + (1 : Int32)) z_goalRoom z_goalThings z_anewPrice a_z_fewest a_z_chances z_knownLevels a_z_stands a_z_isListed o1.1 a_z_stepRoads a_z_stepThings o1.2.1)), (a_z_stands, .inl (cI, 160, .inl z_stands)), (a_z_isListed, .inl (cZ, 160, .inl o1.2.2))] := hD
  refine lv_aload_n hx hb dX2_openNext_14 rfl (lv_at hl 0 rfl) ?_
  refine va_get (D := D) (ci := 2) (v := .int (z_length + (1 : Int32))) (C := RX2) (T := TX2) (N := 14) hx hb hts in_X2_openNext_X2 hown hK hP 0 rfl rfl 1 (by decide) (hts (.fieldLink RX2 46 "FastestRun$RoadMap" "length" "I") (List.mem_of_getElem? (i := 1) rfl)) (fun _ h9 => h9) rfl dX2_openNext_15 ?_
  refine lv_iconst (v := (1 : Int32)) hx hb dX2_openNext_18 (by decide) ?_
  refine lv_isub hx hb dX2_openNext_19 ?_
  cases hm
  exact W.iret hx hb hr (fun t ht hW => ⟨⟨_, (), rfl, rfl, by rw [ht]; exact hP, hD⟩, hS.F ht⟩) hS.2.2 dX2_openNext_20 hlocks
set_option maxHeartbeats 4000000 in
set_option maxRecDepth 100000 in
theorem c_X2_openNext {l : Launch} {D : va_G} {cI cJ cZ cR cN : ClassId} {a_z a_z_roads a_z_fewest a_z_chances a_z_stands a_z_isListed a_z_stepRoads a_z_stepThings : Nat} {z_length : Int32} {z_goalRoom : Int32} {z_goalThings : Int32} {z_anewPrice : Int32} {z_knownLevels : Int32} {z_standCount : Int32} {z_stepCount : Int32} {z_stands : Nat → Int32} {z_isListed : Nat → Int32} {F : Nat} {r : Int32} {z_length' : Int32} {z_standCount' : Int32} {z_stepCount' : Int32} {z_isListed' : Nat → Int32} {sz : Nat} (hm : m_X2_openNext F z_stands z_length z_standCount z_stepCount z_isListed = some (r, z_length', z_standCount', z_stepCount', z_isListed')) : Met l yX2_openNext wsX2_openNext ({ frames := 1, cells := 0, slots := 0, locals := 21 } : Room) (fr_Pw D cI cJ cZ cR cN [.ref a_z] [(a_z, .inr (ob_X2 a_z_roads z_length z_goalRoom z_goalThings z_anewPrice a_z_fewest a_z_chances z_knownLevels a_z_stands a_z_isListed z_standCount a_z_stepRoads a_z_stepThings z_stepCount)), (a_z_stands, .inl (cI, 160, .inl z_stands)), (a_z_isListed, .inl (cZ, 160, .inl z_isListed))] sz) (fr_Wi D [(a_z, .inr (ob_X2 a_z_roads z_length' z_goalRoom z_goalThings z_anewPrice a_z_fewest a_z_chances z_knownLevels a_z_stands a_z_isListed z_standCount' a_z_stepRoads a_z_stepThings z_stepCount')), (a_z_stands, .inl (cI, 160, .inl z_stands)), (a_z_isListed, .inl (cZ, 160, .inl z_isListed'))] (va_A [(a_z, .inr (ob_X2 a_z_roads z_length z_goalRoom z_goalThings z_anewPrice a_z_fewest a_z_chances z_knownLevels a_z_stands a_z_isListed z_standCount a_z_stepRoads a_z_stepThings z_stepCount)), (a_z_stands, .inl (cI, 160, .inl z_stands)), (a_z_isListed, .inl (cZ, 160, .inl z_isListed))] sz) r) 0 0 (va_A [(a_z, .inr (ob_X2 a_z_roads z_length z_goalRoom z_goalThings z_anewPrice a_z_fewest a_z_chances z_knownLevels a_z_stands a_z_isListed z_standCount a_z_stepRoads a_z_stepThings z_stepCount)), (a_z_stands, .inl (cI, 160, .inl z_stands)), (a_z_isListed, .inl (cZ, 160, .inl z_isListed))] sz) := by
  refine fr_ofW (cc := cX2_openNext) (maxL := 1) (ret := (some .int)) (by decide +kernel) rfl ?_
  intro p e s m args below meth c s₁ B hml hv
  obtain ⟨rfl, hsz, hP, hD0, hcx⟩ := hv
  subst hsz
  have hD := hD0.self (sz := s.heap.size)
  have hB : fr_BX p s m _ meth c cX2_openNext (some .int) 1 RX2 wsX2_openNext := ⟨B.exec, B.bytes, B.returns, hml, findClass_of_methodNamed B.named, atoms_spec (ws := wsX2_openNext) B.pre, B.notSynchronized⟩
  have hl := lv_entry ([.ref a_z]) (n := 1) (Nat.le_of_ble_eq_true rfl)
  rw [lg_entry_eq]
  generalize (lg_sl ([.ref a_z]) ++ List.replicate (1 - (lg_sl ([.ref a_z])).length) Slot.unset).toArray = ls at hl ⊢
  have hl : lv_has ls 1 [(0, .ref a_z)] := hl
  exact t_X2_openNext_0 hB hcx (fun q h => Or.inr h) hm hP hD va_S.rf hl
theorem in_X2_isMet_X2 : ∀ w ∈ wsX20, w ∈ wsX2_isMet := fun w h => List.mem_cons_of_mem _ (List.mem_append_right _ h)
set_option maxHeartbeats 4000000 in
set_option maxRecDepth 100000 in
theorem t_X2_isMet_0 {p : Program} {l : Launch} {e : Env} {s : State} {m : MethodId} {args : Array Value} {below : List Frame} {meth : Method} {c : Code} {D : va_G} {cI cJ cZ cR cN : ClassId} {a_z a_z_roads a_z_fewest a_z_chances a_z_stands a_z_isListed a_z_stepRoads a_z_stepThings : Nat} {z_length : Int32} {z_goalRoom : Int32} {z_goalThings : Int32} {z_anewPrice : Int32} {z_knownLevels : Int32} {z_standCount : Int32} {z_stepCount : Int32} {x1 : Int32} {x2 : Int32} {H : Heap} {r : Int32} (hB : fr_BX p s m args meth c cX2_isMet (some .boolean) 3 RX2 wsX2_isMet) (hcx : fr_cx D cI cJ cZ cR cN s) (hm : m_X2_isMet z_goalRoom z_goalThings x1 x2 = r) {locs : List Loc} {ls : Array Slot} (hP : va_P D vwCl [(a_z, .inr (ob_X2 a_z_roads z_length z_goalRoom z_goalThings z_anewPrice a_z_fewest a_z_chances z_knownLevels a_z_stands a_z_isListed z_standCount a_z_stepRoads a_z_stepThings z_stepCount))] H) (hS : va_S (fun _ => False) s.heap H locs) (hl : lv_has ls 3 [(0, .ref a_z), (1, .int x1), (2, .int x2)]) : W p l e ({ frames := 0, cells := 0, slots := 0, locals := 0 } : Room) s m args below meth c H locs 0 0 (MQ below (fr_Ri H r) args s 0 0 (fun _ => False)) (F0 m 0 ls []) := by
  obtain ⟨hx, hb, hr, hml, hown, hts, hlocks⟩ := id hB
  have hK := hcx.1
  unfold m_X2_isMet at hm
  refine lv_iload_n hx hb dX2_isMet_0 rfl (lv_at hl 1 rfl) ?_
  refine lv_aload_n hx hb dX2_isMet_1 rfl (lv_at hl 0 rfl) ?_
  refine va_get (D := D) (ci := 2) (v := .int z_goalRoom) (C := RX2) (T := TX2) (N := 14) hx hb hts in_X2_isMet_X2 hown hK hP 0 rfl rfl 2 (by decide) (hts (.fieldLink RX2 59 "FastestRun$RoadMap" "goalRoom" "I") (List.mem_of_getElem? (i := 1) rfl)) (fun _ h9 => h9) rfl dX2_isMet_2 ?_
  refine lv_icmp_ne (tgt := 25) hx hb dX2_isMet_5 (by decide) (fun c_1 => ?_) (fun c_1 => ?_)
  · have hm := fr_tin c_1 hm
    refine lv_iconst (v := (0 : Int32)) hx hb dX2_isMet_25 (by decide) ?_
    exact W.zret (v := (0 : Int32)) hx hb hr rfl (fun t ht hW => ⟨⟨_, (), rfl, hm, ht⟩, hS.F ht⟩) hS.2.2 dX2_isMet_26 hlocks
  · have hm := fr_tip c_1 hm
    refine lv_iload_n hx hb dX2_isMet_8 rfl (lv_at hl 2 rfl) ?_
    refine lv_aload_n hx hb dX2_isMet_9 rfl (lv_at hl 0 rfl) ?_
    refine va_get (D := D) (ci := 2) (v := .int z_goalThings) (C := RX2) (T := TX2) (N := 14) hx hb hts in_X2_isMet_X2 hown hK hP 0 rfl rfl 3 (by decide) (hts (.fieldLink RX2 62 "FastestRun$RoadMap" "goalThings" "I") (List.mem_of_getElem? (i := 2) rfl)) (fun _ h9 => h9) rfl dX2_isMet_10 ?_
    refine lv_iand hx hb dX2_isMet_13 ?_
    refine lv_aload_n hx hb dX2_isMet_14 rfl (lv_at hl 0 rfl) ?_
    refine va_get (D := D) (ci := 2) (v := .int z_goalThings) (C := RX2) (T := TX2) (N := 14) hx hb hts in_X2_isMet_X2 hown hK hP 0 rfl rfl 3 (by decide) (hts (.fieldLink RX2 62 "FastestRun$RoadMap" "goalThings" "I") (List.mem_of_getElem? (i := 2) rfl)) (fun _ h9 => h9) rfl dX2_isMet_15 ?_
    refine lv_icmp_ne (tgt := 25) hx hb dX2_isMet_18 (by decide) (fun c_2 => ?_) (fun c_2 => ?_)
    · have hm := fr_tin c_2 hm
      refine lv_iconst (v := (0 : Int32)) hx hb dX2_isMet_25 (by decide) ?_
      exact W.zret (v := (0 : Int32)) hx hb hr rfl (fun t ht hW => ⟨⟨_, (), rfl, hm, ht⟩, hS.F ht⟩) hS.2.2 dX2_isMet_26 hlocks
    · have hm := fr_tip c_2 hm
      refine lv_iconst (v := (1 : Int32)) hx hb dX2_isMet_21 (by decide) ?_
      refine lv_goto (tgt := 26) hx hb dX2_isMet_22 (by decide) ?_
      exact W.zret (v := (1 : Int32)) hx hb hr rfl (fun t ht hW => ⟨⟨_, (), rfl, hm, ht⟩, hS.F ht⟩) hS.2.2 dX2_isMet_26 hlocks
set_option maxHeartbeats 4000000 in
set_option maxRecDepth 100000 in
theorem c_X2_isMet {l : Launch} {D : va_G} {cI cJ cZ cR cN : ClassId} {a_z a_z_roads a_z_fewest a_z_chances a_z_stands a_z_isListed a_z_stepRoads a_z_stepThings : Nat} {z_length : Int32} {z_goalRoom : Int32} {z_goalThings : Int32} {z_anewPrice : Int32} {z_knownLevels : Int32} {z_standCount : Int32} {z_stepCount : Int32} {x1 : Int32} {x2 : Int32} {H0 : Heap} (hP : va_P D vwCl [(a_z, .inr (ob_X2 a_z_roads z_length z_goalRoom z_goalThings z_anewPrice a_z_fewest a_z_chances z_knownLevels a_z_stands a_z_isListed z_standCount a_z_stepRoads a_z_stepThings z_stepCount))] H0) : Met l yX2_isMet wsX2_isMet ({ frames := 0, cells := 0, slots := 0, locals := 0 } : Room) (fr_Pr D cI cJ cZ cR cN [.ref a_z, .int x1, .int x2] H0) (fr_Ri H0 (m_X2_isMet z_goalRoom z_goalThings x1 x2)) 0 0 (fun _ => False) := by
  refine fr_ofW (cc := cX2_isMet) (maxL := 3) (ret := (some .boolean)) (by decide +kernel) rfl ?_
  intro p e s m args below meth c s₁ B hml hv
  obtain ⟨rfl, hH, hcx⟩ := hv
  subst hH
  have hB : fr_BX p s m _ meth c cX2_isMet (some .boolean) 3 RX2 wsX2_isMet := ⟨B.exec, B.bytes, B.returns, hml, findClass_of_methodNamed B.named, atoms_spec (ws := wsX2_isMet) B.pre, B.notSynchronized⟩
  have hl := lv_entry ([.ref a_z, .int x1, .int x2]) (n := 3) (Nat.le_of_ble_eq_true rfl)
  rw [lg_entry_eq]
  generalize (lg_sl ([.ref a_z, .int x1, .int x2]) ++ List.replicate (3 - (lg_sl ([.ref a_z, .int x1, .int x2])).length) Slot.unset).toArray = ls at hl ⊢
  have hl : lv_has ls 3 [(0, .ref a_z), (1, .int x1), (2, .int x2)] := hl
  exact t_X2_isMet_0 hB hcx rfl hP va_S.rf hl
theorem in_X2_goSurely_X1 : ∀ w ∈ wsX10, w ∈ wsX2_goSurely := fun w h => List.mem_cons_of_mem _ (List.mem_append_right _ h)
theorem in_X2_goSurely_X2 : ∀ w ∈ wsX20, w ∈ wsX2_goSurely := by decide +kernel
set_option maxHeartbeats 4000000 in
set_option maxRecDepth 100000 in
theorem t_X2_goSurely_93 {p : Program} {l : Launch} {e : Env} {s : State} {m : MethodId} {args : Array Value} {below : List Frame} {meth : Method} {c : Code} {D : va_G} {cI cJ cZ cR cN : ClassId} {A : Nat → Prop} {ad : Nat → Nat} {a_z a_z_roads a_z_fewest a_z_chances a_z_stands a_z_isListed a_z_stepRoads a_z_stepThings : Nat} {z_length : Int32} {z_goalRoom : Int32} {z_goalThings : Int32} {z_anewPrice : Int32} {z_knownLevels : Int32} {z_standCount : Int32} {z_stepCount : Int32} {z_fewest : Nat → Int32} {rd_from : Nat → Int32} {rd_to : Nat → Int32} {rd_needs : Nat → Int32} {rd_gives : Nat → Int32} {rd_ticks : Nat → Int32} {rd_odds : Nat → Int32} {rd_failRoom : Nat → Int32} {rd_failTicks : Nat → Int32} {rd_barred : Nat → Int32} {x1 : Nat} {F : Nat} {v3 : Int32} {v5 : Int32} {v6 : Int32} {H : Heap} {r : Int32} {z_fewest' : Nat → Int32} (hB : fr_BX p s m args meth c cX2_goSurely (some .boolean) 7 RX2 wsX2_goSurely) (hcx : fr_cx D cI cJ cZ cR cN s) (hA : ∀ q, s.heap.size ≤ q → A q) (h_x1 : x1 < 40) {k4_ : (Nat → Int32) → Int32 → Int32 → Option (Int32 × (Nat → Int32))} (hk4 : ∀ (z_fewest : Nat → Int32) (v2 : Int32) (v3 : Int32) (H : Heap) (locs : List Loc) (ls : Array Slot), k4_ z_fewest v2 v3 = some (r, z_fewest') → va_P D vwCl ([(a_z, .inr (ob_X2 a_z_roads z_length z_goalRoom z_goalThings z_anewPrice a_z_fewest a_z_chances z_knownLevels a_z_stands a_z_isListed z_standCount a_z_stepRoads a_z_stepThings z_stepCount)), (a_z_fewest, .inl (cI, 160, .inl z_fewest))] ++ fr_pool ad rd_from rd_to rd_needs rd_gives rd_ticks rd_odds rd_failRoom rd_failTicks rd_barred) H → va_D A ([(a_z, .inr (ob_X2 a_z_roads z_length z_goalRoom z_goalThings z_anewPrice a_z_fewest a_z_chances z_knownLevels a_z_stands a_z_isListed z_standCount a_z_stepRoads a_z_stepThings z_stepCount)), (a_z_fewest, .inl (cI, 160, .inl z_fewest))] ++ fr_pool ad rd_from rd_to rd_needs rd_gives rd_ticks rd_odds rd_failRoom rd_failTicks rd_barred) → va_S A s.heap H locs → lv_has ls 7 [(0, .ref a_z), (1, .ref (ad x1)), (2, .int v2), (3, .int v3)] → W p l e ({ frames := 1, cells := 0, slots := 0, locals := 22 } : Room) s m args below meth c H locs 0 0 (MQ below (fr_Wi D ([(a_z, .inr (ob_X2 a_z_roads z_length z_goalRoom z_goalThings z_anewPrice a_z_fewest a_z_chances z_knownLevels a_z_stands a_z_isListed z_standCount a_z_stepRoads a_z_stepThings z_stepCount)), (a_z_fewest, .inl (cI, 160, .inl z_fewest'))] ++ fr_pool ad rd_from rd_to rd_needs rd_gives rd_ticks rd_odds rd_failRoom rd_failTicks rd_barred) A r) args s 0 0 A) (F0 m 4 ls [])) (hm : m_X2_goSurely_b93 F rd_from rd_to rd_needs rd_gives rd_ticks rd_barred x1 k4_ z_fewest v3 v5 v6 = some (r, z_fewest')) {locs : List Loc} {ls : Array Slot} (hP : va_P D vwCl ([(a_z, .inr (ob_X2 a_z_roads z_length z_goalRoom z_goalThings z_anewPrice a_z_fewest a_z_chances z_knownLevels a_z_stands a_z_isListed z_standCount a_z_stepRoads a_z_stepThings z_stepCount)), (a_z_fewest, .inl (cI, 160, .inl z_fewest))] ++ fr_pool ad rd_from rd_to rd_needs rd_gives rd_ticks rd_odds rd_failRoom rd_failTicks rd_barred) H) (hD : va_D A ([(a_z, .inr (ob_X2 a_z_roads z_length z_goalRoom z_goalThings z_anewPrice a_z_fewest a_z_chances z_knownLevels a_z_stands a_z_isListed z_standCount a_z_stepRoads a_z_stepThings z_stepCount)), (a_z_fewest, .inl (cI, 160, .inl z_fewest))] ++ fr_pool ad rd_from rd_to rd_needs rd_gives rd_ticks rd_odds rd_failRoom rd_failTicks rd_barred)) (hS : va_S A s.heap H locs) (hl : lv_has ls 7 [(0, .ref a_z), (1, .ref (ad x1)), (3, .int v3), (5, .int v5), (6, .int v6)]) : W p l e ({ frames := 1, cells := 0, slots := 0, locals := 22 } : Room) s m args below meth c H locs 0 0 (MQ below (fr_Wi D ([(a_z, .inr (ob_X2 a_z_roads z_length z_goalRoom z_goalThings z_anewPrice a_z_fewest a_z_chances z_knownLevels a_z_stands a_z_isListed z_standCount a_z_stepRoads a_z_stepThings z_stepCount)), (a_z_fewest, .inl (cI, 160, .inl z_fewest'))] ++ fr_pool ad rd_from rd_to rd_needs rd_gives rd_ticks rd_odds rd_failRoom rd_failTicks rd_barred) A r) args s 0 0 A) (F0 m 93 ls []) := by
  obtain ⟨hx, hb, hr, hml, hown, hts, hlocks⟩ := id hB
  have hK := hcx.1
  unfold m_X2_goSurely_b93 at hm
  refine lv_aload_n hx hb dX2_goSurely_93 rfl (lv_at hl 0 rfl) ?_
  refine va_get (D := D) (ci := 2) (v := .ref a_z_fewest) (C := RX2) (T := TX2) (N := 14) hx hb hts in_X2_goSurely_X2 hown hK hP 0 rfl rfl 5 (by decide) (hts (.fieldLink RX2 17 "FastestRun$RoadMap" "fewest" "[I") (List.mem_of_getElem? (i := 1) rfl)) (fun _ h9 => h9) rfl dX2_goSurely_94 ?_
  refine lv_iload hx hb dX2_goSurely_97 (lv_at hl 3 rfl) ?_
  refine lv_iload hx hb dX2_goSurely_99 (lv_at hl 4 rfl) ?_
  obtain ⟨h_10, hm⟩ := fr_ck hm
  refine va_iast hx hb hK hP hD hS 1 0 rfl rfl h_10 dX2_goSurely_101 (fun H locs hP hD hS => ?_)
  have hP : va_P D vwCl ([(a_z, .inr (ob_X2 a_z_roads z_length z_goalRoom z_goalThings z_anewPrice a_z_fewest a_z_chances z_knownLevels a_z_stands a_z_isListed z_standCount a_z_stepRoads a_z_stepThings z_stepCount)), (a_z_fewest, .inl (cI, 160, .inl (upd z_fewest v5.toNatClampNeg v6)))] ++ fr_pool ad rd_from rd_to rd_needs rd_gives rd_ticks rd_odds rd_failRoom rd_failTicks rd_barred) H := hP
  have hD : va_D A ([(a_z, .inr (ob_X2 a_z_roads z_length z_goalRoom z_goalThings z_anewPrice a_z_fewest a_z_chances z_knownLevels a_z_stands a_z_isListed z_standCount a_z_stepRoads a_z_stepThings z_stepCount)), (a_z_fewest, .inl (cI, 160, .inl (upd z_fewest v5.toNatClampNeg v6)))] ++ fr_pool ad rd_from rd_to rd_needs rd_gives rd_ticks rd_odds rd_failRoom rd_failTicks rd_barred) := hD
  refine lv_iconst (v := (1 : Int32)) hx hb dX2_goSurely_102 (by decide) ?_
  refine lv_istore_n (lv' := [(2, .int (1 : Int32)), (0, .ref a_z), (1, .ref (ad x1)), (3, .int v3), (5, .int v5), (6, .int v6)]) hx hb dX2_goSurely_103 rfl hl (by decide) rfl (fun ls hl => ?_)
  refine lv_iinc (v := (v3 + 1)) (lv' := [(3, .int (v3 + 1)), (2, .int (1 : Int32)), (0, .ref a_z), (1, .ref (ad x1)), (5, .int v5), (6, .int v6)]) hx hb dX2_goSurely_104 hl (k := 3) rfl rfl (by decide) rfl (fun ls hl => ?_)
  refine lv_goto (tgt := 4) hx hb dX2_goSurely_107 (by decide) ?_
  exact hk4 _ _ _ _ _ _ hm hP hD hS (lv_sub hl [2, 3, 1, 0] rfl)
set_option maxHeartbeats 4000000 in
set_option maxRecDepth 100000 in
theorem t_X2_goSurely_4 {p : Program} {l : Launch} {e : Env} {s : State} {m : MethodId} {args : Array Value} {below : List Frame} {meth : Method} {c : Code} {D : va_G} {cI cJ cZ cR cN : ClassId} {A : Nat → Prop} {ad : Nat → Nat} {a_z a_z_roads a_z_fewest a_z_chances a_z_stands a_z_isListed a_z_stepRoads a_z_stepThings : Nat} {z_length : Int32} {z_goalRoom : Int32} {z_goalThings : Int32} {z_anewPrice : Int32} {z_knownLevels : Int32} {z_standCount : Int32} {z_stepCount : Int32} {rd_from : Nat → Int32} {rd_to : Nat → Int32} {rd_needs : Nat → Int32} {rd_gives : Nat → Int32} {rd_ticks : Nat → Int32} {rd_odds : Nat → Int32} {rd_failRoom : Nat → Int32} {rd_failTicks : Nat → Int32} {rd_barred : Nat → Int32} {x1 : Nat} {F : Nat} {r : Int32} {z_fewest' : Nat → Int32} (hB : fr_BX p s m args meth c cX2_goSurely (some .boolean) 7 RX2 wsX2_goSurely) (hcx : fr_cx D cI cJ cZ cR cN s) (hA : ∀ q, s.heap.size ≤ q → A q) (h_x1 : x1 < 40) : ∀ (n : Nat) (z_fewest : Nat → Int32) (v2 : Int32) (v3 : Int32) (H : Heap) (locs : List Loc) (ls : Array Slot), m_X2_goSurely_b4 F rd_from rd_to rd_needs rd_gives rd_ticks rd_barred x1 n z_fewest v2 v3 = some (r, z_fewest') → va_P D vwCl ([(a_z, .inr (ob_X2 a_z_roads z_length z_goalRoom z_goalThings z_anewPrice a_z_fewest a_z_chances z_knownLevels a_z_stands a_z_isListed z_standCount a_z_stepRoads a_z_stepThings z_stepCount)), (a_z_fewest, .inl (cI, 160, .inl z_fewest))] ++ fr_pool ad rd_from rd_to rd_needs rd_gives rd_ticks rd_odds rd_failRoom rd_failTicks rd_barred) H → va_D A ([(a_z, .inr (ob_X2 a_z_roads z_length z_goalRoom z_goalThings z_anewPrice a_z_fewest a_z_chances z_knownLevels a_z_stands a_z_isListed z_standCount a_z_stepRoads a_z_stepThings z_stepCount)), (a_z_fewest, .inl (cI, 160, .inl z_fewest))] ++ fr_pool ad rd_from rd_to rd_needs rd_gives rd_ticks rd_odds rd_failRoom rd_failTicks rd_barred) → va_S A s.heap H locs → lv_has ls 7 [(0, .ref a_z), (1, .ref (ad x1)), (2, .int v2), (3, .int v3)] → W p l e ({ frames := 1, cells := 0, slots := 0, locals := 22 } : Room) s m args below meth c H locs 0 0 (MQ below (fr_Wi D ([(a_z, .inr (ob_X2 a_z_roads z_length z_goalRoom z_goalThings z_anewPrice a_z_fewest a_z_chances z_knownLevels a_z_stands a_z_isListed z_standCount a_z_stepRoads a_z_stepThings z_stepCount)), (a_z_fewest, .inl (cI, 160, .inl z_fewest'))] ++ fr_pool ad rd_from rd_to rd_needs rd_gives rd_ticks rd_odds rd_failRoom rd_failTicks rd_barred) A r) args s 0 0 A) (F0 m 4 ls []) := by
  obtain ⟨hx, hb, hr, hml, hown, hts, hlocks⟩ := id hB
  have hK := hcx.1
  intro n
  induction n with
  | zero =>
    intro z_fewest v2 v3 H locs ls hm
    have hm : none = some _ := hm
    cases hm
  | succ n ih =>
    intro z_fewest v2 v3 H locs ls hm hP hD hS hl
    rw [m_X2_goSurely_b4] at hm
    refine lv_iload_n hx hb dX2_goSurely_4 rfl (lv_at hl 3 rfl) ?_
    refine lv_bipush (v := (16 : Int32)) hx hb dX2_goSurely_5 (by decide) ?_
    refine lv_icmp_ge (tgt := 110) hx hb dX2_goSurely_7 (by decide) (fun c_1 => ?_) (fun c_1 => ?_)
    · have hm := fr_ifp c_1 hm
      refine lv_iload_n hx hb dX2_goSurely_110 rfl (lv_at hl 2 rfl) ?_
      obtain ⟨h_2, hm⟩ := fr_ck hm
      cases hm
      exact W.zret hx hb hr (fr_nz h_2) (fun t ht hW => ⟨⟨_, (), rfl, rfl, by rw [ht]; exact hP, hD⟩, hS.F ht⟩) hS.2.2 dX2_goSurely_111 hlocks
    · have hm := fr_ifn c_1 hm
      refine lv_aload_n hx hb dX2_goSurely_10 rfl (lv_at hl 0 rfl) ?_
      refine va_get (D := D) (ci := 2) (v := .ref a_z_fewest) (C := RX2) (T := TX2) (N := 14) hx hb hts in_X2_goSurely_X2 hown hK hP 0 rfl rfl 5 (by decide) (hts (.fieldLink RX2 17 "FastestRun$RoadMap" "fewest" "[I") (List.mem_of_getElem? (i := 1) rfl)) (fun _ h9 => h9) rfl dX2_goSurely_11 ?_
      refine lv_aload_n hx hb dX2_goSurely_14 rfl (lv_at hl 1 rfl) ?_
      refine va_getN (D := D) (ci := 1) (v := .int (rd_from x1)) (C := RX1) (T := TX1) (N := 9) hx hb hts in_X2_goSurely_X1 hown hK hP _ (fr_pl h_x1) rfl 0 (by decide) (va_Nw.use rfl (hcx.2.1 ("FastestRun$RoadMap", 83, "FastestRun$Road", "from", "I") (by decide +kernel))) (fun _ h9 => h9) rfl dX2_goSurely_15 ?_
      refine lv_iload_n hx hb dX2_goSurely_18 rfl (lv_at hl 3 rfl) ?_
      refine fr_roi (va_runS (As := [.int (rd_from x1), .int v3]) (rest := [.ref a_z_fewest]) ⟨hx, hb, hml, hown, hts⟩ (c_X2_standAt (l := l) (x0 := (rd_from x1)) (x1 := v3) (D := D) (cI := cI) (cJ := cJ) (cZ := cZ) (cR := cR) (cN := cN) (H0 := H)) (va_cwS 2 hts gX2_goSurely_X2_standAt rfl rfl rfl (by decide +kernel) ⟨Nat.le_of_ble_eq_true rfl, Nat.le_of_ble_eq_true rfl⟩) (fr_psr hcx) rfl rfl hl.1 rfl (lv_room (Nat.le_of_ble_eq_true rfl)) dX2_goSurely_19 ⟨Nat.zero_le _, Nat.zero_le _⟩) hS (fun locs hS => ?_)
      obtain ⟨h_3, hm⟩ := fr_ck hm
      refine va_iald hx hb hK hP 1 0 rfl rfl h_3 dX2_goSurely_22 ?_
      refine lv_istore (lv' := [(4, .int (z_fewest (m_X2_standAt (rd_from x1) v3).toNatClampNeg)), (0, .ref a_z), (1, .ref (ad x1)), (2, .int v2), (3, .int v3)]) hx hb dX2_goSurely_23 hl (by decide) rfl (fun ls hl => ?_)
      refine lv_iload hx hb dX2_goSurely_25 (lv_at hl 0 rfl) ?_
      refine lv_iconst (v := (-1 : Int32)) hx hb dX2_goSurely_27 (by decide) ?_
      refine lv_icmp_eq (tgt := 104) hx hb dX2_goSurely_28 (by decide) (fun c_4 => ?_) (fun c_4 => ?_)
      · have hm := fr_ifp c_4 hm
        refine lv_iinc (v := (v3 + 1)) (lv' := [(3, .int (v3 + 1)), (4, .int (z_fewest (m_X2_standAt (rd_from x1) v3).toNatClampNeg)), (0, .ref a_z), (1, .ref (ad x1)), (2, .int v2)]) hx hb dX2_goSurely_104 hl (k := 4) rfl rfl (by decide) rfl (fun ls hl => ?_)
        refine lv_goto (tgt := 4) hx hb dX2_goSurely_107 (by decide) ?_
        exact ih _ _ _ _ _ _ hm hP hD hS (lv_sub hl [2, 3, 4, 0] rfl)
      · have hm := fr_ifn c_4 hm
        refine lv_aload_n hx hb dX2_goSurely_31 rfl (lv_at hl 2 rfl) ?_
        refine lv_aload_n hx hb dX2_goSurely_32 rfl (lv_at hl 2 rfl) ?_
        refine va_getN (D := D) (ci := 1) (v := .int (rd_from x1)) (C := RX1) (T := TX1) (N := 9) hx hb hts in_X2_goSurely_X1 hown hK hP _ (fr_pl h_x1) rfl 0 (by decide) (va_Nw.use rfl (hcx.2.1 ("FastestRun$RoadMap", 83, "FastestRun$Road", "from", "I") (by decide +kernel))) (fun _ h9 => h9) rfl dX2_goSurely_33 ?_
        refine lv_iload_n hx hb dX2_goSurely_36 rfl (lv_at hl 4 rfl) ?_
        refine fr_roi (va_runV (As := [.int (rd_from x1), .int v3]) (rest := []) ⟨hx, hb, hml, hown, hts⟩ (c_X1_isOpenFor (l := l) (x1 := (rd_from x1)) (x2 := v3) (D := D) (cI := cI) (cJ := cJ) (cZ := cZ) (cR := cR) (cN := cN) (fr_one hP (fr_pl h_x1))) (cwV 2 hts gX2_goSurely_X1_isOpenFor rfl rfl rfl (by decide +kernel) ⟨Nat.le_of_ble_eq_true rfl, Nat.le_of_ble_eq_true rfl⟩) (fr_pvr hcx (va_recv hK hP (ci := 1) (q0 := _) rfl (fr_pl h_x1))) rfl rfl hl.1 rfl (lv_room (Nat.le_of_ble_eq_true rfl)) dX2_goSurely_37 ⟨Nat.zero_le _, Nat.zero_le _⟩) hS (fun locs hS => ?_)
        refine lv_if_ne (tgt := 46) hx hb dX2_goSurely_40 (by decide) (fun c_5 => ?_) (fun c_5 => ?_)
        · have hm := fr_ifn c_5 hm
          refine lv_aload_n hx hb dX2_goSurely_46 rfl (lv_at hl 2 rfl) ?_
          refine va_getN (D := D) (ci := 1) (v := .int (rd_to x1)) (C := RX1) (T := TX1) (N := 9) hx hb hts in_X2_goSurely_X1 hown hK hP _ (fr_pl h_x1) rfl 1 (by decide) (va_Nw.use rfl (hcx.2.1 ("FastestRun$RoadMap", 94, "FastestRun$Road", "to", "I") (by decide +kernel))) (fun _ h9 => h9) rfl dX2_goSurely_47 ?_
          refine lv_iload_n hx hb dX2_goSurely_50 rfl (lv_at hl 4 rfl) ?_
          refine lv_aload_n hx hb dX2_goSurely_51 rfl (lv_at hl 2 rfl) ?_
          refine va_getN (D := D) (ci := 1) (v := .int (rd_gives x1)) (C := RX1) (T := TX1) (N := 9) hx hb hts in_X2_goSurely_X1 hown hK hP _ (fr_pl h_x1) rfl 3 (by decide) (va_Nw.use rfl (hcx.2.1 ("FastestRun$RoadMap", 97, "FastestRun$Road", "gives", "I") (by decide +kernel))) (fun _ h9 => h9) rfl dX2_goSurely_52 ?_
          refine lv_ior hx hb dX2_goSurely_55 ?_
          refine fr_roi (va_runS (As := [.int (rd_to x1), .int (v3 ||| (rd_gives x1))]) (rest := []) ⟨hx, hb, hml, hown, hts⟩ (c_X2_standAt (l := l) (x0 := (rd_to x1)) (x1 := (v3 ||| (rd_gives x1))) (D := D) (cI := cI) (cJ := cJ) (cZ := cZ) (cR := cR) (cN := cN) (H0 := H)) (va_cwS 2 hts gX2_goSurely_X2_standAt rfl rfl rfl (by decide +kernel) ⟨Nat.le_of_ble_eq_true rfl, Nat.le_of_ble_eq_true rfl⟩) (fr_psr hcx) rfl rfl hl.1 rfl (lv_room (Nat.le_of_ble_eq_true rfl)) dX2_goSurely_56 ⟨Nat.zero_le _, Nat.zero_le _⟩) hS (fun locs hS => ?_)
          refine lv_istore (lv' := [(5, .int (m_X2_standAt (rd_to x1) (v3 ||| (rd_gives x1)))), (4, .int (z_fewest (m_X2_standAt (rd_from x1) v3).toNatClampNeg)), (0, .ref a_z), (1, .ref (ad x1)), (2, .int v2), (3, .int v3)]) hx hb dX2_goSurely_59 hl (by decide) rfl (fun ls hl => ?_)
          refine lv_iload hx hb dX2_goSurely_61 (lv_at hl 1 rfl) ?_
          refine lv_aload_n hx hb dX2_goSurely_63 rfl (lv_at hl 3 rfl) ?_
          refine va_getN (D := D) (ci := 1) (v := .int (rd_ticks x1)) (C := RX1) (T := TX1) (N := 9) hx hb hts in_X2_goSurely_X1 hown hK hP _ (fr_pl h_x1) rfl 4 (by decide) (va_Nw.use rfl (hcx.2.1 ("FastestRun$RoadMap", 100, "FastestRun$Road", "ticks", "I") (by decide +kernel))) (fun _ h9 => h9) rfl dX2_goSurely_64 ?_
          refine lv_iadd hx hb dX2_goSurely_67 ?_
          refine lv_istore (lv' := [(6, .int ((z_fewest (m_X2_standAt (rd_from x1) v3).toNatClampNeg) + (rd_ticks x1))), (5, .int (m_X2_standAt (rd_to x1) (v3 ||| (rd_gives x1)))), (4, .int (z_fewest (m_X2_standAt (rd_from x1) v3).toNatClampNeg)), (0, .ref a_z), (1, .ref (ad x1)), (2, .int v2), (3, .int v3)]) hx hb dX2_goSurely_68 hl (by decide) rfl (fun ls hl => ?_)
          refine lv_aload_n hx hb dX2_goSurely_70 rfl (lv_at hl 3 rfl) ?_
          refine va_get (D := D) (ci := 2) (v := .ref a_z_fewest) (C := RX2) (T := TX2) (N := 14) hx hb hts in_X2_goSurely_X2 hown hK hP 0 rfl rfl 5 (by decide) (hts (.fieldLink RX2 17 "FastestRun$RoadMap" "fewest" "[I") (List.mem_of_getElem? (i := 1) rfl)) (fun _ h9 => h9) rfl dX2_goSurely_71 ?_
          refine lv_iload hx hb dX2_goSurely_74 (lv_at hl 1 rfl) ?_
          obtain ⟨h_6, hm⟩ := fr_ck hm
          refine va_iald hx hb hK hP 1 0 rfl rfl h_6 dX2_goSurely_76 ?_
          refine lv_iconst (v := (-1 : Int32)) hx hb dX2_goSurely_77 (by decide) ?_
          refine lv_icmp_eq (tgt := 93) hx hb dX2_goSurely_78 (by decide) (fun c_7 => ?_) (fun c_7 => ?_)
          · have hm := fr_ifp c_7 hm
            exact t_X2_goSurely_93 hB hcx hA h_x1 ih hm hP hD hS (lv_sub hl [3, 4, 6, 1, 0] rfl)
          · have hm := fr_ifn c_7 hm
            refine lv_iload hx hb dX2_goSurely_81 (lv_at hl 0 rfl) ?_
            refine lv_aload_n hx hb dX2_goSurely_83 rfl (lv_at hl 3 rfl) ?_
            refine va_get (D := D) (ci := 2) (v := .ref a_z_fewest) (C := RX2) (T := TX2) (N := 14) hx hb hts in_X2_goSurely_X2 hown hK hP 0 rfl rfl 5 (by decide) (hts (.fieldLink RX2 17 "FastestRun$RoadMap" "fewest" "[I") (List.mem_of_getElem? (i := 1) rfl)) (fun _ h9 => h9) rfl dX2_goSurely_84 ?_
            refine lv_iload hx hb dX2_goSurely_87 (lv_at hl 1 rfl) ?_
            obtain ⟨h_8, hm⟩ := fr_ck hm
            refine va_iald hx hb hK hP 1 0 rfl rfl h_8 dX2_goSurely_89 ?_
            refine lv_icmp_ge (tgt := 104) hx hb dX2_goSurely_90 (by decide) (fun c_9 => ?_) (fun c_9 => ?_)
            · have hm := fr_ifp c_9 hm
              refine lv_iinc (v := (v3 + 1)) (lv' := [(3, .int (v3 + 1)), (6, .int ((z_fewest (m_X2_standAt (rd_from x1) v3).toNatClampNeg) + (rd_ticks x1))), (5, .int (m_X2_standAt (rd_to x1) (v3 ||| (rd_gives x1)))), (4, .int (z_fewest (m_X2_standAt (rd_from x1) v3).toNatClampNeg)), (0, .ref a_z), (1, .ref (ad x1)), (2, .int v2)]) hx hb dX2_goSurely_104 hl (k := 6) rfl rfl (by decide) rfl (fun ls hl => ?_)
              refine lv_goto (tgt := 4) hx hb dX2_goSurely_107 (by decide) ?_
              exact ih _ _ _ _ _ _ hm hP hD hS (lv_sub hl [4, 5, 6, 0] rfl)
            · have hm := fr_ifn c_9 hm
              exact t_X2_goSurely_93 hB hcx hA h_x1 ih hm hP hD hS (lv_sub hl [3, 4, 6, 1, 0] rfl)
        · have hm := fr_ifp c_5 hm
          refine lv_goto (tgt := 104) hx hb dX2_goSurely_43 (by decide) ?_
          refine lv_iinc (v := (v3 + 1)) (lv' := [(3, .int (v3 + 1)), (4, .int (z_fewest (m_X2_standAt (rd_from x1) v3).toNatClampNeg)), (0, .ref a_z), (1, .ref (ad x1)), (2, .int v2)]) hx hb dX2_goSurely_104 hl (k := 4) rfl rfl (by decide) rfl (fun ls hl => ?_)
          refine lv_goto (tgt := 4) hx hb dX2_goSurely_107 (by decide) ?_
          exact ih _ _ _ _ _ _ hm hP hD hS (lv_sub hl [2, 3, 4, 0] rfl)
set_option maxHeartbeats 4000000 in
set_option maxRecDepth 100000 in
theorem t_X2_goSurely_0 {p : Program} {l : Launch} {e : Env} {s : State} {m : MethodId} {args : Array Value} {below : List Frame} {meth : Method} {c : Code} {D : va_G} {cI cJ cZ cR cN : ClassId} {A : Nat → Prop} {ad : Nat → Nat} {a_z a_z_roads a_z_fewest a_z_chances a_z_stands a_z_isListed a_z_stepRoads a_z_stepThings : Nat} {z_length : Int32} {z_goalRoom : Int32} {z_goalThings : Int32} {z_anewPrice : Int32} {z_knownLevels : Int32} {z_standCount : Int32} {z_stepCount : Int32} {z_fewest : Nat → Int32} {rd_from : Nat → Int32} {rd_to : Nat → Int32} {rd_needs : Nat → Int32} {rd_gives : Nat → Int32} {rd_ticks : Nat → Int32} {rd_odds : Nat → Int32} {rd_failRoom : Nat → Int32} {rd_failTicks : Nat → Int32} {rd_barred : Nat → Int32} {x1 : Nat} {F : Nat} {H : Heap} {r : Int32} {z_fewest' : Nat → Int32} (hB : fr_BX p s m args meth c cX2_goSurely (some .boolean) 7 RX2 wsX2_goSurely) (hcx : fr_cx D cI cJ cZ cR cN s) (hA : ∀ q, s.heap.size ≤ q → A q) (h_x1 : x1 < 40) (hm : m_X2_goSurely F rd_from rd_to rd_needs rd_gives rd_ticks rd_barred x1 z_fewest = some (r, z_fewest')) {locs : List Loc} {ls : Array Slot} (hP : va_P D vwCl ([(a_z, .inr (ob_X2 a_z_roads z_length z_goalRoom z_goalThings z_anewPrice a_z_fewest a_z_chances z_knownLevels a_z_stands a_z_isListed z_standCount a_z_stepRoads a_z_stepThings z_stepCount)), (a_z_fewest, .inl (cI, 160, .inl z_fewest))] ++ fr_pool ad rd_from rd_to rd_needs rd_gives rd_ticks rd_odds rd_failRoom rd_failTicks rd_barred) H) (hD : va_D A ([(a_z, .inr (ob_X2 a_z_roads z_length z_goalRoom z_goalThings z_anewPrice a_z_fewest a_z_chances z_knownLevels a_z_stands a_z_isListed z_standCount a_z_stepRoads a_z_stepThings z_stepCount)), (a_z_fewest, .inl (cI, 160, .inl z_fewest))] ++ fr_pool ad rd_from rd_to rd_needs rd_gives rd_ticks rd_odds rd_failRoom rd_failTicks rd_barred)) (hS : va_S A s.heap H locs) (hl : lv_has ls 7 [(0, .ref a_z), (1, .ref (ad x1))]) : W p l e ({ frames := 1, cells := 0, slots := 0, locals := 22 } : Room) s m args below meth c H locs 0 0 (MQ below (fr_Wi D ([(a_z, .inr (ob_X2 a_z_roads z_length z_goalRoom z_goalThings z_anewPrice a_z_fewest a_z_chances z_knownLevels a_z_stands a_z_isListed z_standCount a_z_stepRoads a_z_stepThings z_stepCount)), (a_z_fewest, .inl (cI, 160, .inl z_fewest'))] ++ fr_pool ad rd_from rd_to rd_needs rd_gives rd_ticks rd_odds rd_failRoom rd_failTicks rd_barred) A r) args s 0 0 A) (F0 m 0 ls []) := by
  obtain ⟨hx, hb, hr, hml, hown, hts, hlocks⟩ := id hB
  have hK := hcx.1
  unfold m_X2_goSurely at hm
  refine lv_iconst (v := (0 : Int32)) hx hb dX2_goSurely_0 (by decide) ?_
  refine lv_istore_n (lv' := [(2, .int (0 : Int32)), (0, .ref a_z), (1, .ref (ad x1))]) hx hb dX2_goSurely_1 rfl hl (by decide) rfl (fun ls hl => ?_)
  refine lv_iconst (v := (0 : Int32)) hx hb dX2_goSurely_2 (by decide) ?_
  refine lv_istore_n (lv' := [(3, .int (0 : Int32)), (2, .int (0 : Int32)), (0, .ref a_z), (1, .ref (ad x1))]) hx hb dX2_goSurely_3 rfl hl (by decide) rfl (fun ls hl => ?_)
  exact t_X2_goSurely_4 hB hcx hA h_x1 _ _ _ _ _ _ _ hm hP hD hS (lv_sub hl [2, 3, 1, 0] rfl)
set_option maxHeartbeats 4000000 in
set_option maxRecDepth 100000 in
theorem c_X2_goSurely {l : Launch} {D : va_G} {cI cJ cZ cR cN : ClassId} {ad : Nat → Nat} {a_z a_z_roads a_z_fewest a_z_chances a_z_stands a_z_isListed a_z_stepRoads a_z_stepThings : Nat} {z_length : Int32} {z_goalRoom : Int32} {z_goalThings : Int32} {z_anewPrice : Int32} {z_knownLevels : Int32} {z_standCount : Int32} {z_stepCount : Int32} {z_fewest : Nat → Int32} {rd_from : Nat → Int32} {rd_to : Nat → Int32} {rd_needs : Nat → Int32} {rd_gives : Nat → Int32} {rd_ticks : Nat → Int32} {rd_odds : Nat → Int32} {rd_failRoom : Nat → Int32} {rd_failTicks : Nat → Int32} {rd_barred : Nat → Int32} {x1 : Nat} {F : Nat} {r : Int32} {z_fewest' : Nat → Int32} {sz : Nat} (hm : m_X2_goSurely F rd_from rd_to rd_needs rd_gives rd_ticks rd_barred x1 z_fewest = some (r, z_fewest')) (h_x1 : x1 < 40) : Met l yX2_goSurely wsX2_goSurely ({ frames := 1, cells := 0, slots := 0, locals := 22 } : Room) (fr_Pw D cI cJ cZ cR cN [.ref a_z, .ref (ad x1)] ([(a_z, .inr (ob_X2 a_z_roads z_length z_goalRoom z_goalThings z_anewPrice a_z_fewest a_z_chances z_knownLevels a_z_stands a_z_isListed z_standCount a_z_stepRoads a_z_stepThings z_stepCount)), (a_z_fewest, .inl (cI, 160, .inl z_fewest))] ++ fr_pool ad rd_from rd_to rd_needs rd_gives rd_ticks rd_odds rd_failRoom rd_failTicks rd_barred) sz) (fr_Wi D ([(a_z, .inr (ob_X2 a_z_roads z_length z_goalRoom z_goalThings z_anewPrice a_z_fewest a_z_chances z_knownLevels a_z_stands a_z_isListed z_standCount a_z_stepRoads a_z_stepThings z_stepCount)), (a_z_fewest, .inl (cI, 160, .inl z_fewest'))] ++ fr_pool ad rd_from rd_to rd_needs rd_gives rd_ticks rd_odds rd_failRoom rd_failTicks rd_barred) (va_A ([(a_z, .inr (ob_X2 a_z_roads z_length z_goalRoom z_goalThings z_anewPrice a_z_fewest a_z_chances z_knownLevels a_z_stands a_z_isListed z_standCount a_z_stepRoads a_z_stepThings z_stepCount)), (a_z_fewest, .inl (cI, 160, .inl z_fewest))] ++ fr_pool ad rd_from rd_to rd_needs rd_gives rd_ticks rd_odds rd_failRoom rd_failTicks rd_barred) sz) r) 0 0 (va_A ([(a_z, .inr (ob_X2 a_z_roads z_length z_goalRoom z_goalThings z_anewPrice a_z_fewest a_z_chances z_knownLevels a_z_stands a_z_isListed z_standCount a_z_stepRoads a_z_stepThings z_stepCount)), (a_z_fewest, .inl (cI, 160, .inl z_fewest))] ++ fr_pool ad rd_from rd_to rd_needs rd_gives rd_ticks rd_odds rd_failRoom rd_failTicks rd_barred) sz) := by
  refine fr_ofW (cc := cX2_goSurely) (maxL := 7) (ret := (some .boolean)) (by decide +kernel) rfl ?_
  intro p e s m args below meth c s₁ B hml hv
  obtain ⟨rfl, hsz, hP, hD0, hcx⟩ := hv
  subst hsz
  have hD := hD0.self (sz := s.heap.size)
  have hB : fr_BX p s m _ meth c cX2_goSurely (some .boolean) 7 RX2 wsX2_goSurely := ⟨B.exec, B.bytes, B.returns, hml, findClass_of_methodNamed B.named, atoms_spec (ws := wsX2_goSurely) B.pre, B.notSynchronized⟩
  have hl := lv_entry ([.ref a_z, .ref (ad x1)]) (n := 7) (Nat.le_of_ble_eq_true rfl)
  rw [lg_entry_eq]
  generalize (lg_sl ([.ref a_z, .ref (ad x1)]) ++ List.replicate (7 - (lg_sl ([.ref a_z, .ref (ad x1)])).length) Slot.unset).toArray = ls at hl ⊢
  have hl : lv_has ls 7 [(0, .ref a_z), (1, .ref (ad x1))] := hl
  exact t_X2_goSurely_0 hB hcx (fun q h => Or.inr h) h_x1 hm hP hD va_S.rf hl
theorem in_X2_fewestAtGoal_X2 : ∀ w ∈ wsX20, w ∈ wsX2_fewestAtGoal := fun w h => List.mem_cons_of_mem _ (List.mem_append_right _ h)
set_option maxHeartbeats 4000000 in
set_option maxRecDepth 100000 in
theorem t_X2_fewestAtGoal_46 {p : Program} {l : Launch} {e : Env} {s : State} {m : MethodId} {args : Array Value} {below : List Frame} {meth : Method} {c : Code} {D : va_G} {cI cJ cZ cR cN : ClassId} {a_z a_z_roads a_z_fewest a_z_chances a_z_stands a_z_isListed a_z_stepRoads a_z_stepThings : Nat} {z_length : Int32} {z_goalRoom : Int32} {z_goalThings : Int32} {z_anewPrice : Int32} {z_knownLevels : Int32} {z_standCount : Int32} {z_stepCount : Int32} {z_fewest : Nat → Int32} {F : Nat} {v1 : Int32} {v2 : Int32} {v3 : Int32} {k0 : Int32} {H : Heap} {r : Int32} (hB : fr_BX p s m args meth c cX2_fewestAtGoal (some .int) 5 RX2 wsX2_fewestAtGoal) (hcx : fr_cx D cI cJ cZ cR cN s) {k4_ : Int32 → Int32 → Option (Int32)} (hk4 : ∀ (v1 : Int32) (v2 : Int32) (locs : List Loc) (ls : Array Slot), k4_ v1 v2 = some r → va_P D vwCl [(a_z, .inr (ob_X2 a_z_roads z_length z_goalRoom z_goalThings z_anewPrice a_z_fewest a_z_chances z_knownLevels a_z_stands a_z_isListed z_standCount a_z_stepRoads a_z_stepThings z_stepCount)), (a_z_fewest, .inl (cI, 160, .inl z_fewest))] H → va_S (fun _ => False) s.heap H locs → lv_has ls 5 [(0, .ref a_z), (1, .int v1), (2, .int v2)] → W p l e ({ frames := 1, cells := 0, slots := 0, locals := 22 } : Room) s m args below meth c H locs 0 0 (MQ below (fr_Ri H r) args s 0 0 (fun _ => False)) (F0 m 4 ls [])) (hm : m_X2_fewestAtGoal_b46 F z_goalRoom z_goalThings z_fewest k4_ v1 v2 v3 k0 = some r) {locs : List Loc} {ls : Array Slot} (hP : va_P D vwCl [(a_z, .inr (ob_X2 a_z_roads z_length z_goalRoom z_goalThings z_anewPrice a_z_fewest a_z_chances z_knownLevels a_z_stands a_z_isListed z_standCount a_z_stepRoads a_z_stepThings z_stepCount)), (a_z_fewest, .inl (cI, 160, .inl z_fewest))] H) (hS : va_S (fun _ => False) s.heap H locs) (hl : lv_has ls 5 [(0, .ref a_z), (1, .int v1), (2, .int v2), (3, .int v3)]) : W p l e ({ frames := 1, cells := 0, slots := 0, locals := 22 } : Room) s m args below meth c H locs 0 0 (MQ below (fr_Ri H r) args s 0 0 (fun _ => False)) (F0 m 46 ls [.int k0]) := by
  obtain ⟨hx, hb, hr, hml, hown, hts, hlocks⟩ := id hB
  have hK := hcx.1
  unfold m_X2_fewestAtGoal_b46 at hm
  refine lv_istore (lv' := [(4, .int k0), (0, .ref a_z), (1, .int v1), (2, .int v2), (3, .int v3)]) hx hb dX2_fewestAtGoal_46 hl (by decide) rfl (fun ls hl => ?_)
  refine lv_iload hx hb dX2_fewestAtGoal_48 (lv_at hl 0 rfl) ?_
  refine lv_if_eq (tgt := 65) hx hb dX2_fewestAtGoal_50 (by decide) (fun c_5 => ?_) (fun c_5 => ?_)
  · have hm := fr_ifp c_5 hm
    refine lv_iinc (v := (v2 + 1)) (lv' := [(2, .int (v2 + 1)), (4, .int k0), (0, .ref a_z), (1, .int v1), (3, .int v3)]) hx hb dX2_fewestAtGoal_65 hl (k := 3) rfl rfl (by decide) rfl (fun ls hl => ?_)
    refine lv_goto (tgt := 4) hx hb dX2_fewestAtGoal_68 (by decide) ?_
    exact hk4 _ _ _ _ hm hP hS (lv_sub hl [2, 3, 0] rfl)
  · have hm := fr_ifn c_5 hm
    refine lv_iload_n hx hb dX2_fewestAtGoal_53 rfl (lv_at hl 2 rfl) ?_
    refine lv_iconst (v := (-1 : Int32)) hx hb dX2_fewestAtGoal_54 (by decide) ?_
    refine lv_icmp_eq (tgt := 63) hx hb dX2_fewestAtGoal_55 (by decide) (fun c_6 => ?_) (fun c_6 => ?_)
    · have hm := fr_ifp c_6 hm
      refine lv_iload_n hx hb dX2_fewestAtGoal_63 rfl (lv_at hl 4 rfl) ?_
      refine lv_istore_n (lv' := [(1, .int v3), (4, .int k0), (0, .ref a_z), (2, .int v2), (3, .int v3)]) hx hb dX2_fewestAtGoal_64 rfl hl (by decide) rfl (fun ls hl => ?_)
      refine lv_iinc (v := (v2 + 1)) (lv' := [(2, .int (v2 + 1)), (1, .int v3), (4, .int k0), (0, .ref a_z), (3, .int v3)]) hx hb dX2_fewestAtGoal_65 hl (k := 3) rfl rfl (by decide) rfl (fun ls hl => ?_)
      refine lv_goto (tgt := 4) hx hb dX2_fewestAtGoal_68 (by decide) ?_
      exact hk4 _ _ _ _ hm hP hS (lv_sub hl [3, 1, 0] rfl)
    · have hm := fr_ifn c_6 hm
      refine lv_iload_n hx hb dX2_fewestAtGoal_58 rfl (lv_at hl 4 rfl) ?_
      refine lv_iload_n hx hb dX2_fewestAtGoal_59 rfl (lv_at hl 2 rfl) ?_
      refine lv_icmp_ge (tgt := 65) hx hb dX2_fewestAtGoal_60 (by decide) (fun c_7 => ?_) (fun c_7 => ?_)
      · have hm := fr_ifp c_7 hm
        refine lv_iinc (v := (v2 + 1)) (lv' := [(2, .int (v2 + 1)), (4, .int k0), (0, .ref a_z), (1, .int v1), (3, .int v3)]) hx hb dX2_fewestAtGoal_65 hl (k := 3) rfl rfl (by decide) rfl (fun ls hl => ?_)
        refine lv_goto (tgt := 4) hx hb dX2_fewestAtGoal_68 (by decide) ?_
        exact hk4 _ _ _ _ hm hP hS (lv_sub hl [2, 3, 0] rfl)
      · have hm := fr_ifn c_7 hm
        refine lv_iload_n hx hb dX2_fewestAtGoal_63 rfl (lv_at hl 4 rfl) ?_
        refine lv_istore_n (lv' := [(1, .int v3), (4, .int k0), (0, .ref a_z), (2, .int v2), (3, .int v3)]) hx hb dX2_fewestAtGoal_64 rfl hl (by decide) rfl (fun ls hl => ?_)
        refine lv_iinc (v := (v2 + 1)) (lv' := [(2, .int (v2 + 1)), (1, .int v3), (4, .int k0), (0, .ref a_z), (3, .int v3)]) hx hb dX2_fewestAtGoal_65 hl (k := 3) rfl rfl (by decide) rfl (fun ls hl => ?_)
        refine lv_goto (tgt := 4) hx hb dX2_fewestAtGoal_68 (by decide) ?_
        exact hk4 _ _ _ _ hm hP hS (lv_sub hl [3, 1, 0] rfl)
set_option maxHeartbeats 4000000 in
set_option maxRecDepth 100000 in
theorem t_X2_fewestAtGoal_45 {p : Program} {l : Launch} {e : Env} {s : State} {m : MethodId} {args : Array Value} {below : List Frame} {meth : Method} {c : Code} {D : va_G} {cI cJ cZ cR cN : ClassId} {a_z a_z_roads a_z_fewest a_z_chances a_z_stands a_z_isListed a_z_stepRoads a_z_stepThings : Nat} {z_length : Int32} {z_goalRoom : Int32} {z_goalThings : Int32} {z_anewPrice : Int32} {z_knownLevels : Int32} {z_standCount : Int32} {z_stepCount : Int32} {z_fewest : Nat → Int32} {F : Nat} {v1 : Int32} {v2 : Int32} {v3 : Int32} {H : Heap} {r : Int32} (hB : fr_BX p s m args meth c cX2_fewestAtGoal (some .int) 5 RX2 wsX2_fewestAtGoal) (hcx : fr_cx D cI cJ cZ cR cN s) {k4_ : Int32 → Int32 → Option (Int32)} (hk4 : ∀ (v1 : Int32) (v2 : Int32) (locs : List Loc) (ls : Array Slot), k4_ v1 v2 = some r → va_P D vwCl [(a_z, .inr (ob_X2 a_z_roads z_length z_goalRoom z_goalThings z_anewPrice a_z_fewest a_z_chances z_knownLevels a_z_stands a_z_isListed z_standCount a_z_stepRoads a_z_stepThings z_stepCount)), (a_z_fewest, .inl (cI, 160, .inl z_fewest))] H → va_S (fun _ => False) s.heap H locs → lv_has ls 5 [(0, .ref a_z), (1, .int v1), (2, .int v2)] → W p l e ({ frames := 1, cells := 0, slots := 0, locals := 22 } : Room) s m args below meth c H locs 0 0 (MQ below (fr_Ri H r) args s 0 0 (fun _ => False)) (F0 m 4 ls [])) (hm : m_X2_fewestAtGoal_b45 F z_goalRoom z_goalThings z_fewest k4_ v1 v2 v3 = some r) {locs : List Loc} {ls : Array Slot} (hP : va_P D vwCl [(a_z, .inr (ob_X2 a_z_roads z_length z_goalRoom z_goalThings z_anewPrice a_z_fewest a_z_chances z_knownLevels a_z_stands a_z_isListed z_standCount a_z_stepRoads a_z_stepThings z_stepCount)), (a_z_fewest, .inl (cI, 160, .inl z_fewest))] H) (hS : va_S (fun _ => False) s.heap H locs) (hl : lv_has ls 5 [(0, .ref a_z), (1, .int v1), (2, .int v2), (3, .int v3)]) : W p l e ({ frames := 1, cells := 0, slots := 0, locals := 22 } : Room) s m args below meth c H locs 0 0 (MQ below (fr_Ri H r) args s 0 0 (fun _ => False)) (F0 m 45 ls []) := by
  obtain ⟨hx, hb, hr, hml, hown, hts, hlocks⟩ := id hB
  have hK := hcx.1
  unfold m_X2_fewestAtGoal_b45 at hm
  refine lv_iconst (v := (0 : Int32)) hx hb dX2_fewestAtGoal_45 (by decide) ?_
  exact t_X2_fewestAtGoal_46 hB hcx hk4 hm hP hS (lv_sub hl [0, 1, 2, 3] rfl)
set_option maxHeartbeats 4000000 in
set_option maxRecDepth 100000 in
theorem t_X2_fewestAtGoal_4 {p : Program} {l : Launch} {e : Env} {s : State} {m : MethodId} {args : Array Value} {below : List Frame} {meth : Method} {c : Code} {D : va_G} {cI cJ cZ cR cN : ClassId} {a_z a_z_roads a_z_fewest a_z_chances a_z_stands a_z_isListed a_z_stepRoads a_z_stepThings : Nat} {z_length : Int32} {z_goalRoom : Int32} {z_goalThings : Int32} {z_anewPrice : Int32} {z_knownLevels : Int32} {z_standCount : Int32} {z_stepCount : Int32} {z_fewest : Nat → Int32} {F : Nat} {H : Heap} {r : Int32} (hB : fr_BX p s m args meth c cX2_fewestAtGoal (some .int) 5 RX2 wsX2_fewestAtGoal) (hcx : fr_cx D cI cJ cZ cR cN s) : ∀ (n : Nat) (v1 : Int32) (v2 : Int32) (locs : List Loc) (ls : Array Slot), m_X2_fewestAtGoal_b4 F z_goalRoom z_goalThings z_fewest n v1 v2 = some r → va_P D vwCl [(a_z, .inr (ob_X2 a_z_roads z_length z_goalRoom z_goalThings z_anewPrice a_z_fewest a_z_chances z_knownLevels a_z_stands a_z_isListed z_standCount a_z_stepRoads a_z_stepThings z_stepCount)), (a_z_fewest, .inl (cI, 160, .inl z_fewest))] H → va_S (fun _ => False) s.heap H locs → lv_has ls 5 [(0, .ref a_z), (1, .int v1), (2, .int v2)] → W p l e ({ frames := 1, cells := 0, slots := 0, locals := 22 } : Room) s m args below meth c H locs 0 0 (MQ below (fr_Ri H r) args s 0 0 (fun _ => False)) (F0 m 4 ls []) := by
  obtain ⟨hx, hb, hr, hml, hown, hts, hlocks⟩ := id hB
  have hK := hcx.1
  intro n
  induction n with
  | zero =>
    intro v1 v2 locs ls hm
    have hm : none = some _ := hm
    cases hm
  | succ n ih =>
    intro v1 v2 locs ls hm hP hS hl
    rw [m_X2_fewestAtGoal_b4] at hm
    refine lv_iload_n hx hb dX2_fewestAtGoal_4 rfl (lv_at hl 2 rfl) ?_
    refine lv_bipush (v := (16 : Int32)) hx hb dX2_fewestAtGoal_5 (by decide) ?_
    refine lv_icmp_ge (tgt := 71) hx hb dX2_fewestAtGoal_7 (by decide) (fun c_1 => ?_) (fun c_1 => ?_)
    · have hm := fr_ifp c_1 hm
      refine lv_iload_n hx hb dX2_fewestAtGoal_71 rfl (lv_at hl 1 rfl) ?_
      exact W.iret (v := v1) hx hb hr (fun t ht hW => ⟨⟨_, (), rfl, (Option.some.inj hm), ht⟩, hS.F ht⟩) hS.2.2 dX2_fewestAtGoal_72 hlocks
    · have hm := fr_ifn c_1 hm
      refine lv_aload_n hx hb dX2_fewestAtGoal_10 rfl (lv_at hl 0 rfl) ?_
      refine va_get (D := D) (ci := 2) (v := .ref a_z_fewest) (C := RX2) (T := TX2) (N := 14) hx hb hts in_X2_fewestAtGoal_X2 hown hK hP 0 rfl rfl 5 (by decide) (hts (.fieldLink RX2 17 "FastestRun$RoadMap" "fewest" "[I") (List.mem_of_getElem? (i := 1) rfl)) (fun _ h9 => h9) rfl dX2_fewestAtGoal_11 ?_
      refine lv_aload_n hx hb dX2_fewestAtGoal_14 rfl (lv_at hl 0 rfl) ?_
      refine va_get (D := D) (ci := 2) (v := .int z_goalRoom) (C := RX2) (T := TX2) (N := 14) hx hb hts in_X2_fewestAtGoal_X2 hown hK hP 0 rfl rfl 2 (by decide) (hts (.fieldLink RX2 59 "FastestRun$RoadMap" "goalRoom" "I") (List.mem_of_getElem? (i := 2) rfl)) (fun _ h9 => h9) rfl dX2_fewestAtGoal_15 ?_
      refine lv_iload_n hx hb dX2_fewestAtGoal_18 rfl (lv_at hl 2 rfl) ?_
      refine fr_roi (va_runS (As := [.int z_goalRoom, .int v2]) (rest := [.ref a_z_fewest]) ⟨hx, hb, hml, hown, hts⟩ (c_X2_standAt (l := l) (x0 := z_goalRoom) (x1 := v2) (D := D) (cI := cI) (cJ := cJ) (cZ := cZ) (cR := cR) (cN := cN) (H0 := H)) (va_cwS 2 hts gX2_fewestAtGoal_X2_standAt rfl rfl rfl (by decide +kernel) ⟨Nat.le_of_ble_eq_true rfl, Nat.le_of_ble_eq_true rfl⟩) (fr_psr hcx) rfl rfl hl.1 rfl (lv_room (Nat.le_of_ble_eq_true rfl)) dX2_fewestAtGoal_19 ⟨Nat.zero_le _, Nat.zero_le _⟩) hS (fun locs hS => ?_)
      obtain ⟨h_2, hm⟩ := fr_ck hm
      refine va_iald hx hb hK hP 1 0 rfl rfl h_2 dX2_fewestAtGoal_22 ?_
      refine lv_istore_n (lv' := [(3, .int (z_fewest (m_X2_standAt z_goalRoom v2).toNatClampNeg)), (0, .ref a_z), (1, .int v1), (2, .int v2)]) hx hb dX2_fewestAtGoal_23 rfl hl (by decide) rfl (fun ls hl => ?_)
      refine lv_iload_n hx hb dX2_fewestAtGoal_24 rfl (lv_at hl 0 rfl) ?_
      refine lv_iconst (v := (-1 : Int32)) hx hb dX2_fewestAtGoal_25 (by decide) ?_
      refine lv_icmp_eq (tgt := 45) hx hb dX2_fewestAtGoal_26 (by decide) (fun c_3 => ?_) (fun c_3 => ?_)
      · have hm := fr_ifp c_3 hm
        exact t_X2_fewestAtGoal_45 hB hcx ih hm hP hS (lv_sub hl [1, 2, 3, 0] rfl)
      · have hm := fr_ifn c_3 hm
        refine lv_aload_n hx hb dX2_fewestAtGoal_29 rfl (lv_at hl 1 rfl) ?_
        refine lv_aload_n hx hb dX2_fewestAtGoal_30 rfl (lv_at hl 1 rfl) ?_
        refine va_get (D := D) (ci := 2) (v := .int z_goalRoom) (C := RX2) (T := TX2) (N := 14) hx hb hts in_X2_fewestAtGoal_X2 hown hK hP 0 rfl rfl 2 (by decide) (hts (.fieldLink RX2 59 "FastestRun$RoadMap" "goalRoom" "I") (List.mem_of_getElem? (i := 2) rfl)) (fun _ h9 => h9) rfl dX2_fewestAtGoal_31 ?_
        refine lv_iload_n hx hb dX2_fewestAtGoal_34 rfl (lv_at hl 3 rfl) ?_
        refine fr_roi (va_runV (As := [.int z_goalRoom, .int v2]) (rest := []) ⟨hx, hb, hml, hown, hts⟩ (c_X2_isMet (l := l) (x1 := z_goalRoom) (x2 := v2) (D := D) (cI := cI) (cJ := cJ) (cZ := cZ) (cR := cR) (cN := cN) (fr_sub (ws' := [(a_z, .inr (ob_X2 a_z_roads z_length z_goalRoom z_goalThings z_anewPrice a_z_fewest a_z_chances z_knownLevels a_z_stands a_z_isListed z_standCount a_z_stepRoads a_z_stepThings z_stepCount))]) hP [0] rfl)) (cwV 2 hts gX2_fewestAtGoal_X2_isMet rfl rfl rfl (by decide +kernel) ⟨Nat.le_of_ble_eq_true rfl, Nat.le_of_ble_eq_true rfl⟩) (fr_pvr hcx (va_recv hK hP (ci := 2) (q0 := 0) rfl rfl)) rfl rfl hl.1 rfl (lv_room (Nat.le_of_ble_eq_true rfl)) dX2_fewestAtGoal_35 ⟨Nat.zero_le _, Nat.zero_le _⟩) hS (fun locs hS => ?_)
        refine lv_if_eq (tgt := 45) hx hb dX2_fewestAtGoal_38 (by decide) (fun c_4 => ?_) (fun c_4 => ?_)
        · have hm := fr_ifp c_4 hm
          exact t_X2_fewestAtGoal_45 hB hcx ih hm hP hS (lv_sub hl [1, 2, 3, 0] rfl)
        · have hm := fr_ifn c_4 hm
          refine lv_iconst (v := (1 : Int32)) hx hb dX2_fewestAtGoal_41 (by decide) ?_
          refine lv_goto (tgt := 46) hx hb dX2_fewestAtGoal_42 (by decide) ?_
          exact t_X2_fewestAtGoal_46 hB hcx ih hm hP hS (lv_sub hl [1, 2, 3, 0] rfl)
set_option maxHeartbeats 4000000 in
set_option maxRecDepth 100000 in
theorem t_X2_fewestAtGoal_0 {p : Program} {l : Launch} {e : Env} {s : State} {m : MethodId} {args : Array Value} {below : List Frame} {meth : Method} {c : Code} {D : va_G} {cI cJ cZ cR cN : ClassId} {a_z a_z_roads a_z_fewest a_z_chances a_z_stands a_z_isListed a_z_stepRoads a_z_stepThings : Nat} {z_length : Int32} {z_goalRoom : Int32} {z_goalThings : Int32} {z_anewPrice : Int32} {z_knownLevels : Int32} {z_standCount : Int32} {z_stepCount : Int32} {z_fewest : Nat → Int32} {F : Nat} {H : Heap} {r : Int32} (hB : fr_BX p s m args meth c cX2_fewestAtGoal (some .int) 5 RX2 wsX2_fewestAtGoal) (hcx : fr_cx D cI cJ cZ cR cN s) (hm : m_X2_fewestAtGoal F z_goalRoom z_goalThings z_fewest = some r) {locs : List Loc} {ls : Array Slot} (hP : va_P D vwCl [(a_z, .inr (ob_X2 a_z_roads z_length z_goalRoom z_goalThings z_anewPrice a_z_fewest a_z_chances z_knownLevels a_z_stands a_z_isListed z_standCount a_z_stepRoads a_z_stepThings z_stepCount)), (a_z_fewest, .inl (cI, 160, .inl z_fewest))] H) (hS : va_S (fun _ => False) s.heap H locs) (hl : lv_has ls 5 [(0, .ref a_z)]) : W p l e ({ frames := 1, cells := 0, slots := 0, locals := 22 } : Room) s m args below meth c H locs 0 0 (MQ below (fr_Ri H r) args s 0 0 (fun _ => False)) (F0 m 0 ls []) := by
  obtain ⟨hx, hb, hr, hml, hown, hts, hlocks⟩ := id hB
  have hK := hcx.1
  unfold m_X2_fewestAtGoal at hm
  refine lv_iconst (v := (-1 : Int32)) hx hb dX2_fewestAtGoal_0 (by decide) ?_
  refine lv_istore_n (lv' := [(1, .int (-1 : Int32)), (0, .ref a_z)]) hx hb dX2_fewestAtGoal_1 rfl hl (by decide) rfl (fun ls hl => ?_)
  refine lv_iconst (v := (0 : Int32)) hx hb dX2_fewestAtGoal_2 (by decide) ?_
  refine lv_istore_n (lv' := [(2, .int (0 : Int32)), (1, .int (-1 : Int32)), (0, .ref a_z)]) hx hb dX2_fewestAtGoal_3 rfl hl (by decide) rfl (fun ls hl => ?_)
  exact t_X2_fewestAtGoal_4 hB hcx _ _ _ _ _ hm hP hS (lv_sub hl [2, 1, 0] rfl)
set_option maxHeartbeats 4000000 in
set_option maxRecDepth 100000 in
theorem c_X2_fewestAtGoal {l : Launch} {D : va_G} {cI cJ cZ cR cN : ClassId} {a_z a_z_roads a_z_fewest a_z_chances a_z_stands a_z_isListed a_z_stepRoads a_z_stepThings : Nat} {z_length : Int32} {z_goalRoom : Int32} {z_goalThings : Int32} {z_anewPrice : Int32} {z_knownLevels : Int32} {z_standCount : Int32} {z_stepCount : Int32} {z_fewest : Nat → Int32} {F : Nat} {H0 : Heap} {r : Int32} (hm : m_X2_fewestAtGoal F z_goalRoom z_goalThings z_fewest = some r) (hP : va_P D vwCl [(a_z, .inr (ob_X2 a_z_roads z_length z_goalRoom z_goalThings z_anewPrice a_z_fewest a_z_chances z_knownLevels a_z_stands a_z_isListed z_standCount a_z_stepRoads a_z_stepThings z_stepCount)), (a_z_fewest, .inl (cI, 160, .inl z_fewest))] H0) : Met l yX2_fewestAtGoal wsX2_fewestAtGoal ({ frames := 1, cells := 0, slots := 0, locals := 22 } : Room) (fr_Pr D cI cJ cZ cR cN [.ref a_z] H0) (fr_Ri H0 r) 0 0 (fun _ => False) := by
  refine fr_ofW (cc := cX2_fewestAtGoal) (maxL := 5) (ret := (some .int)) (by decide +kernel) rfl ?_
  intro p e s m args below meth c s₁ B hml hv
  obtain ⟨rfl, hH, hcx⟩ := hv
  subst hH
  have hB : fr_BX p s m _ meth c cX2_fewestAtGoal (some .int) 5 RX2 wsX2_fewestAtGoal := ⟨B.exec, B.bytes, B.returns, hml, findClass_of_methodNamed B.named, atoms_spec (ws := wsX2_fewestAtGoal) B.pre, B.notSynchronized⟩
  have hl := lv_entry ([.ref a_z]) (n := 5) (Nat.le_of_ble_eq_true rfl)
  rw [lg_entry_eq]
  generalize (lg_sl ([.ref a_z]) ++ List.replicate (5 - (lg_sl ([.ref a_z])).length) Slot.unset).toArray = ls at hl ⊢
  have hl : lv_has ls 5 [(0, .ref a_z)] := hl
  exact t_X2_fewestAtGoal_0 hB hcx hm hP va_S.rf hl
