theorem in_X0_target_X0 : ∀ w ∈ wsX00, w ∈ wsX0_target := fun w h => List.mem_cons_of_mem _ (List.mem_append_right _ h)
set_option maxHeartbeats 4000000 in
set_option maxRecDepth 100000 in
theorem t_X0_target_0 {p : Program} {l : Launch} {e : Env} {s : State} {m : MethodId} {args : Array Value} {below : List Frame} {meth : Method} {c : Code} {D : va_G} {cI cJ cZ cR cN : ClassId} {tX tY : Nat} {a_z a_z_kinds a_z_openWith a_z_keyCells a_z_round : Nat} {z_goalCells : Int64} {z_width : Int32} {z_height : Int32} {z_roundLength : Int32} {z_startCell : Int32} {z_kinds : Nat → Int32} {x1 : Int32} {x2 : Int32} {x3 : Int32} {H : Heap} {r : Int32} (hB : fr_BX p s m args meth c cX0_target (some .int) 7 RX0 wsX0_target) (hcx : fr_cx D cI cJ cZ cR cN s) (hst : fr_sx tX tY (fun _ => False) s s.heap) (hm : m_X0_target z_width z_height z_kinds x1 x2 x3 = some r) {locs : List Loc} {ls : Array Slot} (hP : va_P D vwCl [(a_z, .inr (ob_X0 a_z_kinds a_z_openWith a_z_keyCells z_goalCells a_z_round z_width z_height z_roundLength z_startCell)), (a_z_kinds, .inl (cI, 64, .inl z_kinds))] H) (hS : va_S (fun _ => False) s.heap H locs) (hl : lv_has ls 7 [(0, .ref a_z), (1, .int x1), (2, .int x2), (3, .int x3)]) : W p l e ({ frames := 1, cells := 0, slots := 0, locals := 22 } : Room) s m args below meth c H locs 0 0 (MQ below (fr_Ri H r) args s 0 0 (fun _ => False)) (F0 m 0 ls []) := by
  obtain ⟨hx, hb, hr, hml, hown, hts, hlocks⟩ := id hB
  have hK := hcx.1
  unfold m_X0_target at hm
  refine lv_iload_n hx hb dX0_target_0 rfl (lv_at hl 3 rfl) ?_
  refine fr_roi (va_runSN (As := [.int x3]) (rest := []) ⟨hx, hb, hml, hown, hts⟩ (c_X7_isPress (l := l) (x0 := x3) (D := D) (cI := cI) (cJ := cJ) (cZ := cZ) (cR := cR) (cN := cN) (H0 := H)) ⟨va_cnB 1 hts ggX0_target_X7_isPress rfl rfl rfl (hcx.2.2 ("FastestRun$Game", 96, ⟨"FastestRun", "isPress", "(I)Z"⟩) (by decide +kernel)) (hts (.initialized RX7) (List.mem_of_getElem? (i := 5) rfl)) (by decide +kernel) ⟨Nat.le_of_ble_eq_true rfl, Nat.le_of_ble_eq_true rfl⟩, hts (.static yX7_isPress) (by decide +kernel), trivial⟩ (fr_psr hcx) rfl rfl hl.1 rfl (lv_room (Nat.le_of_ble_eq_true rfl)) dX0_target_1 ⟨Nat.zero_le _, Nat.zero_le _⟩) hS (fun locs hS => ?_)
  refine lv_if_ne (tgt := 9) hx hb dX0_target_4 (by decide) (fun c_1 => ?_) (fun c_1 => ?_)
  · have hm := fr_ifn c_1 hm
    refine lv_iload_n hx hb dX0_target_9 rfl (lv_at hl 1 rfl) ?_
    refine fr_roi (va_runS (As := [.int x1]) (rest := []) ⟨hx, hb, hml, hown, hts⟩ (c_X0_xOf (l := l) (x0 := x1) (D := D) (cI := cI) (cJ := cJ) (cZ := cZ) (cR := cR) (cN := cN) (H0 := H)) (va_cwS 1 hts gX0_target_X0_xOf rfl rfl rfl (by decide +kernel) ⟨Nat.le_of_ble_eq_true rfl, Nat.le_of_ble_eq_true rfl⟩) (fr_psr hcx) rfl rfl hl.1 rfl (lv_room (Nat.le_of_ble_eq_true rfl)) dX0_target_10 ⟨Nat.zero_le _, Nat.zero_le _⟩) hS (fun locs hS => ?_)
    refine va_gets hx hb hst.1 hS hown (hts (.fieldLink RX0 103 "FastestRun$Game" "STEP_X" "[I") (List.mem_of_getElem? (i := 1) rfl)) (fun _ h9 => h9) dX0_target_13 ?_
    refine lv_iload_n hx hb dX0_target_16 rfl (lv_at hl 3 rfl) ?_
    obtain ⟨h_2, hm⟩ := fr_ck hm
    refine va_ti (v := .int (fr_sX x3.toNatClampNeg)) hx hb hst.2.2.1 hS h_2 rfl dX0_target_17 ?_
    refine lv_iadd hx hb dX0_target_18 ?_
    refine lv_istore (lv' := [(4, .int ((m_X0_xOf x1) + (fr_sX x3.toNatClampNeg))), (0, .ref a_z), (1, .int x1), (2, .int x2), (3, .int x3)]) hx hb dX0_target_19 hl (by decide) rfl (fun ls hl => ?_)
    refine lv_iload_n hx hb dX0_target_21 rfl (lv_at hl 2 rfl) ?_
    refine fr_roi (va_runS (As := [.int x1]) (rest := []) ⟨hx, hb, hml, hown, hts⟩ (c_X0_yOf (l := l) (x0 := x1) (D := D) (cI := cI) (cJ := cJ) (cZ := cZ) (cR := cR) (cN := cN) (H0 := H)) (va_cwS 1 hts gX0_target_X0_yOf rfl rfl rfl (by decide +kernel) ⟨Nat.le_of_ble_eq_true rfl, Nat.le_of_ble_eq_true rfl⟩) (fr_psr hcx) rfl rfl hl.1 rfl (lv_room (Nat.le_of_ble_eq_true rfl)) dX0_target_22 ⟨Nat.zero_le _, Nat.zero_le _⟩) hS (fun locs hS => ?_)
    refine va_gets hx hb hst.2.1 hS hown (hts (.fieldLink RX0 109 "FastestRun$Game" "STEP_Y" "[I") (List.mem_of_getElem? (i := 2) rfl)) (fun _ h9 => h9) dX0_target_25 ?_
    refine lv_iload_n hx hb dX0_target_28 rfl (lv_at hl 4 rfl) ?_
    obtain ⟨h_3, hm⟩ := fr_ck hm
    refine va_ti (v := .int (fr_sY x3.toNatClampNeg)) hx hb hst.2.2.2 hS h_3 rfl dX0_target_29 ?_
    refine lv_iadd hx hb dX0_target_30 ?_
    refine lv_istore (lv' := [(5, .int ((m_X0_yOf x1) + (fr_sY x3.toNatClampNeg))), (4, .int ((m_X0_xOf x1) + (fr_sX x3.toNatClampNeg))), (0, .ref a_z), (1, .int x1), (2, .int x2), (3, .int x3)]) hx hb dX0_target_31 hl (by decide) rfl (fun ls hl => ?_)
    refine lv_aload_n hx hb dX0_target_33 rfl (lv_at hl 2 rfl) ?_
    refine lv_iload hx hb dX0_target_34 (lv_at hl 1 rfl) ?_
    refine lv_iload hx hb dX0_target_36 (lv_at hl 0 rfl) ?_
    refine fr_roi (va_runV (As := [.int ((m_X0_xOf x1) + (fr_sX x3.toNatClampNeg)), .int ((m_X0_yOf x1) + (fr_sY x3.toNatClampNeg))]) (rest := []) ⟨hx, hb, hml, hown, hts⟩ (c_X0_has (l := l) (x1 := ((m_X0_xOf x1) + (fr_sX x3.toNatClampNeg))) (x2 := ((m_X0_yOf x1) + (fr_sY x3.toNatClampNeg))) (D := D) (cI := cI) (cJ := cJ) (cZ := cZ) (cR := cR) (cN := cN) (fr_sub (ws' := [(a_z, .inr (ob_X0 a_z_kinds a_z_openWith a_z_keyCells z_goalCells a_z_round z_width z_height z_roundLength z_startCell))]) hP [0] rfl)) (cwV 2 hts gX0_target_X0_has rfl rfl rfl (by decide +kernel) ⟨Nat.le_of_ble_eq_true rfl, Nat.le_of_ble_eq_true rfl⟩) (fr_pvr hcx (va_recv hK hP (ci := 0) (q0 := 0) rfl rfl)) rfl rfl hl.1 rfl (lv_room (Nat.le_of_ble_eq_true rfl)) dX0_target_38 ⟨Nat.zero_le _, Nat.zero_le _⟩) hS (fun locs hS => ?_)
    refine lv_if_ne (tgt := 46) hx hb dX0_target_41 (by decide) (fun c_4 => ?_) (fun c_4 => ?_)
    · have hm := fr_ifn c_4 hm
      refine lv_iload hx hb dX0_target_46 (lv_at hl 1 rfl) ?_
      refine lv_iload hx hb dX0_target_48 (lv_at hl 0 rfl) ?_
      refine fr_roi (va_runS (As := [.int ((m_X0_xOf x1) + (fr_sX x3.toNatClampNeg)), .int ((m_X0_yOf x1) + (fr_sY x3.toNatClampNeg))]) (rest := []) ⟨hx, hb, hml, hown, hts⟩ (c_X0_cellAt (l := l) (x0 := ((m_X0_xOf x1) + (fr_sX x3.toNatClampNeg))) (x1 := ((m_X0_yOf x1) + (fr_sY x3.toNatClampNeg))) (D := D) (cI := cI) (cJ := cJ) (cZ := cZ) (cR := cR) (cN := cN) (H0 := H)) (va_cwS 2 hts gX0_target_X0_cellAt rfl rfl rfl (by decide +kernel) ⟨Nat.le_of_ble_eq_true rfl, Nat.le_of_ble_eq_true rfl⟩) (fr_psr hcx) rfl rfl hl.1 rfl (lv_room (Nat.le_of_ble_eq_true rfl)) dX0_target_50 ⟨Nat.zero_le _, Nat.zero_le _⟩) hS (fun locs hS => ?_)
      refine lv_istore (lv' := [(6, .int (m_X0_cellAt ((m_X0_xOf x1) + (fr_sX x3.toNatClampNeg)) ((m_X0_yOf x1) + (fr_sY x3.toNatClampNeg)))), (5, .int ((m_X0_yOf x1) + (fr_sY x3.toNatClampNeg))), (4, .int ((m_X0_xOf x1) + (fr_sX x3.toNatClampNeg))), (0, .ref a_z), (1, .int x1), (2, .int x2), (3, .int x3)]) hx hb dX0_target_53 hl (by decide) rfl (fun ls hl => ?_)
      refine lv_aload_n hx hb dX0_target_55 rfl (lv_at hl 3 rfl) ?_
      refine va_get (D := D) (ci := 0) (v := .ref a_z_kinds) (C := RX0) (T := TX0) (N := 9) hx hb hts in_X0_target_X0 hown hK hP 0 rfl rfl 0 (by decide) (hts (.fieldLink RX0 11 "FastestRun$Game" "kinds" "[I") (List.mem_of_getElem? (i := 3) rfl)) (fun _ h9 => h9) rfl dX0_target_56 ?_
      refine lv_iload hx hb dX0_target_59 (lv_at hl 0 rfl) ?_
      obtain ⟨h_5, hm⟩ := fr_ck hm
      refine va_iald hx hb hK hP 1 0 rfl rfl h_5 dX0_target_61 ?_
      refine lv_iload_n hx hb dX0_target_62 rfl (lv_at hl 5 rfl) ?_
      refine fr_roi (va_runS (As := [.int (z_kinds (m_X0_cellAt ((m_X0_xOf x1) + (fr_sX x3.toNatClampNeg)) ((m_X0_yOf x1) + (fr_sY x3.toNatClampNeg))).toNatClampNeg), .int x2]) (rest := []) ⟨hx, hb, hml, hown, hts⟩ (c_X0_lets (l := l) (x0 := (z_kinds (m_X0_cellAt ((m_X0_xOf x1) + (fr_sX x3.toNatClampNeg)) ((m_X0_yOf x1) + (fr_sY x3.toNatClampNeg))).toNatClampNeg)) (x1 := x2) (D := D) (cI := cI) (cJ := cJ) (cZ := cZ) (cR := cR) (cN := cN) (H0 := H)) (va_cwS 2 hts gX0_target_X0_lets rfl rfl rfl (by decide +kernel) ⟨Nat.le_of_ble_eq_true rfl, Nat.le_of_ble_eq_true rfl⟩) (fr_psr hcx) rfl rfl hl.1 rfl (lv_room (Nat.le_of_ble_eq_true rfl)) dX0_target_63 ⟨Nat.zero_le _, Nat.zero_le _⟩) hS (fun locs hS => ?_)
      refine lv_if_eq (tgt := 74) hx hb dX0_target_66 (by decide) (fun c_6 => ?_) (fun c_6 => ?_)
      · have hm := fr_ifp c_6 hm
        refine lv_iload_n hx hb dX0_target_74 rfl (lv_at hl 4 rfl) ?_
        exact W.iret (v := x1) hx hb hr (fun t ht hW => ⟨⟨_, (), rfl, (Option.some.inj hm), ht⟩, hS.F ht⟩) hS.2.2 dX0_target_75 hlocks
      · have hm := fr_ifn c_6 hm
        refine lv_iload hx hb dX0_target_69 (lv_at hl 0 rfl) ?_
        refine lv_goto (tgt := 75) hx hb dX0_target_71 (by decide) ?_
        exact W.iret (v := (m_X0_cellAt ((m_X0_xOf x1) + (fr_sX x3.toNatClampNeg)) ((m_X0_yOf x1) + (fr_sY x3.toNatClampNeg)))) hx hb hr (fun t ht hW => ⟨⟨_, (), rfl, (Option.some.inj hm), ht⟩, hS.F ht⟩) hS.2.2 dX0_target_75 hlocks
    · have hm := fr_ifp c_4 hm
      refine lv_iload_n hx hb dX0_target_44 rfl (lv_at hl 3 rfl) ?_
      exact W.iret (v := x1) hx hb hr (fun t ht hW => ⟨⟨_, (), rfl, (Option.some.inj hm), ht⟩, hS.F ht⟩) hS.2.2 dX0_target_45 hlocks
  · have hm := fr_ifp c_1 hm
    refine lv_iload_n hx hb dX0_target_7 rfl (lv_at hl 1 rfl) ?_
    exact W.iret (v := x1) hx hb hr (fun t ht hW => ⟨⟨_, (), rfl, (Option.some.inj hm), ht⟩, hS.F ht⟩) hS.2.2 dX0_target_8 hlocks
set_option maxHeartbeats 4000000 in
set_option maxRecDepth 100000 in
theorem c_X0_target {l : Launch} {D : va_G} {cI cJ cZ cR cN : ClassId} {tX tY : Nat} {a_z a_z_kinds a_z_openWith a_z_keyCells a_z_round : Nat} {z_goalCells : Int64} {z_width : Int32} {z_height : Int32} {z_roundLength : Int32} {z_startCell : Int32} {z_kinds : Nat → Int32} {x1 : Int32} {x2 : Int32} {x3 : Int32} {H0 : Heap} {r : Int32} (hm : m_X0_target z_width z_height z_kinds x1 x2 x3 = some r) (hP : va_P D vwCl [(a_z, .inr (ob_X0 a_z_kinds a_z_openWith a_z_keyCells z_goalCells a_z_round z_width z_height z_roundLength z_startCell)), (a_z_kinds, .inl (cI, 64, .inl z_kinds))] H0) : Met l yX0_target wsX0_target ({ frames := 1, cells := 0, slots := 0, locals := 22 } : Room) (fr_Prs D cI cJ cZ cR cN tX tY [.ref a_z, .int x1, .int x2, .int x3] H0) (fr_Ri H0 r) 0 0 (fun _ => False) := by
  refine fr_ofW (cc := cX0_target) (maxL := 7) (ret := (some .int)) (by decide +kernel) rfl ?_
  intro p e s m args below meth c s₁ B hml hv
  obtain ⟨rfl, hH, hcx, hst⟩ := hv
  subst hH
  have hB : fr_BX p s m _ meth c cX0_target (some .int) 7 RX0 wsX0_target := ⟨B.exec, B.bytes, B.returns, hml, findClass_of_methodNamed B.named, atoms_spec (ws := wsX0_target) B.pre, B.notSynchronized⟩
  have hl := lv_entry ([.ref a_z, .int x1, .int x2, .int x3]) (n := 7) (Nat.le_of_ble_eq_true rfl)
  rw [lg_entry_eq]
  generalize (lg_sl ([.ref a_z, .int x1, .int x2, .int x3]) ++ List.replicate (7 - (lg_sl ([.ref a_z, .int x1, .int x2, .int x3])).length) Slot.unset).toArray = ls at hl ⊢
  have hl : lv_has ls 7 [(0, .ref a_z), (1, .int x1), (2, .int x2), (3, .int x3)] := hl
  exact t_X0_target_0 hB hcx hst hm hP va_S.rf hl
theorem in_X0_meetsFoe_X0 : ∀ w ∈ wsX00, w ∈ wsX0_meetsFoe := fun w h => List.mem_cons_of_mem _ (List.mem_append_right _ h)
set_option maxHeartbeats 4000000 in
set_option maxRecDepth 100000 in
theorem t_X0_meetsFoe_0 {p : Program} {l : Launch} {e : Env} {s : State} {m : MethodId} {args : Array Value} {below : List Frame} {meth : Method} {c : Code} {D : va_G} {cI cJ cZ cR cN : ClassId} {a_z a_z_kinds a_z_openWith a_z_keyCells a_z_round : Nat} {z_goalCells : Int64} {z_width : Int32} {z_height : Int32} {z_roundLength : Int32} {z_startCell : Int32} {z_round : Nat → Int32} {x1 : Int32} {x2 : Int32} {x3 : Int32} {H : Heap} {r : Int32} (hB : fr_BX p s m args meth c cX0_meetsFoe (some .boolean) 6 RX0 wsX0_meetsFoe) (hcx : fr_cx D cI cJ cZ cR cN s) (hm : m_X0_meetsFoe z_roundLength z_round x1 x2 x3 = some r) {locs : List Loc} {ls : Array Slot} (hP : va_P D vwCl [(a_z, .inr (ob_X0 a_z_kinds a_z_openWith a_z_keyCells z_goalCells a_z_round z_width z_height z_roundLength z_startCell)), (a_z_round, .inl (cI, 6, .inl z_round))] H) (hS : va_S (fun _ => False) s.heap H locs) (hl : lv_has ls 6 [(0, .ref a_z), (1, .int x1), (2, .int x2), (3, .int x3)]) : W p l e ({ frames := 2, cells := 0, slots := 0, locals := 43 } : Room) s m args below meth c H locs 0 0 (MQ below (fr_Ri H r) args s 0 0 (fun _ => False)) (F0 m 0 ls []) := by
  obtain ⟨hx, hb, hr, hml, hown, hts, hlocks⟩ := id hB
  have hK := hcx.1
  unfold m_X0_meetsFoe at hm
  refine lv_aload_n hx hb dX0_meetsFoe_0 rfl (lv_at hl 0 rfl) ?_
  refine va_get (D := D) (ci := 0) (v := .int z_roundLength) (C := RX0) (T := TX0) (N := 9) hx hb hts in_X0_meetsFoe_X0 hown hK hP 0 rfl rfl 7 (by decide) (hts (.fieldLink RX0 36 "FastestRun$Game" "roundLength" "I") (List.mem_of_getElem? (i := 1) rfl)) (fun _ h9 => h9) rfl dX0_meetsFoe_1 ?_
  refine lv_if_ne (tgt := 9) hx hb dX0_meetsFoe_4 (by decide) (fun c_1 => ?_) (fun c_1 => ?_)
  · have hm := fr_ifn c_1 hm
    refine lv_aload_n hx hb dX0_meetsFoe_9 rfl (lv_at hl 0 rfl) ?_
    refine lv_iload_n hx hb dX0_meetsFoe_10 rfl (lv_at hl 3 rfl) ?_
    obtain ⟨o2, hc3, hm⟩ := fr_bd hm
    refine fr_roi (va_runV (As := [.int x3]) (rest := []) ⟨hx, hb, hml, hown, hts⟩ (c_X0_foeCell (l := l) (x1 := x3) (D := D) (cI := cI) (cJ := cJ) (cZ := cZ) (cR := cR) (cN := cN) hc3 hP) (cwV 1 hts gX0_meetsFoe_X0_foeCell rfl rfl rfl (by decide +kernel) ⟨Nat.le_of_ble_eq_true rfl, Nat.le_of_ble_eq_true rfl⟩) (fr_pvr hcx (va_recv hK hP (ci := 0) (q0 := 0) rfl rfl)) rfl rfl hl.1 rfl (lv_room (Nat.le_of_ble_eq_true rfl)) dX0_meetsFoe_11 ⟨Nat.zero_le _, Nat.zero_le _⟩) hS (fun locs hS => ?_)
    refine lv_istore (lv' := [(4, .int o2), (0, .ref a_z), (1, .int x1), (2, .int x2), (3, .int x3)]) hx hb dX0_meetsFoe_14 hl (by decide) rfl (fun ls hl => ?_)
    refine lv_aload_n hx hb dX0_meetsFoe_16 rfl (lv_at hl 1 rfl) ?_
    refine lv_iload_n hx hb dX0_meetsFoe_17 rfl (lv_at hl 4 rfl) ?_
    refine lv_iconst (v := (1 : Int32)) hx hb dX0_meetsFoe_18 (by decide) ?_
    refine lv_iadd hx hb dX0_meetsFoe_19 ?_
    obtain ⟨o4, hc5, hm⟩ := fr_bd hm
    refine fr_roi (va_runV (As := [.int (x3 + (1 : Int32))]) (rest := []) ⟨hx, hb, hml, hown, hts⟩ (c_X0_foeCell (l := l) (x1 := (x3 + (1 : Int32))) (D := D) (cI := cI) (cJ := cJ) (cZ := cZ) (cR := cR) (cN := cN) hc5 hP) (cwV 1 hts gX0_meetsFoe_X0_foeCell rfl rfl rfl (by decide +kernel) ⟨Nat.le_of_ble_eq_true rfl, Nat.le_of_ble_eq_true rfl⟩) (fr_pvr hcx (va_recv hK hP (ci := 0) (q0 := 0) rfl rfl)) rfl rfl hl.1 rfl (lv_room (Nat.le_of_ble_eq_true rfl)) dX0_meetsFoe_20 ⟨Nat.zero_le _, Nat.zero_le _⟩) hS (fun locs hS => ?_)
    refine lv_istore (lv' := [(5, .int o4), (4, .int o2), (0, .ref a_z), (1, .int x1), (2, .int x2), (3, .int x3)]) hx hb dX0_meetsFoe_23 hl (by decide) rfl (fun ls hl => ?_)
    refine lv_iload_n hx hb dX0_meetsFoe_25 rfl (lv_at hl 4 rfl) ?_
    refine lv_iload hx hb dX0_meetsFoe_26 (lv_at hl 0 rfl) ?_
    refine lv_icmp_eq (tgt := 43) hx hb dX0_meetsFoe_28 (by decide) (fun c_6 => ?_) (fun c_6 => ?_)
    · have hm := fr_ifp c_6 hm
      refine lv_iconst (v := (1 : Int32)) hx hb dX0_meetsFoe_43 (by decide) ?_
      refine lv_goto (tgt := 48) hx hb dX0_meetsFoe_44 (by decide) ?_
      exact W.zret (v := (1 : Int32)) hx hb hr rfl (fun t ht hW => ⟨⟨_, (), rfl, (Option.some.inj hm), ht⟩, hS.F ht⟩) hS.2.2 dX0_meetsFoe_48 hlocks
    · have hm := fr_ifn c_6 hm
      refine lv_iload_n hx hb dX0_meetsFoe_31 rfl (lv_at hl 4 rfl) ?_
      refine lv_iload hx hb dX0_meetsFoe_32 (lv_at hl 1 rfl) ?_
      refine lv_icmp_ne (tgt := 47) hx hb dX0_meetsFoe_34 (by decide) (fun c_7 => ?_) (fun c_7 => ?_)
      · have hm := fr_ifn c_7 hm
        refine lv_iconst (v := (0 : Int32)) hx hb dX0_meetsFoe_47 (by decide) ?_
        exact W.zret (v := (0 : Int32)) hx hb hr rfl (fun t ht hW => ⟨⟨_, (), rfl, (Option.some.inj hm), ht⟩, hS.F ht⟩) hS.2.2 dX0_meetsFoe_48 hlocks
      · have hm := fr_ifp c_7 hm
        refine lv_iload_n hx hb dX0_meetsFoe_37 rfl (lv_at hl 3 rfl) ?_
        refine lv_iload hx hb dX0_meetsFoe_38 (lv_at hl 0 rfl) ?_
        refine lv_icmp_ne (tgt := 47) hx hb dX0_meetsFoe_40 (by decide) (fun c_8 => ?_) (fun c_8 => ?_)
        · have hm := fr_ifn c_8 hm
          refine lv_iconst (v := (0 : Int32)) hx hb dX0_meetsFoe_47 (by decide) ?_
          exact W.zret (v := (0 : Int32)) hx hb hr rfl (fun t ht hW => ⟨⟨_, (), rfl, (Option.some.inj hm), ht⟩, hS.F ht⟩) hS.2.2 dX0_meetsFoe_48 hlocks
        · have hm := fr_ifp c_8 hm
          refine lv_iconst (v := (1 : Int32)) hx hb dX0_meetsFoe_43 (by decide) ?_
          refine lv_goto (tgt := 48) hx hb dX0_meetsFoe_44 (by decide) ?_
          exact W.zret (v := (1 : Int32)) hx hb hr rfl (fun t ht hW => ⟨⟨_, (), rfl, (Option.some.inj hm), ht⟩, hS.F ht⟩) hS.2.2 dX0_meetsFoe_48 hlocks
  · have hm := fr_ifp c_1 hm
    refine lv_iconst (v := (0 : Int32)) hx hb dX0_meetsFoe_7 (by decide) ?_
    exact W.zret (v := (0 : Int32)) hx hb hr rfl (fun t ht hW => ⟨⟨_, (), rfl, (Option.some.inj hm), ht⟩, hS.F ht⟩) hS.2.2 dX0_meetsFoe_8 hlocks
set_option maxHeartbeats 4000000 in
set_option maxRecDepth 100000 in
theorem c_X0_meetsFoe {l : Launch} {D : va_G} {cI cJ cZ cR cN : ClassId} {a_z a_z_kinds a_z_openWith a_z_keyCells a_z_round : Nat} {z_goalCells : Int64} {z_width : Int32} {z_height : Int32} {z_roundLength : Int32} {z_startCell : Int32} {z_round : Nat → Int32} {x1 : Int32} {x2 : Int32} {x3 : Int32} {H0 : Heap} {r : Int32} (hm : m_X0_meetsFoe z_roundLength z_round x1 x2 x3 = some r) (hP : va_P D vwCl [(a_z, .inr (ob_X0 a_z_kinds a_z_openWith a_z_keyCells z_goalCells a_z_round z_width z_height z_roundLength z_startCell)), (a_z_round, .inl (cI, 6, .inl z_round))] H0) : Met l yX0_meetsFoe wsX0_meetsFoe ({ frames := 2, cells := 0, slots := 0, locals := 43 } : Room) (fr_Pr D cI cJ cZ cR cN [.ref a_z, .int x1, .int x2, .int x3] H0) (fr_Ri H0 r) 0 0 (fun _ => False) := by
  refine fr_ofW (cc := cX0_meetsFoe) (maxL := 6) (ret := (some .boolean)) (by decide +kernel) rfl ?_
  intro p e s m args below meth c s₁ B hml hv
  obtain ⟨rfl, hH, hcx⟩ := hv
  subst hH
  have hB : fr_BX p s m _ meth c cX0_meetsFoe (some .boolean) 6 RX0 wsX0_meetsFoe := ⟨B.exec, B.bytes, B.returns, hml, findClass_of_methodNamed B.named, atoms_spec (ws := wsX0_meetsFoe) B.pre, B.notSynchronized⟩
  have hl := lv_entry ([.ref a_z, .int x1, .int x2, .int x3]) (n := 6) (Nat.le_of_ble_eq_true rfl)
  rw [lg_entry_eq]
  generalize (lg_sl ([.ref a_z, .int x1, .int x2, .int x3]) ++ List.replicate (6 - (lg_sl ([.ref a_z, .int x1, .int x2, .int x3])).length) Slot.unset).toArray = ls at hl ⊢
  have hl : lv_has ls 6 [(0, .ref a_z), (1, .int x1), (2, .int x2), (3, .int x3)] := hl
  exact t_X0_meetsFoe_0 hB hcx hm hP va_S.rf hl
set_option maxHeartbeats 4000000 in
set_option maxRecDepth 100000 in
theorem t_X0_keyIn_0 {p : Program} {l : Launch} {e : Env} {s : State} {m : MethodId} {args : Array Value} {below : List Frame} {meth : Method} {c : Code} {D : va_G} {cI cJ cZ cR cN : ClassId} {x0 : Int32} {H : Heap} {r : Int32} (hB : fr_BX p s m args meth c cX0_keyIn (some .int) 1 RX0 wsX0_keyIn) (hcx : fr_cx D cI cJ cZ cR cN s) (hm : m_X0_keyIn x0 = r) {locs : List Loc} {ls : Array Slot} (hS : va_S (fun _ => False) s.heap H locs) (hl : lv_has ls 1 [(0, .int x0)]) : W p l e ({ frames := 0, cells := 0, slots := 0, locals := 0 } : Room) s m args below meth c H locs 0 0 (MQ below (fr_Ri H r) args s 0 0 (fun _ => False)) (F0 m 0 ls []) := by
  obtain ⟨hx, hb, hr, hml, hown, hts, hlocks⟩ := id hB
  have hK := hcx.1
  unfold m_X0_keyIn at hm
  refine lv_iload_n hx hb dX0_keyIn_0 rfl (lv_at hl 0 rfl) ?_
  refine lv_iconst (v := (2 : Int32)) hx hb dX0_keyIn_1 (by decide) ?_
  refine lv_icmp_lt (tgt := 18) hx hb dX0_keyIn_2 (by decide) (fun c_1 => ?_) (fun c_1 => ?_)
  · have hm := fr_tip c_1 hm
    refine lv_iconst (v := (0 : Int32)) hx hb dX0_keyIn_18 (by decide) ?_
    exact W.iret (v := (0 : Int32)) hx hb hr (fun t ht hW => ⟨⟨_, (), rfl, hm, ht⟩, hS.F ht⟩) hS.2.2 dX0_keyIn_19 hlocks
  · have hm := fr_tin c_1 hm
    refine lv_iload_n hx hb dX0_keyIn_5 rfl (lv_at hl 0 rfl) ?_
    refine lv_iconst (v := (5 : Int32)) hx hb dX0_keyIn_6 (by decide) ?_
    refine lv_icmp_ge (tgt := 18) hx hb dX0_keyIn_7 (by decide) (fun c_2 => ?_) (fun c_2 => ?_)
    · have hm := fr_tip c_2 hm
      refine lv_iconst (v := (0 : Int32)) hx hb dX0_keyIn_18 (by decide) ?_
      exact W.iret (v := (0 : Int32)) hx hb hr (fun t ht hW => ⟨⟨_, (), rfl, hm, ht⟩, hS.F ht⟩) hS.2.2 dX0_keyIn_19 hlocks
    · have hm := fr_tin c_2 hm
      refine lv_iconst (v := (1 : Int32)) hx hb dX0_keyIn_10 (by decide) ?_
      refine lv_iload_n hx hb dX0_keyIn_11 rfl (lv_at hl 0 rfl) ?_
      refine lv_iconst (v := (2 : Int32)) hx hb dX0_keyIn_12 (by decide) ?_
      refine lv_isub hx hb dX0_keyIn_13 ?_
      refine lv_ishl hx hb dX0_keyIn_14 ?_
      refine lv_goto (tgt := 19) hx hb dX0_keyIn_15 (by decide) ?_
      exact W.iret (v := ((1 : Int32) <<< ((x0 - (2 : Int32)) &&& 31))) hx hb hr (fun t ht hW => ⟨⟨_, (), rfl, hm, ht⟩, hS.F ht⟩) hS.2.2 dX0_keyIn_19 hlocks
set_option maxHeartbeats 4000000 in
set_option maxRecDepth 100000 in
theorem c_X0_keyIn {l : Launch} {D : va_G} {cI cJ cZ cR cN : ClassId} {x0 : Int32} {H0 : Heap} : Met l yX0_keyIn wsX0_keyIn ({ frames := 0, cells := 0, slots := 0, locals := 0 } : Room) (fr_Pr D cI cJ cZ cR cN [.int x0] H0) (fr_Ri H0 (m_X0_keyIn x0)) 0 0 (fun _ => False) := by
  refine fr_ofW (cc := cX0_keyIn) (maxL := 1) (ret := (some .int)) (by decide +kernel) rfl ?_
  intro p e s m args below meth c s₁ B hml hv
  obtain ⟨rfl, hH, hcx⟩ := hv
  subst hH
  have hB : fr_BX p s m _ meth c cX0_keyIn (some .int) 1 RX0 wsX0_keyIn := ⟨B.exec, B.bytes, B.returns, hml, findClass_of_methodNamed B.named, atoms_spec (ws := wsX0_keyIn) B.pre, B.notSynchronized⟩
  have hl := lv_entry ([.int x0]) (n := 1) (Nat.le_of_ble_eq_true rfl)
  rw [lg_entry_eq]
  generalize (lg_sl ([.int x0]) ++ List.replicate (1 - (lg_sl ([.int x0])).length) Slot.unset).toArray = ls at hl ⊢
  have hl : lv_has ls 1 [(0, .int x0)] := hl
  exact t_X0_keyIn_0 hB hcx rfl va_S.rf hl
theorem in_X0_after_X0 : ∀ w ∈ wsX00, w ∈ wsX0_after := fun w h => List.mem_cons_of_mem _ (List.mem_append_right _ h)
set_option maxHeartbeats 4000000 in
set_option maxRecDepth 100000 in
theorem t_X0_after_77 {p : Program} {l : Launch} {e : Env} {s : State} {m : MethodId} {args : Array Value} {below : List Frame} {meth : Method} {c : Code} {D : va_G} {cI cJ cZ cR cN : ClassId} {tX tY : Nat} {a_z a_z_kinds a_z_openWith a_z_keyCells a_z_round : Nat} {z_goalCells : Int64} {z_width : Int32} {z_height : Int32} {z_roundLength : Int32} {z_startCell : Int32} {z_kinds : Nat → Int32} {z_round : Nat → Int32} {x1 : Int32} {x2 : Int32} {x3 : Int32} {v5 : Int32} {v6 : Int32} {v7 : Int32} {H : Heap} {r : Int32} (hB : fr_BX p s m args meth c cX0_after (some .int) 8 RX0 wsX0_after) (hcx : fr_cx D cI cJ cZ cR cN s) (hst : fr_sx tX tY (fun _ => False) s s.heap) (hm : m_X0_after_b77 z_width z_height z_roundLength z_kinds z_round x1 x2 x3 v5 v6 v7 = some r) {locs : List Loc} {ls : Array Slot} (hP : va_P D vwCl [(a_z, .inr (ob_X0 a_z_kinds a_z_openWith a_z_keyCells z_goalCells a_z_round z_width z_height z_roundLength z_startCell)), (a_z_kinds, .inl (cI, 64, .inl z_kinds)), (a_z_round, .inl (cI, 6, .inl z_round))] H) (hS : va_S (fun _ => False) s.heap H locs) (hl : lv_has ls 8 [(5, .int v5), (6, .int v6), (7, .int v7)]) : W p l e ({ frames := 3, cells := 0, slots := 0, locals := 68 } : Room) s m args below meth c H locs 0 0 (MQ below (fr_Ri H r) args s 0 0 (fun _ => False)) (F0 m 77 ls []) := by
  obtain ⟨hx, hb, hr, hml, hown, hts, hlocks⟩ := id hB
  have hK := hcx.1
  unfold m_X0_after_b77 at hm
  refine lv_iload hx hb dX0_after_77 (lv_at hl 2 rfl) ?_
  refine lv_sipush (v := (512 : Int32)) hx hb dX0_after_79 (by decide) ?_
  refine lv_imul hx hb dX0_after_82 ?_
  refine lv_iload hx hb dX0_after_83 (lv_at hl 0 rfl) ?_
  refine lv_bipush (v := (64 : Int32)) hx hb dX0_after_85 (by decide) ?_
  refine lv_imul hx hb dX0_after_87 ?_
  refine lv_iadd hx hb dX0_after_88 ?_
  refine lv_iload hx hb dX0_after_89 (lv_at hl 1 rfl) ?_
  refine lv_iadd hx hb dX0_after_91 ?_
  exact W.iret (v := (((v7 * (512 : Int32)) + (v5 * (64 : Int32))) + v6)) hx hb hr (fun t ht hW => ⟨⟨_, (), rfl, (Option.some.inj hm), ht⟩, hS.F ht⟩) hS.2.2 dX0_after_92 hlocks
set_option maxHeartbeats 4000000 in
set_option maxRecDepth 100000 in
theorem t_X0_after_0 {p : Program} {l : Launch} {e : Env} {s : State} {m : MethodId} {args : Array Value} {below : List Frame} {meth : Method} {c : Code} {D : va_G} {cI cJ cZ cR cN : ClassId} {tX tY : Nat} {a_z a_z_kinds a_z_openWith a_z_keyCells a_z_round : Nat} {z_goalCells : Int64} {z_width : Int32} {z_height : Int32} {z_roundLength : Int32} {z_startCell : Int32} {z_kinds : Nat → Int32} {z_round : Nat → Int32} {x1 : Int32} {x2 : Int32} {x3 : Int32} {H : Heap} {r : Int32} (hB : fr_BX p s m args meth c cX0_after (some .int) 8 RX0 wsX0_after) (hcx : fr_cx D cI cJ cZ cR cN s) (hst : fr_sx tX tY (fun _ => False) s s.heap) (hm : m_X0_after z_width z_height z_roundLength z_kinds z_round x1 x2 x3 = some r) {locs : List Loc} {ls : Array Slot} (hP : va_P D vwCl [(a_z, .inr (ob_X0 a_z_kinds a_z_openWith a_z_keyCells z_goalCells a_z_round z_width z_height z_roundLength z_startCell)), (a_z_kinds, .inl (cI, 64, .inl z_kinds)), (a_z_round, .inl (cI, 6, .inl z_round))] H) (hS : va_S (fun _ => False) s.heap H locs) (hl : lv_has ls 8 [(0, .ref a_z), (1, .int x1), (2, .int x2), (3, .int x3)]) : W p l e ({ frames := 3, cells := 0, slots := 0, locals := 68 } : Room) s m args below meth c H locs 0 0 (MQ below (fr_Ri H r) args s 0 0 (fun _ => False)) (F0 m 0 ls []) := by
  obtain ⟨hx, hb, hr, hml, hown, hts, hlocks⟩ := id hB
  have hK := hcx.1
  unfold m_X0_after at hm
  refine lv_iload_n hx hb dX0_after_0 rfl (lv_at hl 1 rfl) ?_
  refine fr_roi (va_runS (As := [.int x1]) (rest := []) ⟨hx, hb, hml, hown, hts⟩ (c_X0_cellOf (l := l) (x0 := x1) (D := D) (cI := cI) (cJ := cJ) (cZ := cZ) (cR := cR) (cN := cN) (H0 := H)) (va_cwS 1 hts gX0_after_X0_cellOf rfl rfl rfl (by decide +kernel) ⟨Nat.le_of_ble_eq_true rfl, Nat.le_of_ble_eq_true rfl⟩) (fr_psr hcx) rfl rfl hl.1 rfl (lv_room (Nat.le_of_ble_eq_true rfl)) dX0_after_1 ⟨Nat.zero_le _, Nat.zero_le _⟩) hS (fun locs hS => ?_)
  refine lv_istore (lv' := [(4, .int (m_X0_cellOf x1)), (0, .ref a_z), (1, .int x1), (2, .int x2), (3, .int x3)]) hx hb dX0_after_4 hl (by decide) rfl (fun ls hl => ?_)
  refine lv_iload_n hx hb dX0_after_6 rfl (lv_at hl 2 rfl) ?_
  refine fr_roi (va_runS (As := [.int x1]) (rest := []) ⟨hx, hb, hml, hown, hts⟩ (c_X0_keysOf (l := l) (x0 := x1) (D := D) (cI := cI) (cJ := cJ) (cZ := cZ) (cR := cR) (cN := cN) (H0 := H)) (va_cwS 1 hts gX0_after_X0_keysOf rfl rfl rfl (by decide +kernel) ⟨Nat.le_of_ble_eq_true rfl, Nat.le_of_ble_eq_true rfl⟩) (fr_psr hcx) rfl rfl hl.1 rfl (lv_room (Nat.le_of_ble_eq_true rfl)) dX0_after_7 ⟨Nat.zero_le _, Nat.zero_le _⟩) hS (fun locs hS => ?_)
  refine lv_istore (lv' := [(5, .int (m_X0_keysOf x1)), (4, .int (m_X0_cellOf x1)), (0, .ref a_z), (1, .int x1), (2, .int x2), (3, .int x3)]) hx hb dX0_after_10 hl (by decide) rfl (fun ls hl => ?_)
  refine lv_aload_n hx hb dX0_after_12 rfl (lv_at hl 2 rfl) ?_
  refine lv_iload hx hb dX0_after_13 (lv_at hl 1 rfl) ?_
  refine lv_iload hx hb dX0_after_15 (lv_at hl 0 rfl) ?_
  refine lv_iload_n hx hb dX0_after_17 rfl (lv_at hl 5 rfl) ?_
  obtain ⟨o1, hc2, hm⟩ := fr_bd hm
  refine fr_roi (va_runV (As := [.int (m_X0_cellOf x1), .int (m_X0_keysOf x1), .int x3]) (rest := []) ⟨hx, hb, hml, hown, hts⟩ (c_X0_target (l := l) (x1 := (m_X0_cellOf x1)) (x2 := (m_X0_keysOf x1)) (x3 := x3) (D := D) (cI := cI) (cJ := cJ) (cZ := cZ) (cR := cR) (cN := cN) (tX := tX) (tY := tY) hc2 (fr_sub (ws' := [(a_z, .inr (ob_X0 a_z_kinds a_z_openWith a_z_keyCells z_goalCells a_z_round z_width z_height z_roundLength z_startCell)), (a_z_kinds, .inl (cI, 64, .inl z_kinds))]) hP [0, 1] rfl)) (cwV 3 hts gX0_after_X0_target rfl rfl rfl (by decide +kernel) ⟨Nat.le_of_ble_eq_true rfl, Nat.le_of_ble_eq_true rfl⟩) (fr_pvrs hcx hst hS (va_recv hK hP (ci := 0) (q0 := 0) rfl rfl)) rfl rfl hl.1 rfl (lv_room (Nat.le_of_ble_eq_true rfl)) dX0_after_18 ⟨Nat.zero_le _, Nat.zero_le _⟩) hS (fun locs hS => ?_)
  refine lv_istore (lv' := [(6, .int o1), (5, .int (m_X0_keysOf x1)), (4, .int (m_X0_cellOf x1)), (0, .ref a_z), (1, .int x1), (2, .int x2), (3, .int x3)]) hx hb dX0_after_21 hl (by decide) rfl (fun ls hl => ?_)
  refine lv_iconst (v := (0 : Int32)) hx hb dX0_after_23 (by decide) ?_
  refine lv_istore (lv' := [(7, .int (0 : Int32)), (6, .int o1), (5, .int (m_X0_keysOf x1)), (4, .int (m_X0_cellOf x1)), (0, .ref a_z), (1, .int x1), (2, .int x2), (3, .int x3)]) hx hb dX0_after_24 hl (by decide) rfl (fun ls hl => ?_)
  refine lv_aload_n hx hb dX0_after_26 rfl (lv_at hl 4 rfl) ?_
  refine lv_iload hx hb dX0_after_27 (lv_at hl 3 rfl) ?_
  refine lv_iload hx hb dX0_after_29 (lv_at hl 1 rfl) ?_
  refine lv_iload_n hx hb dX0_after_31 rfl (lv_at hl 6 rfl) ?_
  obtain ⟨o3, hc4, hm⟩ := fr_bd hm
  refine fr_roi (va_runV (As := [.int (m_X0_cellOf x1), .int o1, .int x2]) (rest := []) ⟨hx, hb, hml, hown, hts⟩ (c_X0_meetsFoe (l := l) (x1 := (m_X0_cellOf x1)) (x2 := o1) (x3 := x2) (D := D) (cI := cI) (cJ := cJ) (cZ := cZ) (cR := cR) (cN := cN) hc4 (fr_sub (ws' := [(a_z, .inr (ob_X0 a_z_kinds a_z_openWith a_z_keyCells z_goalCells a_z_round z_width z_height z_roundLength z_startCell)), (a_z_round, .inl (cI, 6, .inl z_round))]) hP [0, 2] rfl)) (cwV 3 hts gX0_after_X0_meetsFoe rfl rfl rfl (by decide +kernel) ⟨Nat.le_of_ble_eq_true rfl, Nat.le_of_ble_eq_true rfl⟩) (fr_pvr hcx (va_recv hK hP (ci := 0) (q0 := 0) rfl rfl)) rfl rfl hl.1 rfl (lv_room (Nat.le_of_ble_eq_true rfl)) dX0_after_32 ⟨Nat.zero_le _, Nat.zero_le _⟩) hS (fun locs hS => ?_)
  refine lv_if_eq (tgt := 44) hx hb dX0_after_35 (by decide) (fun c_5 => ?_) (fun c_5 => ?_)
  · have hm := fr_ifp c_5 hm
    refine lv_aload_n hx hb dX0_after_44 rfl (lv_at hl 4 rfl) ?_
    refine va_get (D := D) (ci := 0) (v := .ref a_z_kinds) (C := RX0) (T := TX0) (N := 9) hx hb hts in_X0_after_X0 hown hK hP 0 rfl rfl 0 (by decide) (hts (.fieldLink RX0 11 "FastestRun$Game" "kinds" "[I") (List.mem_of_getElem? (i := 1) rfl)) (fun _ h9 => h9) rfl dX0_after_45 ?_
    refine lv_iload hx hb dX0_after_48 (lv_at hl 1 rfl) ?_
    obtain ⟨h_6, hm⟩ := fr_ck hm
    refine va_iald hx hb hK hP 1 0 rfl rfl h_6 dX0_after_50 ?_
    refine lv_bipush (v := (8 : Int32)) hx hb dX0_after_51 (by decide) ?_
    refine lv_icmp_ne (tgt := 62) hx hb dX0_after_53 (by decide) (fun c_7 => ?_) (fun c_7 => ?_)
    · have hm := fr_ifn c_7 hm
      refine lv_iload hx hb dX0_after_62 (lv_at hl 2 rfl) ?_
      refine lv_aload_n hx hb dX0_after_64 rfl (lv_at hl 4 rfl) ?_
      refine va_get (D := D) (ci := 0) (v := .ref a_z_kinds) (C := RX0) (T := TX0) (N := 9) hx hb hts in_X0_after_X0 hown hK hP 0 rfl rfl 0 (by decide) (hts (.fieldLink RX0 11 "FastestRun$Game" "kinds" "[I") (List.mem_of_getElem? (i := 1) rfl)) (fun _ h9 => h9) rfl dX0_after_65 ?_
      refine lv_iload hx hb dX0_after_68 (lv_at hl 1 rfl) ?_
      obtain ⟨h_8, hm⟩ := fr_ck hm
      refine va_iald hx hb hK hP 1 0 rfl rfl h_8 dX0_after_70 ?_
      refine fr_roi (va_runS (As := [.int (z_kinds o1.toNatClampNeg)]) (rest := [.int (m_X0_keysOf x1)]) ⟨hx, hb, hml, hown, hts⟩ (c_X0_keyIn (l := l) (x0 := (z_kinds o1.toNatClampNeg)) (D := D) (cI := cI) (cJ := cJ) (cZ := cZ) (cR := cR) (cN := cN) (H0 := H)) (va_cwS 1 hts gX0_after_X0_keyIn rfl rfl rfl (by decide +kernel) ⟨Nat.le_of_ble_eq_true rfl, Nat.le_of_ble_eq_true rfl⟩) (fr_psr hcx) rfl rfl hl.1 rfl (lv_room (Nat.le_of_ble_eq_true rfl)) dX0_after_71 ⟨Nat.zero_le _, Nat.zero_le _⟩) hS (fun locs hS => ?_)
      refine lv_ior hx hb dX0_after_74 ?_
      refine lv_istore (lv' := [(5, .int ((m_X0_keysOf x1) ||| (m_X0_keyIn (z_kinds o1.toNatClampNeg)))), (7, .int (0 : Int32)), (6, .int o1), (4, .int (m_X0_cellOf x1)), (0, .ref a_z), (1, .int x1), (2, .int x2), (3, .int x3)]) hx hb dX0_after_75 hl (by decide) rfl (fun ls hl => ?_)
      exact t_X0_after_77 hB hcx hst hm hP hS (lv_sub hl [0, 2, 1] rfl)
    · have hm := fr_ifp c_7 hm
      refine lv_iconst (v := (2 : Int32)) hx hb dX0_after_56 (by decide) ?_
      refine lv_istore (lv' := [(7, .int (2 : Int32)), (6, .int o1), (5, .int (m_X0_keysOf x1)), (4, .int (m_X0_cellOf x1)), (0, .ref a_z), (1, .int x1), (2, .int x2), (3, .int x3)]) hx hb dX0_after_57 hl (by decide) rfl (fun ls hl => ?_)
      refine lv_goto (tgt := 77) hx hb dX0_after_59 (by decide) ?_
      exact t_X0_after_77 hB hcx hst hm hP hS (lv_sub hl [2, 1, 0] rfl)
  · have hm := fr_ifn c_5 hm
    refine lv_iconst (v := (1 : Int32)) hx hb dX0_after_38 (by decide) ?_
    refine lv_istore (lv' := [(7, .int (1 : Int32)), (6, .int o1), (5, .int (m_X0_keysOf x1)), (4, .int (m_X0_cellOf x1)), (0, .ref a_z), (1, .int x1), (2, .int x2), (3, .int x3)]) hx hb dX0_after_39 hl (by decide) rfl (fun ls hl => ?_)
    refine lv_goto (tgt := 77) hx hb dX0_after_41 (by decide) ?_
    exact t_X0_after_77 hB hcx hst hm hP hS (lv_sub hl [2, 1, 0] rfl)
set_option maxHeartbeats 4000000 in
set_option maxRecDepth 100000 in
theorem c_X0_after {l : Launch} {D : va_G} {cI cJ cZ cR cN : ClassId} {tX tY : Nat} {a_z a_z_kinds a_z_openWith a_z_keyCells a_z_round : Nat} {z_goalCells : Int64} {z_width : Int32} {z_height : Int32} {z_roundLength : Int32} {z_startCell : Int32} {z_kinds : Nat → Int32} {z_round : Nat → Int32} {x1 : Int32} {x2 : Int32} {x3 : Int32} {H0 : Heap} {r : Int32} (hm : m_X0_after z_width z_height z_roundLength z_kinds z_round x1 x2 x3 = some r) (hP : va_P D vwCl [(a_z, .inr (ob_X0 a_z_kinds a_z_openWith a_z_keyCells z_goalCells a_z_round z_width z_height z_roundLength z_startCell)), (a_z_kinds, .inl (cI, 64, .inl z_kinds)), (a_z_round, .inl (cI, 6, .inl z_round))] H0) : Met l yX0_after wsX0_after ({ frames := 3, cells := 0, slots := 0, locals := 68 } : Room) (fr_Prs D cI cJ cZ cR cN tX tY [.ref a_z, .int x1, .int x2, .int x3] H0) (fr_Ri H0 r) 0 0 (fun _ => False) := by
  refine fr_ofW (cc := cX0_after) (maxL := 8) (ret := (some .int)) (by decide +kernel) rfl ?_
  intro p e s m args below meth c s₁ B hml hv
  obtain ⟨rfl, hH, hcx, hst⟩ := hv
  subst hH
  have hB : fr_BX p s m _ meth c cX0_after (some .int) 8 RX0 wsX0_after := ⟨B.exec, B.bytes, B.returns, hml, findClass_of_methodNamed B.named, atoms_spec (ws := wsX0_after) B.pre, B.notSynchronized⟩
  have hl := lv_entry ([.ref a_z, .int x1, .int x2, .int x3]) (n := 8) (Nat.le_of_ble_eq_true rfl)
  rw [lg_entry_eq]
  generalize (lg_sl ([.ref a_z, .int x1, .int x2, .int x3]) ++ List.replicate (8 - (lg_sl ([.ref a_z, .int x1, .int x2, .int x3])).length) Slot.unset).toArray = ls at hl ⊢
  have hl : lv_has ls 8 [(0, .ref a_z), (1, .int x1), (2, .int x2), (3, .int x3)] := hl
  exact t_X0_after_0 hB hcx hst hm hP va_S.rf hl
theorem in_X0_allMoved_X0 : ∀ w ∈ wsX00, w ∈ wsX0_allMoved := fun w h => List.mem_cons_of_mem _ (List.mem_append_right _ h)
set_option maxHeartbeats 4000000 in
set_option maxRecDepth 100000 in
theorem t_X0_allMoved_0 {p : Program} {l : Launch} {e : Env} {s : State} {m : MethodId} {args : Array Value} {below : List Frame} {meth : Method} {c : Code} {D : va_G} {cI cJ cZ cR cN : ClassId} {a_z a_z_kinds a_z_openWith a_z_keyCells a_z_round : Nat} {z_goalCells : Int64} {z_width : Int32} {z_height : Int32} {z_roundLength : Int32} {z_startCell : Int32} {z_openWith : Nat → Int64} {x1 : Int64} {x3 : Int32} {H : Heap} {r : Int64} (hB : fr_BX p s m args meth c cX0_allMoved (some .long) 8 RX0 wsX0_allMoved) (hcx : fr_cx D cI cJ cZ cR cN s) (hm : m_X0_allMoved z_openWith x1 x3 = some r) {locs : List Loc} {ls : Array Slot} (hP : va_P D vwCl [(a_z, .inr (ob_X0 a_z_kinds a_z_openWith a_z_keyCells z_goalCells a_z_round z_width z_height z_roundLength z_startCell)), (a_z_openWith, .inl (cJ, 8, .inr (.inl z_openWith)))] H) (hS : va_S (fun _ => False) s.heap H locs) (hl : lv_has ls 8 [(0, .ref a_z), (1, .long x1), (3, .int x3)]) : W p l e ({ frames := 0, cells := 0, slots := 0, locals := 0 } : Room) s m args below meth c H locs 0 0 (MQ below (fr_Rl H r) args s 0 0 (fun _ => False)) (F0 m 0 ls []) := by
  obtain ⟨hx, hb, hr, hml, hown, hts, hlocks⟩ := id hB
  have hK := hcx.1
  unfold m_X0_allMoved at hm
  refine lv_iload_n hx hb dX0_allMoved_0 rfl (lv_at hl 2 rfl) ?_
  refine lv_if_lt (tgt := 10) hx hb dX0_allMoved_1 (by decide) (fun c_1 => ?_) (fun c_1 => ?_)
  · have hm := fr_ifp c_1 hm
    refine lv_lconst (v := (0 : Int64)) hx hb dX0_allMoved_10 (by decide) ?_
    exact W.lret (v := (0 : Int64)) hx hb hr (fun t ht hW => ⟨⟨_, (), rfl, (Option.some.inj hm), ht⟩, hS.F ht⟩) hS.2.2 dX0_allMoved_11 hlocks
  · have hm := fr_ifn c_1 hm
    refine lv_iload_n hx hb dX0_allMoved_4 rfl (lv_at hl 2 rfl) ?_
    refine lv_bipush (v := (8 : Int32)) hx hb dX0_allMoved_5 (by decide) ?_
    refine lv_icmp_lt (tgt := 12) hx hb dX0_allMoved_7 (by decide) (fun c_2 => ?_) (fun c_2 => ?_)
    · have hm := fr_ifp c_2 hm
      refine lv_lload_n hx hb dX0_allMoved_12 rfl (lv_at hl 1 rfl) ?_
      refine lv_bipush (v := (8 : Int32)) hx hb dX0_allMoved_13 (by decide) ?_
      refine lv_lushr (v := (x1.toUInt64 >>> ((8 : Int32).toInt64.toUInt64 &&& Int64.toUInt64 63)).toInt64) hx hb dX0_allMoved_15 rfl ?_
      refine lv_lload_n hx hb dX0_allMoved_16 rfl (lv_at hl 1 rfl) ?_
      refine lv_bipush (v := (8 : Int32)) hx hb dX0_allMoved_17 (by decide) ?_
      refine lv_lshl (v := (x1 <<< ((8 : Int32).toInt64 &&& 63))) hx hb dX0_allMoved_19 rfl ?_
      refine lv_lor hx hb dX0_allMoved_20 ?_
      refine lv_lstore (lv' := [(4, .long ((x1.toUInt64 >>> ((8 : Int32).toInt64.toUInt64 &&& Int64.toUInt64 63)).toInt64 ||| (x1 <<< ((8 : Int32).toInt64 &&& 63)))), (0, .ref a_z), (1, .long x1), (3, .int x3)]) hx hb dX0_allMoved_21 hl (by decide) rfl (fun ls hl => ?_)
      refine lv_lload_n hx hb dX0_allMoved_23 rfl (lv_at hl 2 rfl) ?_
      refine lv_ldc2 (v := (9187201950435737471 : Int64)) hx hb hown (hts (.constantLong RX0 122 (9187201950435737471)) (List.mem_of_getElem? (i := 1) rfl)) dX0_allMoved_24 ?_
      refine lv_land hx hb dX0_allMoved_27 ?_
      refine lv_iconst (v := (1 : Int32)) hx hb dX0_allMoved_28 (by decide) ?_
      refine lv_lshl (v := ((x1 &&& (9187201950435737471 : Int64)) <<< ((1 : Int32).toInt64 &&& 63))) hx hb dX0_allMoved_29 rfl ?_
      refine lv_lload_n hx hb dX0_allMoved_30 rfl (lv_at hl 2 rfl) ?_
      refine lv_ldc2 (v := (-72340172838076674 : Int64)) hx hb hown (hts (.constantLong RX0 124 (-72340172838076674)) (List.mem_of_getElem? (i := 2) rfl)) dX0_allMoved_31 ?_
      refine lv_land hx hb dX0_allMoved_34 ?_
      refine lv_iconst (v := (1 : Int32)) hx hb dX0_allMoved_35 (by decide) ?_
      refine lv_lushr (v := ((x1 &&& (-72340172838076674 : Int64)).toUInt64 >>> ((1 : Int32).toInt64.toUInt64 &&& Int64.toUInt64 63)).toInt64) hx hb dX0_allMoved_36 rfl ?_
      refine lv_lor hx hb dX0_allMoved_37 ?_
      refine lv_lstore (lv' := [(6, .long (((x1 &&& (9187201950435737471 : Int64)) <<< ((1 : Int32).toInt64 &&& 63)) ||| ((x1 &&& (-72340172838076674 : Int64)).toUInt64 >>> ((1 : Int32).toInt64.toUInt64 &&& Int64.toUInt64 63)).toInt64)), (4, .long ((x1.toUInt64 >>> ((8 : Int32).toInt64.toUInt64 &&& Int64.toUInt64 63)).toInt64 ||| (x1 <<< ((8 : Int32).toInt64 &&& 63)))), (0, .ref a_z), (1, .long x1), (3, .int x3)]) hx hb dX0_allMoved_38 hl (by decide) rfl (fun ls hl => ?_)
      refine lv_lload hx hb dX0_allMoved_40 (lv_at hl 1 rfl) ?_
      refine lv_lload hx hb dX0_allMoved_42 (lv_at hl 0 rfl) ?_
      refine lv_lor hx hb dX0_allMoved_44 ?_
      refine lv_aload_n hx hb dX0_allMoved_45 rfl (lv_at hl 2 rfl) ?_
      refine va_get (D := D) (ci := 0) (v := .ref a_z_openWith) (C := RX0) (T := TX0) (N := 9) hx hb hts in_X0_allMoved_X0 hown hK hP 0 rfl rfl 1 (by decide) (hts (.fieldLink RX0 15 "FastestRun$Game" "openWith" "[J") (List.mem_of_getElem? (i := 3) rfl)) (fun _ h9 => h9) rfl dX0_allMoved_46 ?_
      refine lv_iload_n hx hb dX0_allMoved_49 rfl (lv_at hl 4 rfl) ?_
      obtain ⟨h_3, hm⟩ := fr_ck hm
      refine va_lald hx hb hK hP 1 1 rfl rfl h_3 dX0_allMoved_50 ?_
      refine lv_land hx hb dX0_allMoved_51 ?_
      exact W.lret (v := ((((x1.toUInt64 >>> ((8 : Int32).toInt64.toUInt64 &&& Int64.toUInt64 63)).toInt64 ||| (x1 <<< ((8 : Int32).toInt64 &&& 63))) ||| (((x1 &&& (9187201950435737471 : Int64)) <<< ((1 : Int32).toInt64 &&& 63)) ||| ((x1 &&& (-72340172838076674 : Int64)).toUInt64 >>> ((1 : Int32).toInt64.toUInt64 &&& Int64.toUInt64 63)).toInt64)) &&& (z_openWith x3.toNatClampNeg))) hx hb hr (fun t ht hW => ⟨⟨_, (), rfl, (Option.some.inj hm), ht⟩, hS.F ht⟩) hS.2.2 dX0_allMoved_52 hlocks
    · have hm := fr_ifn c_2 hm
      refine lv_lconst (v := (0 : Int64)) hx hb dX0_allMoved_10 (by decide) ?_
      exact W.lret (v := (0 : Int64)) hx hb hr (fun t ht hW => ⟨⟨_, (), rfl, (Option.some.inj hm), ht⟩, hS.F ht⟩) hS.2.2 dX0_allMoved_11 hlocks
set_option maxHeartbeats 4000000 in
set_option maxRecDepth 100000 in
theorem c_X0_allMoved {l : Launch} {D : va_G} {cI cJ cZ cR cN : ClassId} {a_z a_z_kinds a_z_openWith a_z_keyCells a_z_round : Nat} {z_goalCells : Int64} {z_width : Int32} {z_height : Int32} {z_roundLength : Int32} {z_startCell : Int32} {z_openWith : Nat → Int64} {x1 : Int64} {x3 : Int32} {H0 : Heap} {r : Int64} (hm : m_X0_allMoved z_openWith x1 x3 = some r) (hP : va_P D vwCl [(a_z, .inr (ob_X0 a_z_kinds a_z_openWith a_z_keyCells z_goalCells a_z_round z_width z_height z_roundLength z_startCell)), (a_z_openWith, .inl (cJ, 8, .inr (.inl z_openWith)))] H0) : Met l yX0_allMoved wsX0_allMoved ({ frames := 0, cells := 0, slots := 0, locals := 0 } : Room) (fr_Pr D cI cJ cZ cR cN [.ref a_z, .long x1, .int x3] H0) (fr_Rl H0 r) 0 0 (fun _ => False) := by
  refine fr_ofW (cc := cX0_allMoved) (maxL := 8) (ret := (some .long)) (by decide +kernel) rfl ?_
  intro p e s m args below meth c s₁ B hml hv
  obtain ⟨rfl, hH, hcx⟩ := hv
  subst hH
  have hB : fr_BX p s m _ meth c cX0_allMoved (some .long) 8 RX0 wsX0_allMoved := ⟨B.exec, B.bytes, B.returns, hml, findClass_of_methodNamed B.named, atoms_spec (ws := wsX0_allMoved) B.pre, B.notSynchronized⟩
  have hl := lv_entry ([.ref a_z, .long x1, .int x3]) (n := 8) (Nat.le_of_ble_eq_true rfl)
  rw [lg_entry_eq]
  generalize (lg_sl ([.ref a_z, .long x1, .int x3]) ++ List.replicate (8 - (lg_sl ([.ref a_z, .long x1, .int x3])).length) Slot.unset).toArray = ls at hl ⊢
  have hl : lv_has ls 8 [(0, .ref a_z), (1, .long x1), (3, .int x3)] := hl
  exact t_X0_allMoved_0 hB hcx hm hP va_S.rf hl
theorem in_X0_allAfter_X0 : ∀ w ∈ wsX00, w ∈ wsX0_allAfter := fun w h => List.mem_cons_of_mem _ (List.mem_append_right _ h)
set_option maxHeartbeats 4000000 in
set_option maxRecDepth 100000 in
theorem t_X0_allAfter_0 {p : Program} {l : Launch} {e : Env} {s : State} {m : MethodId} {args : Array Value} {below : List Frame} {meth : Method} {c : Code} {D : va_G} {cI cJ cZ cR cN : ClassId} {a_z a_z_kinds a_z_openWith a_z_keyCells a_z_round : Nat} {z_goalCells : Int64} {z_width : Int32} {z_height : Int32} {z_roundLength : Int32} {z_startCell : Int32} {z_openWith : Nat → Int64} {z_round : Nat → Int32} {x1 : Int64} {x3 : Int32} {x4 : Int32} {H : Heap} {r : Int64} (hB : fr_BX p s m args meth c cX0_allAfter (some .long) 13 RX0 wsX0_allAfter) (hcx : fr_cx D cI cJ cZ cR cN s) (hm : m_X0_allAfter z_roundLength z_openWith z_round x1 x3 x4 = some r) {locs : List Loc} {ls : Array Slot} (hP : va_P D vwCl [(a_z, .inr (ob_X0 a_z_kinds a_z_openWith a_z_keyCells z_goalCells a_z_round z_width z_height z_roundLength z_startCell)), (a_z_openWith, .inl (cJ, 8, .inr (.inl z_openWith))), (a_z_round, .inl (cI, 6, .inl z_round))] H) (hS : va_S (fun _ => False) s.heap H locs) (hl : lv_has ls 13 [(0, .ref a_z), (1, .long x1), (3, .int x3), (4, .int x4)]) : W p l e ({ frames := 2, cells := 0, slots := 0, locals := 43 } : Room) s m args below meth c H locs 0 0 (MQ below (fr_Rl H r) args s 0 0 (fun _ => False)) (F0 m 0 ls []) := by
  obtain ⟨hx, hb, hr, hml, hown, hts, hlocks⟩ := id hB
  have hK := hcx.1
  unfold m_X0_allAfter at hm
  refine lv_aload_n hx hb dX0_allAfter_0 rfl (lv_at hl 0 rfl) ?_
  refine va_get (D := D) (ci := 0) (v := .int z_roundLength) (C := RX0) (T := TX0) (N := 9) hx hb hts in_X0_allAfter_X0 hown hK hP 0 rfl rfl 7 (by decide) (hts (.fieldLink RX0 36 "FastestRun$Game" "roundLength" "I") (List.mem_of_getElem? (i := 1) rfl)) (fun _ h9 => h9) rfl dX0_allAfter_1 ?_
  refine lv_if_ne (tgt := 16) hx hb dX0_allAfter_4 (by decide) (fun c_1 => ?_) (fun c_1 => ?_)
  · have hm := fr_ifn c_1 hm
    refine lv_lconst (v := (1 : Int64)) hx hb dX0_allAfter_16 (by decide) ?_
    refine lv_aload_n hx hb dX0_allAfter_17 rfl (lv_at hl 0 rfl) ?_
    refine lv_iload hx hb dX0_allAfter_18 (lv_at hl 3 rfl) ?_
    obtain ⟨o2, hc3, hm⟩ := fr_bd hm
    refine fr_roi (va_runV (As := [.int x4]) (rest := [.long (1 : Int64)]) ⟨hx, hb, hml, hown, hts⟩ (c_X0_foeCell (l := l) (x1 := x4) (D := D) (cI := cI) (cJ := cJ) (cZ := cZ) (cR := cR) (cN := cN) hc3 (fr_sub (ws' := [(a_z, .inr (ob_X0 a_z_kinds a_z_openWith a_z_keyCells z_goalCells a_z_round z_width z_height z_roundLength z_startCell)), (a_z_round, .inl (cI, 6, .inl z_round))]) hP [0, 2] rfl)) (cwV 1 hts gX0_allAfter_X0_foeCell rfl rfl rfl (by decide +kernel) ⟨Nat.le_of_ble_eq_true rfl, Nat.le_of_ble_eq_true rfl⟩) (fr_pvr hcx (va_recv hK hP (ci := 0) (q0 := 0) rfl rfl)) rfl rfl hl.1 rfl (lv_room (Nat.le_of_ble_eq_true rfl)) dX0_allAfter_20 ⟨Nat.zero_le _, Nat.zero_le _⟩) hS (fun locs hS => ?_)
    refine lv_lshl (v := ((1 : Int64) <<< (o2.toInt64 &&& 63))) hx hb dX0_allAfter_23 rfl ?_
    refine lv_lstore (lv' := [(5, .long ((1 : Int64) <<< (o2.toInt64 &&& 63))), (0, .ref a_z), (1, .long x1), (3, .int x3), (4, .int x4)]) hx hb dX0_allAfter_24 hl (by decide) rfl (fun ls hl => ?_)
    refine lv_lconst (v := (1 : Int64)) hx hb dX0_allAfter_26 (by decide) ?_
    refine lv_aload_n hx hb dX0_allAfter_27 rfl (lv_at hl 1 rfl) ?_
    refine lv_iload hx hb dX0_allAfter_28 (lv_at hl 4 rfl) ?_
    refine lv_iconst (v := (1 : Int32)) hx hb dX0_allAfter_30 (by decide) ?_
    refine lv_iadd hx hb dX0_allAfter_31 ?_
    obtain ⟨o4, hc5, hm⟩ := fr_bd hm
    refine fr_roi (va_runV (As := [.int (x4 + (1 : Int32))]) (rest := [.long (1 : Int64)]) ⟨hx, hb, hml, hown, hts⟩ (c_X0_foeCell (l := l) (x1 := (x4 + (1 : Int32))) (D := D) (cI := cI) (cJ := cJ) (cZ := cZ) (cR := cR) (cN := cN) hc5 (fr_sub (ws' := [(a_z, .inr (ob_X0 a_z_kinds a_z_openWith a_z_keyCells z_goalCells a_z_round z_width z_height z_roundLength z_startCell)), (a_z_round, .inl (cI, 6, .inl z_round))]) hP [0, 2] rfl)) (cwV 1 hts gX0_allAfter_X0_foeCell rfl rfl rfl (by decide +kernel) ⟨Nat.le_of_ble_eq_true rfl, Nat.le_of_ble_eq_true rfl⟩) (fr_pvr hcx (va_recv hK hP (ci := 0) (q0 := 0) rfl rfl)) rfl rfl hl.1 rfl (lv_room (Nat.le_of_ble_eq_true rfl)) dX0_allAfter_32 ⟨Nat.zero_le _, Nat.zero_le _⟩) hS (fun locs hS => ?_)
    refine lv_lshl (v := ((1 : Int64) <<< (o4.toInt64 &&& 63))) hx hb dX0_allAfter_35 rfl ?_
    refine lv_lstore (lv' := [(7, .long ((1 : Int64) <<< (o4.toInt64 &&& 63))), (5, .long ((1 : Int64) <<< (o2.toInt64 &&& 63))), (0, .ref a_z), (1, .long x1), (3, .int x3), (4, .int x4)]) hx hb dX0_allAfter_36 hl (by decide) rfl (fun ls hl => ?_)
    refine lv_aload_n hx hb dX0_allAfter_38 rfl (lv_at hl 2 rfl) ?_
    refine lv_lload_n hx hb dX0_allAfter_39 rfl (lv_at hl 3 rfl) ?_
    refine lv_lload hx hb dX0_allAfter_40 (lv_at hl 0 rfl) ?_
    refine lv_ldc2 (v := (-1 : Int64)) hx hb hown (hts (.constantLong RX0 71 (-1)) (List.mem_of_getElem? (i := 2) rfl)) dX0_allAfter_42 ?_
    refine lv_lxor hx hb dX0_allAfter_45 ?_
    refine lv_land hx hb dX0_allAfter_46 ?_
    refine lv_iload_n hx hb dX0_allAfter_47 rfl (lv_at hl 4 rfl) ?_
    obtain ⟨o6, hc7, hm⟩ := fr_bd hm
    refine fr_rol (va_runV (As := [.long (x1 &&& (((1 : Int64) <<< (o4.toInt64 &&& 63)) ^^^ (-1 : Int64))), .int x3]) (rest := []) ⟨hx, hb, hml, hown, hts⟩ (c_X0_allMoved (l := l) (x1 := (x1 &&& (((1 : Int64) <<< (o4.toInt64 &&& 63)) ^^^ (-1 : Int64)))) (x3 := x3) (D := D) (cI := cI) (cJ := cJ) (cZ := cZ) (cR := cR) (cN := cN) hc7 (fr_sub (ws' := [(a_z, .inr (ob_X0 a_z_kinds a_z_openWith a_z_keyCells z_goalCells a_z_round z_width z_height z_roundLength z_startCell)), (a_z_openWith, .inl (cJ, 8, .inr (.inl z_openWith)))]) hP [0, 1] rfl)) (cwV 2 hts gX0_allAfter_X0_allMoved rfl rfl rfl (by decide +kernel) ⟨Nat.le_of_ble_eq_true rfl, Nat.le_of_ble_eq_true rfl⟩) (fr_pvr hcx (va_recv hK hP (ci := 0) (q0 := 0) rfl rfl)) rfl rfl hl.1 rfl (lv_room (Nat.le_of_ble_eq_true rfl)) dX0_allAfter_48 ⟨Nat.zero_le _, Nat.zero_le _⟩) hS (fun locs hS => ?_)
    refine lv_lstore (lv' := [(9, .long o6), (7, .long ((1 : Int64) <<< (o4.toInt64 &&& 63))), (5, .long ((1 : Int64) <<< (o2.toInt64 &&& 63))), (0, .ref a_z), (1, .long x1), (3, .int x3), (4, .int x4)]) hx hb dX0_allAfter_51 hl (by decide) rfl (fun ls hl => ?_)
    refine lv_aload_n hx hb dX0_allAfter_53 rfl (lv_at hl 3 rfl) ?_
    refine lv_lload_n hx hb dX0_allAfter_54 rfl (lv_at hl 4 rfl) ?_
    refine lv_lload hx hb dX0_allAfter_55 (lv_at hl 1 rfl) ?_
    refine lv_land hx hb dX0_allAfter_57 ?_
    refine lv_iload_n hx hb dX0_allAfter_58 rfl (lv_at hl 5 rfl) ?_
    obtain ⟨o8, hc9, hm⟩ := fr_bd hm
    refine fr_rol (va_runV (As := [.long (x1 &&& ((1 : Int64) <<< (o4.toInt64 &&& 63))), .int x3]) (rest := []) ⟨hx, hb, hml, hown, hts⟩ (c_X0_allMoved (l := l) (x1 := (x1 &&& ((1 : Int64) <<< (o4.toInt64 &&& 63)))) (x3 := x3) (D := D) (cI := cI) (cJ := cJ) (cZ := cZ) (cR := cR) (cN := cN) hc9 (fr_sub (ws' := [(a_z, .inr (ob_X0 a_z_kinds a_z_openWith a_z_keyCells z_goalCells a_z_round z_width z_height z_roundLength z_startCell)), (a_z_openWith, .inl (cJ, 8, .inr (.inl z_openWith)))]) hP [0, 1] rfl)) (cwV 2 hts gX0_allAfter_X0_allMoved rfl rfl rfl (by decide +kernel) ⟨Nat.le_of_ble_eq_true rfl, Nat.le_of_ble_eq_true rfl⟩) (fr_pvr hcx (va_recv hK hP (ci := 0) (q0 := 0) rfl rfl)) rfl rfl hl.1 rfl (lv_room (Nat.le_of_ble_eq_true rfl)) dX0_allAfter_59 ⟨Nat.zero_le _, Nat.zero_le _⟩) hS (fun locs hS => ?_)
    refine lv_lload hx hb dX0_allAfter_62 (lv_at hl 2 rfl) ?_
    refine lv_ldc2 (v := (-1 : Int64)) hx hb hown (hts (.constantLong RX0 71 (-1)) (List.mem_of_getElem? (i := 2) rfl)) dX0_allAfter_64 ?_
    refine lv_lxor hx hb dX0_allAfter_67 ?_
    refine lv_land hx hb dX0_allAfter_68 ?_
    refine lv_lstore (lv' := [(11, .long (o8 &&& (((1 : Int64) <<< (o2.toInt64 &&& 63)) ^^^ (-1 : Int64)))), (9, .long o6), (7, .long ((1 : Int64) <<< (o4.toInt64 &&& 63))), (5, .long ((1 : Int64) <<< (o2.toInt64 &&& 63))), (0, .ref a_z), (1, .long x1), (3, .int x3), (4, .int x4)]) hx hb dX0_allAfter_69 hl (by decide) rfl (fun ls hl => ?_)
    refine lv_lload_n hx hb dX0_allAfter_71 rfl (lv_at hl 5 rfl) ?_
    refine lv_lload hx hb dX0_allAfter_72 (lv_at hl 1 rfl) ?_
    refine lv_lor hx hb dX0_allAfter_74 ?_
    refine lv_lload hx hb dX0_allAfter_75 (lv_at hl 0 rfl) ?_
    refine lv_lor hx hb dX0_allAfter_77 ?_
    refine lv_lload hx hb dX0_allAfter_78 (lv_at hl 2 rfl) ?_
    refine lv_ldc2 (v := (-1 : Int64)) hx hb hown (hts (.constantLong RX0 71 (-1)) (List.mem_of_getElem? (i := 2) rfl)) dX0_allAfter_80 ?_
    refine lv_lxor hx hb dX0_allAfter_83 ?_
    refine lv_land hx hb dX0_allAfter_84 ?_
    exact W.lret (v := (((x1 ||| o6) ||| (o8 &&& (((1 : Int64) <<< (o2.toInt64 &&& 63)) ^^^ (-1 : Int64)))) &&& (((1 : Int64) <<< (o4.toInt64 &&& 63)) ^^^ (-1 : Int64)))) hx hb hr (fun t ht hW => ⟨⟨_, (), rfl, (Option.some.inj hm), ht⟩, hS.F ht⟩) hS.2.2 dX0_allAfter_85 hlocks
  · have hm := fr_ifp c_1 hm
    refine lv_lload_n hx hb dX0_allAfter_7 rfl (lv_at hl 1 rfl) ?_
    refine lv_aload_n hx hb dX0_allAfter_8 rfl (lv_at hl 0 rfl) ?_
    refine lv_lload_n hx hb dX0_allAfter_9 rfl (lv_at hl 1 rfl) ?_
    refine lv_iload_n hx hb dX0_allAfter_10 rfl (lv_at hl 2 rfl) ?_
    obtain ⟨o10, hc11, hm⟩ := fr_bd hm
    refine fr_rol (va_runV (As := [.long x1, .int x3]) (rest := [.long x1]) ⟨hx, hb, hml, hown, hts⟩ (c_X0_allMoved (l := l) (x1 := x1) (x3 := x3) (D := D) (cI := cI) (cJ := cJ) (cZ := cZ) (cR := cR) (cN := cN) hc11 (fr_sub (ws' := [(a_z, .inr (ob_X0 a_z_kinds a_z_openWith a_z_keyCells z_goalCells a_z_round z_width z_height z_roundLength z_startCell)), (a_z_openWith, .inl (cJ, 8, .inr (.inl z_openWith)))]) hP [0, 1] rfl)) (cwV 2 hts gX0_allAfter_X0_allMoved rfl rfl rfl (by decide +kernel) ⟨Nat.le_of_ble_eq_true rfl, Nat.le_of_ble_eq_true rfl⟩) (fr_pvr hcx (va_recv hK hP (ci := 0) (q0 := 0) rfl rfl)) rfl rfl hl.1 rfl (lv_room (Nat.le_of_ble_eq_true rfl)) dX0_allAfter_11 ⟨Nat.zero_le _, Nat.zero_le _⟩) hS (fun locs hS => ?_)
    refine lv_lor hx hb dX0_allAfter_14 ?_
    exact W.lret (v := (x1 ||| o10)) hx hb hr (fun t ht hW => ⟨⟨_, (), rfl, (Option.some.inj hm), ht⟩, hS.F ht⟩) hS.2.2 dX0_allAfter_15 hlocks
set_option maxHeartbeats 4000000 in
set_option maxRecDepth 100000 in
theorem c_X0_allAfter {l : Launch} {D : va_G} {cI cJ cZ cR cN : ClassId} {a_z a_z_kinds a_z_openWith a_z_keyCells a_z_round : Nat} {z_goalCells : Int64} {z_width : Int32} {z_height : Int32} {z_roundLength : Int32} {z_startCell : Int32} {z_openWith : Nat → Int64} {z_round : Nat → Int32} {x1 : Int64} {x3 : Int32} {x4 : Int32} {H0 : Heap} {r : Int64} (hm : m_X0_allAfter z_roundLength z_openWith z_round x1 x3 x4 = some r) (hP : va_P D vwCl [(a_z, .inr (ob_X0 a_z_kinds a_z_openWith a_z_keyCells z_goalCells a_z_round z_width z_height z_roundLength z_startCell)), (a_z_openWith, .inl (cJ, 8, .inr (.inl z_openWith))), (a_z_round, .inl (cI, 6, .inl z_round))] H0) : Met l yX0_allAfter wsX0_allAfter ({ frames := 2, cells := 0, slots := 0, locals := 43 } : Room) (fr_Pr D cI cJ cZ cR cN [.ref a_z, .long x1, .int x3, .int x4] H0) (fr_Rl H0 r) 0 0 (fun _ => False) := by
  refine fr_ofW (cc := cX0_allAfter) (maxL := 13) (ret := (some .long)) (by decide +kernel) rfl ?_
  intro p e s m args below meth c s₁ B hml hv
  obtain ⟨rfl, hH, hcx⟩ := hv
  subst hH
  have hB : fr_BX p s m _ meth c cX0_allAfter (some .long) 13 RX0 wsX0_allAfter := ⟨B.exec, B.bytes, B.returns, hml, findClass_of_methodNamed B.named, atoms_spec (ws := wsX0_allAfter) B.pre, B.notSynchronized⟩
  have hl := lv_entry ([.ref a_z, .long x1, .int x3, .int x4]) (n := 13) (Nat.le_of_ble_eq_true rfl)
  rw [lg_entry_eq]
  generalize (lg_sl ([.ref a_z, .long x1, .int x3, .int x4]) ++ List.replicate (13 - (lg_sl ([.ref a_z, .long x1, .int x3, .int x4])).length) Slot.unset).toArray = ls at hl ⊢
  have hl : lv_has ls 13 [(0, .ref a_z), (1, .long x1), (3, .int x3), (4, .int x4)] := hl
  exact t_X0_allAfter_0 hB hcx hm hP va_S.rf hl
