theorem in_X7_count_X0 : ∀ w ∈ wsX00, w ∈ wsX7_count := by decide +kernel
theorem in_X7_count_X2 : ∀ w ∈ wsX20, w ∈ wsX7_count := fun w h => List.mem_cons_of_mem _ (List.mem_append_right _ h)
theorem in_X7_count_X3 : ∀ w ∈ wsX30, w ∈ wsX7_count := by decide +kernel
theorem in_X7_count_X6 : ∀ w ∈ wsX60, w ∈ wsX7_count := by decide +kernel
theorem in_X7_count_X7 : ∀ w ∈ wsX70, w ∈ wsX7_count := by decide +kernel
set_option maxHeartbeats 4000000 in
set_option maxRecDepth 100000 in
theorem t_X7_count_0 {p : Program} {l : Launch} {e : Env} {s : State} {m : MethodId} {args : Array Value} {below : List Frame} {meth : Method} {c : Code} {D : va_G} {cI cJ cZ cR cN : ClassId} {a_z a_z_game a_z_run a_z_kept a_z_isKept a_z_search a_z_claimed a_z_splits a_z_roads a_z_game_kinds a_z_game_openWith a_z_game_keyCells a_z_game_round a_z_claimed_presses a_z_splits_cells a_z_splits_earliest a_z_splits_latest a_z_splits_here a_z_splits_ahead a_z_roads_roads a_z_roads_fewest a_z_roads_chances a_z_roads_stands a_z_roads_isListed a_z_roads_stepRoads a_z_roads_stepThings : Nat} {z_game_goalCells : Int64} {z_game_width : Int32} {z_game_height : Int32} {z_game_roundLength : Int32} {z_game_startCell : Int32} {z_claimed_length : Int32} {z_splits_length : Int32} {z_roads_length : Int32} {z_roads_goalRoom : Int32} {z_roads_goalThings : Int32} {z_roads_anewPrice : Int32} {z_roads_knownLevels : Int32} {z_roads_standCount : Int32} {z_roads_stepCount : Int32} {x1 : Int32} {H : Heap} {r : Int32} (hB : fr_BX p s m args meth c cX7_count (some .int) 2 RX7 wsX7_count) (hcx : fr_cx D cI cJ cZ cR cN s) (hm : m_X7_count z_game_width z_game_height z_game_roundLength z_claimed_length z_splits_length z_roads_length x1 = r) {locs : List Loc} {ls : Array Slot} (hP : va_P D vwCl [(a_z, .inr (ob_X7 a_z_game a_z_run a_z_kept a_z_isKept a_z_search a_z_claimed a_z_splits a_z_roads)), (a_z_game, .inr (ob_X0 a_z_game_kinds a_z_game_openWith a_z_game_keyCells z_game_goalCells a_z_game_round z_game_width z_game_height z_game_roundLength z_game_startCell)), (a_z_claimed, .inr (ob_X3 a_z_claimed_presses z_claimed_length)), (a_z_splits, .inr (ob_X6 a_z_splits_cells a_z_splits_earliest a_z_splits_latest z_splits_length a_z_splits_here a_z_splits_ahead)), (a_z_roads, .inr (ob_X2 a_z_roads_roads z_roads_length z_roads_goalRoom z_roads_goalThings z_roads_anewPrice a_z_roads_fewest a_z_roads_chances z_roads_knownLevels a_z_roads_stands a_z_roads_isListed z_roads_standCount a_z_roads_stepRoads a_z_roads_stepThings z_roads_stepCount))] H) (hS : va_S (fun _ => False) s.heap H locs) (hl : lv_has ls 2 [(0, .ref a_z), (1, .int x1)]) : W p l e ({ frames := 0, cells := 0, slots := 0, locals := 0 } : Room) s m args below meth c H locs 0 0 (MQ below (fr_Ri H r) args s 0 0 (fun _ => False)) (F0 m 0 ls []) := by
  obtain ⟨hx, hb, hr, hml, hown, hts, hlocks⟩ := id hB
  have hK := hcx.1
  unfold m_X7_count at hm
  refine lv_iload_n hx hb dX7_count_0 rfl (lv_at hl 1 rfl) ?_
  by_cases c_1 : x1 = (0 : Int32)
  · have hm := fr_tip c_1 hm
    refine lv_tableIn (off := 39) (tgt := 40) hx hb dX7_count_1 (by rw [c_1]; decide) (by rw [c_1]; decide) (by rw [c_1]; rfl) (by decide) ?_
    refine lv_aload_n hx hb dX7_count_40 rfl (lv_at hl 0 rfl) ?_
    refine va_get (D := D) (ci := 7) (v := .ref a_z_game) (C := RX7) (T := TX7) (N := 8) hx hb hts in_X7_count_X7 hown hK hP 0 rfl rfl 0 (by decide) (hts (.fieldLink RX7 10 "FastestRun" "game" "LFastestRun$Game;") (List.mem_of_getElem? (i := 1) rfl)) (fun _ h9 => h9) rfl dX7_count_41 ?_
    refine va_getN (D := D) (ci := 0) (v := .int z_game_width) (C := RX0) (T := TX0) (N := 9) hx hb hts in_X7_count_X0 hown hK hP 1 rfl rfl 5 (by decide) (va_Nw.use rfl (hcx.2.1 ("FastestRun", 249, "FastestRun$Game", "width", "I") (by decide +kernel))) (fun _ h9 => h9) rfl dX7_count_44 ?_
    exact W.iret (v := z_game_width) hx hb hr (fun t ht hW => ⟨⟨_, (), rfl, hm, ht⟩, hS.F ht⟩) hS.2.2 dX7_count_47 hlocks
  have hm := fr_tin c_1 hm
  by_cases c_2 : x1 = (1 : Int32)
  · have hm := fr_tip c_2 hm
    refine lv_tableIn (off := 47) (tgt := 48) hx hb dX7_count_1 (by rw [c_2]; decide) (by rw [c_2]; decide) (by rw [c_2]; rfl) (by decide) ?_
    refine lv_aload_n hx hb dX7_count_48 rfl (lv_at hl 0 rfl) ?_
    refine va_get (D := D) (ci := 7) (v := .ref a_z_game) (C := RX7) (T := TX7) (N := 8) hx hb hts in_X7_count_X7 hown hK hP 0 rfl rfl 0 (by decide) (hts (.fieldLink RX7 10 "FastestRun" "game" "LFastestRun$Game;") (List.mem_of_getElem? (i := 1) rfl)) (fun _ h9 => h9) rfl dX7_count_49 ?_
    refine va_getN (D := D) (ci := 0) (v := .int z_game_height) (C := RX0) (T := TX0) (N := 9) hx hb hts in_X7_count_X0 hown hK hP 1 rfl rfl 6 (by decide) (va_Nw.use rfl (hcx.2.1 ("FastestRun", 252, "FastestRun$Game", "height", "I") (by decide +kernel))) (fun _ h9 => h9) rfl dX7_count_52 ?_
    exact W.iret (v := z_game_height) hx hb hr (fun t ht hW => ⟨⟨_, (), rfl, hm, ht⟩, hS.F ht⟩) hS.2.2 dX7_count_55 hlocks
  have hm := fr_tin c_2 hm
  by_cases c_3 : x1 = (2 : Int32)
  · have hm := fr_tip c_3 hm
    refine lv_tableIn (off := 55) (tgt := 56) hx hb dX7_count_1 (by rw [c_3]; decide) (by rw [c_3]; decide) (by rw [c_3]; rfl) (by decide) ?_
    refine lv_aload_n hx hb dX7_count_56 rfl (lv_at hl 0 rfl) ?_
    refine va_get (D := D) (ci := 7) (v := .ref a_z_game) (C := RX7) (T := TX7) (N := 8) hx hb hts in_X7_count_X7 hown hK hP 0 rfl rfl 0 (by decide) (hts (.fieldLink RX7 10 "FastestRun" "game" "LFastestRun$Game;") (List.mem_of_getElem? (i := 1) rfl)) (fun _ h9 => h9) rfl dX7_count_57 ?_
    refine va_getN (D := D) (ci := 0) (v := .int z_game_roundLength) (C := RX0) (T := TX0) (N := 9) hx hb hts in_X7_count_X0 hown hK hP 1 rfl rfl 7 (by decide) (va_Nw.use rfl (hcx.2.1 ("FastestRun", 255, "FastestRun$Game", "roundLength", "I") (by decide +kernel))) (fun _ h9 => h9) rfl dX7_count_60 ?_
    exact W.iret (v := z_game_roundLength) hx hb hr (fun t ht hW => ⟨⟨_, (), rfl, hm, ht⟩, hS.F ht⟩) hS.2.2 dX7_count_63 hlocks
  have hm := fr_tin c_3 hm
  by_cases c_4 : x1 = (3 : Int32)
  · have hm := fr_tip c_4 hm
    refine lv_tableIn (off := 63) (tgt := 64) hx hb dX7_count_1 (by rw [c_4]; decide) (by rw [c_4]; decide) (by rw [c_4]; rfl) (by decide) ?_
    refine lv_aload_n hx hb dX7_count_64 rfl (lv_at hl 0 rfl) ?_
    refine va_get (D := D) (ci := 7) (v := .ref a_z_claimed) (C := RX7) (T := TX7) (N := 8) hx hb hts in_X7_count_X7 hown hK hP 0 rfl rfl 5 (by decide) (hts (.fieldLink RX7 43 "FastestRun" "claimed" "LFastestRun$Row;") (List.mem_of_getElem? (i := 2) rfl)) (fun _ h9 => h9) rfl dX7_count_65 ?_
    refine va_getN (D := D) (ci := 3) (v := .int z_claimed_length) (C := RX3) (T := TX3) (N := 2) hx hb hts in_X7_count_X3 hown hK hP 2 rfl rfl 1 (by decide) (va_Nw.use rfl (hcx.2.1 ("FastestRun", 106, "FastestRun$Row", "length", "I") (by decide +kernel))) (fun _ h9 => h9) rfl dX7_count_68 ?_
    exact W.iret (v := z_claimed_length) hx hb hr (fun t ht hW => ⟨⟨_, (), rfl, hm, ht⟩, hS.F ht⟩) hS.2.2 dX7_count_71 hlocks
  have hm := fr_tin c_4 hm
  by_cases c_5 : x1 = (4 : Int32)
  · have hm := fr_tip c_5 hm
    refine lv_tableIn (off := 71) (tgt := 72) hx hb dX7_count_1 (by rw [c_5]; decide) (by rw [c_5]; decide) (by rw [c_5]; rfl) (by decide) ?_
    refine lv_aload_n hx hb dX7_count_72 rfl (lv_at hl 0 rfl) ?_
    refine va_get (D := D) (ci := 7) (v := .ref a_z_splits) (C := RX7) (T := TX7) (N := 8) hx hb hts in_X7_count_X7 hown hK hP 0 rfl rfl 6 (by decide) (hts (.fieldLink RX7 50 "FastestRun" "splits" "LFastestRun$Splits;") (List.mem_of_getElem? (i := 3) rfl)) (fun _ h9 => h9) rfl dX7_count_73 ?_
    refine va_getN (D := D) (ci := 6) (v := .int z_splits_length) (C := RX6) (T := TX6) (N := 6) hx hb hts in_X7_count_X6 hown hK hP 3 rfl rfl 3 (by decide) (va_Nw.use rfl (hcx.2.1 ("FastestRun", 172, "FastestRun$Splits", "length", "I") (by decide +kernel))) (fun _ h9 => h9) rfl dX7_count_76 ?_
    exact W.iret (v := z_splits_length) hx hb hr (fun t ht hW => ⟨⟨_, (), rfl, hm, ht⟩, hS.F ht⟩) hS.2.2 dX7_count_79 hlocks
  have hm := fr_tin c_5 hm
  by_cases c_6 : x1 = (5 : Int32)
  · have hm := fr_tip c_6 hm
    refine lv_tableIn (off := 79) (tgt := 80) hx hb dX7_count_1 (by rw [c_6]; decide) (by rw [c_6]; decide) (by rw [c_6]; rfl) (by decide) ?_
    refine lv_aload_n hx hb dX7_count_80 rfl (lv_at hl 0 rfl) ?_
    refine va_get (D := D) (ci := 7) (v := .ref a_z_roads) (C := RX7) (T := TX7) (N := 8) hx hb hts in_X7_count_X7 hown hK hP 0 rfl rfl 7 (by decide) (hts (.fieldLink RX7 57 "FastestRun" "roads" "LFastestRun$RoadMap;") (List.mem_of_getElem? (i := 4) rfl)) (fun _ h9 => h9) rfl dX7_count_81 ?_
    refine va_getN (D := D) (ci := 2) (v := .int z_roads_length) (C := RX2) (T := TX2) (N := 14) hx hb hts in_X7_count_X2 hown hK hP 4 rfl rfl 1 (by decide) (va_Nw.use rfl (hcx.2.1 ("FastestRun", 197, "FastestRun$RoadMap", "length", "I") (by decide +kernel))) (fun _ h9 => h9) rfl dX7_count_84 ?_
    exact W.iret (v := z_roads_length) hx hb hr (fun t ht hW => ⟨⟨_, (), rfl, hm, ht⟩, hS.F ht⟩) hS.2.2 dX7_count_87 hlocks
  have hm := fr_tin c_6 hm
  have c_1_ := lv_neT c_1 (a := 0) rfl
  have c_2_ := lv_neT c_2 (a := 1) rfl
  have c_3_ := lv_neT c_3 (a := 2) rfl
  have c_4_ := lv_neT c_4 (a := 3) rfl
  have c_5_ := lv_neT c_5 (a := 4) rfl
  have c_6_ := lv_neT c_6 (a := 5) rfl
  refine lv_tableOut (tgt := 88) hx hb dX7_count_1 (by omega) (by decide) ?_
  refine lv_iconst (v := (-1 : Int32)) hx hb dX7_count_88 (by decide) ?_
  exact W.iret (v := (-1 : Int32)) hx hb hr (fun t ht hW => ⟨⟨_, (), rfl, hm, ht⟩, hS.F ht⟩) hS.2.2 dX7_count_89 hlocks
set_option maxHeartbeats 4000000 in
set_option maxRecDepth 100000 in
theorem c_X7_count {l : Launch} {D : va_G} {cI cJ cZ cR cN : ClassId} {a_z a_z_game a_z_run a_z_kept a_z_isKept a_z_search a_z_claimed a_z_splits a_z_roads a_z_game_kinds a_z_game_openWith a_z_game_keyCells a_z_game_round a_z_claimed_presses a_z_splits_cells a_z_splits_earliest a_z_splits_latest a_z_splits_here a_z_splits_ahead a_z_roads_roads a_z_roads_fewest a_z_roads_chances a_z_roads_stands a_z_roads_isListed a_z_roads_stepRoads a_z_roads_stepThings : Nat} {z_game_goalCells : Int64} {z_game_width : Int32} {z_game_height : Int32} {z_game_roundLength : Int32} {z_game_startCell : Int32} {z_claimed_length : Int32} {z_splits_length : Int32} {z_roads_length : Int32} {z_roads_goalRoom : Int32} {z_roads_goalThings : Int32} {z_roads_anewPrice : Int32} {z_roads_knownLevels : Int32} {z_roads_standCount : Int32} {z_roads_stepCount : Int32} {x1 : Int32} {H0 : Heap} (hP : va_P D vwCl [(a_z, .inr (ob_X7 a_z_game a_z_run a_z_kept a_z_isKept a_z_search a_z_claimed a_z_splits a_z_roads)), (a_z_game, .inr (ob_X0 a_z_game_kinds a_z_game_openWith a_z_game_keyCells z_game_goalCells a_z_game_round z_game_width z_game_height z_game_roundLength z_game_startCell)), (a_z_claimed, .inr (ob_X3 a_z_claimed_presses z_claimed_length)), (a_z_splits, .inr (ob_X6 a_z_splits_cells a_z_splits_earliest a_z_splits_latest z_splits_length a_z_splits_here a_z_splits_ahead)), (a_z_roads, .inr (ob_X2 a_z_roads_roads z_roads_length z_roads_goalRoom z_roads_goalThings z_roads_anewPrice a_z_roads_fewest a_z_roads_chances z_roads_knownLevels a_z_roads_stands a_z_roads_isListed z_roads_standCount a_z_roads_stepRoads a_z_roads_stepThings z_roads_stepCount))] H0) : Met l yX7_count wsX7_count ({ frames := 0, cells := 0, slots := 0, locals := 0 } : Room) (fr_Pr D cI cJ cZ cR cN [.ref a_z, .int x1] H0) (fr_Ri H0 (m_X7_count z_game_width z_game_height z_game_roundLength z_claimed_length z_splits_length z_roads_length x1)) 0 0 (fun _ => False) := by
  refine fr_ofW (cc := cX7_count) (maxL := 2) (ret := (some .int)) (by decide +kernel) rfl ?_
  intro p e s m args below meth c s₁ B hml hv
  obtain ⟨rfl, hH, hcx⟩ := hv
  subst hH
  have hB : fr_BX p s m _ meth c cX7_count (some .int) 2 RX7 wsX7_count := ⟨B.exec, B.bytes, B.returns, hml, findClass_of_methodNamed B.named, atoms_spec (ws := wsX7_count) B.pre, B.notSynchronized⟩
  have hl := lv_entry ([.ref a_z, .int x1]) (n := 2) (Nat.le_of_ble_eq_true rfl)
  rw [lg_entry_eq]
  generalize (lg_sl ([.ref a_z, .int x1]) ++ List.replicate (2 - (lg_sl ([.ref a_z, .int x1])).length) Slot.unset).toArray = ls at hl ⊢
  have hl : lv_has ls 2 [(0, .ref a_z), (1, .int x1)] := hl
  exact t_X7_count_0 hB hcx rfl hP va_S.rf hl
