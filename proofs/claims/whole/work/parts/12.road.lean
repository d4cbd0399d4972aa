theorem in_X1_lead_X1 : ∀ w ∈ wsX10, w ∈ wsX1_lead := fun w h => List.mem_cons_of_mem _ (List.mem_append_right _ h)
set_option maxHeartbeats 4000000 in
set_option maxRecDepth 100000 in
theorem t_X1_lead_0 {p : Program} {l : Launch} {e : Env} {s : State} {m : MethodId} {args : Array Value} {below : List Frame} {meth : Method} {c : Code} {D : va_G} {cI cJ cZ cR cN : ClassId} {A : Nat → Prop} {a_z : Nat} {z_from : Int32} {z_to : Int32} {z_needs : Int32} {z_gives : Int32} {z_ticks : Int32} {z_odds : Int32} {z_failRoom : Int32} {z_failTicks : Int32} {z_barred : Int32} {x1 : Int32} {x2 : Int32} {x3 : Int32} {x4 : Int32} {H : Heap} {z_from' : Int32} {z_to' : Int32} {z_needs' : Int32} {z_gives' : Int32} (hB : fr_BX p s m args meth c cX1_lead none 5 RX1 wsX1_lead) (hcx : fr_cx D cI cJ cZ cR cN s) (hA : ∀ q, s.heap.size ≤ q → A q) (hm : m_X1_lead x1 x2 x3 x4 z_from z_to z_needs z_gives = some (z_from', z_to', z_needs', z_gives')) {locs : List Loc} {ls : Array Slot} (hP : va_P D vwCl [(a_z, .inr (ob_X1 z_from z_to z_needs z_gives z_ticks z_odds z_failRoom z_failTicks z_barred))] H) (hD : va_D A [(a_z, .inr (ob_X1 z_from z_to z_needs z_gives z_ticks z_odds z_failRoom z_failTicks z_barred))]) (hS : va_S A s.heap H locs) (hl : lv_has ls 5 [(0, .ref a_z), (1, .int x1), (2, .int x2), (3, .int x3), (4, .int x4)]) : W p l e ({ frames := 0, cells := 0, slots := 0, locals := 0 } : Room) s m args below meth c H locs 0 0 (MQ below (fr_Wv D [(a_z, .inr (ob_X1 z_from' z_to' z_needs' z_gives' z_ticks z_odds z_failRoom z_failTicks z_barred))] A) args s 0 0 A) (F0 m 0 ls []) := by
  obtain ⟨hx, hb, hr, hml, hown, hts, hlocks⟩ := id hB
  have hK := hcx.1
  unfold m_X1_lead at hm
  refine lv_aload_n hx hb dX1_lead_0 rfl (lv_at hl 0 rfl) ?_
  refine lv_iload_n hx hb dX1_lead_1 rfl (lv_at hl 1 rfl) ?_
  refine va_put (D := D) (ci := 1) (v := .int x1) (ty := .int) (C := RX1) (T := TX1) (N := 9) hx hb hts in_X1_lead_X1 tyX1 tyX1_ok nmX1 hown hK hP hD hS 0 rfl rfl 0 (by decide) (hts (.fieldLink RX1 7 "FastestRun$Road" "from" "I") (List.mem_of_getElem? (i := 1) rfl)) (fun _ h9 => h9) rfl (by decide +kernel) rfl rfl (Nat.le_of_ble_eq_true rfl) dX1_lead_2 (fun H locs hP hD hS => ?_)
  have hP : va_P D vwCl [(a_z, .inr (ob_X1 x1 z_to z_needs z_gives z_ticks z_odds z_failRoom z_failTicks z_barred))] H := hP
  have hD : va_D A [(a_z, .inr (ob_X1 x1 z_to z_needs z_gives z_ticks z_odds z_failRoom z_failTicks z_barred))] := hD
  refine lv_aload_n hx hb dX1_lead_5 rfl (lv_at hl 0 rfl) ?_
  refine lv_iload_n hx hb dX1_lead_6 rfl (lv_at hl 2 rfl) ?_
  refine va_put (D := D) (ci := 1) (v := .int x2) (ty := .int) (C := RX1) (T := TX1) (N := 9) hx hb hts in_X1_lead_X1 tyX1 tyX1_ok nmX1 hown hK hP hD hS 0 rfl rfl 1 (by decide) (hts (.fieldLink RX1 13 "FastestRun$Road" "to" "I") (List.mem_of_getElem? (i := 2) rfl)) (fun _ h9 => h9) rfl (by decide +kernel) rfl rfl (Nat.le_of_ble_eq_true rfl) dX1_lead_7 (fun H locs hP hD hS => ?_)
  have hP : va_P D vwCl [(a_z, .inr (ob_X1 x1 x2 z_needs z_gives z_ticks z_odds z_failRoom z_failTicks z_barred))] H := hP
  have hD : va_D A [(a_z, .inr (ob_X1 x1 x2 z_needs z_gives z_ticks z_odds z_failRoom z_failTicks z_barred))] := hD
  refine lv_aload_n hx hb dX1_lead_10 rfl (lv_at hl 0 rfl) ?_
  refine lv_iload_n hx hb dX1_lead_11 rfl (lv_at hl 3 rfl) ?_
  refine va_put (D := D) (ci := 1) (v := .int x3) (ty := .int) (C := RX1) (T := TX1) (N := 9) hx hb hts in_X1_lead_X1 tyX1 tyX1_ok nmX1 hown hK hP hD hS 0 rfl rfl 2 (by decide) (hts (.fieldLink RX1 16 "FastestRun$Road" "needs" "I") (List.mem_of_getElem? (i := 3) rfl)) (fun _ h9 => h9) rfl (by decide +kernel) rfl rfl (Nat.le_of_ble_eq_true rfl) dX1_lead_12 (fun H locs hP hD hS => ?_)
  have hP : va_P D vwCl [(a_z, .inr (ob_X1 x1 x2 x3 z_gives z_ticks z_odds z_failRoom z_failTicks z_barred))] H := hP
  have hD : va_D A [(a_z, .inr (ob_X1 x1 x2 x3 z_gives z_ticks z_odds z_failRoom z_failTicks z_barred))] := hD
  refine lv_aload_n hx hb dX1_lead_15 rfl (lv_at hl 0 rfl) ?_
  refine lv_iload hx hb dX1_lead_16 (lv_at hl 4 rfl) ?_
  refine va_put (D := D) (ci := 1) (v := .int x4) (ty := .int) (C := RX1) (T := TX1) (N := 9) hx hb hts in_X1_lead_X1 tyX1 tyX1_ok nmX1 hown hK hP hD hS 0 rfl rfl 3 (by decide) (hts (.fieldLink RX1 19 "FastestRun$Road" "gives" "I") (List.mem_of_getElem? (i := 4) rfl)) (fun _ h9 => h9) rfl (by decide +kernel) rfl rfl (Nat.le_of_ble_eq_true rfl) dX1_lead_18 (fun H locs hP hD hS => ?_)
  have hP : va_P D vwCl [(a_z, .inr (ob_X1 x1 x2 x3 x4 z_ticks z_odds z_failRoom z_failTicks z_barred))] H := hP
  have hD : va_D A [(a_z, .inr (ob_X1 x1 x2 x3 x4 z_ticks z_odds z_failRoom z_failTicks z_barred))] := hD
  cases hm
  exact W.vret hx hb hr (fun t ht hW => ⟨⟨(), rfl, trivial, by rw [ht]; exact hP, hD⟩, hS.F ht⟩) hS.2.2 dX1_lead_21 hlocks
set_option maxHeartbeats 4000000 in
set_option maxRecDepth 100000 in
theorem c_X1_lead {l : Launch} {D : va_G} {cI cJ cZ cR cN : ClassId} {a_z : Nat} {z_from : Int32} {z_to : Int32} {z_needs : Int32} {z_gives : Int32} {z_ticks : Int32} {z_odds : Int32} {z_failRoom : Int32} {z_failTicks : Int32} {z_barred : Int32} {x1 : Int32} {x2 : Int32} {x3 : Int32} {x4 : Int32} {z_from' : Int32} {z_to' : Int32} {z_needs' : Int32} {z_gives' : Int32} {sz : Nat} (hm : m_X1_lead x1 x2 x3 x4 z_from z_to z_needs z_gives = some (z_from', z_to', z_needs', z_gives')) : Met l yX1_lead wsX1_lead ({ frames := 0, cells := 0, slots := 0, locals := 0 } : Room) (fr_Pw D cI cJ cZ cR cN [.ref a_z, .int x1, .int x2, .int x3, .int x4] [(a_z, .inr (ob_X1 z_from z_to z_needs z_gives z_ticks z_odds z_failRoom z_failTicks z_barred))] sz) (fr_Wv D [(a_z, .inr (ob_X1 z_from' z_to' z_needs' z_gives' z_ticks z_odds z_failRoom z_failTicks z_barred))] (va_A [(a_z, .inr (ob_X1 z_from z_to z_needs z_gives z_ticks z_odds z_failRoom z_failTicks z_barred))] sz)) 0 0 (va_A [(a_z, .inr (ob_X1 z_from z_to z_needs z_gives z_ticks z_odds z_failRoom z_failTicks z_barred))] sz) := by
  refine fr_ofW (cc := cX1_lead) (maxL := 5) (ret := none) (by decide +kernel) rfl ?_
  intro p e s m args below meth c s₁ B hml hv
  obtain ⟨rfl, hsz, hP, hD0, hcx⟩ := hv
  subst hsz
  have hD := hD0.self (sz := s.heap.size)
  have hB : fr_BX p s m _ meth c cX1_lead none 5 RX1 wsX1_lead := ⟨B.exec, B.bytes, B.returns, hml, findClass_of_methodNamed B.named, atoms_spec (ws := wsX1_lead) B.pre, B.notSynchronized⟩
  have hl := lv_entry ([.ref a_z, .int x1, .int x2, .int x3, .int x4]) (n := 5) (Nat.le_of_ble_eq_true rfl)
  rw [lg_entry_eq]
  generalize (lg_sl ([.ref a_z, .int x1, .int x2, .int x3, .int x4]) ++ List.replicate (5 - (lg_sl ([.ref a_z, .int x1, .int x2, .int x3, .int x4])).length) Slot.unset).toArray = ls at hl ⊢
  have hl : lv_has ls 5 [(0, .ref a_z), (1, .int x1), (2, .int x2), (3, .int x3), (4, .int x4)] := hl
  exact t_X1_lead_0 hB hcx (fun q h => Or.inr h) hm hP hD va_S.rf hl
theorem in_X1_succeed_X1 : ∀ w ∈ wsX10, w ∈ wsX1_succeed := fun w h => List.mem_cons_of_mem _ (List.mem_append_right _ h)
set_option maxHeartbeats 4000000 in
set_option maxRecDepth 100000 in
theorem t_X1_succeed_0 {p : Program} {l : Launch} {e : Env} {s : State} {m : MethodId} {args : Array Value} {below : List Frame} {meth : Method} {c : Code} {D : va_G} {cI cJ cZ cR cN : ClassId} {A : Nat → Prop} {a_z : Nat} {z_from : Int32} {z_to : Int32} {z_needs : Int32} {z_gives : Int32} {z_ticks : Int32} {z_odds : Int32} {z_failRoom : Int32} {z_failTicks : Int32} {z_barred : Int32} {x1 : Int32} {x2 : Int32} {H : Heap} {z_ticks' : Int32} {z_odds' : Int32} (hB : fr_BX p s m args meth c cX1_succeed none 3 RX1 wsX1_succeed) (hcx : fr_cx D cI cJ cZ cR cN s) (hA : ∀ q, s.heap.size ≤ q → A q) (hm : m_X1_succeed x1 x2 z_ticks z_odds = some (z_ticks', z_odds')) {locs : List Loc} {ls : Array Slot} (hP : va_P D vwCl [(a_z, .inr (ob_X1 z_from z_to z_needs z_gives z_ticks z_odds z_failRoom z_failTicks z_barred))] H) (hD : va_D A [(a_z, .inr (ob_X1 z_from z_to z_needs z_gives z_ticks z_odds z_failRoom z_failTicks z_barred))]) (hS : va_S A s.heap H locs) (hl : lv_has ls 3 [(0, .ref a_z), (1, .int x1), (2, .int x2)]) : W p l e ({ frames := 0, cells := 0, slots := 0, locals := 0 } : Room) s m args below meth c H locs 0 0 (MQ below (fr_Wv D [(a_z, .inr (ob_X1 z_from z_to z_needs z_gives z_ticks' z_odds' z_failRoom z_failTicks z_barred))] A) args s 0 0 A) (F0 m 0 ls []) := by
  obtain ⟨hx, hb, hr, hml, hown, hts, hlocks⟩ := id hB
  have hK := hcx.1
  unfold m_X1_succeed at hm
  refine lv_aload_n hx hb dX1_succeed_0 rfl (lv_at hl 0 rfl) ?_
  refine lv_iload_n hx hb dX1_succeed_1 rfl (lv_at hl 1 rfl) ?_
  refine va_put (D := D) (ci := 1) (v := .int x1) (ty := .int) (C := RX1) (T := TX1) (N := 9) hx hb hts in_X1_succeed_X1 tyX1 tyX1_ok nmX1 hown hK hP hD hS 0 rfl rfl 4 (by decide) (hts (.fieldLink RX1 22 "FastestRun$Road" "ticks" "I") (List.mem_of_getElem? (i := 1) rfl)) (fun _ h9 => h9) rfl (by decide +kernel) rfl rfl (Nat.le_of_ble_eq_true rfl) dX1_succeed_2 (fun H locs hP hD hS => ?_)
  have hP : va_P D vwCl [(a_z, .inr (ob_X1 z_from z_to z_needs z_gives x1 z_odds z_failRoom z_failTicks z_barred))] H := hP
  have hD : va_D A [(a_z, .inr (ob_X1 z_from z_to z_needs z_gives x1 z_odds z_failRoom z_failTicks z_barred))] := hD
  refine lv_aload_n hx hb dX1_succeed_5 rfl (lv_at hl 0 rfl) ?_
  refine lv_iload_n hx hb dX1_succeed_6 rfl (lv_at hl 2 rfl) ?_
  refine va_put (D := D) (ci := 1) (v := .int x2) (ty := .int) (C := RX1) (T := TX1) (N := 9) hx hb hts in_X1_succeed_X1 tyX1 tyX1_ok nmX1 hown hK hP hD hS 0 rfl rfl 5 (by decide) (hts (.fieldLink RX1 25 "FastestRun$Road" "odds" "I") (List.mem_of_getElem? (i := 2) rfl)) (fun _ h9 => h9) rfl (by decide +kernel) rfl rfl (Nat.le_of_ble_eq_true rfl) dX1_succeed_7 (fun H locs hP hD hS => ?_)
  have hP : va_P D vwCl [(a_z, .inr (ob_X1 z_from z_to z_needs z_gives x1 x2 z_failRoom z_failTicks z_barred))] H := hP
  have hD : va_D A [(a_z, .inr (ob_X1 z_from z_to z_needs z_gives x1 x2 z_failRoom z_failTicks z_barred))] := hD
  cases hm
  exact W.vret hx hb hr (fun t ht hW => ⟨⟨(), rfl, trivial, by rw [ht]; exact hP, hD⟩, hS.F ht⟩) hS.2.2 dX1_succeed_10 hlocks
set_option maxHeartbeats 4000000 in
set_option maxRecDepth 100000 in
theorem c_X1_succeed {l : Launch} {D : va_G} {cI cJ cZ cR cN : ClassId} {a_z : Nat} {z_from : Int32} {z_to : Int32} {z_needs : Int32} {z_gives : Int32} {z_ticks : Int32} {z_odds : Int32} {z_failRoom : Int32} {z_failTicks : Int32} {z_barred : Int32} {x1 : Int32} {x2 : Int32} {z_ticks' : Int32} {z_odds' : Int32} {sz : Nat} (hm : m_X1_succeed x1 x2 z_ticks z_odds = some (z_ticks', z_odds')) : Met l yX1_succeed wsX1_succeed ({ frames := 0, cells := 0, slots := 0, locals := 0 } : Room) (fr_Pw D cI cJ cZ cR cN [.ref a_z, .int x1, .int x2] [(a_z, .inr (ob_X1 z_from z_to z_needs z_gives z_ticks z_odds z_failRoom z_failTicks z_barred))] sz) (fr_Wv D [(a_z, .inr (ob_X1 z_from z_to z_needs z_gives z_ticks' z_odds' z_failRoom z_failTicks z_barred))] (va_A [(a_z, .inr (ob_X1 z_from z_to z_needs z_gives z_ticks z_odds z_failRoom z_failTicks z_barred))] sz)) 0 0 (va_A [(a_z, .inr (ob_X1 z_from z_to z_needs z_gives z_ticks z_odds z_failRoom z_failTicks z_barred))] sz) := by
  refine fr_ofW (cc := cX1_succeed) (maxL := 3) (ret := none) (by decide +kernel) rfl ?_
  intro p e s m args below meth c s₁ B hml hv
  obtain ⟨rfl, hsz, hP, hD0, hcx⟩ := hv
  subst hsz
  have hD := hD0.self (sz := s.heap.size)
  have hB : fr_BX p s m _ meth c cX1_succeed none 3 RX1 wsX1_succeed := ⟨B.exec, B.bytes, B.returns, hml, findClass_of_methodNamed B.named, atoms_spec (ws := wsX1_succeed) B.pre, B.notSynchronized⟩
  have hl := lv_entry ([.ref a_z, .int x1, .int x2]) (n := 3) (Nat.le_of_ble_eq_true rfl)
  rw [lg_entry_eq]
  generalize (lg_sl ([.ref a_z, .int x1, .int x2]) ++ List.replicate (3 - (lg_sl ([.ref a_z, .int x1, .int x2])).length) Slot.unset).toArray = ls at hl ⊢
  have hl : lv_has ls 3 [(0, .ref a_z), (1, .int x1), (2, .int x2)] := hl
  exact t_X1_succeed_0 hB hcx (fun q h => Or.inr h) hm hP hD va_S.rf hl
theorem in_X1_fail_X1 : ∀ w ∈ wsX10, w ∈ wsX1_fail := fun w h => List.mem_cons_of_mem _ (List.mem_append_right _ h)
set_option maxHeartbeats 4000000 in
set_option maxRecDepth 100000 in
theorem t_X1_fail_0 {p : Program} {l : Launch} {e : Env} {s : State} {m : MethodId} {args : Array Value} {below : List Frame} {meth : Method} {c : Code} {D : va_G} {cI cJ cZ cR cN : ClassId} {A : Nat → Prop} {a_z : Nat} {z_from : Int32} {z_to : Int32} {z_needs : Int32} {z_gives : Int32} {z_ticks : Int32} {z_odds : Int32} {z_failRoom : Int32} {z_failTicks : Int32} {z_barred : Int32} {x1 : Int32} {x2 : Int32} {H : Heap} {z_failRoom' : Int32} {z_failTicks' : Int32} (hB : fr_BX p s m args meth c cX1_fail none 3 RX1 wsX1_fail) (hcx : fr_cx D cI cJ cZ cR cN s) (hA : ∀ q, s.heap.size ≤ q → A q) (hm : m_X1_fail x1 x2 z_failRoom z_failTicks = some (z_failRoom', z_failTicks')) {locs : List Loc} {ls : Array Slot} (hP : va_P D vwCl [(a_z, .inr (ob_X1 z_from z_to z_needs z_gives z_ticks z_odds z_failRoom z_failTicks z_barred))] H) (hD : va_D A [(a_z, .inr (ob_X1 z_from z_to z_needs z_gives z_ticks z_odds z_failRoom z_failTicks z_barred))]) (hS : va_S A s.heap H locs) (hl : lv_has ls 3 [(0, .ref a_z), (1, .int x1), (2, .int x2)]) : W p l e ({ frames := 0, cells := 0, slots := 0, locals := 0 } : Room) s m args below meth c H locs 0 0 (MQ below (fr_Wv D [(a_z, .inr (ob_X1 z_from z_to z_needs z_gives z_ticks z_odds z_failRoom' z_failTicks' z_barred))] A) args s 0 0 A) (F0 m 0 ls []) := by
  obtain ⟨hx, hb, hr, hml, hown, hts, hlocks⟩ := id hB
  have hK := hcx.1
  unfold m_X1_fail at hm
  refine lv_aload_n hx hb dX1_fail_0 rfl (lv_at hl 0 rfl) ?_
  refine lv_iload_n hx hb dX1_fail_1 rfl (lv_at hl 1 rfl) ?_
  refine va_put (D := D) (ci := 1) (v := .int x1) (ty := .int) (C := RX1) (T := TX1) (N := 9) hx hb hts in_X1_fail_X1 tyX1 tyX1_ok nmX1 hown hK hP hD hS 0 rfl rfl 6 (by decide) (hts (.fieldLink RX1 28 "FastestRun$Road" "failRoom" "I") (List.mem_of_getElem? (i := 1) rfl)) (fun _ h9 => h9) rfl (by decide +kernel) rfl rfl (Nat.le_of_ble_eq_true rfl) dX1_fail_2 (fun H locs hP hD hS => ?_)
  have hP : va_P D vwCl [(a_z, .inr (ob_X1 z_from z_to z_needs z_gives z_ticks z_odds x1 z_failTicks z_barred))] H := hP
  have hD : va_D A [(a_z, .inr (ob_X1 z_from z_to z_needs z_gives z_ticks z_odds x1 z_failTicks z_barred))] := hD
  refine lv_aload_n hx hb dX1_fail_5 rfl (lv_at hl 0 rfl) ?_
  refine lv_iload_n hx hb dX1_fail_6 rfl (lv_at hl 2 rfl) ?_
  refine va_put (D := D) (ci := 1) (v := .int x2) (ty := .int) (C := RX1) (T := TX1) (N := 9) hx hb hts in_X1_fail_X1 tyX1 tyX1_ok nmX1 hown hK hP hD hS 0 rfl rfl 7 (by decide) (hts (.fieldLink RX1 31 "FastestRun$Road" "failTicks" "I") (List.mem_of_getElem? (i := 2) rfl)) (fun _ h9 => h9) rfl (by decide +kernel) rfl rfl (Nat.le_of_ble_eq_true rfl) dX1_fail_7 (fun H locs hP hD hS => ?_)
  have hP : va_P D vwCl [(a_z, .inr (ob_X1 z_from z_to z_needs z_gives z_ticks z_odds x1 x2 z_barred))] H := hP
  have hD : va_D A [(a_z, .inr (ob_X1 z_from z_to z_needs z_gives z_ticks z_odds x1 x2 z_barred))] := hD
  cases hm
  exact W.vret hx hb hr (fun t ht hW => ⟨⟨(), rfl, trivial, by rw [ht]; exact hP, hD⟩, hS.F ht⟩) hS.2.2 dX1_fail_10 hlocks
set_option maxHeartbeats 4000000 in
set_option maxRecDepth 100000 in
theorem c_X1_fail {l : Launch} {D : va_G} {cI cJ cZ cR cN : ClassId} {a_z : Nat} {z_from : Int32} {z_to : Int32} {z_needs : Int32} {z_gives : Int32} {z_ticks : Int32} {z_odds : Int32} {z_failRoom : Int32} {z_failTicks : Int32} {z_barred : Int32} {x1 : Int32} {x2 : Int32} {z_failRoom' : Int32} {z_failTicks' : Int32} {sz : Nat} (hm : m_X1_fail x1 x2 z_failRoom z_failTicks = some (z_failRoom', z_failTicks')) : Met l yX1_fail wsX1_fail ({ frames := 0, cells := 0, slots := 0, locals := 0 } : Room) (fr_Pw D cI cJ cZ cR cN [.ref a_z, .int x1, .int x2] [(a_z, .inr (ob_X1 z_from z_to z_needs z_gives z_ticks z_odds z_failRoom z_failTicks z_barred))] sz) (fr_Wv D [(a_z, .inr (ob_X1 z_from z_to z_needs z_gives z_ticks z_odds z_failRoom' z_failTicks' z_barred))] (va_A [(a_z, .inr (ob_X1 z_from z_to z_needs z_gives z_ticks z_odds z_failRoom z_failTicks z_barred))] sz)) 0 0 (va_A [(a_z, .inr (ob_X1 z_from z_to z_needs z_gives z_ticks z_odds z_failRoom z_failTicks z_barred))] sz) := by
  refine fr_ofW (cc := cX1_fail) (maxL := 3) (ret := none) (by decide +kernel) rfl ?_
  intro p e s m args below meth c s₁ B hml hv
  obtain ⟨rfl, hsz, hP, hD0, hcx⟩ := hv
  subst hsz
  have hD := hD0.self (sz := s.heap.size)
  have hB : fr_BX p s m _ meth c cX1_fail none 3 RX1 wsX1_fail := ⟨B.exec, B.bytes, B.returns, hml, findClass_of_methodNamed B.named, atoms_spec (ws := wsX1_fail) B.pre, B.notSynchronized⟩
  have hl := lv_entry ([.ref a_z, .int x1, .int x2]) (n := 3) (Nat.le_of_ble_eq_true rfl)
  rw [lg_entry_eq]
  generalize (lg_sl ([.ref a_z, .int x1, .int x2]) ++ List.replicate (3 - (lg_sl ([.ref a_z, .int x1, .int x2])).length) Slot.unset).toArray = ls at hl ⊢
  have hl : lv_has ls 3 [(0, .ref a_z), (1, .int x1), (2, .int x2)] := hl
  exact t_X1_fail_0 hB hcx (fun q h => Or.inr h) hm hP hD va_S.rf hl
theorem in_X1_isOpenFor_X1 : ∀ w ∈ wsX10, w ∈ wsX1_isOpenFor := fun w h => List.mem_cons_of_mem _ (List.mem_append_right _ h)
set_option maxHeartbeats 4000000 in
set_option maxRecDepth 100000 in
theorem t_X1_isOpenFor_0 {p : Program} {l : Launch} {e : Env} {s : State} {m : MethodId} {args : Array Value} {below : List Frame} {meth : Method} {c : Code} {D : va_G} {cI cJ cZ cR cN : ClassId} {a_z : Nat} {z_from : Int32} {z_to : Int32} {z_needs : Int32} {z_gives : Int32} {z_ticks : Int32} {z_odds : Int32} {z_failRoom : Int32} {z_failTicks : Int32} {z_barred : Int32} {x1 : Int32} {x2 : Int32} {H : Heap} {r : Int32} (hB : fr_BX p s m args meth c cX1_isOpenFor (some .boolean) 3 RX1 wsX1_isOpenFor) (hcx : fr_cx D cI cJ cZ cR cN s) (hm : m_X1_isOpenFor z_from z_needs z_barred x1 x2 = r) {locs : List Loc} {ls : Array Slot} (hP : va_P D vwCl [(a_z, .inr (ob_X1 z_from z_to z_needs z_gives z_ticks z_odds z_failRoom z_failTicks z_barred))] H) (hS : va_S (fun _ => False) s.heap H locs) (hl : lv_has ls 3 [(0, .ref a_z), (1, .int x1), (2, .int x2)]) : W p l e ({ frames := 0, cells := 0, slots := 0, locals := 0 } : Room) s m args below meth c H locs 0 0 (MQ below (fr_Ri H r) args s 0 0 (fun _ => False)) (F0 m 0 ls []) := by
  obtain ⟨hx, hb, hr, hml, hown, hts, hlocks⟩ := id hB
  have hK := hcx.1
  unfold m_X1_isOpenFor at hm
  refine lv_aload_n hx hb dX1_isOpenFor_0 rfl (lv_at hl 0 rfl) ?_
  refine va_get (D := D) (ci := 1) (v := .int z_barred) (C := RX1) (T := TX1) (N := 9) hx hb hts in_X1_isOpenFor_X1 hown hK hP 0 rfl rfl 8 (by decide) (hts (.fieldLink RX1 34 "FastestRun$Road" "barred" "Z") (List.mem_of_getElem? (i := 1) rfl)) (fun _ h9 => h9) rfl dX1_isOpenFor_1 ?_
  refine lv_if_ne (tgt := 32) hx hb dX1_isOpenFor_4 (by decide) (fun c_1 => ?_) (fun c_1 => ?_)
  · have hm := fr_tin c_1 hm
    refine lv_iconst (v := (0 : Int32)) hx hb dX1_isOpenFor_32 (by decide) ?_
    exact W.zret (v := (0 : Int32)) hx hb hr rfl (fun t ht hW => ⟨⟨_, (), rfl, hm, ht⟩, hS.F ht⟩) hS.2.2 dX1_isOpenFor_33 hlocks
  · have hm := fr_tip c_1 hm
    refine lv_aload_n hx hb dX1_isOpenFor_7 rfl (lv_at hl 0 rfl) ?_
    refine va_get (D := D) (ci := 1) (v := .int z_from) (C := RX1) (T := TX1) (N := 9) hx hb hts in_X1_isOpenFor_X1 hown hK hP 0 rfl rfl 0 (by decide) (hts (.fieldLink RX1 7 "FastestRun$Road" "from" "I") (List.mem_of_getElem? (i := 2) rfl)) (fun _ h9 => h9) rfl dX1_isOpenFor_8 ?_
    refine lv_iload_n hx hb dX1_isOpenFor_11 rfl (lv_at hl 1 rfl) ?_
    refine lv_icmp_ne (tgt := 32) hx hb dX1_isOpenFor_12 (by decide) (fun c_2 => ?_) (fun c_2 => ?_)
    · have hm := fr_tin c_2 hm
      refine lv_iconst (v := (0 : Int32)) hx hb dX1_isOpenFor_32 (by decide) ?_
      exact W.zret (v := (0 : Int32)) hx hb hr rfl (fun t ht hW => ⟨⟨_, (), rfl, hm, ht⟩, hS.F ht⟩) hS.2.2 dX1_isOpenFor_33 hlocks
    · have hm := fr_tip c_2 hm
      refine lv_iload_n hx hb dX1_isOpenFor_15 rfl (lv_at hl 2 rfl) ?_
      refine lv_aload_n hx hb dX1_isOpenFor_16 rfl (lv_at hl 0 rfl) ?_
      refine va_get (D := D) (ci := 1) (v := .int z_needs) (C := RX1) (T := TX1) (N := 9) hx hb hts in_X1_isOpenFor_X1 hown hK hP 0 rfl rfl 2 (by decide) (hts (.fieldLink RX1 16 "FastestRun$Road" "needs" "I") (List.mem_of_getElem? (i := 3) rfl)) (fun _ h9 => h9) rfl dX1_isOpenFor_17 ?_
      refine lv_iand hx hb dX1_isOpenFor_20 ?_
      refine lv_aload_n hx hb dX1_isOpenFor_21 rfl (lv_at hl 0 rfl) ?_
      refine va_get (D := D) (ci := 1) (v := .int z_needs) (C := RX1) (T := TX1) (N := 9) hx hb hts in_X1_isOpenFor_X1 hown hK hP 0 rfl rfl 2 (by decide) (hts (.fieldLink RX1 16 "FastestRun$Road" "needs" "I") (List.mem_of_getElem? (i := 3) rfl)) (fun _ h9 => h9) rfl dX1_isOpenFor_22 ?_
      refine lv_icmp_ne (tgt := 32) hx hb dX1_isOpenFor_25 (by decide) (fun c_3 => ?_) (fun c_3 => ?_)
      · have hm := fr_tin c_3 hm
        refine lv_iconst (v := (0 : Int32)) hx hb dX1_isOpenFor_32 (by decide) ?_
        exact W.zret (v := (0 : Int32)) hx hb hr rfl (fun t ht hW => ⟨⟨_, (), rfl, hm, ht⟩, hS.F ht⟩) hS.2.2 dX1_isOpenFor_33 hlocks
      · have hm := fr_tip c_3 hm
        refine lv_iconst (v := (1 : Int32)) hx hb dX1_isOpenFor_28 (by decide) ?_
        refine lv_goto (tgt := 33) hx hb dX1_isOpenFor_29 (by decide) ?_
        exact W.zret (v := (1 : Int32)) hx hb hr rfl (fun t ht hW => ⟨⟨_, (), rfl, hm, ht⟩, hS.F ht⟩) hS.2.2 dX1_isOpenFor_33 hlocks
set_option maxHeartbeats 4000000 in
set_option maxRecDepth 100000 in
theorem c_X1_isOpenFor {l : Launch} {D : va_G} {cI cJ cZ cR cN : ClassId} {a_z : Nat} {z_from : Int32} {z_to : Int32} {z_needs : Int32} {z_gives : Int32} {z_ticks : Int32} {z_odds : Int32} {z_failRoom : Int32} {z_failTicks : Int32} {z_barred : Int32} {x1 : Int32} {x2 : Int32} {H0 : Heap} (hP : va_P D vwCl [(a_z, .inr (ob_X1 z_from z_to z_needs z_gives z_ticks z_odds z_failRoom z_failTicks z_barred))] H0) : Met l yX1_isOpenFor wsX1_isOpenFor ({ frames := 0, cells := 0, slots := 0, locals := 0 } : Room) (fr_Pr D cI cJ cZ cR cN [.ref a_z, .int x1, .int x2] H0) (fr_Ri H0 (m_X1_isOpenFor z_from z_needs z_barred x1 x2)) 0 0 (fun _ => False) := by
  refine fr_ofW (cc := cX1_isOpenFor) (maxL := 3) (ret := (some .boolean)) (by decide +kernel) rfl ?_
  intro p e s m args below meth c s₁ B hml hv
  obtain ⟨rfl, hH, hcx⟩ := hv
  subst hH
  have hB : fr_BX p s m _ meth c cX1_isOpenFor (some .boolean) 3 RX1 wsX1_isOpenFor := ⟨B.exec, B.bytes, B.returns, hml, findClass_of_methodNamed B.named, atoms_spec (ws := wsX1_isOpenFor) B.pre, B.notSynchronized⟩
  have hl := lv_entry ([.ref a_z, .int x1, .int x2]) (n := 3) (Nat.le_of_ble_eq_true rfl)
  rw [lg_entry_eq]
  generalize (lg_sl ([.ref a_z, .int x1, .int x2]) ++ List.replicate (3 - (lg_sl ([.ref a_z, .int x1, .int x2])).length) Slot.unset).toArray = ls at hl ⊢
  have hl : lv_has ls 3 [(0, .ref a_z), (1, .int x1), (2, .int x2)] := hl
  exact t_X1_isOpenFor_0 hB hcx rfl hP va_S.rf hl
theorem in_X1_isSure_X1 : ∀ w ∈ wsX10, w ∈ wsX1_isSure := fun w h => List.mem_cons_of_mem _ (List.mem_append_right _ h)
set_option maxHeartbeats 4000000 in
set_option maxRecDepth 100000 in
theorem t_X1_isSure_0 {p : Program} {l : Launch} {e : Env} {s : State} {m : MethodId} {args : Array Value} {below : List Frame} {meth : Method} {c : Code} {D : va_G} {cI cJ cZ cR cN : ClassId} {a_z : Nat} {z_from : Int32} {z_to : Int32} {z_needs : Int32} {z_gives : Int32} {z_ticks : Int32} {z_odds : Int32} {z_failRoom : Int32} {z_failTicks : Int32} {z_barred : Int32} {H : Heap} {r : Int32} (hB : fr_BX p s m args meth c cX1_isSure (some .boolean) 1 RX1 wsX1_isSure) (hcx : fr_cx D cI cJ cZ cR cN s) (hm : m_X1_isSure z_odds = r) {locs : List Loc} {ls : Array Slot} (hP : va_P D vwCl [(a_z, .inr (ob_X1 z_from z_to z_needs z_gives z_ticks z_odds z_failRoom z_failTicks z_barred))] H) (hS : va_S (fun _ => False) s.heap H locs) (hl : lv_has ls 1 [(0, .ref a_z)]) : W p l e ({ frames := 0, cells := 0, slots := 0, locals := 0 } : Room) s m args below meth c H locs 0 0 (MQ below (fr_Ri H r) args s 0 0 (fun _ => False)) (F0 m 0 ls []) := by
  obtain ⟨hx, hb, hr, hml, hown, hts, hlocks⟩ := id hB
  have hK := hcx.1
  unfold m_X1_isSure at hm
  refine lv_aload_n hx hb dX1_isSure_0 rfl (lv_at hl 0 rfl) ?_
  refine va_get (D := D) (ci := 1) (v := .int z_odds) (C := RX1) (T := TX1) (N := 9) hx hb hts in_X1_isSure_X1 hown hK hP 0 rfl rfl 5 (by decide) (hts (.fieldLink RX1 25 "FastestRun$Road" "odds" "I") (List.mem_of_getElem? (i := 1) rfl)) (fun _ h9 => h9) rfl dX1_isSure_1 ?_
  refine lv_bipush (v := (8 : Int32)) hx hb dX1_isSure_4 (by decide) ?_
  refine lv_icmp_ne (tgt := 13) hx hb dX1_isSure_6 (by decide) (fun c_1 => ?_) (fun c_1 => ?_)
  · have hm := fr_tin c_1 hm
    refine lv_iconst (v := (0 : Int32)) hx hb dX1_isSure_13 (by decide) ?_
    exact W.zret (v := (0 : Int32)) hx hb hr rfl (fun t ht hW => ⟨⟨_, (), rfl, hm, ht⟩, hS.F ht⟩) hS.2.2 dX1_isSure_14 hlocks
  · have hm := fr_tip c_1 hm
    refine lv_iconst (v := (1 : Int32)) hx hb dX1_isSure_9 (by decide) ?_
    refine lv_goto (tgt := 14) hx hb dX1_isSure_10 (by decide) ?_
    exact W.zret (v := (1 : Int32)) hx hb hr rfl (fun t ht hW => ⟨⟨_, (), rfl, hm, ht⟩, hS.F ht⟩) hS.2.2 dX1_isSure_14 hlocks
set_option maxHeartbeats 4000000 in
set_option maxRecDepth 100000 in
theorem c_X1_isSure {l : Launch} {D : va_G} {cI cJ cZ cR cN : ClassId} {a_z : Nat} {z_from : Int32} {z_to : Int32} {z_needs : Int32} {z_gives : Int32} {z_ticks : Int32} {z_odds : Int32} {z_failRoom : Int32} {z_failTicks : Int32} {z_barred : Int32} {H0 : Heap} (hP : va_P D vwCl [(a_z, .inr (ob_X1 z_from z_to z_needs z_gives z_ticks z_odds z_failRoom z_failTicks z_barred))] H0) : Met l yX1_isSure wsX1_isSure ({ frames := 0, cells := 0, slots := 0, locals := 0 } : Room) (fr_Pr D cI cJ cZ cR cN [.ref a_z] H0) (fr_Ri H0 (m_X1_isSure z_odds)) 0 0 (fun _ => False) := by
  refine fr_ofW (cc := cX1_isSure) (maxL := 1) (ret := (some .boolean)) (by decide +kernel) rfl ?_
  intro p e s m args below meth c s₁ B hml hv
  obtain ⟨rfl, hH, hcx⟩ := hv
  subst hH
  have hB : fr_BX p s m _ meth c cX1_isSure (some .boolean) 1 RX1 wsX1_isSure := ⟨B.exec, B.bytes, B.returns, hml, findClass_of_methodNamed B.named, atoms_spec (ws := wsX1_isSure) B.pre, B.notSynchronized⟩
  have hl := lv_entry ([.ref a_z]) (n := 1) (Nat.le_of_ble_eq_true rfl)
  rw [lg_entry_eq]
  generalize (lg_sl ([.ref a_z]) ++ List.replicate (1 - (lg_sl ([.ref a_z])).length) Slot.unset).toArray = ls at hl ⊢
  have hl : lv_has ls 1 [(0, .ref a_z)] := hl
  exact t_X1_isSure_0 hB hcx rfl hP va_S.rf hl
