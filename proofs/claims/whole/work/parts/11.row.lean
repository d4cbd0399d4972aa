theorem in_X3_clear_X3 : ∀ w ∈ wsX30, w ∈ wsX3_clear := fun w h => List.mem_cons_of_mem _ (List.mem_append_right _ h)
set_option maxHeartbeats 4000000 in
set_option maxRecDepth 100000 in
theorem t_X3_clear_0 {p : Program} {l : Launch} {e : Env} {s : State} {m : MethodId} {args : Array Value} {below : List Frame} {meth : Method} {c : Code} {D : va_G} {cI cJ cZ cR cN : ClassId} {A : Nat → Prop} {a_z a_z_presses : Nat} {z_length : Int32} {H : Heap} {z_length' : Int32} (hB : fr_BX p s m args meth c cX3_clear none 1 RX3 wsX3_clear) (hcx : fr_cx D cI cJ cZ cR cN s) (hA : ∀ q, s.heap.size ≤ q → A q) (hm : m_X3_clear z_length = some z_length') {locs : List Loc} {ls : Array Slot} (hP : va_P D vwCl [(a_z, .inr (ob_X3 a_z_presses z_length))] H) (hD : va_D A [(a_z, .inr (ob_X3 a_z_presses z_length))]) (hS : va_S A s.heap H locs) (hl : lv_has ls 1 [(0, .ref a_z)]) : W p l e ({ frames := 0, cells := 0, slots := 0, locals := 0 } : Room) s m args below meth c H locs 0 0 (MQ below (fr_Wv D [(a_z, .inr (ob_X3 a_z_presses z_length'))] A) args s 0 0 A) (F0 m 0 ls []) := by
  obtain ⟨hx, hb, hr, hml, hown, hts, hlocks⟩ := id hB
  have hK := hcx.1
  unfold m_X3_clear at hm
  refine lv_aload_n hx hb dX3_clear_0 rfl (lv_at hl 0 rfl) ?_
  refine lv_iconst (v := (0 : Int32)) hx hb dX3_clear_1 (by decide) ?_
  refine va_put (D := D) (ci := 3) (v := .int (0 : Int32)) (ty := .int) (C := RX3) (T := TX3) (N := 2) hx hb hts in_X3_clear_X3 tyX3 tyX3_ok nmX3 hown hK hP hD hS 0 rfl rfl 1 (by decide) (hts (.fieldLink RX3 21 "FastestRun$Row" "length" "I") (List.mem_of_getElem? (i := 1) rfl)) (fun _ h9 => h9) rfl (by decide +kernel) rfl rfl (Nat.le_of_ble_eq_true rfl) dX3_clear_2 (fun H locs hP hD hS => ?_)
  have hP : va_P D vwCl [(a_z, .inr (ob_X3 a_z_presses (0 : Int32)))] H := hP
  have hD : va_D A [(a_z, .inr (ob_X3 a_z_presses (0 : Int32)))] := hD
  cases hm
  exact W.vret hx hb hr (fun t ht hW => ⟨⟨(), rfl, trivial, by rw [ht]; exact hP, hD⟩, hS.F ht⟩) hS.2.2 dX3_clear_5 hlocks
set_option maxHeartbeats 4000000 in
set_option maxRecDepth 100000 in
theorem c_X3_clear {l : Launch} {D : va_G} {cI cJ cZ cR cN : ClassId} {a_z a_z_presses : Nat} {z_length : Int32} {z_length' : Int32} {sz : Nat} (hm : m_X3_clear z_length = some z_length') : Met l yX3_clear wsX3_clear ({ frames := 0, cells := 0, slots := 0, locals := 0 } : Room) (fr_Pw D cI cJ cZ cR cN [.ref a_z] [(a_z, .inr (ob_X3 a_z_presses z_length))] sz) (fr_Wv D [(a_z, .inr (ob_X3 a_z_presses z_length'))] (va_A [(a_z, .inr (ob_X3 a_z_presses z_length))] sz)) 0 0 (va_A [(a_z, .inr (ob_X3 a_z_presses z_length))] sz) := by
  refine fr_ofW (cc := cX3_clear) (maxL := 1) (ret := none) (by decide +kernel) rfl ?_
  intro p e s m args below meth c s₁ B hml hv
  obtain ⟨rfl, hsz, hP, hD0, hcx⟩ := hv
  subst hsz
  have hD := hD0.self (sz := s.heap.size)
  have hB : fr_BX p s m _ meth c cX3_clear none 1 RX3 wsX3_clear := ⟨B.exec, B.bytes, B.returns, hml, findClass_of_methodNamed B.named, atoms_spec (ws := wsX3_clear) B.pre, B.notSynchronized⟩
  have hl := lv_entry ([.ref a_z]) (n := 1) (Nat.le_of_ble_eq_true rfl)
  rw [lg_entry_eq]
  generalize (lg_sl ([.ref a_z]) ++ List.replicate (1 - (lg_sl ([.ref a_z])).length) Slot.unset).toArray = ls at hl ⊢
  have hl : lv_has ls 1 [(0, .ref a_z)] := hl
  exact t_X3_clear_0 hB hcx (fun q h => Or.inr h) hm hP hD va_S.rf hl
theorem in_X3_add_X3 : ∀ w ∈ wsX30, w ∈ wsX3_add := fun w h => List.mem_cons_of_mem _ (List.mem_append_right _ h)
set_option maxHeartbeats 4000000 in
set_option maxRecDepth 100000 in
theorem t_X3_add_0 {p : Program} {l : Launch} {e : Env} {s : State} {m : MethodId} {args : Array Value} {below : List Frame} {meth : Method} {c : Code} {D : va_G} {cI cJ cZ cR cN : ClassId} {A : Nat → Prop} {a_z a_z_presses : Nat} {z_length : Int32} {z_presses : Nat → Int32} {z_n : Nat} {x1 : Int32} {H : Heap} {r : Int32} {z_length' : Int32} {z_presses' : Nat → Int32} (hB : fr_BX p s m args meth c cX3_add (some .boolean) 2 RX3 wsX3_add) (hcx : fr_cx D cI cJ cZ cR cN s) (hA : ∀ q, s.heap.size ≤ q → A q) (hm : m_X3_add z_n x1 z_length z_presses = some (r, z_length', z_presses')) {locs : List Loc} {ls : Array Slot} (hP : va_P D vwCl [(a_z, .inr (ob_X3 a_z_presses z_length)), (a_z_presses, .inl (cI, z_n, .inl z_presses))] H) (hD : va_D A [(a_z, .inr (ob_X3 a_z_presses z_length)), (a_z_presses, .inl (cI, z_n, .inl z_presses))]) (hS : va_S A s.heap H locs) (hl : lv_has ls 2 [(0, .ref a_z), (1, .int x1)]) : W p l e ({ frames := 0, cells := 0, slots := 0, locals := 0 } : Room) s m args below meth c H locs 0 0 (MQ below (fr_Wi D [(a_z, .inr (ob_X3 a_z_presses z_length')), (a_z_presses, .inl (cI, z_n, .inl z_presses'))] A r) args s 0 0 A) (F0 m 0 ls []) := by
  obtain ⟨hx, hb, hr, hml, hown, hts, hlocks⟩ := id hB
  have hK := hcx.1
  unfold m_X3_add at hm
  refine lv_aload_n hx hb dX3_add_0 rfl (lv_at hl 0 rfl) ?_
  refine va_get (D := D) (ci := 3) (v := .int z_length) (C := RX3) (T := TX3) (N := 2) hx hb hts in_X3_add_X3 hown hK hP 0 rfl rfl 1 (by decide) (hts (.fieldLink RX3 21 "FastestRun$Row" "length" "I") (List.mem_of_getElem? (i := 1) rfl)) (fun _ h9 => h9) rfl dX3_add_1 ?_
  refine lv_aload_n hx hb dX3_add_4 rfl (lv_at hl 0 rfl) ?_
  refine va_get (D := D) (ci := 3) (v := .ref a_z_presses) (C := RX3) (T := TX3) (N := 2) hx hb hts in_X3_add_X3 hown hK hP 0 rfl rfl 0 (by decide) (hts (.fieldLink RX3 15 "FastestRun$Row" "presses" "[I") (List.mem_of_getElem? (i := 2) rfl)) (fun _ h9 => h9) rfl dX3_add_5 ?_
  refine va_alen (v := (Int32.ofNat z_n)) hx hb hK hP 1 0 rfl rfl rfl dX3_add_8 ?_
  refine lv_icmp_lt (tgt := 14) hx hb dX3_add_9 (by decide) (fun c_1 => ?_) (fun c_1 => ?_)
  · have hm := fr_ifp c_1 hm
    refine lv_aload_n hx hb dX3_add_14 rfl (lv_at hl 0 rfl) ?_
    refine va_get (D := D) (ci := 3) (v := .ref a_z_presses) (C := RX3) (T := TX3) (N := 2) hx hb hts in_X3_add_X3 hown hK hP 0 rfl rfl 0 (by decide) (hts (.fieldLink RX3 15 "FastestRun$Row" "presses" "[I") (List.mem_of_getElem? (i := 2) rfl)) (fun _ h9 => h9) rfl dX3_add_15 ?_
    refine lv_aload_n hx hb dX3_add_18 rfl (lv_at hl 0 rfl) ?_
    refine va_get (D := D) (ci := 3) (v := .int z_length) (C := RX3) (T := TX3) (N := 2) hx hb hts in_X3_add_X3 hown hK hP 0 rfl rfl 1 (by decide) (hts (.fieldLink RX3 21 "FastestRun$Row" "length" "I") (List.mem_of_getElem? (i := 1) rfl)) (fun _ h9 => h9) rfl dX3_add_19 ?_
    refine lv_iload_n hx hb dX3_add_22 rfl (lv_at hl 1 rfl) ?_
    obtain ⟨h_2, hm⟩ := fr_ck hm
    refine va_iast hx hb hK hP hD hS 1 0 rfl rfl h_2 dX3_add_23 (fun H locs hP hD hS => ?_)
    have hP : va_P D vwCl [(a_z, .inr (ob_X3 a_z_presses z_length)), (a_z_presses, .inl (cI, z_n, .inl (upd z_presses z_length.toNatClampNeg x1)))] H := hP
    have hD : va_D A [(a_z, .inr (ob_X3 a_z_presses z_length)), (a_z_presses, .inl (cI, z_n, .inl (upd z_presses z_length.toNatClampNeg x1)))] := hD
    refine lv_aload_n hx hb dX3_add_24 rfl (lv_at hl 0 rfl) ?_
    refine lv_dup hx hb dX3_add_25 rfl ?_
    refine va_get (D := D) (ci := 3) (v := .int z_length) (C := RX3) (T := TX3) (N := 2) hx hb hts in_X3_add_X3 hown hK hP 0 rfl rfl 1 (by decide) (hts (.fieldLink RX3 21 "FastestRun$Row" "length" "I") (List.mem_of_getElem? (i := 1) rfl)) (fun _ h9 => h9) rfl dX3_add_26 ?_
    refine lv_iconst (v := (1 : Int32)) hx hb dX3_add_29 (by decide) ?_
    refine lv_iadd hx hb dX3_add_30 ?_
    refine va_put (D := D) (ci := 3) (v := .int (z_length + (1 : Int32))) (ty := .int) (C := RX3) (T := TX3) (N := 2) hx hb hts in_X3_add_X3 tyX3 tyX3_ok nmX3 hown hK hP hD hS 0 rfl rfl 1 (by decide) (hts (.fieldLink RX3 21 "FastestRun$Row" "length" "I") (List.mem_of_getElem? (i := 1) rfl)) (fun _ h9 => h9) rfl (by decide +kernel) rfl rfl (Nat.le_of_ble_eq_true rfl) dX3_add_31 (fun H locs hP hD hS => ?_)
    have hP : va_P D vwCl [(a_z, .inr (ob_X3 a_z_presses (z_length + (1 : Int32)))), (a_z_presses, .inl (cI, z_n, .inl (upd z_presses z_length.toNatClampNeg x1)))] H := hP
    have hD : va_D A [(a_z, .inr (ob_X3 a_z_presses (z_length + (1 : Int32)))), (a_z_presses, .inl (cI, z_n, .inl (upd z_presses z_length.toNatClampNeg x1)))] := hD
    refine lv_iconst (v := (1 : Int32)) hx hb dX3_add_34 (by decide) ?_
    cases hm
    exact W.zret hx hb hr rfl (fun t ht hW => ⟨⟨_, (), rfl, rfl, by rw [ht]; exact hP, hD⟩, hS.F ht⟩) hS.2.2 dX3_add_35 hlocks
  · have hm := fr_ifn c_1 hm
    refine lv_iconst (v := (0 : Int32)) hx hb dX3_add_12 (by decide) ?_
    cases hm
    exact W.zret hx hb hr rfl (fun t ht hW => ⟨⟨_, (), rfl, rfl, by rw [ht]; exact hP, hD⟩, hS.F ht⟩) hS.2.2 dX3_add_13 hlocks
set_option maxHeartbeats 4000000 in
set_option maxRecDepth 100000 in
theorem c_X3_add {l : Launch} {D : va_G} {cI cJ cZ cR cN : ClassId} {a_z a_z_presses : Nat} {z_length : Int32} {z_presses : Nat → Int32} {z_n : Nat} {x1 : Int32} {r : Int32} {z_length' : Int32} {z_presses' : Nat → Int32} {sz : Nat} (hm : m_X3_add z_n x1 z_length z_presses = some (r, z_length', z_presses')) : Met l yX3_add wsX3_add ({ frames := 0, cells := 0, slots := 0, locals := 0 } : Room) (fr_Pw D cI cJ cZ cR cN [.ref a_z, .int x1] [(a_z, .inr (ob_X3 a_z_presses z_length)), (a_z_presses, .inl (cI, z_n, .inl z_presses))] sz) (fr_Wi D [(a_z, .inr (ob_X3 a_z_presses z_length')), (a_z_presses, .inl (cI, z_n, .inl z_presses'))] (va_A [(a_z, .inr (ob_X3 a_z_presses z_length)), (a_z_presses, .inl (cI, z_n, .inl z_presses))] sz) r) 0 0 (va_A [(a_z, .inr (ob_X3 a_z_presses z_length)), (a_z_presses, .inl (cI, z_n, .inl z_presses))] sz) := by
  refine fr_ofW (cc := cX3_add) (maxL := 2) (ret := (some .boolean)) (by decide +kernel) rfl ?_
  intro p e s m args below meth c s₁ B hml hv
  obtain ⟨rfl, hsz, hP, hD0, hcx⟩ := hv
  subst hsz
  have hD := hD0.self (sz := s.heap.size)
  have hB : fr_BX p s m _ meth c cX3_add (some .boolean) 2 RX3 wsX3_add := ⟨B.exec, B.bytes, B.returns, hml, findClass_of_methodNamed B.named, atoms_spec (ws := wsX3_add) B.pre, B.notSynchronized⟩
  have hl := lv_entry ([.ref a_z, .int x1]) (n := 2) (Nat.le_of_ble_eq_true rfl)
  rw [lg_entry_eq]
  generalize (lg_sl ([.ref a_z, .int x1]) ++ List.replicate (2 - (lg_sl ([.ref a_z, .int x1])).length) Slot.unset).toArray = ls at hl ⊢
  have hl : lv_has ls 2 [(0, .ref a_z), (1, .int x1)] := hl
  exact t_X3_add_0 hB hcx (fun q h => Or.inr h) hm hP hD va_S.rf hl
theorem in_X3_at_X3 : ∀ w ∈ wsX30, w ∈ wsX3_at := fun w h => List.mem_cons_of_mem _ (List.mem_append_right _ h)
set_option maxHeartbeats 4000000 in
set_option maxRecDepth 100000 in
theorem t_X3_at_0 {p : Program} {l : Launch} {e : Env} {s : State} {m : MethodId} {args : Array Value} {below : List Frame} {meth : Method} {c : Code} {D : va_G} {cI cJ cZ cR cN : ClassId} {a_z a_z_presses : Nat} {z_length : Int32} {z_presses : Nat → Int32} {z_n : Nat} {x1 : Int32} {H : Heap} {r : Int32} (hB : fr_BX p s m args meth c cX3_at (some .int) 2 RX3 wsX3_at) (hcx : fr_cx D cI cJ cZ cR cN s) (hm : m_X3_at z_length z_presses z_n x1 = some r) {locs : List Loc} {ls : Array Slot} (hP : va_P D vwCl [(a_z, .inr (ob_X3 a_z_presses z_length)), (a_z_presses, .inl (cI, z_n, .inl z_presses))] H) (hS : va_S (fun _ => False) s.heap H locs) (hl : lv_has ls 2 [(0, .ref a_z), (1, .int x1)]) : W p l e ({ frames := 0, cells := 0, slots := 0, locals := 0 } : Room) s m args below meth c H locs 0 0 (MQ below (fr_Ri H r) args s 0 0 (fun _ => False)) (F0 m 0 ls []) := by
  obtain ⟨hx, hb, hr, hml, hown, hts, hlocks⟩ := id hB
  have hK := hcx.1
  unfold m_X3_at at hm
  refine lv_iload_n hx hb dX3_at_0 rfl (lv_at hl 1 rfl) ?_
  refine lv_if_lt (tgt := 21) hx hb dX3_at_1 (by decide) (fun c_1 => ?_) (fun c_1 => ?_)
  · have hm := fr_ifp c_1 hm
    refine lv_iconst (v := (-1 : Int32)) hx hb dX3_at_21 (by decide) ?_
    exact W.iret (v := (-1 : Int32)) hx hb hr (fun t ht hW => ⟨⟨_, (), rfl, (Option.some.inj hm), ht⟩, hS.F ht⟩) hS.2.2 dX3_at_22 hlocks
  · have hm := fr_ifn c_1 hm
    refine lv_iload_n hx hb dX3_at_4 rfl (lv_at hl 1 rfl) ?_
    refine lv_aload_n hx hb dX3_at_5 rfl (lv_at hl 0 rfl) ?_
    refine va_get (D := D) (ci := 3) (v := .int z_length) (C := RX3) (T := TX3) (N := 2) hx hb hts in_X3_at_X3 hown hK hP 0 rfl rfl 1 (by decide) (hts (.fieldLink RX3 21 "FastestRun$Row" "length" "I") (List.mem_of_getElem? (i := 1) rfl)) (fun _ h9 => h9) rfl dX3_at_6 ?_
    refine lv_icmp_ge (tgt := 21) hx hb dX3_at_9 (by decide) (fun c_2 => ?_) (fun c_2 => ?_)
    · have hm := fr_ifp c_2 hm
      refine lv_iconst (v := (-1 : Int32)) hx hb dX3_at_21 (by decide) ?_
      exact W.iret (v := (-1 : Int32)) hx hb hr (fun t ht hW => ⟨⟨_, (), rfl, (Option.some.inj hm), ht⟩, hS.F ht⟩) hS.2.2 dX3_at_22 hlocks
    · have hm := fr_ifn c_2 hm
      refine lv_aload_n hx hb dX3_at_12 rfl (lv_at hl 0 rfl) ?_
      refine va_get (D := D) (ci := 3) (v := .ref a_z_presses) (C := RX3) (T := TX3) (N := 2) hx hb hts in_X3_at_X3 hown hK hP 0 rfl rfl 0 (by decide) (hts (.fieldLink RX3 15 "FastestRun$Row" "presses" "[I") (List.mem_of_getElem? (i := 2) rfl)) (fun _ h9 => h9) rfl dX3_at_13 ?_
      refine lv_iload_n hx hb dX3_at_16 rfl (lv_at hl 1 rfl) ?_
      obtain ⟨h_3, hm⟩ := fr_ck hm
      refine va_iald hx hb hK hP 1 0 rfl rfl h_3 dX3_at_17 ?_
      refine lv_goto (tgt := 22) hx hb dX3_at_18 (by decide) ?_
      exact W.iret (v := (z_presses x1.toNatClampNeg)) hx hb hr (fun t ht hW => ⟨⟨_, (), rfl, (Option.some.inj hm), ht⟩, hS.F ht⟩) hS.2.2 dX3_at_22 hlocks
set_option maxHeartbeats 4000000 in
set_option maxRecDepth 100000 in
theorem c_X3_at {l : Launch} {D : va_G} {cI cJ cZ cR cN : ClassId} {a_z a_z_presses : Nat} {z_length : Int32} {z_presses : Nat → Int32} {z_n : Nat} {x1 : Int32} {H0 : Heap} {r : Int32} (hm : m_X3_at z_length z_presses z_n x1 = some r) (hP : va_P D vwCl [(a_z, .inr (ob_X3 a_z_presses z_length)), (a_z_presses, .inl (cI, z_n, .inl z_presses))] H0) : Met l yX3_at wsX3_at ({ frames := 0, cells := 0, slots := 0, locals := 0 } : Room) (fr_Pr D cI cJ cZ cR cN [.ref a_z, .int x1] H0) (fr_Ri H0 r) 0 0 (fun _ => False) := by
  refine fr_ofW (cc := cX3_at) (maxL := 2) (ret := (some .int)) (by decide +kernel) rfl ?_
  intro p e s m args below meth c s₁ B hml hv
  obtain ⟨rfl, hH, hcx⟩ := hv
  subst hH
  have hB : fr_BX p s m _ meth c cX3_at (some .int) 2 RX3 wsX3_at := ⟨B.exec, B.bytes, B.returns, hml, findClass_of_methodNamed B.named, atoms_spec (ws := wsX3_at) B.pre, B.notSynchronized⟩
  have hl := lv_entry ([.ref a_z, .int x1]) (n := 2) (Nat.le_of_ble_eq_true rfl)
  rw [lg_entry_eq]
  generalize (lg_sl ([.ref a_z, .int x1]) ++ List.replicate (2 - (lg_sl ([.ref a_z, .int x1])).length) Slot.unset).toArray = ls at hl ⊢
  have hl : lv_has ls 2 [(0, .ref a_z), (1, .int x1)] := hl
  exact t_X3_at_0 hB hcx hm hP va_S.rf hl
theorem in_X3_takeFrom_X3 : ∀ w ∈ wsX30, w ∈ wsX3_takeFrom := fun w h => List.mem_cons_of_mem _ (List.mem_append_right _ h)
set_option maxHeartbeats 4000000 in
set_option maxRecDepth 100000 in
theorem t_X3_takeFrom_0 {p : Program} {l : Launch} {e : Env} {s : State} {m : MethodId} {args : Array Value} {below : List Frame} {meth : Method} {c : Code} {D : va_G} {cI cJ cZ cR cN : ClassId} {A : Nat → Prop} {a_z a_z_presses a_y1 a_y1_presses : Nat} {z_length : Int32} {z_presses : Nat → Int32} {z_n : Nat} {y1_length : Int32} {y1_presses : Nat → Int32} {y1_n : Nat} {H : Heap} {z_length' : Int32} {z_presses' : Nat → Int32} (hB : fr_BX p s m args meth c cX3_takeFrom none 2 RX3 wsX3_takeFrom) (hcx : fr_cx D cI cJ cZ cR cN s) (hA : ∀ q, s.heap.size ≤ q → A q) (hm : m_X3_takeFrom y1_length y1_presses z_n y1_n z_length z_presses = some (z_length', z_presses')) {locs : List Loc} {ls : Array Slot} (hP : va_P D vwCl [(a_z, .inr (ob_X3 a_z_presses z_length)), (a_z_presses, .inl (cI, z_n, .inl z_presses)), (a_y1, .inr (ob_X3 a_y1_presses y1_length)), (a_y1_presses, .inl (cI, y1_n, .inl y1_presses))] H) (hD : va_D A [(a_z, .inr (ob_X3 a_z_presses z_length)), (a_z_presses, .inl (cI, z_n, .inl z_presses)), (a_y1, .inr (ob_X3 a_y1_presses y1_length)), (a_y1_presses, .inl (cI, y1_n, .inl y1_presses))]) (hS : va_S A s.heap H locs) (hl : lv_has ls 2 [(0, .ref a_z), (1, .ref a_y1)]) : W p l e ({ frames := 1, cells := 0, slots := 0, locals := 60 } : Room) s m args below meth c H locs 0 0 (MQ below (fr_Wv D [(a_z, .inr (ob_X3 a_z_presses z_length')), (a_z_presses, .inl (cI, z_n, .inl z_presses')), (a_y1, .inr (ob_X3 a_y1_presses y1_length)), (a_y1_presses, .inl (cI, y1_n, .inl y1_presses))] A) args s 0 0 A) (F0 m 0 ls []) := by
  obtain ⟨hx, hb, hr, hml, hown, hts, hlocks⟩ := id hB
  have hK := hcx.1
  unfold m_X3_takeFrom at hm
  refine lv_aload_n hx hb dX3_takeFrom_0 rfl (lv_at hl 0 rfl) ?_
  refine lv_aload_n hx hb dX3_takeFrom_1 rfl (lv_at hl 1 rfl) ?_
  refine va_get (D := D) (ci := 3) (v := .int y1_length) (C := RX3) (T := TX3) (N := 2) hx hb hts in_X3_takeFrom_X3 hown hK hP 2 rfl rfl 1 (by decide) (hts (.fieldLink RX3 21 "FastestRun$Row" "length" "I") (List.mem_of_getElem? (i := 1) rfl)) (fun _ h9 => h9) rfl dX3_takeFrom_2 ?_
  refine lv_aload_n hx hb dX3_takeFrom_5 rfl (lv_at hl 0 rfl) ?_
  refine va_get (D := D) (ci := 3) (v := .ref a_z_presses) (C := RX3) (T := TX3) (N := 2) hx hb hts in_X3_takeFrom_X3 hown hK hP 0 rfl rfl 0 (by decide) (hts (.fieldLink RX3 15 "FastestRun$Row" "presses" "[I") (List.mem_of_getElem? (i := 2) rfl)) (fun _ h9 => h9) rfl dX3_takeFrom_6 ?_
  refine va_alen (v := (Int32.ofNat z_n)) hx hb hK hP 1 0 rfl rfl rfl dX3_takeFrom_9 ?_
  refine va_mmin hx hb (hml.trans hl.1.symm) hown (hts (.methodLink RX3 25 Lib.Math.min.name) (List.mem_of_getElem? (i := 3) rfl)) (hts (.static Lib.Math.min.name) (List.mem_of_getElem? (i := 4) rfl)) (hts (.initialized "java/lang/Math") (List.mem_of_getElem? (i := 5) rfl)) (hts (.code Lib.Math.min.name Lib.Math.min.code 2 (some .int)) (List.mem_of_getElem? (i := 6) rfl)) (Nat.le_of_ble_eq_true rfl) (Nat.le_of_ble_eq_true rfl) (Nat.le_refl 0) (Nat.le_refl 0) dX3_takeFrom_10 ?_
  refine va_put (D := D) (ci := 3) (v := .int (if (Int32.ofNat z_n) < y1_length then (Int32.ofNat z_n) else y1_length)) (ty := .int) (C := RX3) (T := TX3) (N := 2) hx hb hts in_X3_takeFrom_X3 tyX3 tyX3_ok nmX3 hown hK hP hD hS 0 rfl rfl 1 (by decide) (hts (.fieldLink RX3 21 "FastestRun$Row" "length" "I") (List.mem_of_getElem? (i := 1) rfl)) (fun _ h9 => h9) rfl (by decide +kernel) rfl rfl (Nat.le_of_ble_eq_true rfl) dX3_takeFrom_13 (fun H locs hP hD hS => ?_)
  have hP : va_P D vwCl [(a_z, .inr (ob_X3 a_z_presses (if (Int32.ofNat z_n) < y1_length then (Int32.ofNat z_n) else y1_length))), (a_z_presses, .inl (cI, z_n, .inl z_presses)), (a_y1, .inr (ob_X3 a_y1_presses y1_length)), (a_y1_presses, .inl (cI, y1_n, .inl y1_presses))] H := hP
  have hD : va_D A [(a_z, .inr (ob_X3 a_z_presses (if (Int32.ofNat z_n) < y1_length then (Int32.ofNat z_n) else y1_length))), (a_z_presses, .inl (cI, z_n, .inl z_presses)), (a_y1, .inr (ob_X3 a_y1_presses y1_length)), (a_y1_presses, .inl (cI, y1_n, .inl y1_presses))] := hD
  refine lv_aload_n hx hb dX3_takeFrom_16 rfl (lv_at hl 1 rfl) ?_
  refine va_get (D := D) (ci := 3) (v := .ref a_y1_presses) (C := RX3) (T := TX3) (N := 2) hx hb hts in_X3_takeFrom_X3 hown hK hP 2 rfl rfl 0 (by decide) (hts (.fieldLink RX3 15 "FastestRun$Row" "presses" "[I") (List.mem_of_getElem? (i := 2) rfl)) (fun _ h9 => h9) rfl dX3_takeFrom_17 ?_
  refine lv_iconst (v := (0 : Int32)) hx hb dX3_takeFrom_20 (by decide) ?_
  refine lv_aload_n hx hb dX3_takeFrom_21 rfl (lv_at hl 0 rfl) ?_
  refine va_get (D := D) (ci := 3) (v := .ref a_z_presses) (C := RX3) (T := TX3) (N := 2) hx hb hts in_X3_takeFrom_X3 hown hK hP 0 rfl rfl 0 (by decide) (hts (.fieldLink RX3 15 "FastestRun$Row" "presses" "[I") (List.mem_of_getElem? (i := 2) rfl)) (fun _ h9 => h9) rfl dX3_takeFrom_22 ?_
  refine lv_iconst (v := (0 : Int32)) hx hb dX3_takeFrom_25 (by decide) ?_
  refine lv_aload_n hx hb dX3_takeFrom_26 rfl (lv_at hl 0 rfl) ?_
  refine va_get (D := D) (ci := 3) (v := .int (if (Int32.ofNat z_n) < y1_length then (Int32.ofNat z_n) else y1_length)) (C := RX3) (T := TX3) (N := 2) hx hb hts in_X3_takeFrom_X3 hown hK hP 0 rfl rfl 1 (by decide) (hts (.fieldLink RX3 21 "FastestRun$Row" "length" "I") (List.mem_of_getElem? (i := 1) rfl)) (fun _ h9 => h9) rfl dX3_takeFrom_27 ?_
  obtain ⟨h_1, hm⟩ := fr_ck hm
  refine va_copyi hx hb (hml.trans hl.1.symm) hown (hts (.methodLink RX3 28 arraycopyName) (List.mem_of_getElem? (i := 7) rfl)) (hts (.native arraycopyName) (List.mem_of_getElem? (i := 8) rfl)) (hts (.static arraycopyName) (List.mem_of_getElem? (i := 9) rfl)) (hts (.initialized "java/lang/System") (List.mem_of_getElem? (i := 10) rfl)) hK hP hD hS 3 1 0 0 rfl rfl rfl rfl rfl (by decide) (by decide) (fun q => h_1 (Or.inl q)) (fr_cpb (fun q => h_1 (Or.inr (Or.inl q)))) (fr_cpb (fun q => h_1 (Or.inr (Or.inr q)))) (fun _ _ => rfl) (Nat.le_of_ble_eq_true rfl) (Nat.le_of_ble_eq_true rfl) dX3_takeFrom_30 (fun H locs hP hD hS => ?_)
  have hP : va_P D vwCl [(a_z, .inr (ob_X3 a_z_presses (if (Int32.ofNat z_n) < y1_length then (Int32.ofNat z_n) else y1_length))), (a_z_presses, .inl (cI, z_n, .inl (va_cpy y1_presses z_presses (0 : Int32).toNatClampNeg (0 : Int32).toNatClampNeg (if (Int32.ofNat z_n) < y1_length then (Int32.ofNat z_n) else y1_length).toNatClampNeg))), (a_y1, .inr (ob_X3 a_y1_presses y1_length)), (a_y1_presses, .inl (cI, y1_n, .inl y1_presses))] H := hP
  have hD : va_D A [(a_z, .inr (ob_X3 a_z_presses (if (Int32.ofNat z_n) < y1_length then (Int32.ofNat z_n) else y1_length))), (a_z_presses, .inl (cI, z_n, .inl (va_cpy y1_presses z_presses (0 : Int32).toNatClampNeg (0 : Int32).toNatClampNeg (if (Int32.ofNat z_n) < y1_length then (Int32.ofNat z_n) else y1_length).toNatClampNeg))), (a_y1, .inr (ob_X3 a_y1_presses y1_length)), (a_y1_presses, .inl (cI, y1_n, .inl y1_presses))] := hD
  cases hm
  exact W.vret hx hb hr (fun t ht hW => ⟨⟨(), rfl, trivial, by rw [ht]; exact hP, hD⟩, hS.F ht⟩) hS.2.2 dX3_takeFrom_33 hlocks
set_option maxHeartbeats 4000000 in
set_option maxRecDepth 100000 in
theorem c_X3_takeFrom {l : Launch} {D : va_G} {cI cJ cZ cR cN : ClassId} {a_z a_z_presses a_y1 a_y1_presses : Nat} {z_length : Int32} {z_presses : Nat → Int32} {z_n : Nat} {y1_length : Int32} {y1_presses : Nat → Int32} {y1_n : Nat} {z_length' : Int32} {z_presses' : Nat → Int32} {sz : Nat} (hm : m_X3_takeFrom y1_length y1_presses z_n y1_n z_length z_presses = some (z_length', z_presses')) : Met l yX3_takeFrom wsX3_takeFrom ({ frames := 1, cells := 0, slots := 0, locals := 60 } : Room) (fr_Pw D cI cJ cZ cR cN [.ref a_z, .ref a_y1] [(a_z, .inr (ob_X3 a_z_presses z_length)), (a_z_presses, .inl (cI, z_n, .inl z_presses)), (a_y1, .inr (ob_X3 a_y1_presses y1_length)), (a_y1_presses, .inl (cI, y1_n, .inl y1_presses))] sz) (fr_Wv D [(a_z, .inr (ob_X3 a_z_presses z_length')), (a_z_presses, .inl (cI, z_n, .inl z_presses')), (a_y1, .inr (ob_X3 a_y1_presses y1_length)), (a_y1_presses, .inl (cI, y1_n, .inl y1_presses))] (va_A [(a_z, .inr (ob_X3 a_z_presses z_length)), (a_z_presses, .inl (cI, z_n, .inl z_presses)), (a_y1, .inr (ob_X3 a_y1_presses y1_length)), (a_y1_presses, .inl (cI, y1_n, .inl y1_presses))] sz)) 0 0 (va_A [(a_z, .inr (ob_X3 a_z_presses z_length)), (a_z_presses, .inl (cI, z_n, .inl z_presses)), (a_y1, .inr (ob_X3 a_y1_presses y1_length)), (a_y1_presses, .inl (cI, y1_n, .inl y1_presses))] sz) := by
  refine fr_ofW (cc := cX3_takeFrom) (maxL := 2) (ret := none) (by decide +kernel) rfl ?_
  intro p e s m args below meth c s₁ B hml hv
  obtain ⟨rfl, hsz, hP, hD0, hcx⟩ := hv
  subst hsz
  have hD := hD0.self (sz := s.heap.size)
  have hB : fr_BX p s m _ meth c cX3_takeFrom none 2 RX3 wsX3_takeFrom := ⟨B.exec, B.bytes, B.returns, hml, findClass_of_methodNamed B.named, atoms_spec (ws := wsX3_takeFrom) B.pre, B.notSynchronized⟩
  have hl := lv_entry ([.ref a_z, .ref a_y1]) (n := 2) (Nat.le_of_ble_eq_true rfl)
  rw [lg_entry_eq]
  generalize (lg_sl ([.ref a_z, .ref a_y1]) ++ List.replicate (2 - (lg_sl ([.ref a_z, .ref a_y1])).length) Slot.unset).toArray = ls at hl ⊢
  have hl : lv_has ls 2 [(0, .ref a_z), (1, .ref a_y1)] := hl
  exact t_X3_takeFrom_0 hB hcx (fun q h => Or.inr h) hm hP hD va_S.rf hl
theorem in_X3_reverse_X3 : ∀ w ∈ wsX30, w ∈ wsX3_reverse := fun w h => List.mem_cons_of_mem _ (List.mem_append_right _ h)
set_option maxHeartbeats 4000000 in
set_option maxRecDepth 100000 in
theorem t_X3_reverse_9 {p : Program} {l : Launch} {e : Env} {s : State} {m : MethodId} {args : Array Value} {below : List Frame} {meth : Method} {c : Code} {D : va_G} {cI cJ cZ cR cN : ClassId} {A : Nat → Prop} {a_z a_z_presses : Nat} {z_length : Int32} {z_n : Nat} {F : Nat} {z_presses' : Nat → Int32} (hB : fr_BX p s m args meth c cX3_reverse none 4 RX3 wsX3_reverse) (hcx : fr_cx D cI cJ cZ cR cN s) (hA : ∀ q, s.heap.size ≤ q → A q) : ∀ (n : Nat) (z_presses : Nat → Int32) (v1 : Int32) (v2 : Int32) (H : Heap) (locs : List Loc) (ls : Array Slot), m_X3_reverse_b9 F z_length z_n n z_presses v1 v2 = some z_presses' → va_P D vwCl [(a_z, .inr (ob_X3 a_z_presses z_length)), (a_z_presses, .inl (cI, z_n, .inl z_presses))] H → va_D A [(a_z, .inr (ob_X3 a_z_presses z_length)), (a_z_presses, .inl (cI, z_n, .inl z_presses))] → va_S A s.heap H locs → lv_has ls 4 [(0, .ref a_z), (1, .int v1), (2, .int v2)] → W p l e ({ frames := 0, cells := 0, slots := 0, locals := 0 } : Room) s m args below meth c H locs 0 0 (MQ below (fr_Wv D [(a_z, .inr (ob_X3 a_z_presses z_length)), (a_z_presses, .inl (cI, z_n, .inl z_presses'))] A) args s 0 0 A) (F0 m 9 ls []) := by
  obtain ⟨hx, hb, hr, hml, hown, hts, hlocks⟩ := id hB
  have hK := hcx.1
  intro n
  induction n with
  | zero =>
    intro z_presses v1 v2 H locs ls hm
    have hm : none = some _ := hm
    cases hm
  | succ n ih =>
    intro z_presses v1 v2 H locs ls hm hP hD hS hl
    rw [m_X3_reverse_b9] at hm
    refine lv_iload_n hx hb dX3_reverse_9 rfl (lv_at hl 1 rfl) ?_
    refine lv_iload_n hx hb dX3_reverse_10 rfl (lv_at hl 2 rfl) ?_
    refine lv_icmp_ge (tgt := 49) hx hb dX3_reverse_11 (by decide) (fun c_1 => ?_) (fun c_1 => ?_)
    · have hm := fr_ifp c_1 hm
      cases hm
      exact W.vret hx hb hr (fun t ht hW => ⟨⟨(), rfl, trivial, by rw [ht]; exact hP, hD⟩, hS.F ht⟩) hS.2.2 dX3_reverse_49 hlocks
    · have hm := fr_ifn c_1 hm
      refine lv_aload_n hx hb dX3_reverse_14 rfl (lv_at hl 0 rfl) ?_
      refine va_get (D := D) (ci := 3) (v := .ref a_z_presses) (C := RX3) (T := TX3) (N := 2) hx hb hts in_X3_reverse_X3 hown hK hP 0 rfl rfl 0 (by decide) (hts (.fieldLink RX3 15 "FastestRun$Row" "presses" "[I") (List.mem_of_getElem? (i := 2) rfl)) (fun _ h9 => h9) rfl dX3_reverse_15 ?_
      refine lv_iload_n hx hb dX3_reverse_18 rfl (lv_at hl 1 rfl) ?_
      obtain ⟨h_2, hm⟩ := fr_ck hm
      refine va_iald hx hb hK hP 1 0 rfl rfl h_2 dX3_reverse_19 ?_
      refine lv_istore_n (lv' := [(3, .int (z_presses v1.toNatClampNeg)), (0, .ref a_z), (1, .int v1), (2, .int v2)]) hx hb dX3_reverse_20 rfl hl (by decide) rfl (fun ls hl => ?_)
      refine lv_aload_n hx hb dX3_reverse_21 rfl (lv_at hl 1 rfl) ?_
      refine va_get (D := D) (ci := 3) (v := .ref a_z_presses) (C := RX3) (T := TX3) (N := 2) hx hb hts in_X3_reverse_X3 hown hK hP 0 rfl rfl 0 (by decide) (hts (.fieldLink RX3 15 "FastestRun$Row" "presses" "[I") (List.mem_of_getElem? (i := 2) rfl)) (fun _ h9 => h9) rfl dX3_reverse_22 ?_
      refine lv_iload_n hx hb dX3_reverse_25 rfl (lv_at hl 2 rfl) ?_
      refine lv_aload_n hx hb dX3_reverse_26 rfl (lv_at hl 1 rfl) ?_
      refine va_get (D := D) (ci := 3) (v := .ref a_z_presses) (C := RX3) (T := TX3) (N := 2) hx hb hts in_X3_reverse_X3 hown hK hP 0 rfl rfl 0 (by decide) (hts (.fieldLink RX3 15 "FastestRun$Row" "presses" "[I") (List.mem_of_getElem? (i := 2) rfl)) (fun _ h9 => h9) rfl dX3_reverse_27 ?_
      refine lv_iload_n hx hb dX3_reverse_30 rfl (lv_at hl 3 rfl) ?_
      obtain ⟨h_3, hm⟩ := fr_ck hm
      refine va_iald hx hb hK hP 1 0 rfl rfl h_3 dX3_reverse_31 ?_
      obtain ⟨h_4, hm⟩ := fr_ck hm
      refine va_iast hx hb hK hP hD hS 1 0 rfl rfl h_4 dX3_reverse_32 (fun H locs hP hD hS => ?_)
      have hP : va_P D vwCl [(a_z, .inr (ob_X3 a_z_presses z_length)), (a_z_presses, .inl (cI, z_n, .inl (upd z_presses v1.toNatClampNeg (z_presses v2.toNatClampNeg))))] H := hP
      have hD : va_D A [(a_z, .inr (ob_X3 a_z_presses z_length)), (a_z_presses, .inl (cI, z_n, .inl (upd z_presses v1.toNatClampNeg (z_presses v2.toNatClampNeg))))] := hD
      refine lv_aload_n hx hb dX3_reverse_33 rfl (lv_at hl 1 rfl) ?_
      refine va_get (D := D) (ci := 3) (v := .ref a_z_presses) (C := RX3) (T := TX3) (N := 2) hx hb hts in_X3_reverse_X3 hown hK hP 0 rfl rfl 0 (by decide) (hts (.fieldLink RX3 15 "FastestRun$Row" "presses" "[I") (List.mem_of_getElem? (i := 2) rfl)) (fun _ h9 => h9) rfl dX3_reverse_34 ?_
      refine lv_iload_n hx hb dX3_reverse_37 rfl (lv_at hl 3 rfl) ?_
      refine lv_iload_n hx hb dX3_reverse_38 rfl (lv_at hl 0 rfl) ?_
      obtain ⟨h_5, hm⟩ := fr_ck hm
      refine va_iast hx hb hK hP hD hS 1 0 rfl rfl h_5 dX3_reverse_39 (fun H locs hP hD hS => ?_)
      have hP : va_P D vwCl [(a_z, .inr (ob_X3 a_z_presses z_length)), (a_z_presses, .inl (cI, z_n, .inl (upd (upd z_presses v1.toNatClampNeg (z_presses v2.toNatClampNeg)) v2.toNatClampNeg (z_presses v1.toNatClampNeg))))] H := hP
      have hD : va_D A [(a_z, .inr (ob_X3 a_z_presses z_length)), (a_z_presses, .inl (cI, z_n, .inl (upd (upd z_presses v1.toNatClampNeg (z_presses v2.toNatClampNeg)) v2.toNatClampNeg (z_presses v1.toNatClampNeg))))] := hD
      refine lv_iinc (v := (v1 + 1)) (lv' := [(1, .int (v1 + 1)), (3, .int (z_presses v1.toNatClampNeg)), (0, .ref a_z), (2, .int v2)]) hx hb dX3_reverse_40 hl (k := 2) rfl rfl (by decide) rfl (fun ls hl => ?_)
      refine lv_iinc (v := (v2 + (-1))) (lv' := [(2, .int (v2 + (-1))), (1, .int (v1 + 1)), (3, .int (z_presses v1.toNatClampNeg)), (0, .ref a_z)]) hx hb dX3_reverse_43 hl (k := 3) rfl rfl (by decide) rfl (fun ls hl => ?_)
      refine lv_goto (tgt := 9) hx hb dX3_reverse_46 (by decide) ?_
      exact ih _ _ _ _ _ _ hm hP hD hS (lv_sub hl [3, 1, 0] rfl)
set_option maxHeartbeats 4000000 in
set_option maxRecDepth 100000 in
theorem t_X3_reverse_0 {p : Program} {l : Launch} {e : Env} {s : State} {m : MethodId} {args : Array Value} {below : List Frame} {meth : Method} {c : Code} {D : va_G} {cI cJ cZ cR cN : ClassId} {A : Nat → Prop} {a_z a_z_presses : Nat} {z_length : Int32} {z_presses : Nat → Int32} {z_n : Nat} {F : Nat} {H : Heap} {z_presses' : Nat → Int32} (hB : fr_BX p s m args meth c cX3_reverse none 4 RX3 wsX3_reverse) (hcx : fr_cx D cI cJ cZ cR cN s) (hA : ∀ q, s.heap.size ≤ q → A q) (hm : m_X3_reverse F z_length z_n z_presses = some z_presses') {locs : List Loc} {ls : Array Slot} (hP : va_P D vwCl [(a_z, .inr (ob_X3 a_z_presses z_length)), (a_z_presses, .inl (cI, z_n, .inl z_presses))] H) (hD : va_D A [(a_z, .inr (ob_X3 a_z_presses z_length)), (a_z_presses, .inl (cI, z_n, .inl z_presses))]) (hS : va_S A s.heap H locs) (hl : lv_has ls 4 [(0, .ref a_z)]) : W p l e ({ frames := 0, cells := 0, slots := 0, locals := 0 } : Room) s m args below meth c H locs 0 0 (MQ below (fr_Wv D [(a_z, .inr (ob_X3 a_z_presses z_length)), (a_z_presses, .inl (cI, z_n, .inl z_presses'))] A) args s 0 0 A) (F0 m 0 ls []) := by
  obtain ⟨hx, hb, hr, hml, hown, hts, hlocks⟩ := id hB
  have hK := hcx.1
  unfold m_X3_reverse at hm
  refine lv_iconst (v := (0 : Int32)) hx hb dX3_reverse_0 (by decide) ?_
  refine lv_istore_n (lv' := [(1, .int (0 : Int32)), (0, .ref a_z)]) hx hb dX3_reverse_1 rfl hl (by decide) rfl (fun ls hl => ?_)
  refine lv_aload_n hx hb dX3_reverse_2 rfl (lv_at hl 1 rfl) ?_
  refine va_get (D := D) (ci := 3) (v := .int z_length) (C := RX3) (T := TX3) (N := 2) hx hb hts in_X3_reverse_X3 hown hK hP 0 rfl rfl 1 (by decide) (hts (.fieldLink RX3 21 "FastestRun$Row" "length" "I") (List.mem_of_getElem? (i := 1) rfl)) (fun _ h9 => h9) rfl dX3_reverse_3 ?_
  refine lv_iconst (v := (1 : Int32)) hx hb dX3_reverse_6 (by decide) ?_
  refine lv_isub hx hb dX3_reverse_7 ?_
  refine lv_istore_n (lv' := [(2, .int (z_length - (1 : Int32))), (1, .int (0 : Int32)), (0, .ref a_z)]) hx hb dX3_reverse_8 rfl hl (by decide) rfl (fun ls hl => ?_)
  exact t_X3_reverse_9 hB hcx hA _ _ _ _ _ _ _ hm hP hD hS (lv_sub hl [2, 1, 0] rfl)
set_option maxHeartbeats 4000000 in
set_option maxRecDepth 100000 in
theorem c_X3_reverse {l : Launch} {D : va_G} {cI cJ cZ cR cN : ClassId} {a_z a_z_presses : Nat} {z_length : Int32} {z_presses : Nat → Int32} {z_n : Nat} {F : Nat} {z_presses' : Nat → Int32} {sz : Nat} (hm : m_X3_reverse F z_length z_n z_presses = some z_presses') : Met l yX3_reverse wsX3_reverse ({ frames := 0, cells := 0, slots := 0, locals := 0 } : Room) (fr_Pw D cI cJ cZ cR cN [.ref a_z] [(a_z, .inr (ob_X3 a_z_presses z_length)), (a_z_presses, .inl (cI, z_n, .inl z_presses))] sz) (fr_Wv D [(a_z, .inr (ob_X3 a_z_presses z_length)), (a_z_presses, .inl (cI, z_n, .inl z_presses'))] (va_A [(a_z, .inr (ob_X3 a_z_presses z_length)), (a_z_presses, .inl (cI, z_n, .inl z_presses))] sz)) 0 0 (va_A [(a_z, .inr (ob_X3 a_z_presses z_length)), (a_z_presses, .inl (cI, z_n, .inl z_presses))] sz) := by
  refine fr_ofW (cc := cX3_reverse) (maxL := 4) (ret := none) (by decide +kernel) rfl ?_
  intro p e s m args below meth c s₁ B hml hv
  obtain ⟨rfl, hsz, hP, hD0, hcx⟩ := hv
  subst hsz
  have hD := hD0.self (sz := s.heap.size)
  have hB : fr_BX p s m _ meth c cX3_reverse none 4 RX3 wsX3_reverse := ⟨B.exec, B.bytes, B.returns, hml, findClass_of_methodNamed B.named, atoms_spec (ws := wsX3_reverse) B.pre, B.notSynchronized⟩
  have hl := lv_entry ([.ref a_z]) (n := 4) (Nat.le_of_ble_eq_true rfl)
  rw [lg_entry_eq]
  generalize (lg_sl ([.ref a_z]) ++ List.replicate (4 - (lg_sl ([.ref a_z])).length) Slot.unset).toArray = ls at hl ⊢
  have hl : lv_has ls 4 [(0, .ref a_z)] := hl
  exact t_X3_reverse_0 hB hcx (fun q h => Or.inr h) hm hP hD va_S.rf hl
theorem in_X3_firstUnlike_X3 : ∀ w ∈ wsX30, w ∈ wsX3_firstUnlike := fun w h => List.mem_cons_of_mem _ (List.mem_append_right _ h)
set_option maxHeartbeats 4000000 in
set_option maxRecDepth 100000 in
theorem t_X3_firstUnlike_14 {p : Program} {l : Launch} {e : Env} {s : State} {m : MethodId} {args : Array Value} {below : List Frame} {meth : Method} {c : Code} {D : va_G} {cI cJ cZ cR cN : ClassId} {a_z a_z_presses a_y1 a_y1_presses : Nat} {z_length : Int32} {z_presses : Nat → Int32} {z_n : Nat} {y1_length : Int32} {y1_presses : Nat → Int32} {y1_n : Nat} {F : Nat} {H : Heap} {r : Int32} (hB : fr_BX p s m args meth c cX3_firstUnlike (some .int) 4 RX3 wsX3_firstUnlike) (hcx : fr_cx D cI cJ cZ cR cN s) : ∀ (n : Nat) (v2 : Int32) (v3 : Int32) (locs : List Loc) (ls : Array Slot), m_X3_firstUnlike_b14 F z_length z_presses y1_length y1_presses z_n y1_n n v2 v3 = some r → va_P D vwCl [(a_z, .inr (ob_X3 a_z_presses z_length)), (a_z_presses, .inl (cI, z_n, .inl z_presses)), (a_y1, .inr (ob_X3 a_y1_presses y1_length)), (a_y1_presses, .inl (cI, y1_n, .inl y1_presses))] H → va_S (fun _ => False) s.heap H locs → lv_has ls 4 [(0, .ref a_z), (1, .ref a_y1), (2, .int v2), (3, .int v3)] → W p l e ({ frames := 1, cells := 0, slots := 0, locals := 21 } : Room) s m args below meth c H locs 0 0 (MQ below (fr_Ri H r) args s 0 0 (fun _ => False)) (F0 m 14 ls []) := by
  obtain ⟨hx, hb, hr, hml, hown, hts, hlocks⟩ := id hB
  have hK := hcx.1
  intro n
  induction n with
  | zero =>
    intro v2 v3 locs ls hm
    have hm : none = some _ := hm
    cases hm
  | succ n ih =>
    intro v2 v3 locs ls hm hP hS hl
    rw [m_X3_firstUnlike_b14] at hm
    refine lv_iload_n hx hb dX3_firstUnlike_14 rfl (lv_at hl 3 rfl) ?_
    refine lv_iload_n hx hb dX3_firstUnlike_15 rfl (lv_at hl 2 rfl) ?_
    refine lv_icmp_ge (tgt := 40) hx hb dX3_firstUnlike_16 (by decide) (fun c_1 => ?_) (fun c_1 => ?_)
    · have hm := fr_ifp c_1 hm
      refine lv_iconst (v := (-1 : Int32)) hx hb dX3_firstUnlike_40 (by decide) ?_
      exact W.iret (v := (-1 : Int32)) hx hb hr (fun t ht hW => ⟨⟨_, (), rfl, (Option.some.inj hm), ht⟩, hS.F ht⟩) hS.2.2 dX3_firstUnlike_41 hlocks
    · have hm := fr_ifn c_1 hm
      refine lv_aload_n hx hb dX3_firstUnlike_19 rfl (lv_at hl 0 rfl) ?_
      refine lv_iload_n hx hb dX3_firstUnlike_20 rfl (lv_at hl 3 rfl) ?_
      obtain ⟨o2, hc3, hm⟩ := fr_bd hm
      refine fr_roi (va_runV (As := [.int v3]) (rest := []) ⟨hx, hb, hml, hown, hts⟩ (c_X3_at (l := l) (x1 := v3) (D := D) (cI := cI) (cJ := cJ) (cZ := cZ) (cR := cR) (cN := cN) hc3 (fr_sub (ws' := [(a_z, .inr (ob_X3 a_z_presses z_length)), (a_z_presses, .inl (cI, z_n, .inl z_presses))]) hP [0, 1] rfl)) (cwV 1 hts gX3_firstUnlike_X3_at rfl rfl rfl (by decide +kernel) ⟨Nat.le_of_ble_eq_true rfl, Nat.le_of_ble_eq_true rfl⟩) (fr_pvr hcx (va_recv hK hP (ci := 3) (q0 := 0) rfl rfl)) rfl rfl hl.1 rfl (lv_room (Nat.le_of_ble_eq_true rfl)) dX3_firstUnlike_21 ⟨Nat.zero_le _, Nat.zero_le _⟩) hS (fun locs hS => ?_)
      refine lv_aload_n hx hb dX3_firstUnlike_24 rfl (lv_at hl 1 rfl) ?_
      refine lv_iload_n hx hb dX3_firstUnlike_25 rfl (lv_at hl 3 rfl) ?_
      obtain ⟨o4, hc5, hm⟩ := fr_bd hm
      refine fr_roi (va_runV (As := [.int v3]) (rest := [.int o2]) ⟨hx, hb, hml, hown, hts⟩ (c_X3_at (l := l) (x1 := v3) (D := D) (cI := cI) (cJ := cJ) (cZ := cZ) (cR := cR) (cN := cN) hc5 (fr_sub (ws' := [(a_y1, .inr (ob_X3 a_y1_presses y1_length)), (a_y1_presses, .inl (cI, y1_n, .inl y1_presses))]) hP [2, 3] rfl)) (cwV 1 hts gX3_firstUnlike_X3_at rfl rfl rfl (by decide +kernel) ⟨Nat.le_of_ble_eq_true rfl, Nat.le_of_ble_eq_true rfl⟩) (fr_pvr hcx (va_recv hK hP (ci := 3) (q0 := 2) rfl rfl)) rfl rfl hl.1 rfl (lv_room (Nat.le_of_ble_eq_true rfl)) dX3_firstUnlike_26 ⟨Nat.zero_le _, Nat.zero_le _⟩) hS (fun locs hS => ?_)
      refine lv_icmp_eq (tgt := 34) hx hb dX3_firstUnlike_29 (by decide) (fun c_6 => ?_) (fun c_6 => ?_)
      · have hm := fr_ifp c_6 hm
        refine lv_iinc (v := (v3 + 1)) (lv' := [(3, .int (v3 + 1)), (0, .ref a_z), (1, .ref a_y1), (2, .int v2)]) hx hb dX3_firstUnlike_34 hl (k := 3) rfl rfl (by decide) rfl (fun ls hl => ?_)
        refine lv_goto (tgt := 14) hx hb dX3_firstUnlike_37 (by decide) ?_
        exact ih _ _ _ _ hm hP hS (lv_sub hl [1, 2, 3, 0] rfl)
      · have hm := fr_ifn c_6 hm
        refine lv_iload_n hx hb dX3_firstUnlike_32 rfl (lv_at hl 3 rfl) ?_
        exact W.iret (v := v3) hx hb hr (fun t ht hW => ⟨⟨_, (), rfl, (Option.some.inj hm), ht⟩, hS.F ht⟩) hS.2.2 dX3_firstUnlike_33 hlocks
set_option maxHeartbeats 4000000 in
set_option maxRecDepth 100000 in
theorem t_X3_firstUnlike_0 {p : Program} {l : Launch} {e : Env} {s : State} {m : MethodId} {args : Array Value} {below : List Frame} {meth : Method} {c : Code} {D : va_G} {cI cJ cZ cR cN : ClassId} {a_z a_z_presses a_y1 a_y1_presses : Nat} {z_length : Int32} {z_presses : Nat → Int32} {z_n : Nat} {y1_length : Int32} {y1_presses : Nat → Int32} {y1_n : Nat} {F : Nat} {H : Heap} {r : Int32} (hB : fr_BX p s m args meth c cX3_firstUnlike (some .int) 4 RX3 wsX3_firstUnlike) (hcx : fr_cx D cI cJ cZ cR cN s) (hm : m_X3_firstUnlike F z_length z_presses y1_length y1_presses z_n y1_n = some r) {locs : List Loc} {ls : Array Slot} (hP : va_P D vwCl [(a_z, .inr (ob_X3 a_z_presses z_length)), (a_z_presses, .inl (cI, z_n, .inl z_presses)), (a_y1, .inr (ob_X3 a_y1_presses y1_length)), (a_y1_presses, .inl (cI, y1_n, .inl y1_presses))] H) (hS : va_S (fun _ => False) s.heap H locs) (hl : lv_has ls 4 [(0, .ref a_z), (1, .ref a_y1)]) : W p l e ({ frames := 1, cells := 0, slots := 0, locals := 21 } : Room) s m args below meth c H locs 0 0 (MQ below (fr_Ri H r) args s 0 0 (fun _ => False)) (F0 m 0 ls []) := by
  obtain ⟨hx, hb, hr, hml, hown, hts, hlocks⟩ := id hB
  have hK := hcx.1
  unfold m_X3_firstUnlike at hm
  refine lv_aload_n hx hb dX3_firstUnlike_0 rfl (lv_at hl 0 rfl) ?_
  refine va_get (D := D) (ci := 3) (v := .int z_length) (C := RX3) (T := TX3) (N := 2) hx hb hts in_X3_firstUnlike_X3 hown hK hP 0 rfl rfl 1 (by decide) (hts (.fieldLink RX3 21 "FastestRun$Row" "length" "I") (List.mem_of_getElem? (i := 1) rfl)) (fun _ h9 => h9) rfl dX3_firstUnlike_1 ?_
  refine lv_aload_n hx hb dX3_firstUnlike_4 rfl (lv_at hl 1 rfl) ?_
  refine va_get (D := D) (ci := 3) (v := .int y1_length) (C := RX3) (T := TX3) (N := 2) hx hb hts in_X3_firstUnlike_X3 hown hK hP 2 rfl rfl 1 (by decide) (hts (.fieldLink RX3 21 "FastestRun$Row" "length" "I") (List.mem_of_getElem? (i := 1) rfl)) (fun _ h9 => h9) rfl dX3_firstUnlike_5 ?_
  refine va_mmax hx hb (hml.trans hl.1.symm) hown (hts (.methodLink RX3 9 Lib.Math.max.name) (List.mem_of_getElem? (i := 2) rfl)) (hts (.static Lib.Math.max.name) (List.mem_of_getElem? (i := 3) rfl)) (hts (.initialized "java/lang/Math") (List.mem_of_getElem? (i := 4) rfl)) (hts (.code Lib.Math.max.name Lib.Math.max.code 2 (some .int)) (List.mem_of_getElem? (i := 5) rfl)) (Nat.le_of_ble_eq_true rfl) (Nat.le_of_ble_eq_true rfl) (Nat.le_refl 0) (Nat.le_refl 0) dX3_firstUnlike_8 ?_
  refine lv_istore_n (lv' := [(2, .int (if z_length < y1_length then y1_length else z_length)), (0, .ref a_z), (1, .ref a_y1)]) hx hb dX3_firstUnlike_11 rfl hl (by decide) rfl (fun ls hl => ?_)
  refine lv_iconst (v := (0 : Int32)) hx hb dX3_firstUnlike_12 (by decide) ?_
  refine lv_istore_n (lv' := [(3, .int (0 : Int32)), (2, .int (if z_length < y1_length then y1_length else z_length)), (0, .ref a_z), (1, .ref a_y1)]) hx hb dX3_firstUnlike_13 rfl hl (by decide) rfl (fun ls hl => ?_)
  exact t_X3_firstUnlike_14 hB hcx _ _ _ _ _ hm hP hS (lv_sub hl [2, 3, 1, 0] rfl)
set_option maxHeartbeats 4000000 in
set_option maxRecDepth 100000 in
theorem c_X3_firstUnlike {l : Launch} {D : va_G} {cI cJ cZ cR cN : ClassId} {a_z a_z_presses a_y1 a_y1_presses : Nat} {z_length : Int32} {z_presses : Nat → Int32} {z_n : Nat} {y1_length : Int32} {y1_presses : Nat → Int32} {y1_n : Nat} {F : Nat} {H0 : Heap} {r : Int32} (hm : m_X3_firstUnlike F z_length z_presses y1_length y1_presses z_n y1_n = some r) (hP : va_P D vwCl [(a_z, .inr (ob_X3 a_z_presses z_length)), (a_z_presses, .inl (cI, z_n, .inl z_presses)), (a_y1, .inr (ob_X3 a_y1_presses y1_length)), (a_y1_presses, .inl (cI, y1_n, .inl y1_presses))] H0) : Met l yX3_firstUnlike wsX3_firstUnlike ({ frames := 1, cells := 0, slots := 0, locals := 21 } : Room) (fr_Pr D cI cJ cZ cR cN [.ref a_z, .ref a_y1] H0) (fr_Ri H0 r) 0 0 (fun _ => False) := by
  refine fr_ofW (cc := cX3_firstUnlike) (maxL := 4) (ret := (some .int)) (by decide +kernel) rfl ?_
  intro p e s m args below meth c s₁ B hml hv
  obtain ⟨rfl, hH, hcx⟩ := hv
  subst hH
  have hB : fr_BX p s m _ meth c cX3_firstUnlike (some .int) 4 RX3 wsX3_firstUnlike := ⟨B.exec, B.bytes, B.returns, hml, findClass_of_methodNamed B.named, atoms_spec (ws := wsX3_firstUnlike) B.pre, B.notSynchronized⟩
  have hl := lv_entry ([.ref a_z, .ref a_y1]) (n := 4) (Nat.le_of_ble_eq_true rfl)
  rw [lg_entry_eq]
  generalize (lg_sl ([.ref a_z, .ref a_y1]) ++ List.replicate (4 - (lg_sl ([.ref a_z, .ref a_y1])).length) Slot.unset).toArray = ls at hl ⊢
  have hl : lv_has ls 4 [(0, .ref a_z), (1, .ref a_y1)] := hl
  exact t_X3_firstUnlike_0 hB hcx hm hP va_S.rf hl
