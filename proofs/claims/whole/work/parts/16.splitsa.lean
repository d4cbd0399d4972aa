theorem in_X6_clear_X6 : ∀ w ∈ wsX60, w ∈ wsX6_clear := fun w h => List.mem_cons_of_mem _ (List.mem_append_right _ h)
set_option maxHeartbeats 4000000 in
set_option maxRecDepth 100000 in
theorem t_X6_clear_0 {p : Program} {l : Launch} {e : Env} {s : State} {m : MethodId} {args : Array Value} {below : List Frame} {meth : Method} {c : Code} {D : va_G} {cI cJ cZ cR cN : ClassId} {A : Nat → Prop} {a_z a_z_cells a_z_earliest a_z_latest a_z_here a_z_ahead : Nat} {z_length : Int32} {H : Heap} {z_length' : Int32} (hB : fr_BX p s m args meth c cX6_clear none 1 RX6 wsX6_clear) (hcx : fr_cx D cI cJ cZ cR cN s) (hA : ∀ q, s.heap.size ≤ q → A q) (hm : m_X6_clear z_length = some z_length') {locs : List Loc} {ls : Array Slot} (hP : va_P D vwCl [(a_z, .inr (ob_X6 a_z_cells a_z_earliest a_z_latest z_length a_z_here a_z_ahead))] H) (hD : va_D A [(a_z, .inr (ob_X6 a_z_cells a_z_earliest a_z_latest z_length a_z_here a_z_ahead))]) (hS : va_S A s.heap H locs) (hl : lv_has ls 1 [(0, .ref a_z)]) : W p l e ({ frames := 0, cells := 0, slots := 0, locals := 0 } : Room) s m args below meth c H locs 0 0 (MQ below (fr_Wv D [(a_z, .inr (ob_X6 a_z_cells a_z_earliest a_z_latest z_length' a_z_here a_z_ahead))] A) args s 0 0 A) (F0 m 0 ls []) := by
  obtain ⟨hx, hb, hr, hml, hown, hts, hlocks⟩ := id hB
  have hK := hcx.1
  unfold m_X6_clear at hm
  refine lv_aload_n hx hb dX6_clear_0 rfl (lv_at hl 0 rfl) ?_
  refine lv_iconst (v := (0 : Int32)) hx hb dX6_clear_1 (by decide) ?_
  refine va_put (D := D) (ci := 6) (v := .int (0 : Int32)) (ty := .int) (C := RX6) (T := TX6) (N := 6) hx hb hts in_X6_clear_X6 tyX6 tyX6_ok nmX6 hown hK hP hD hS 0 rfl rfl 3 (by decide) (hts (.fieldLink RX6 28 "FastestRun$Splits" "length" "I") (List.mem_of_getElem? (i := 1) rfl)) (fun _ h9 => h9) rfl (by decide +kernel) rfl rfl (Nat.le_of_ble_eq_true rfl) dX6_clear_2 (fun H locs hP hD hS => ?_)
  have hP : va_P D vwCl [(a_z, .inr (ob_X6 a_z_cells a_z_earliest a_z_latest (0 : Int32) a_z_here a_z_ahead))] H := hP
  have hD : va_D A [(a_z, .inr (ob_X6 a_z_cells a_z_earliest a_z_latest (0 : Int32) a_z_here a_z_ahead))] := hD
  cases hm
  exact W.vret hx hb hr (fun t ht hW => ⟨⟨(), rfl, trivial, by rw [ht]; exact hP, hD⟩, hS.F ht⟩) hS.2.2 dX6_clear_5 hlocks
set_option maxHeartbeats 4000000 in
set_option maxRecDepth 100000 in
theorem c_X6_clear {l : Launch} {D : va_G} {cI cJ cZ cR cN : ClassId} {a_z a_z_cells a_z_earliest a_z_latest a_z_here a_z_ahead : Nat} {z_length : Int32} {z_length' : Int32} {sz : Nat} (hm : m_X6_clear z_length = some z_length') : Met l yX6_clear wsX6_clear ({ frames := 0, cells := 0, slots := 0, locals := 0 } : Room) (fr_Pw D cI cJ cZ cR cN [.ref a_z] [(a_z, .inr (ob_X6 a_z_cells a_z_earliest a_z_latest z_length a_z_here a_z_ahead))] sz) (fr_Wv D [(a_z, .inr (ob_X6 a_z_cells a_z_earliest a_z_latest z_length' a_z_here a_z_ahead))] (va_A [(a_z, .inr (ob_X6 a_z_cells a_z_earliest a_z_latest z_length a_z_here a_z_ahead))] sz)) 0 0 (va_A [(a_z, .inr (ob_X6 a_z_cells a_z_earliest a_z_latest z_length a_z_here a_z_ahead))] sz) := by
  refine fr_ofW (cc := cX6_clear) (maxL := 1) (ret := none) (by decide +kernel) rfl ?_
  intro p e s m args below meth c s₁ B hml hv
  obtain ⟨rfl, hsz, hP, hD0, hcx⟩ := hv
  subst hsz
  have hD := hD0.self (sz := s.heap.size)
  have hB : fr_BX p s m _ meth c cX6_clear none 1 RX6 wsX6_clear := ⟨B.exec, B.bytes, B.returns, hml, findClass_of_methodNamed B.named, atoms_spec (ws := wsX6_clear) B.pre, B.notSynchronized⟩
  have hl := lv_entry ([.ref a_z]) (n := 1) (Nat.le_of_ble_eq_true rfl)
  rw [lg_entry_eq]
  generalize (lg_sl ([.ref a_z]) ++ List.replicate (1 - (lg_sl ([.ref a_z])).length) Slot.unset).toArray = ls at hl ⊢
  have hl : lv_has ls 1 [(0, .ref a_z)] := hl
  exact t_X6_clear_0 hB hcx (fun q h => Or.inr h) hm hP hD va_S.rf hl
theorem in_X6_add_X6 : ∀ w ∈ wsX60, w ∈ wsX6_add := fun w h => List.mem_cons_of_mem _ (List.mem_append_right _ h)
set_option maxHeartbeats 4000000 in
set_option maxRecDepth 100000 in
theorem t_X6_add_0 {p : Program} {l : Launch} {e : Env} {s : State} {m : MethodId} {args : Array Value} {below : List Frame} {meth : Method} {c : Code} {D : va_G} {cI cJ cZ cR cN : ClassId} {A : Nat → Prop} {a_z a_z_cells a_z_earliest a_z_latest a_z_here a_z_ahead : Nat} {z_length : Int32} {z_cells : Nat → Int32} {z_earliest : Nat → Int32} {z_latest : Nat → Int32} {x1 : Int32} {x2 : Int32} {x3 : Int32} {H : Heap} {r : Int32} {z_length' : Int32} {z_cells' : Nat → Int32} {z_earliest' : Nat → Int32} {z_latest' : Nat → Int32} (hB : fr_BX p s m args meth c cX6_add (some .boolean) 4 RX6 wsX6_add) (hcx : fr_cx D cI cJ cZ cR cN s) (hA : ∀ q, s.heap.size ≤ q → A q) (hm : m_X6_add x1 x2 x3 z_length z_cells z_earliest z_latest = some (r, z_length', z_cells', z_earliest', z_latest')) {locs : List Loc} {ls : Array Slot} (hP : va_P D vwCl [(a_z, .inr (ob_X6 a_z_cells a_z_earliest a_z_latest z_length a_z_here a_z_ahead)), (a_z_cells, .inl (cI, 5, .inl z_cells)), (a_z_earliest, .inl (cI, 5, .inl z_earliest)), (a_z_latest, .inl (cI, 5, .inl z_latest))] H) (hD : va_D A [(a_z, .inr (ob_X6 a_z_cells a_z_earliest a_z_latest z_length a_z_here a_z_ahead)), (a_z_cells, .inl (cI, 5, .inl z_cells)), (a_z_earliest, .inl (cI, 5, .inl z_earliest)), (a_z_latest, .inl (cI, 5, .inl z_latest))]) (hS : va_S A s.heap H locs) (hl : lv_has ls 4 [(0, .ref a_z), (1, .int x1), (2, .int x2), (3, .int x3)]) : W p l e ({ frames := 0, cells := 0, slots := 0, locals := 0 } : Room) s m args below meth c H locs 0 0 (MQ below (fr_Wi D [(a_z, .inr (ob_X6 a_z_cells a_z_earliest a_z_latest z_length' a_z_here a_z_ahead)), (a_z_cells, .inl (cI, 5, .inl z_cells')), (a_z_earliest, .inl (cI, 5, .inl z_earliest')), (a_z_latest, .inl (cI, 5, .inl z_latest'))] A r) args s 0 0 A) (F0 m 0 ls []) := by
  obtain ⟨hx, hb, hr, hml, hown, hts, hlocks⟩ := id hB
  have hK := hcx.1
  unfold m_X6_add at hm
  refine lv_aload_n hx hb dX6_add_0 rfl (lv_at hl 0 rfl) ?_
  refine va_get (D := D) (ci := 6) (v := .int z_length) (C := RX6) (T := TX6) (N := 6) hx hb hts in_X6_add_X6 hown hK hP 0 rfl rfl 3 (by decide) (hts (.fieldLink RX6 28 "FastestRun$Splits" "length" "I") (List.mem_of_getElem? (i := 1) rfl)) (fun _ h9 => h9) rfl dX6_add_1 ?_
  refine lv_iconst (v := (5 : Int32)) hx hb dX6_add_4 (by decide) ?_
  refine lv_icmp_ge (tgt := 24) hx hb dX6_add_5 (by decide) (fun c_1 => ?_) (fun c_1 => ?_)
  · have hm := fr_ifp c_1 hm
    refine lv_iconst (v := (0 : Int32)) hx hb dX6_add_24 (by decide) ?_
    cases hm
    exact W.zret hx hb hr rfl (fun t ht hW => ⟨⟨_, (), rfl, rfl, by rw [ht]; exact hP, hD⟩, hS.F ht⟩) hS.2.2 dX6_add_25 hlocks
  · have hm := fr_ifn c_1 hm
    refine lv_iload_n hx hb dX6_add_8 rfl (lv_at hl 2 rfl) ?_
    refine lv_if_lt (tgt := 24) hx hb dX6_add_9 (by decide) (fun c_2 => ?_) (fun c_2 => ?_)
    · have hm := fr_ifp c_2 hm
      refine lv_iconst (v := (0 : Int32)) hx hb dX6_add_24 (by decide) ?_
      cases hm
      exact W.zret hx hb hr rfl (fun t ht hW => ⟨⟨_, (), rfl, rfl, by rw [ht]; exact hP, hD⟩, hS.F ht⟩) hS.2.2 dX6_add_25 hlocks
    · have hm := fr_ifn c_2 hm
      refine lv_iload_n hx hb dX6_add_12 rfl (lv_at hl 2 rfl) ?_
      refine lv_iload_n hx hb dX6_add_13 rfl (lv_at hl 3 rfl) ?_
      refine lv_icmp_gt (tgt := 24) hx hb dX6_add_14 (by decide) (fun c_3 => ?_) (fun c_3 => ?_)
      · have hm := fr_ifp c_3 hm
        refine lv_iconst (v := (0 : Int32)) hx hb dX6_add_24 (by decide) ?_
        cases hm
        exact W.zret hx hb hr rfl (fun t ht hW => ⟨⟨_, (), rfl, rfl, by rw [ht]; exact hP, hD⟩, hS.F ht⟩) hS.2.2 dX6_add_25 hlocks
      · have hm := fr_ifn c_3 hm
        refine lv_iload_n hx hb dX6_add_17 rfl (lv_at hl 3 rfl) ?_
        refine lv_sipush (v := (200 : Int32)) hx hb dX6_add_18 (by decide) ?_
        refine lv_icmp_le (tgt := 26) hx hb dX6_add_21 (by decide) (fun c_4 => ?_) (fun c_4 => ?_)
        · have hm := fr_ifp c_4 hm
          refine lv_aload_n hx hb dX6_add_26 rfl (lv_at hl 0 rfl) ?_
          refine va_get (D := D) (ci := 6) (v := .ref a_z_cells) (C := RX6) (T := TX6) (N := 6) hx hb hts in_X6_add_X6 hown hK hP 0 rfl rfl 0 (by decide) (hts (.fieldLink RX6 9 "FastestRun$Splits" "cells" "[I") (List.mem_of_getElem? (i := 2) rfl)) (fun _ h9 => h9) rfl dX6_add_27 ?_
          refine lv_aload_n hx hb dX6_add_30 rfl (lv_at hl 0 rfl) ?_
          refine va_get (D := D) (ci := 6) (v := .int z_length) (C := RX6) (T := TX6) (N := 6) hx hb hts in_X6_add_X6 hown hK hP 0 rfl rfl 3 (by decide) (hts (.fieldLink RX6 28 "FastestRun$Splits" "length" "I") (List.mem_of_getElem? (i := 1) rfl)) (fun _ h9 => h9) rfl dX6_add_31 ?_
          refine lv_iload_n hx hb dX6_add_34 rfl (lv_at hl 1 rfl) ?_
          obtain ⟨h_5, hm⟩ := fr_ck hm
          refine va_iast hx hb hK hP hD hS 1 0 rfl rfl h_5 dX6_add_35 (fun H locs hP hD hS => ?_)
          have hP : va_P D vwCl [(a_z, .inr (ob_X6 a_z_cells a_z_earliest a_z_latest z_length a_z_here a_z_ahead)), (a_z_cells, .inl (cI, 5, .inl (upd z_cells z_length.toNatClampNeg x1))), (a_z_earliest, .inl (cI, 5, .inl z_earliest)), (a_z_latest, .inl (cI, 5, .inl z_latest))] H := hP
          have hD : va_D A [(a_z, .inr (ob_X6 a_z_cells a_z_earliest a_z_latest z_length a_z_here a_z_ahead)), (a_z_cells, .inl (cI, 5, .inl (upd z_cells z_length.toNatClampNeg x1))), (a_z_earliest, .inl (cI, 5, .inl z_earliest)), (a_z_latest, .inl (cI, 5, .inl z_latest))] := hD
          refine lv_aload_n hx hb dX6_add_36 rfl (lv_at hl 0 rfl) ?_
          refine va_get (D := D) (ci := 6) (v := .ref a_z_earliest) (C := RX6) (T := TX6) (N := 6) hx hb hts in_X6_add_X6 hown hK hP 0 rfl rfl 1 (by decide) (hts (.fieldLink RX6 13 "FastestRun$Splits" "earliest" "[I") (List.mem_of_getElem? (i := 3) rfl)) (fun _ h9 => h9) rfl dX6_add_37 ?_
          refine lv_aload_n hx hb dX6_add_40 rfl (lv_at hl 0 rfl) ?_
          refine va_get (D := D) (ci := 6) (v := .int z_length) (C := RX6) (T := TX6) (N := 6) hx hb hts in_X6_add_X6 hown hK hP 0 rfl rfl 3 (by decide) (hts (.fieldLink RX6 28 "FastestRun$Splits" "length" "I") (List.mem_of_getElem? (i := 1) rfl)) (fun _ h9 => h9) rfl dX6_add_41 ?_
          refine lv_iload_n hx hb dX6_add_44 rfl (lv_at hl 2 rfl) ?_
          obtain ⟨h_6, hm⟩ := fr_ck hm
          refine va_iast hx hb hK hP hD hS 2 0 rfl rfl h_6 dX6_add_45 (fun H locs hP hD hS => ?_)
          have hP : va_P D vwCl [(a_z, .inr (ob_X6 a_z_cells a_z_earliest a_z_latest z_length a_z_here a_z_ahead)), (a_z_cells, .inl (cI, 5, .inl (upd z_cells z_length.toNatClampNeg x1))), (a_z_earliest, .inl (cI, 5, .inl (upd z_earliest z_length.toNatClampNeg x2))), (a_z_latest, .inl (cI, 5, .inl z_latest))] H := hP
          have hD : va_D A [(a_z, .inr (ob_X6 a_z_cells a_z_earliest a_z_latest z_length a_z_here a_z_ahead)), (a_z_cells, .inl (cI, 5, .inl (upd z_cells z_length.toNatClampNeg x1))), (a_z_earliest, .inl (cI, 5, .inl (upd z_earliest z_length.toNatClampNeg x2))), (a_z_latest, .inl (cI, 5, .inl z_latest))] := hD
          refine lv_aload_n hx hb dX6_add_46 rfl (lv_at hl 0 rfl) ?_
          refine va_get (D := D) (ci := 6) (v := .ref a_z_latest) (C := RX6) (T := TX6) (N := 6) hx hb hts in_X6_add_X6 hown hK hP 0 rfl rfl 2 (by decide) (hts (.fieldLink RX6 16 "FastestRun$Splits" "latest" "[I") (List.mem_of_getElem? (i := 4) rfl)) (fun _ h9 => h9) rfl dX6_add_47 ?_
          refine lv_aload_n hx hb dX6_add_50 rfl (lv_at hl 0 rfl) ?_
          refine va_get (D := D) (ci := 6) (v := .int z_length) (C := RX6) (T := TX6) (N := 6) hx hb hts in_X6_add_X6 hown hK hP 0 rfl rfl 3 (by decide) (hts (.fieldLink RX6 28 "FastestRun$Splits" "length" "I") (List.mem_of_getElem? (i := 1) rfl)) (fun _ h9 => h9) rfl dX6_add_51 ?_
          refine lv_iload_n hx hb dX6_add_54 rfl (lv_at hl 3 rfl) ?_
          obtain ⟨h_7, hm⟩ := fr_ck hm
          refine va_iast hx hb hK hP hD hS 3 0 rfl rfl h_7 dX6_add_55 (fun H locs hP hD hS => ?_)
          have hP : va_P D vwCl [(a_z, .inr (ob_X6 a_z_cells a_z_earliest a_z_latest z_length a_z_here a_z_ahead)), (a_z_cells, .inl (cI, 5, .inl (upd z_cells z_length.toNatClampNeg x1))), (a_z_earliest, .inl (cI, 5, .inl (upd z_earliest z_length.toNatClampNeg x2))), (a_z_latest, .inl (cI, 5, .inl (upd z_latest z_length.toNatClampNeg x3)))] H := hP
          have hD : va_D A [(a_z, .inr (ob_X6 a_z_cells a_z_earliest a_z_latest z_length a_z_here a_z_ahead)), (a_z_cells, .inl (cI, 5, .inl (upd z_cells z_length.toNatClampNeg x1))), (a_z_earliest, .inl (cI, 5, .inl (upd z_earliest z_length.toNatClampNeg x2))), (a_z_latest, .inl (cI, 5, .inl (upd z_latest z_length.toNatClampNeg x3)))] := hD
          refine lv_aload_n hx hb dX6_add_56 rfl (lv_at hl 0 rfl) ?_
          refine lv_dup hx hb dX6_add_57 rfl ?_
          refine va_get (D := D) (ci := 6) (v := .int z_length) (C := RX6) (T := TX6) (N := 6) hx hb hts in_X6_add_X6 hown hK hP 0 rfl rfl 3 (by decide) (hts (.fieldLink RX6 28 "FastestRun$Splits" "length" "I") (List.mem_of_getElem? (i := 1) rfl)) (fun _ h9 => h9) rfl dX6_add_58 ?_
          refine lv_iconst (v := (1 : Int32)) hx hb dX6_add_61 (by decide) ?_
          refine lv_iadd hx hb dX6_add_62 ?_
          refine va_put (D := D) (ci := 6) (v := .int (z_length + (1 : Int32))) (ty := .int) (C := RX6) (T := TX6) (N := 6) hx hb hts in_X6_add_X6 tyX6 tyX6_ok nmX6 hown hK hP hD hS 0 rfl rfl 3 (by decide) (hts (.fieldLink RX6 28 "FastestRun$Splits" "length" "I") (List.mem_of_getElem? (i := 1) rfl)) (fun _ h9 => h9) rfl (by decide +kernel) rfl rfl (Nat.le_of_ble_eq_true rfl) dX6_add_63 (fun H locs hP hD hS => ?_)
          have hP : va_P D vwCl [(a_z, .inr (ob_X6 a_z_cells a_z_earliest a_z_latest (z_length + (1 : Int32)) a_z_here a_z_ahead)), (a_z_cells, .inl (cI, 5, .inl (upd z_cells z_length.toNatClampNeg x1))), (a_z_earliest, .inl (cI, 5, .inl (upd z_earliest z_length.toNatClampNeg x2))), (a_z_latest, .inl (cI, 5, .inl (upd z_latest z_length.toNatClampNeg x3)))] H := hP
          have hD : va_D A [(a_z, .inr (ob_X6 a_z_cells a_z_earliest a_z_latest (z_length + (1 : Int32)) a_z_here a_z_ahead)), (a_z_cells, .inl (cI, 5, .inl (upd z_cells z_length.toNatClampNeg x1))), (a_z_earliest, .inl (cI, 5, .inl (upd z_earliest z_length.toNatClampNeg x2))), (a_z_latest, .inl (cI, 5, .inl (upd z_latest z_length.toNatClampNeg x3)))] := hD
          refine lv_iconst (v := (1 : Int32)) hx hb dX6_add_66 (by decide) ?_
          cases hm
          exact W.zret hx hb hr rfl (fun t ht hW => ⟨⟨_, (), rfl, rfl, by rw [ht]; exact hP, hD⟩, hS.F ht⟩) hS.2.2 dX6_add_67 hlocks
        · have hm := fr_ifn c_4 hm
          refine lv_iconst (v := (0 : Int32)) hx hb dX6_add_24 (by decide) ?_
          cases hm
          exact W.zret hx hb hr rfl (fun t ht hW => ⟨⟨_, (), rfl, rfl, by rw [ht]; exact hP, hD⟩, hS.F ht⟩) hS.2.2 dX6_add_25 hlocks
set_option maxHeartbeats 4000000 in
set_option maxRecDepth 100000 in
theorem c_X6_add {l : Launch} {D : va_G} {cI cJ cZ cR cN : ClassId} {a_z a_z_cells a_z_earliest a_z_latest a_z_here a_z_ahead : Nat} {z_length : Int32} {z_cells : Nat → Int32} {z_earliest : Nat → Int32} {z_latest : Nat → Int32} {x1 : Int32} {x2 : Int32} {x3 : Int32} {r : Int32} {z_length' : Int32} {z_cells' : Nat → Int32} {z_earliest' : Nat → Int32} {z_latest' : Nat → Int32} {sz : Nat} (hm : m_X6_add x1 x2 x3 z_length z_cells z_earliest z_latest = some (r, z_length', z_cells', z_earliest', z_latest')) : Met l yX6_add wsX6_add ({ frames := 0, cells := 0, slots := 0, locals := 0 } : Room) (fr_Pw D cI cJ cZ cR cN [.ref a_z, .int x1, .int x2, .int x3] [(a_z, .inr (ob_X6 a_z_cells a_z_earliest a_z_latest z_length a_z_here a_z_ahead)), (a_z_cells, .inl (cI, 5, .inl z_cells)), (a_z_earliest, .inl (cI, 5, .inl z_earliest)), (a_z_latest, .inl (cI, 5, .inl z_latest))] sz) (fr_Wi D [(a_z, .inr (ob_X6 a_z_cells a_z_earliest a_z_latest z_length' a_z_here a_z_ahead)), (a_z_cells, .inl (cI, 5, .inl z_cells')), (a_z_earliest, .inl (cI, 5, .inl z_earliest')), (a_z_latest, .inl (cI, 5, .inl z_latest'))] (va_A [(a_z, .inr (ob_X6 a_z_cells a_z_earliest a_z_latest z_length a_z_here a_z_ahead)), (a_z_cells, .inl (cI, 5, .inl z_cells)), (a_z_earliest, .inl (cI, 5, .inl z_earliest)), (a_z_latest, .inl (cI, 5, .inl z_latest))] sz) r) 0 0 (va_A [(a_z, .inr (ob_X6 a_z_cells a_z_earliest a_z_latest z_length a_z_here a_z_ahead)), (a_z_cells, .inl (cI, 5, .inl z_cells)), (a_z_earliest, .inl (cI, 5, .inl z_earliest)), (a_z_latest, .inl (cI, 5, .inl z_latest))] sz) := by
  refine fr_ofW (cc := cX6_add) (maxL := 4) (ret := (some .boolean)) (by decide +kernel) rfl ?_
  intro p e s m args below meth c s₁ B hml hv
  obtain ⟨rfl, hsz, hP, hD0, hcx⟩ := hv
  subst hsz
  have hD := hD0.self (sz := s.heap.size)
  have hB : fr_BX p s m _ meth c cX6_add (some .boolean) 4 RX6 wsX6_add := ⟨B.exec, B.bytes, B.returns, hml, findClass_of_methodNamed B.named, atoms_spec (ws := wsX6_add) B.pre, B.notSynchronized⟩
  have hl := lv_entry ([.ref a_z, .int x1, .int x2, .int x3]) (n := 4) (Nat.le_of_ble_eq_true rfl)
  rw [lg_entry_eq]
  generalize (lg_sl ([.ref a_z, .int x1, .int x2, .int x3]) ++ List.replicate (4 - (lg_sl ([.ref a_z, .int x1, .int x2, .int x3])).length) Slot.unset).toArray = ls at hl ⊢
  have hl : lv_has ls 4 [(0, .ref a_z), (1, .int x1), (2, .int x2), (3, .int x3)] := hl
  exact t_X6_add_0 hB hcx (fun q h => Or.inr h) hm hP hD va_S.rf hl
theorem in_X6_countDone_X6 : ∀ w ∈ wsX60, w ∈ wsX6_countDone := fun w h => List.mem_cons_of_mem _ (List.mem_append_right _ h)
set_option maxHeartbeats 4000000 in
set_option maxRecDepth 100000 in
theorem t_X6_countDone_42 {p : Program} {l : Launch} {e : Env} {s : State} {m : MethodId} {args : Array Value} {below : List Frame} {meth : Method} {c : Code} {D : va_G} {cI cJ cZ cR cN : ClassId} {A : Nat → Prop} {a_z a_z_cells a_z_earliest a_z_latest a_z_here a_z_ahead : Nat} {z_length : Int32} {z_cells : Nat → Int32} {z_earliest : Nat → Int32} {z_latest : Nat → Int32} {F : Nat} {x1 : Int32} {x2 : Int32} {r : Int32} {z_ahead' : Nat → Int64} (hB : fr_BX p s m args meth c cX6_countDone (some .int) 9 RX6 wsX6_countDone) (hcx : fr_cx D cI cJ cZ cR cN s) (hA : ∀ q, s.heap.size ≤ q → A q) {k5_ : (Nat → Int64) → Int32 → Int32 → Option (Int32 × (Nat → Int64))} (hk5 : ∀ (z_ahead : Nat → Int64) (v3 : Int32) (v4 : Int32) (H : Heap) (locs : List Loc) (ls : Array Slot), k5_ z_ahead v3 v4 = some (r, z_ahead') → va_P D vwCl [(a_z, .inr (ob_X6 a_z_cells a_z_earliest a_z_latest z_length a_z_here a_z_ahead)), (a_z_cells, .inl (cI, 5, .inl z_cells)), (a_z_earliest, .inl (cI, 5, .inl z_earliest)), (a_z_latest, .inl (cI, 5, .inl z_latest)), (a_z_ahead, .inl (cJ, 48, .inr (.inl z_ahead)))] H → va_D A [(a_z, .inr (ob_X6 a_z_cells a_z_earliest a_z_latest z_length a_z_here a_z_ahead)), (a_z_cells, .inl (cI, 5, .inl z_cells)), (a_z_earliest, .inl (cI, 5, .inl z_earliest)), (a_z_latest, .inl (cI, 5, .inl z_latest)), (a_z_ahead, .inl (cJ, 48, .inr (.inl z_ahead)))] → va_S A s.heap H locs → lv_has ls 9 [(0, .ref a_z), (1, .int x1), (3, .int v3), (4, .int v4)] → W p l e ({ frames := 1, cells := 0, slots := 0, locals := 13 } : Room) s m args below meth c H locs 0 0 (MQ below (fr_Wi D [(a_z, .inr (ob_X6 a_z_cells a_z_earliest a_z_latest z_length a_z_here a_z_ahead)), (a_z_cells, .inl (cI, 5, .inl z_cells)), (a_z_earliest, .inl (cI, 5, .inl z_earliest)), (a_z_latest, .inl (cI, 5, .inl z_latest)), (a_z_ahead, .inl (cJ, 48, .inr (.inl z_ahead')))] A r) args s 0 0 A) (F0 m 5 ls [])) : ∀ (n : Nat) (z_ahead : Nat → Int64) (v3 : Int32) (v4 : Int32) (v5 : Int32) (H : Heap) (locs : List Loc) (ls : Array Slot), m_X6_countDone_b42 F z_length z_cells z_earliest z_latest x1 x2 k5_ n z_ahead v3 v4 v5 = some (r, z_ahead') → va_P D vwCl [(a_z, .inr (ob_X6 a_z_cells a_z_earliest a_z_latest z_length a_z_here a_z_ahead)), (a_z_cells, .inl (cI, 5, .inl z_cells)), (a_z_earliest, .inl (cI, 5, .inl z_earliest)), (a_z_latest, .inl (cI, 5, .inl z_latest)), (a_z_ahead, .inl (cJ, 48, .inr (.inl z_ahead)))] H → va_D A [(a_z, .inr (ob_X6 a_z_cells a_z_earliest a_z_latest z_length a_z_here a_z_ahead)), (a_z_cells, .inl (cI, 5, .inl z_cells)), (a_z_earliest, .inl (cI, 5, .inl z_earliest)), (a_z_latest, .inl (cI, 5, .inl z_latest)), (a_z_ahead, .inl (cJ, 48, .inr (.inl z_ahead)))] → va_S A s.heap H locs → lv_has ls 9 [(0, .ref a_z), (1, .int x1), (3, .int v3), (4, .int v4), (5, .int v5)] → W p l e ({ frames := 1, cells := 0, slots := 0, locals := 13 } : Room) s m args below meth c H locs 0 0 (MQ below (fr_Wi D [(a_z, .inr (ob_X6 a_z_cells a_z_earliest a_z_latest z_length a_z_here a_z_ahead)), (a_z_cells, .inl (cI, 5, .inl z_cells)), (a_z_earliest, .inl (cI, 5, .inl z_earliest)), (a_z_latest, .inl (cI, 5, .inl z_latest)), (a_z_ahead, .inl (cJ, 48, .inr (.inl z_ahead')))] A r) args s 0 0 A) (F0 m 42 ls []) := by
  obtain ⟨hx, hb, hr, hml, hown, hts, hlocks⟩ := id hB
  have hK := hcx.1
  intro n
  induction n with
  | zero =>
    intro z_ahead v3 v4 v5 H locs ls hm
    have hm : none = some _ := hm
    cases hm
  | succ n ih =>
    intro z_ahead v3 v4 v5 H locs ls hm hP hD hS hl
    rw [m_X6_countDone_b42] at hm
    refine lv_iload hx hb dX6_countDone_42 (lv_at hl 4 rfl) ?_
    refine lv_bipush (v := (8 : Int32)) hx hb dX6_countDone_44 (by decide) ?_
    refine lv_icmp_ge (tgt := 131) hx hb dX6_countDone_46 (by decide) (fun c_6 => ?_) (fun c_6 => ?_)
    · have hm := fr_ifp c_6 hm
      refine lv_iinc (v := (v4 + 1)) (lv' := [(4, .int (v4 + 1)), (0, .ref a_z), (1, .int x1), (3, .int v3), (5, .int v5)]) hx hb dX6_countDone_131 hl (k := 3) rfl rfl (by decide) rfl (fun ls hl => ?_)
      refine lv_goto (tgt := 5) hx hb dX6_countDone_134 (by decide) ?_
      exact hk5 _ _ _ _ _ _ hm hP hD hS (lv_sub hl [1, 2, 3, 0] rfl)
    · have hm := fr_ifn c_6 hm
      refine lv_iload hx hb dX6_countDone_49 (lv_at hl 3 rfl) ?_
      refine lv_bipush (v := (8 : Int32)) hx hb dX6_countDone_51 (by decide) ?_
      refine lv_imul hx hb dX6_countDone_53 ?_
      refine lv_iload hx hb dX6_countDone_54 (lv_at hl 4 rfl) ?_
      refine lv_iadd hx hb dX6_countDone_56 ?_
      refine lv_istore (lv' := [(6, .int ((v4 * (8 : Int32)) + v5)), (0, .ref a_z), (1, .int x1), (3, .int v3), (4, .int v4), (5, .int v5)]) hx hb dX6_countDone_57 hl (by decide) rfl (fun ls hl => ?_)
      refine lv_aload_n hx hb dX6_countDone_59 rfl (lv_at hl 1 rfl) ?_
      refine va_get (D := D) (ci := 6) (v := .ref a_z_ahead) (C := RX6) (T := TX6) (N := 6) hx hb hts in_X6_countDone_X6 hown hK hP 0 rfl rfl 5 (by decide) (hts (.fieldLink RX6 25 "FastestRun$Splits" "ahead" "[J") (List.mem_of_getElem? (i := 4) rfl)) (fun _ h9 => h9) rfl dX6_countDone_60 ?_
      refine lv_iload hx hb dX6_countDone_63 (lv_at hl 0 rfl) ?_
      obtain ⟨h_7, hm⟩ := fr_ck hm
      refine va_lald hx hb hK hP 4 1 rfl rfl h_7 dX6_countDone_65 ?_
      refine lv_lconst (v := (1 : Int64)) hx hb dX6_countDone_66 (by decide) ?_
      refine lv_aload_n hx hb dX6_countDone_67 rfl (lv_at hl 1 rfl) ?_
      refine va_get (D := D) (ci := 6) (v := .ref a_z_cells) (C := RX6) (T := TX6) (N := 6) hx hb hts in_X6_countDone_X6 hown hK hP 0 rfl rfl 0 (by decide) (hts (.fieldLink RX6 9 "FastestRun$Splits" "cells" "[I") (List.mem_of_getElem? (i := 5) rfl)) (fun _ h9 => h9) rfl dX6_countDone_68 ?_
      refine lv_iload hx hb dX6_countDone_71 (lv_at hl 4 rfl) ?_
      obtain ⟨h_8, hm⟩ := fr_ck hm
      refine va_iald hx hb hK hP 1 0 rfl rfl h_8 dX6_countDone_73 ?_
      refine lv_lshl (v := ((1 : Int64) <<< ((z_cells v4.toNatClampNeg).toInt64 &&& 63))) hx hb dX6_countDone_74 rfl ?_
      refine lv_land hx hb dX6_countDone_75 ?_
      refine lv_lstore (lv' := [(7, .long ((z_ahead ((v4 * (8 : Int32)) + v5).toNatClampNeg) &&& ((1 : Int64) <<< ((z_cells v4.toNatClampNeg).toInt64 &&& 63)))), (6, .int ((v4 * (8 : Int32)) + v5)), (0, .ref a_z), (1, .int x1), (3, .int v3), (4, .int v4), (5, .int v5)]) hx hb dX6_countDone_76 hl (by decide) rfl (fun ls hl => ?_)
      refine lv_aload_n hx hb dX6_countDone_78 rfl (lv_at hl 2 rfl) ?_
      refine va_get (D := D) (ci := 6) (v := .ref a_z_ahead) (C := RX6) (T := TX6) (N := 6) hx hb hts in_X6_countDone_X6 hown hK hP 0 rfl rfl 5 (by decide) (hts (.fieldLink RX6 25 "FastestRun$Splits" "ahead" "[J") (List.mem_of_getElem? (i := 4) rfl)) (fun _ h9 => h9) rfl dX6_countDone_79 ?_
      refine lv_iload hx hb dX6_countDone_82 (lv_at hl 1 rfl) ?_
      refine lv_dup2_11 hx hb dX6_countDone_84 rfl rfl ?_
      obtain ⟨h_9, hm⟩ := fr_ck hm
      refine va_lald hx hb hK hP 4 1 rfl rfl h_9 dX6_countDone_85 ?_
      refine lv_lload hx hb dX6_countDone_86 (lv_at hl 0 rfl) ?_
      refine lv_ldc2 (v := (-1 : Int64)) hx hb hown (hts (.constantLong RX6 49 (-1)) (List.mem_of_getElem? (i := 6) rfl)) dX6_countDone_88 ?_
      refine lv_lxor hx hb dX6_countDone_91 ?_
      refine lv_land hx hb dX6_countDone_92 ?_
      obtain ⟨h_10, hm⟩ := fr_ck hm
      refine va_last hx hb hK hP hD hS 4 1 rfl rfl h_10 dX6_countDone_93 (fun H locs hP hD hS => ?_)
      have hP : va_P D vwCl [(a_z, .inr (ob_X6 a_z_cells a_z_earliest a_z_latest z_length a_z_here a_z_ahead)), (a_z_cells, .inl (cI, 5, .inl z_cells)), (a_z_earliest, .inl (cI, 5, .inl z_earliest)), (a_z_latest, .inl (cI, 5, .inl z_latest)), (a_z_ahead, .inl (cJ, 48, .inr (.inl (vp_updL z_ahead ((v4 * (8 : Int32)) + v5).toNatClampNeg ((z_ahead ((v4 * (8 : Int32)) + v5).toNatClampNeg) &&& (((z_ahead ((v4 * (8 : Int32)) + v5).toNatClampNeg) &&& ((1 : Int64) <<< ((z_cells v4.toNatClampNeg).toInt64 &&& 63))) ^^^ (-1 : Int64)))))))] H := hP
      have hD : va_D A [(a_z, .inr (ob_X6 a_z_cells a_z_earliest a_z_latest z_length a_z_here a_z_ahead)), (a_z_cells, .inl (cI, 5, .inl z_cells)), (a_z_earliest, .inl (cI, 5, .inl z_earliest)), (a_z_latest, .inl (cI, 5, .inl z_latest)), (a_z_ahead, .inl (cJ, 48, .inr (.inl (vp_updL z_ahead ((v4 * (8 : Int32)) + v5).toNatClampNeg ((z_ahead ((v4 * (8 : Int32)) + v5).toNatClampNeg) &&& (((z_ahead ((v4 * (8 : Int32)) + v5).toNatClampNeg) &&& ((1 : Int64) <<< ((z_cells v4.toNatClampNeg).toInt64 &&& 63))) ^^^ (-1 : Int64)))))))] := hD
      refine lv_aload_n hx hb dX6_countDone_94 rfl (lv_at hl 2 rfl) ?_
      refine va_get (D := D) (ci := 6) (v := .ref a_z_ahead) (C := RX6) (T := TX6) (N := 6) hx hb hts in_X6_countDone_X6 hown hK hP 0 rfl rfl 5 (by decide) (hts (.fieldLink RX6 25 "FastestRun$Splits" "ahead" "[J") (List.mem_of_getElem? (i := 4) rfl)) (fun _ h9 => h9) rfl dX6_countDone_95 ?_
      refine lv_iload hx hb dX6_countDone_98 (lv_at hl 1 rfl) ?_
      refine lv_bipush (v := (8 : Int32)) hx hb dX6_countDone_100 (by decide) ?_
      refine lv_iadd hx hb dX6_countDone_102 ?_
      refine lv_dup2_11 hx hb dX6_countDone_103 rfl rfl ?_
      obtain ⟨h_11, hm⟩ := fr_ck hm
      refine va_lald hx hb hK hP 4 1 rfl rfl h_11 dX6_countDone_104 ?_
      refine lv_lload hx hb dX6_countDone_105 (lv_at hl 0 rfl) ?_
      refine lv_lor hx hb dX6_countDone_107 ?_
      obtain ⟨h_12, hm⟩ := fr_ck hm
      refine va_last hx hb hK hP hD hS 4 1 rfl rfl h_12 dX6_countDone_108 (fun H locs hP hD hS => ?_)
      have hP : va_P D vwCl [(a_z, .inr (ob_X6 a_z_cells a_z_earliest a_z_latest z_length a_z_here a_z_ahead)), (a_z_cells, .inl (cI, 5, .inl z_cells)), (a_z_earliest, .inl (cI, 5, .inl z_earliest)), (a_z_latest, .inl (cI, 5, .inl z_latest)), (a_z_ahead, .inl (cJ, 48, .inr (.inl (vp_updL (vp_updL z_ahead ((v4 * (8 : Int32)) + v5).toNatClampNeg ((z_ahead ((v4 * (8 : Int32)) + v5).toNatClampNeg) &&& (((z_ahead ((v4 * (8 : Int32)) + v5).toNatClampNeg) &&& ((1 : Int64) <<< ((z_cells v4.toNatClampNeg).toInt64 &&& 63))) ^^^ (-1 : Int64)))) (((v4 * (8 : Int32)) + v5) + (8 : Int32)).toNatClampNeg (((vp_updL z_ahead ((v4 * (8 : Int32)) + v5).toNatClampNeg ((z_ahead ((v4 * (8 : Int32)) + v5).toNatClampNeg) &&& (((z_ahead ((v4 * (8 : Int32)) + v5).toNatClampNeg) &&& ((1 : Int64) <<< ((z_cells v4.toNatClampNeg).toInt64 &&& 63))) ^^^ (-1 : Int64)))) (((v4 * (8 : Int32)) + v5) + (8 : Int32)).toNatClampNeg) ||| ((z_ahead ((v4 * (8 : Int32)) + v5).toNatClampNeg) &&& ((1 : Int64) <<< ((z_cells v4.toNatClampNeg).toInt64 &&& 63))))))))] H := hP
      have hD : va_D A [(a_z, .inr (ob_X6 a_z_cells a_z_earliest a_z_latest z_length a_z_here a_z_ahead)), (a_z_cells, .inl (cI, 5, .inl z_cells)), (a_z_earliest, .inl (cI, 5, .inl z_earliest)), (a_z_latest, .inl (cI, 5, .inl z_latest)), (a_z_ahead, .inl (cJ, 48, .inr (.inl (vp_updL (vp_updL z_ahead ((v4 * (8 : Int32)) + v5).toNatClampNeg ((z_ahead ((v4 * (8 : Int32)) + v5).toNatClampNeg) &&& (((z_ahead ((v4 * (8 : Int32)) + v5).toNatClampNeg) &&& ((1 : Int64) <<< ((z_cells v4.toNatClampNeg).toInt64 &&& 63))) ^^^ (-1 : Int64)))) (((v4 * (8 : Int32)) + v5) + (8 : Int32)).toNatClampNeg (((vp_updL z_ahead ((v4 * (8 : Int32)) + v5).toNatClampNeg ((z_ahead ((v4 * (8 : Int32)) + v5).toNatClampNeg) &&& (((z_ahead ((v4 * (8 : Int32)) + v5).toNatClampNeg) &&& ((1 : Int64) <<< ((z_cells v4.toNatClampNeg).toInt64 &&& 63))) ^^^ (-1 : Int64)))) (((v4 * (8 : Int32)) + v5) + (8 : Int32)).toNatClampNeg) ||| ((z_ahead ((v4 * (8 : Int32)) + v5).toNatClampNeg) &&& ((1 : Int64) <<< ((z_cells v4.toNatClampNeg).toInt64 &&& 63))))))))] := hD
      refine lv_lload hx hb dX6_countDone_109 (lv_at hl 0 rfl) ?_
      refine lv_lconst (v := (0 : Int64)) hx hb dX6_countDone_111 (by decide) ?_
      refine W.lcmp hx hb dX6_countDone_112 ?_
      refine lv_if_eq (tgt := 125) hx hb dX6_countDone_113 (by decide) (fun c_13 => ?_) (fun c_13 => ?_)
      · have hm := fr_ifp c_13 hm
        refine lv_iinc (v := (v5 + 1)) (lv' := [(5, .int (v5 + 1)), (7, .long ((z_ahead ((v4 * (8 : Int32)) + v5).toNatClampNeg) &&& ((1 : Int64) <<< ((z_cells v4.toNatClampNeg).toInt64 &&& 63)))), (6, .int ((v4 * (8 : Int32)) + v5)), (0, .ref a_z), (1, .int x1), (3, .int v3), (4, .int v4)]) hx hb dX6_countDone_125 hl (k := 6) rfl rfl (by decide) rfl (fun ls hl => ?_)
        refine lv_goto (tgt := 42) hx hb dX6_countDone_128 (by decide) ?_
        exact ih _ _ _ _ _ _ _ hm hP hD hS (lv_sub hl [3, 4, 5, 6, 0] rfl)
      · have hm := fr_ifn c_13 hm
        refine lv_iload_n hx hb dX6_countDone_116 rfl (lv_at hl 4 rfl) ?_
        refine lv_iload hx hb dX6_countDone_117 (lv_at hl 5 rfl) ?_
        refine lv_iconst (v := (1 : Int32)) hx hb dX6_countDone_119 (by decide) ?_
        refine lv_iadd hx hb dX6_countDone_120 ?_
        refine va_mmax hx hb (hml.trans hl.1.symm) hown (hts (.methodLink RX6 51 Lib.Math.max.name) (List.mem_of_getElem? (i := 7) rfl)) (hts (.static Lib.Math.max.name) (List.mem_of_getElem? (i := 8) rfl)) (hts (.initialized "java/lang/Math") (List.mem_of_getElem? (i := 9) rfl)) (hts (.code Lib.Math.max.name Lib.Math.max.code 2 (some .int)) (List.mem_of_getElem? (i := 10) rfl)) (Nat.le_of_ble_eq_true rfl) (Nat.le_of_ble_eq_true rfl) (Nat.le_refl 0) (Nat.le_refl 0) dX6_countDone_121 ?_
        refine lv_istore_n (lv' := [(3, .int (if v3 < (v4 + (1 : Int32)) then (v4 + (1 : Int32)) else v3)), (7, .long ((z_ahead ((v4 * (8 : Int32)) + v5).toNatClampNeg) &&& ((1 : Int64) <<< ((z_cells v4.toNatClampNeg).toInt64 &&& 63)))), (6, .int ((v4 * (8 : Int32)) + v5)), (0, .ref a_z), (1, .int x1), (4, .int v4), (5, .int v5)]) hx hb dX6_countDone_124 rfl hl (by decide) rfl (fun ls hl => ?_)
        refine lv_iinc (v := (v5 + 1)) (lv' := [(5, .int (v5 + 1)), (3, .int (if v3 < (v4 + (1 : Int32)) then (v4 + (1 : Int32)) else v3)), (7, .long ((z_ahead ((v4 * (8 : Int32)) + v5).toNatClampNeg) &&& ((1 : Int64) <<< ((z_cells v4.toNatClampNeg).toInt64 &&& 63)))), (6, .int ((v4 * (8 : Int32)) + v5)), (0, .ref a_z), (1, .int x1), (4, .int v4)]) hx hb dX6_countDone_125 hl (k := 6) rfl rfl (by decide) rfl (fun ls hl => ?_)
        refine lv_goto (tgt := 42) hx hb dX6_countDone_128 (by decide) ?_
        exact ih _ _ _ _ _ _ _ hm hP hD hS (lv_sub hl [4, 5, 1, 6, 0] rfl)
set_option maxHeartbeats 4000000 in
set_option maxRecDepth 100000 in
theorem t_X6_countDone_5 {p : Program} {l : Launch} {e : Env} {s : State} {m : MethodId} {args : Array Value} {below : List Frame} {meth : Method} {c : Code} {D : va_G} {cI cJ cZ cR cN : ClassId} {A : Nat → Prop} {a_z a_z_cells a_z_earliest a_z_latest a_z_here a_z_ahead : Nat} {z_length : Int32} {z_cells : Nat → Int32} {z_earliest : Nat → Int32} {z_latest : Nat → Int32} {F : Nat} {x1 : Int32} {x2 : Int32} {r : Int32} {z_ahead' : Nat → Int64} (hB : fr_BX p s m args meth c cX6_countDone (some .int) 9 RX6 wsX6_countDone) (hcx : fr_cx D cI cJ cZ cR cN s) (hA : ∀ q, s.heap.size ≤ q → A q) : ∀ (n : Nat) (z_ahead : Nat → Int64) (v3 : Int32) (v4 : Int32) (H : Heap) (locs : List Loc) (ls : Array Slot), m_X6_countDone_b5 F z_length z_cells z_earliest z_latest x1 x2 n z_ahead v3 v4 = some (r, z_ahead') → va_P D vwCl [(a_z, .inr (ob_X6 a_z_cells a_z_earliest a_z_latest z_length a_z_here a_z_ahead)), (a_z_cells, .inl (cI, 5, .inl z_cells)), (a_z_earliest, .inl (cI, 5, .inl z_earliest)), (a_z_latest, .inl (cI, 5, .inl z_latest)), (a_z_ahead, .inl (cJ, 48, .inr (.inl z_ahead)))] H → va_D A [(a_z, .inr (ob_X6 a_z_cells a_z_earliest a_z_latest z_length a_z_here a_z_ahead)), (a_z_cells, .inl (cI, 5, .inl z_cells)), (a_z_earliest, .inl (cI, 5, .inl z_earliest)), (a_z_latest, .inl (cI, 5, .inl z_latest)), (a_z_ahead, .inl (cJ, 48, .inr (.inl z_ahead)))] → va_S A s.heap H locs → lv_has ls 9 [(0, .ref a_z), (1, .int x1), (3, .int v3), (4, .int v4)] → W p l e ({ frames := 1, cells := 0, slots := 0, locals := 13 } : Room) s m args below meth c H locs 0 0 (MQ below (fr_Wi D [(a_z, .inr (ob_X6 a_z_cells a_z_earliest a_z_latest z_length a_z_here a_z_ahead)), (a_z_cells, .inl (cI, 5, .inl z_cells)), (a_z_earliest, .inl (cI, 5, .inl z_earliest)), (a_z_latest, .inl (cI, 5, .inl z_latest)), (a_z_ahead, .inl (cJ, 48, .inr (.inl z_ahead')))] A r) args s 0 0 A) (F0 m 5 ls []) := by
  obtain ⟨hx, hb, hr, hml, hown, hts, hlocks⟩ := id hB
  have hK := hcx.1
  intro n
  induction n with
  | zero =>
    intro z_ahead v3 v4 H locs ls hm
    have hm : none = some _ := hm
    cases hm
  | succ n ih =>
    intro z_ahead v3 v4 H locs ls hm hP hD hS hl
    rw [m_X6_countDone_b5] at hm
    refine lv_iload hx hb dX6_countDone_5 (lv_at hl 3 rfl) ?_
    refine lv_aload_n hx hb dX6_countDone_7 rfl (lv_at hl 0 rfl) ?_
    refine va_get (D := D) (ci := 6) (v := .int z_length) (C := RX6) (T := TX6) (N := 6) hx hb hts in_X6_countDone_X6 hown hK hP 0 rfl rfl 3 (by decide) (hts (.fieldLink RX6 28 "FastestRun$Splits" "length" "I") (List.mem_of_getElem? (i := 1) rfl)) (fun _ h9 => h9) rfl dX6_countDone_8 ?_
    refine lv_icmp_ge (tgt := 137) hx hb dX6_countDone_11 (by decide) (fun c_1 => ?_) (fun c_1 => ?_)
    · have hm := fr_ifp c_1 hm
      refine lv_iload_n hx hb dX6_countDone_137 rfl (lv_at hl 2 rfl) ?_
      cases hm
      exact W.iret hx hb hr (fun t ht hW => ⟨⟨_, (), rfl, rfl, by rw [ht]; exact hP, hD⟩, hS.F ht⟩) hS.2.2 dX6_countDone_138 hlocks
    · have hm := fr_ifn c_1 hm
      refine lv_iload_n hx hb dX6_countDone_14 rfl (lv_at hl 1 rfl) ?_
      refine lv_aload_n hx hb dX6_countDone_15 rfl (lv_at hl 0 rfl) ?_
      refine va_get (D := D) (ci := 6) (v := .ref a_z_earliest) (C := RX6) (T := TX6) (N := 6) hx hb hts in_X6_countDone_X6 hown hK hP 0 rfl rfl 1 (by decide) (hts (.fieldLink RX6 13 "FastestRun$Splits" "earliest" "[I") (List.mem_of_getElem? (i := 2) rfl)) (fun _ h9 => h9) rfl dX6_countDone_16 ?_
      refine lv_iload hx hb dX6_countDone_19 (lv_at hl 3 rfl) ?_
      obtain ⟨h_2, hm⟩ := fr_ck hm
      refine va_iald hx hb hK hP 2 0 rfl rfl h_2 dX6_countDone_21 ?_
      refine lv_icmp_lt (tgt := 131) hx hb dX6_countDone_22 (by decide) (fun c_3 => ?_) (fun c_3 => ?_)
      · have hm := fr_ifp c_3 hm
        refine lv_iinc (v := (v4 + 1)) (lv' := [(4, .int (v4 + 1)), (0, .ref a_z), (1, .int x1), (3, .int v3)]) hx hb dX6_countDone_131 hl (k := 3) rfl rfl (by decide) rfl (fun ls hl => ?_)
        refine lv_goto (tgt := 5) hx hb dX6_countDone_134 (by decide) ?_
        exact ih _ _ _ _ _ _ hm hP hD hS (lv_sub hl [1, 2, 3, 0] rfl)
      · have hm := fr_ifn c_3 hm
        refine lv_iload_n hx hb dX6_countDone_25 rfl (lv_at hl 1 rfl) ?_
        refine lv_aload_n hx hb dX6_countDone_26 rfl (lv_at hl 0 rfl) ?_
        refine va_get (D := D) (ci := 6) (v := .ref a_z_latest) (C := RX6) (T := TX6) (N := 6) hx hb hts in_X6_countDone_X6 hown hK hP 0 rfl rfl 2 (by decide) (hts (.fieldLink RX6 16 "FastestRun$Splits" "latest" "[I") (List.mem_of_getElem? (i := 3) rfl)) (fun _ h9 => h9) rfl dX6_countDone_27 ?_
        refine lv_iload hx hb dX6_countDone_30 (lv_at hl 3 rfl) ?_
        obtain ⟨h_4, hm⟩ := fr_ck hm
        refine va_iald hx hb hK hP 3 0 rfl rfl h_4 dX6_countDone_32 ?_
        refine lv_icmp_le (tgt := 39) hx hb dX6_countDone_33 (by decide) (fun c_5 => ?_) (fun c_5 => ?_)
        · have hm := fr_ifp c_5 hm
          refine lv_iconst (v := (0 : Int32)) hx hb dX6_countDone_39 (by decide) ?_
          refine lv_istore (lv' := [(5, .int (0 : Int32)), (0, .ref a_z), (1, .int x1), (3, .int v3), (4, .int v4)]) hx hb dX6_countDone_40 hl (by decide) rfl (fun ls hl => ?_)
          exact t_X6_countDone_42 hB hcx hA ih _ _ _ _ _ _ _ _ hm hP hD hS (lv_sub hl [1, 2, 3, 4, 0] rfl)
        · have hm := fr_ifn c_5 hm
          refine lv_goto (tgt := 131) hx hb dX6_countDone_36 (by decide) ?_
          refine lv_iinc (v := (v4 + 1)) (lv' := [(4, .int (v4 + 1)), (0, .ref a_z), (1, .int x1), (3, .int v3)]) hx hb dX6_countDone_131 hl (k := 3) rfl rfl (by decide) rfl (fun ls hl => ?_)
          refine lv_goto (tgt := 5) hx hb dX6_countDone_134 (by decide) ?_
          exact ih _ _ _ _ _ _ hm hP hD hS (lv_sub hl [1, 2, 3, 0] rfl)
set_option maxHeartbeats 4000000 in
set_option maxRecDepth 100000 in
theorem t_X6_countDone_0 {p : Program} {l : Launch} {e : Env} {s : State} {m : MethodId} {args : Array Value} {below : List Frame} {meth : Method} {c : Code} {D : va_G} {cI cJ cZ cR cN : ClassId} {A : Nat → Prop} {a_z a_z_cells a_z_earliest a_z_latest a_z_here a_z_ahead : Nat} {z_length : Int32} {z_cells : Nat → Int32} {z_earliest : Nat → Int32} {z_latest : Nat → Int32} {z_ahead : Nat → Int64} {F : Nat} {x1 : Int32} {x2 : Int32} {H : Heap} {r : Int32} {z_ahead' : Nat → Int64} (hB : fr_BX p s m args meth c cX6_countDone (some .int) 9 RX6 wsX6_countDone) (hcx : fr_cx D cI cJ cZ cR cN s) (hA : ∀ q, s.heap.size ≤ q → A q) (hm : m_X6_countDone F z_length z_cells z_earliest z_latest x1 x2 z_ahead = some (r, z_ahead')) {locs : List Loc} {ls : Array Slot} (hP : va_P D vwCl [(a_z, .inr (ob_X6 a_z_cells a_z_earliest a_z_latest z_length a_z_here a_z_ahead)), (a_z_cells, .inl (cI, 5, .inl z_cells)), (a_z_earliest, .inl (cI, 5, .inl z_earliest)), (a_z_latest, .inl (cI, 5, .inl z_latest)), (a_z_ahead, .inl (cJ, 48, .inr (.inl z_ahead)))] H) (hD : va_D A [(a_z, .inr (ob_X6 a_z_cells a_z_earliest a_z_latest z_length a_z_here a_z_ahead)), (a_z_cells, .inl (cI, 5, .inl z_cells)), (a_z_earliest, .inl (cI, 5, .inl z_earliest)), (a_z_latest, .inl (cI, 5, .inl z_latest)), (a_z_ahead, .inl (cJ, 48, .inr (.inl z_ahead)))]) (hS : va_S A s.heap H locs) (hl : lv_has ls 9 [(0, .ref a_z), (1, .int x1), (2, .int x2)]) : W p l e ({ frames := 1, cells := 0, slots := 0, locals := 13 } : Room) s m args below meth c H locs 0 0 (MQ below (fr_Wi D [(a_z, .inr (ob_X6 a_z_cells a_z_earliest a_z_latest z_length a_z_here a_z_ahead)), (a_z_cells, .inl (cI, 5, .inl z_cells)), (a_z_earliest, .inl (cI, 5, .inl z_earliest)), (a_z_latest, .inl (cI, 5, .inl z_latest)), (a_z_ahead, .inl (cJ, 48, .inr (.inl z_ahead')))] A r) args s 0 0 A) (F0 m 0 ls []) := by
  obtain ⟨hx, hb, hr, hml, hown, hts, hlocks⟩ := id hB
  have hK := hcx.1
  unfold m_X6_countDone at hm
  refine lv_iload_n hx hb dX6_countDone_0 rfl (lv_at hl 2 rfl) ?_
  refine lv_istore_n (lv' := [(3, .int x2), (0, .ref a_z), (1, .int x1), (2, .int x2)]) hx hb dX6_countDone_1 rfl hl (by decide) rfl (fun ls hl => ?_)
  refine lv_iconst (v := (0 : Int32)) hx hb dX6_countDone_2 (by decide) ?_
  refine lv_istore (lv' := [(4, .int (0 : Int32)), (3, .int x2), (0, .ref a_z), (1, .int x1), (2, .int x2)]) hx hb dX6_countDone_3 hl (by decide) rfl (fun ls hl => ?_)
  exact t_X6_countDone_5 hB hcx hA _ _ _ _ _ _ _ hm hP hD hS (lv_sub hl [2, 3, 1, 0] rfl)
set_option maxHeartbeats 4000000 in
set_option maxRecDepth 100000 in
theorem c_X6_countDone {l : Launch} {D : va_G} {cI cJ cZ cR cN : ClassId} {a_z a_z_cells a_z_earliest a_z_latest a_z_here a_z_ahead : Nat} {z_length : Int32} {z_cells : Nat → Int32} {z_earliest : Nat → Int32} {z_latest : Nat → Int32} {z_ahead : Nat → Int64} {F : Nat} {x1 : Int32} {x2 : Int32} {r : Int32} {z_ahead' : Nat → Int64} {sz : Nat} (hm : m_X6_countDone F z_length z_cells z_earliest z_latest x1 x2 z_ahead = some (r, z_ahead')) : Met l yX6_countDone wsX6_countDone ({ frames := 1, cells := 0, slots := 0, locals := 13 } : Room) (fr_Pw D cI cJ cZ cR cN [.ref a_z, .int x1, .int x2] [(a_z, .inr (ob_X6 a_z_cells a_z_earliest a_z_latest z_length a_z_here a_z_ahead)), (a_z_cells, .inl (cI, 5, .inl z_cells)), (a_z_earliest, .inl (cI, 5, .inl z_earliest)), (a_z_latest, .inl (cI, 5, .inl z_latest)), (a_z_ahead, .inl (cJ, 48, .inr (.inl z_ahead)))] sz) (fr_Wi D [(a_z, .inr (ob_X6 a_z_cells a_z_earliest a_z_latest z_length a_z_here a_z_ahead)), (a_z_cells, .inl (cI, 5, .inl z_cells)), (a_z_earliest, .inl (cI, 5, .inl z_earliest)), (a_z_latest, .inl (cI, 5, .inl z_latest)), (a_z_ahead, .inl (cJ, 48, .inr (.inl z_ahead')))] (va_A [(a_z, .inr (ob_X6 a_z_cells a_z_earliest a_z_latest z_length a_z_here a_z_ahead)), (a_z_cells, .inl (cI, 5, .inl z_cells)), (a_z_earliest, .inl (cI, 5, .inl z_earliest)), (a_z_latest, .inl (cI, 5, .inl z_latest)), (a_z_ahead, .inl (cJ, 48, .inr (.inl z_ahead)))] sz) r) 0 0 (va_A [(a_z, .inr (ob_X6 a_z_cells a_z_earliest a_z_latest z_length a_z_here a_z_ahead)), (a_z_cells, .inl (cI, 5, .inl z_cells)), (a_z_earliest, .inl (cI, 5, .inl z_earliest)), (a_z_latest, .inl (cI, 5, .inl z_latest)), (a_z_ahead, .inl (cJ, 48, .inr (.inl z_ahead)))] sz) := by
  refine fr_ofW (cc := cX6_countDone) (maxL := 9) (ret := (some .int)) (by decide +kernel) rfl ?_
  intro p e s m args below meth c s₁ B hml hv
  obtain ⟨rfl, hsz, hP, hD0, hcx⟩ := hv
  subst hsz
  have hD := hD0.self (sz := s.heap.size)
  have hB : fr_BX p s m _ meth c cX6_countDone (some .int) 9 RX6 wsX6_countDone := ⟨B.exec, B.bytes, B.returns, hml, findClass_of_methodNamed B.named, atoms_spec (ws := wsX6_countDone) B.pre, B.notSynchronized⟩
  have hl := lv_entry ([.ref a_z, .int x1, .int x2]) (n := 9) (Nat.le_of_ble_eq_true rfl)
  rw [lg_entry_eq]
  generalize (lg_sl ([.ref a_z, .int x1, .int x2]) ++ List.replicate (9 - (lg_sl ([.ref a_z, .int x1, .int x2])).length) Slot.unset).toArray = ls at hl ⊢
  have hl : lv_has ls 9 [(0, .ref a_z), (1, .int x1), (2, .int x2)] := hl
  exact t_X6_countDone_0 hB hcx (fun q h => Or.inr h) hm hP hD va_S.rf hl
theorem in_X6_arrive_X0 : ∀ w ∈ wsX00, w ∈ wsX6_arrive := by decide +kernel
theorem in_X6_arrive_X6 : ∀ w ∈ wsX60, w ∈ wsX6_arrive := fun w h => List.mem_cons_of_mem _ (List.mem_append_right _ h)
set_option maxHeartbeats 4000000 in
set_option maxRecDepth 100000 in
theorem t_X6_arrive_63 {p : Program} {l : Launch} {e : Env} {s : State} {m : MethodId} {args : Array Value} {below : List Frame} {meth : Method} {c : Code} {D : va_G} {cI cJ cZ cR cN : ClassId} {A : Nat → Prop} {a_z a_z_cells a_z_earliest a_z_latest a_z_here a_z_ahead a_y1 a_y1_kinds a_y1_openWith a_y1_keyCells a_y1_round : Nat} {z_length : Int32} {z_ahead : Nat → Int64} {y1_goalCells : Int64} {y1_width : Int32} {y1_height : Int32} {y1_roundLength : Int32} {y1_startCell : Int32} {y1_keyCells : Nat → Int64} {F : Nat} {x2 : Int64} {x4 : Int32} {x5 : Int32} {v6 : Int64} {H : Heap} {z_ahead' : Nat → Int64} (hB : fr_BX p s m args meth c cX6_arrive none 11 RX6 wsX6_arrive) (hcx : fr_cx D cI cJ cZ cR cN s) (hA : ∀ q, s.heap.size ≤ q → A q) (hm : m_X6_arrive_b63 F y1_keyCells x2 x4 x5 z_ahead v6 = some z_ahead') {locs : List Loc} {ls : Array Slot} (hP : va_P D vwCl [(a_z, .inr (ob_X6 a_z_cells a_z_earliest a_z_latest z_length a_z_here a_z_ahead)), (a_z_ahead, .inl (cJ, 48, .inr (.inl z_ahead))), (a_y1, .inr (ob_X0 a_y1_kinds a_y1_openWith a_y1_keyCells y1_goalCells a_y1_round y1_width y1_height y1_roundLength y1_startCell)), (a_y1_keyCells, .inl (cJ, 3, .inr (.inl y1_keyCells)))] H) (hD : va_D A [(a_z, .inr (ob_X6 a_z_cells a_z_earliest a_z_latest z_length a_z_here a_z_ahead)), (a_z_ahead, .inl (cJ, 48, .inr (.inl z_ahead))), (a_y1, .inr (ob_X0 a_y1_kinds a_y1_openWith a_y1_keyCells y1_goalCells a_y1_round y1_width y1_height y1_roundLength y1_startCell)), (a_y1_keyCells, .inl (cJ, 3, .inr (.inl y1_keyCells)))]) (hS : va_S A s.heap H locs) (hl : lv_has ls 11 [(0, .ref a_z), (4, .int x4), (5, .int x5), (6, .long v6)]) : W p l e ({ frames := 0, cells := 0, slots := 0, locals := 0 } : Room) s m args below meth c H locs 0 0 (MQ below (fr_Wv D [(a_z, .inr (ob_X6 a_z_cells a_z_earliest a_z_latest z_length a_z_here a_z_ahead)), (a_z_ahead, .inl (cJ, 48, .inr (.inl z_ahead'))), (a_y1, .inr (ob_X0 a_y1_kinds a_y1_openWith a_y1_keyCells y1_goalCells a_y1_round y1_width y1_height y1_roundLength y1_startCell)), (a_y1_keyCells, .inl (cJ, 3, .inr (.inl y1_keyCells)))] A) args s 0 0 A) (F0 m 63 ls []) := by
  obtain ⟨hx, hb, hr, hml, hown, hts, hlocks⟩ := id hB
  have hK := hcx.1
  unfold m_X6_arrive_b63 at hm
  refine lv_aload_n hx hb dX6_arrive_63 rfl (lv_at hl 0 rfl) ?_
  refine va_get (D := D) (ci := 6) (v := .ref a_z_ahead) (C := RX6) (T := TX6) (N := 6) hx hb hts in_X6_arrive_X6 hown hK hP 0 rfl rfl 5 (by decide) (hts (.fieldLink RX6 25 "FastestRun$Splits" "ahead" "[J") (List.mem_of_getElem? (i := 1) rfl)) (fun _ h9 => h9) rfl dX6_arrive_64 ?_
  refine lv_iload hx hb dX6_arrive_67 (lv_at hl 1 rfl) ?_
  refine lv_bipush (v := (8 : Int32)) hx hb dX6_arrive_69 (by decide) ?_
  refine lv_imul hx hb dX6_arrive_71 ?_
  refine lv_iload hx hb dX6_arrive_72 (lv_at hl 2 rfl) ?_
  refine lv_iadd hx hb dX6_arrive_74 ?_
  refine lv_dup2_11 hx hb dX6_arrive_75 rfl rfl ?_
  obtain ⟨h_5, hm⟩ := fr_ck hm
  refine va_lald hx hb hK hP 1 1 rfl rfl h_5 dX6_arrive_76 ?_
  refine lv_lload hx hb dX6_arrive_77 (lv_at hl 3 rfl) ?_
  refine lv_lor hx hb dX6_arrive_79 ?_
  obtain ⟨h_6, hm⟩ := fr_ck hm
  refine va_last hx hb hK hP hD hS 1 1 rfl rfl h_6 dX6_arrive_80 (fun H locs hP hD hS => ?_)
  have hP : va_P D vwCl [(a_z, .inr (ob_X6 a_z_cells a_z_earliest a_z_latest z_length a_z_here a_z_ahead)), (a_z_ahead, .inl (cJ, 48, .inr (.inl (vp_updL z_ahead ((x4 * (8 : Int32)) + x5).toNatClampNeg ((z_ahead ((x4 * (8 : Int32)) + x5).toNatClampNeg) ||| v6))))), (a_y1, .inr (ob_X0 a_y1_kinds a_y1_openWith a_y1_keyCells y1_goalCells a_y1_round y1_width y1_height y1_roundLength y1_startCell)), (a_y1_keyCells, .inl (cJ, 3, .inr (.inl y1_keyCells)))] H := hP
  have hD : va_D A [(a_z, .inr (ob_X6 a_z_cells a_z_earliest a_z_latest z_length a_z_here a_z_ahead)), (a_z_ahead, .inl (cJ, 48, .inr (.inl (vp_updL z_ahead ((x4 * (8 : Int32)) + x5).toNatClampNeg ((z_ahead ((x4 * (8 : Int32)) + x5).toNatClampNeg) ||| v6))))), (a_y1, .inr (ob_X0 a_y1_kinds a_y1_openWith a_y1_keyCells y1_goalCells a_y1_round y1_width y1_height y1_roundLength y1_startCell)), (a_y1_keyCells, .inl (cJ, 3, .inr (.inl y1_keyCells)))] := hD
  cases hm
  exact W.vret hx hb hr (fun t ht hW => ⟨⟨(), rfl, trivial, by rw [ht]; exact hP, hD⟩, hS.F ht⟩) hS.2.2 dX6_arrive_81 hlocks
set_option maxHeartbeats 4000000 in
set_option maxRecDepth 100000 in
theorem t_X6_arrive_6 {p : Program} {l : Launch} {e : Env} {s : State} {m : MethodId} {args : Array Value} {below : List Frame} {meth : Method} {c : Code} {D : va_G} {cI cJ cZ cR cN : ClassId} {A : Nat → Prop} {a_z a_z_cells a_z_earliest a_z_latest a_z_here a_z_ahead a_y1 a_y1_kinds a_y1_openWith a_y1_keyCells a_y1_round : Nat} {z_length : Int32} {y1_goalCells : Int64} {y1_width : Int32} {y1_height : Int32} {y1_roundLength : Int32} {y1_startCell : Int32} {y1_keyCells : Nat → Int64} {F : Nat} {x2 : Int64} {x4 : Int32} {x5 : Int32} {z_ahead' : Nat → Int64} (hB : fr_BX p s m args meth c cX6_arrive none 11 RX6 wsX6_arrive) (hcx : fr_cx D cI cJ cZ cR cN s) (hA : ∀ q, s.heap.size ≤ q → A q) : ∀ (n : Nat) (z_ahead : Nat → Int64) (v6 : Int64) (v8 : Int32) (H : Heap) (locs : List Loc) (ls : Array Slot), m_X6_arrive_b6 F y1_keyCells x2 x4 x5 n z_ahead v6 v8 = some z_ahead' → va_P D vwCl [(a_z, .inr (ob_X6 a_z_cells a_z_earliest a_z_latest z_length a_z_here a_z_ahead)), (a_z_ahead, .inl (cJ, 48, .inr (.inl z_ahead))), (a_y1, .inr (ob_X0 a_y1_kinds a_y1_openWith a_y1_keyCells y1_goalCells a_y1_round y1_width y1_height y1_roundLength y1_startCell)), (a_y1_keyCells, .inl (cJ, 3, .inr (.inl y1_keyCells)))] H → va_D A [(a_z, .inr (ob_X6 a_z_cells a_z_earliest a_z_latest z_length a_z_here a_z_ahead)), (a_z_ahead, .inl (cJ, 48, .inr (.inl z_ahead))), (a_y1, .inr (ob_X0 a_y1_kinds a_y1_openWith a_y1_keyCells y1_goalCells a_y1_round y1_width y1_height y1_roundLength y1_startCell)), (a_y1_keyCells, .inl (cJ, 3, .inr (.inl y1_keyCells)))] → va_S A s.heap H locs → lv_has ls 11 [(0, .ref a_z), (1, .ref a_y1), (2, .long x2), (4, .int x4), (5, .int x5), (6, .long v6), (8, .int v8)] → W p l e ({ frames := 0, cells := 0, slots := 0, locals := 0 } : Room) s m args below meth c H locs 0 0 (MQ below (fr_Wv D [(a_z, .inr (ob_X6 a_z_cells a_z_earliest a_z_latest z_length a_z_here a_z_ahead)), (a_z_ahead, .inl (cJ, 48, .inr (.inl z_ahead'))), (a_y1, .inr (ob_X0 a_y1_kinds a_y1_openWith a_y1_keyCells y1_goalCells a_y1_round y1_width y1_height y1_roundLength y1_startCell)), (a_y1_keyCells, .inl (cJ, 3, .inr (.inl y1_keyCells)))] A) args s 0 0 A) (F0 m 6 ls []) := by
  obtain ⟨hx, hb, hr, hml, hown, hts, hlocks⟩ := id hB
  have hK := hcx.1
  intro n
  induction n with
  | zero =>
    intro z_ahead v6 v8 H locs ls hm
    have hm : none = some _ := hm
    cases hm
  | succ n ih =>
    intro z_ahead v6 v8 H locs ls hm hP hD hS hl
    rw [m_X6_arrive_b6] at hm
    refine lv_iload hx hb dX6_arrive_6 (lv_at hl 6 rfl) ?_
    refine lv_iconst (v := (3 : Int32)) hx hb dX6_arrive_8 (by decide) ?_
    refine lv_icmp_ge (tgt := 63) hx hb dX6_arrive_9 (by decide) (fun c_1 => ?_) (fun c_1 => ?_)
    · have hm := fr_ifp c_1 hm
      exact t_X6_arrive_63 hB hcx hA hm hP hD hS (lv_sub hl [0, 3, 4, 5] rfl)
    · have hm := fr_ifn c_1 hm
      refine lv_lload_n hx hb dX6_arrive_12 rfl (lv_at hl 2 rfl) ?_
      refine lv_aload_n hx hb dX6_arrive_13 rfl (lv_at hl 1 rfl) ?_
      refine va_getN (D := D) (ci := 0) (v := .ref a_y1_keyCells) (C := RX0) (T := TX0) (N := 9) hx hb hts in_X6_arrive_X0 hown hK hP 2 rfl rfl 2 (by decide) (va_Nw.use rfl (hcx.2.1 ("FastestRun$Splits", 68, "FastestRun$Game", "keyCells", "[J") (by decide +kernel))) (fun _ h9 => h9) rfl dX6_arrive_14 ?_
      refine lv_iload hx hb dX6_arrive_17 (lv_at hl 6 rfl) ?_
      obtain ⟨h_2, hm⟩ := fr_ck hm
      refine va_lald hx hb hK hP 3 1 rfl rfl h_2 dX6_arrive_19 ?_
      refine lv_land hx hb dX6_arrive_20 ?_
      refine lv_lstore (lv' := [(9, .long (x2 &&& (y1_keyCells v8.toNatClampNeg))), (0, .ref a_z), (1, .ref a_y1), (2, .long x2), (4, .int x4), (5, .int x5), (6, .long v6), (8, .int v8)]) hx hb dX6_arrive_21 hl (by decide) rfl (fun ls hl => ?_)
      refine lv_aload_n hx hb dX6_arrive_23 rfl (lv_at hl 1 rfl) ?_
      refine va_get (D := D) (ci := 6) (v := .ref a_z_ahead) (C := RX6) (T := TX6) (N := 6) hx hb hts in_X6_arrive_X6 hown hK hP 0 rfl rfl 5 (by decide) (hts (.fieldLink RX6 25 "FastestRun$Splits" "ahead" "[J") (List.mem_of_getElem? (i := 1) rfl)) (fun _ h9 => h9) rfl dX6_arrive_24 ?_
      refine lv_iload hx hb dX6_arrive_27 (lv_at hl 4 rfl) ?_
      refine lv_bipush (v := (8 : Int32)) hx hb dX6_arrive_29 (by decide) ?_
      refine lv_imul hx hb dX6_arrive_31 ?_
      refine lv_iload hx hb dX6_arrive_32 (lv_at hl 5 rfl) ?_
      refine lv_iconst (v := (1 : Int32)) hx hb dX6_arrive_34 (by decide) ?_
      refine lv_iload hx hb dX6_arrive_35 (lv_at hl 7 rfl) ?_
      refine lv_ishl hx hb dX6_arrive_37 ?_
      refine lv_ior hx hb dX6_arrive_38 ?_
      refine lv_iadd hx hb dX6_arrive_39 ?_
      refine lv_dup2_11 hx hb dX6_arrive_40 rfl rfl ?_
      obtain ⟨h_3, hm⟩ := fr_ck hm
      refine va_lald hx hb hK hP 1 1 rfl rfl h_3 dX6_arrive_41 ?_
      refine lv_lload hx hb dX6_arrive_42 (lv_at hl 0 rfl) ?_
      refine lv_lor hx hb dX6_arrive_44 ?_
      obtain ⟨h_4, hm⟩ := fr_ck hm
      refine va_last hx hb hK hP hD hS 1 1 rfl rfl h_4 dX6_arrive_45 (fun H locs hP hD hS => ?_)
      have hP : va_P D vwCl [(a_z, .inr (ob_X6 a_z_cells a_z_earliest a_z_latest z_length a_z_here a_z_ahead)), (a_z_ahead, .inl (cJ, 48, .inr (.inl (vp_updL z_ahead ((x4 * (8 : Int32)) + (x5 ||| ((1 : Int32) <<< (v8 &&& 31)))).toNatClampNeg ((z_ahead ((x4 * (8 : Int32)) + (x5 ||| ((1 : Int32) <<< (v8 &&& 31)))).toNatClampNeg) ||| (x2 &&& (y1_keyCells v8.toNatClampNeg))))))), (a_y1, .inr (ob_X0 a_y1_kinds a_y1_openWith a_y1_keyCells y1_goalCells a_y1_round y1_width y1_height y1_roundLength y1_startCell)), (a_y1_keyCells, .inl (cJ, 3, .inr (.inl y1_keyCells)))] H := hP
      have hD : va_D A [(a_z, .inr (ob_X6 a_z_cells a_z_earliest a_z_latest z_length a_z_here a_z_ahead)), (a_z_ahead, .inl (cJ, 48, .inr (.inl (vp_updL z_ahead ((x4 * (8 : Int32)) + (x5 ||| ((1 : Int32) <<< (v8 &&& 31)))).toNatClampNeg ((z_ahead ((x4 * (8 : Int32)) + (x5 ||| ((1 : Int32) <<< (v8 &&& 31)))).toNatClampNeg) ||| (x2 &&& (y1_keyCells v8.toNatClampNeg))))))), (a_y1, .inr (ob_X0 a_y1_kinds a_y1_openWith a_y1_keyCells y1_goalCells a_y1_round y1_width y1_height y1_roundLength y1_startCell)), (a_y1_keyCells, .inl (cJ, 3, .inr (.inl y1_keyCells)))] := hD
      refine lv_lload hx hb dX6_arrive_46 (lv_at hl 6 rfl) ?_
      refine lv_lload hx hb dX6_arrive_48 (lv_at hl 0 rfl) ?_
      refine lv_ldc2 (v := (-1 : Int64)) hx hb hown (hts (.constantLong RX6 49 (-1)) (List.mem_of_getElem? (i := 2) rfl)) dX6_arrive_50 ?_
      refine lv_lxor hx hb dX6_arrive_53 ?_
      refine lv_land hx hb dX6_arrive_54 ?_
      refine lv_lstore (lv' := [(6, .long (v6 &&& ((x2 &&& (y1_keyCells v8.toNatClampNeg)) ^^^ (-1 : Int64)))), (9, .long (x2 &&& (y1_keyCells v8.toNatClampNeg))), (0, .ref a_z), (1, .ref a_y1), (2, .long x2), (4, .int x4), (5, .int x5), (8, .int v8)]) hx hb dX6_arrive_55 hl (by decide) rfl (fun ls hl => ?_)
      refine lv_iinc (v := (v8 + 1)) (lv' := [(8, .int (v8 + 1)), (6, .long (v6 &&& ((x2 &&& (y1_keyCells v8.toNatClampNeg)) ^^^ (-1 : Int64)))), (9, .long (x2 &&& (y1_keyCells v8.toNatClampNeg))), (0, .ref a_z), (1, .ref a_y1), (2, .long x2), (4, .int x4), (5, .int x5)]) hx hb dX6_arrive_57 hl (k := 7) rfl rfl (by decide) rfl (fun ls hl => ?_)
      refine lv_goto (tgt := 6) hx hb dX6_arrive_60 (by decide) ?_
      exact ih _ _ _ _ _ _ hm hP hD hS (lv_sub hl [3, 4, 5, 6, 7, 1, 0] rfl)
set_option maxHeartbeats 4000000 in
set_option maxRecDepth 100000 in
theorem t_X6_arrive_0 {p : Program} {l : Launch} {e : Env} {s : State} {m : MethodId} {args : Array Value} {below : List Frame} {meth : Method} {c : Code} {D : va_G} {cI cJ cZ cR cN : ClassId} {A : Nat → Prop} {a_z a_z_cells a_z_earliest a_z_latest a_z_here a_z_ahead a_y1 a_y1_kinds a_y1_openWith a_y1_keyCells a_y1_round : Nat} {z_length : Int32} {z_ahead : Nat → Int64} {y1_goalCells : Int64} {y1_width : Int32} {y1_height : Int32} {y1_roundLength : Int32} {y1_startCell : Int32} {y1_keyCells : Nat → Int64} {F : Nat} {x2 : Int64} {x4 : Int32} {x5 : Int32} {H : Heap} {z_ahead' : Nat → Int64} (hB : fr_BX p s m args meth c cX6_arrive none 11 RX6 wsX6_arrive) (hcx : fr_cx D cI cJ cZ cR cN s) (hA : ∀ q, s.heap.size ≤ q → A q) (hm : m_X6_arrive F y1_keyCells x2 x4 x5 z_ahead = some z_ahead') {locs : List Loc} {ls : Array Slot} (hP : va_P D vwCl [(a_z, .inr (ob_X6 a_z_cells a_z_earliest a_z_latest z_length a_z_here a_z_ahead)), (a_z_ahead, .inl (cJ, 48, .inr (.inl z_ahead))), (a_y1, .inr (ob_X0 a_y1_kinds a_y1_openWith a_y1_keyCells y1_goalCells a_y1_round y1_width y1_height y1_roundLength y1_startCell)), (a_y1_keyCells, .inl (cJ, 3, .inr (.inl y1_keyCells)))] H) (hD : va_D A [(a_z, .inr (ob_X6 a_z_cells a_z_earliest a_z_latest z_length a_z_here a_z_ahead)), (a_z_ahead, .inl (cJ, 48, .inr (.inl z_ahead))), (a_y1, .inr (ob_X0 a_y1_kinds a_y1_openWith a_y1_keyCells y1_goalCells a_y1_round y1_width y1_height y1_roundLength y1_startCell)), (a_y1_keyCells, .inl (cJ, 3, .inr (.inl y1_keyCells)))]) (hS : va_S A s.heap H locs) (hl : lv_has ls 11 [(0, .ref a_z), (1, .ref a_y1), (2, .long x2), (4, .int x4), (5, .int x5)]) : W p l e ({ frames := 0, cells := 0, slots := 0, locals := 0 } : Room) s m args below meth c H locs 0 0 (MQ below (fr_Wv D [(a_z, .inr (ob_X6 a_z_cells a_z_earliest a_z_latest z_length a_z_here a_z_ahead)), (a_z_ahead, .inl (cJ, 48, .inr (.inl z_ahead'))), (a_y1, .inr (ob_X0 a_y1_kinds a_y1_openWith a_y1_keyCells y1_goalCells a_y1_round y1_width y1_height y1_roundLength y1_startCell)), (a_y1_keyCells, .inl (cJ, 3, .inr (.inl y1_keyCells)))] A) args s 0 0 A) (F0 m 0 ls []) := by
  obtain ⟨hx, hb, hr, hml, hown, hts, hlocks⟩ := id hB
  have hK := hcx.1
  unfold m_X6_arrive at hm
  refine lv_lload_n hx hb dX6_arrive_0 rfl (lv_at hl 2 rfl) ?_
  refine lv_lstore (lv' := [(6, .long x2), (0, .ref a_z), (1, .ref a_y1), (2, .long x2), (4, .int x4), (5, .int x5)]) hx hb dX6_arrive_1 hl (by decide) rfl (fun ls hl => ?_)
  refine lv_iconst (v := (0 : Int32)) hx hb dX6_arrive_3 (by decide) ?_
  refine lv_istore (lv' := [(8, .int (0 : Int32)), (6, .long x2), (0, .ref a_z), (1, .ref a_y1), (2, .long x2), (4, .int x4), (5, .int x5)]) hx hb dX6_arrive_4 hl (by decide) rfl (fun ls hl => ?_)
  exact t_X6_arrive_6 hB hcx hA _ _ _ _ _ _ _ hm hP hD hS (lv_sub hl [2, 3, 4, 5, 6, 1, 0] rfl)
set_option maxHeartbeats 4000000 in
set_option maxRecDepth 100000 in
theorem c_X6_arrive {l : Launch} {D : va_G} {cI cJ cZ cR cN : ClassId} {a_z a_z_cells a_z_earliest a_z_latest a_z_here a_z_ahead a_y1 a_y1_kinds a_y1_openWith a_y1_keyCells a_y1_round : Nat} {z_length : Int32} {z_ahead : Nat → Int64} {y1_goalCells : Int64} {y1_width : Int32} {y1_height : Int32} {y1_roundLength : Int32} {y1_startCell : Int32} {y1_keyCells : Nat → Int64} {F : Nat} {x2 : Int64} {x4 : Int32} {x5 : Int32} {z_ahead' : Nat → Int64} {sz : Nat} (hm : m_X6_arrive F y1_keyCells x2 x4 x5 z_ahead = some z_ahead') : Met l yX6_arrive wsX6_arrive ({ frames := 0, cells := 0, slots := 0, locals := 0 } : Room) (fr_Pw D cI cJ cZ cR cN [.ref a_z, .ref a_y1, .long x2, .int x4, .int x5] [(a_z, .inr (ob_X6 a_z_cells a_z_earliest a_z_latest z_length a_z_here a_z_ahead)), (a_z_ahead, .inl (cJ, 48, .inr (.inl z_ahead))), (a_y1, .inr (ob_X0 a_y1_kinds a_y1_openWith a_y1_keyCells y1_goalCells a_y1_round y1_width y1_height y1_roundLength y1_startCell)), (a_y1_keyCells, .inl (cJ, 3, .inr (.inl y1_keyCells)))] sz) (fr_Wv D [(a_z, .inr (ob_X6 a_z_cells a_z_earliest a_z_latest z_length a_z_here a_z_ahead)), (a_z_ahead, .inl (cJ, 48, .inr (.inl z_ahead'))), (a_y1, .inr (ob_X0 a_y1_kinds a_y1_openWith a_y1_keyCells y1_goalCells a_y1_round y1_width y1_height y1_roundLength y1_startCell)), (a_y1_keyCells, .inl (cJ, 3, .inr (.inl y1_keyCells)))] (va_A [(a_z, .inr (ob_X6 a_z_cells a_z_earliest a_z_latest z_length a_z_here a_z_ahead)), (a_z_ahead, .inl (cJ, 48, .inr (.inl z_ahead))), (a_y1, .inr (ob_X0 a_y1_kinds a_y1_openWith a_y1_keyCells y1_goalCells a_y1_round y1_width y1_height y1_roundLength y1_startCell)), (a_y1_keyCells, .inl (cJ, 3, .inr (.inl y1_keyCells)))] sz)) 0 0 (va_A [(a_z, .inr (ob_X6 a_z_cells a_z_earliest a_z_latest z_length a_z_here a_z_ahead)), (a_z_ahead, .inl (cJ, 48, .inr (.inl z_ahead))), (a_y1, .inr (ob_X0 a_y1_kinds a_y1_openWith a_y1_keyCells y1_goalCells a_y1_round y1_width y1_height y1_roundLength y1_startCell)), (a_y1_keyCells, .inl (cJ, 3, .inr (.inl y1_keyCells)))] sz) := by
  refine fr_ofW (cc := cX6_arrive) (maxL := 11) (ret := none) (by decide +kernel) rfl ?_
  intro p e s m args below meth c s₁ B hml hv
  obtain ⟨rfl, hsz, hP, hD0, hcx⟩ := hv
  subst hsz
  have hD := hD0.self (sz := s.heap.size)
  have hB : fr_BX p s m _ meth c cX6_arrive none 11 RX6 wsX6_arrive := ⟨B.exec, B.bytes, B.returns, hml, findClass_of_methodNamed B.named, atoms_spec (ws := wsX6_arrive) B.pre, B.notSynchronized⟩
  have hl := lv_entry ([.ref a_z, .ref a_y1, .long x2, .int x4, .int x5]) (n := 11) (Nat.le_of_ble_eq_true rfl)
  rw [lg_entry_eq]
  generalize (lg_sl ([.ref a_z, .ref a_y1, .long x2, .int x4, .int x5]) ++ List.replicate (11 - (lg_sl ([.ref a_z, .ref a_y1, .long x2, .int x4, .int x5])).length) Slot.unset).toArray = ls at hl ⊢
  have hl : lv_has ls 11 [(0, .ref a_z), (1, .ref a_y1), (2, .long x2), (4, .int x4), (5, .int x5)] := hl
  exact t_X6_arrive_0 hB hcx (fun q h => Or.inr h) hm hP hD va_S.rf hl
theorem in_X6_goOn_X0 : ∀ w ∈ wsX00, w ∈ wsX6_goOn := by decide +kernel
theorem in_X6_goOn_X6 : ∀ w ∈ wsX60, w ∈ wsX6_goOn := fun w h => List.mem_cons_of_mem _ (List.mem_append_right _ h)
set_option maxHeartbeats 4000000 in
set_option maxRecDepth 100000 in
theorem t_X6_goOn_31 {p : Program} {l : Launch} {e : Env} {s : State} {m : MethodId} {args : Array Value} {below : List Frame} {meth : Method} {c : Code} {D : va_G} {cI cJ cZ cR cN : ClassId} {A : Nat → Prop} {a_z a_z_cells a_z_earliest a_z_latest a_z_here a_z_ahead a_y1 a_y1_kinds a_y1_openWith a_y1_keyCells a_y1_round : Nat} {z_length : Int32} {z_latest : Nat → Int32} {z_here : Nat → Int64} {y1_goalCells : Int64} {y1_width : Int32} {y1_height : Int32} {y1_roundLength : Int32} {y1_startCell : Int32} {y1_openWith : Nat → Int64} {y1_keyCells : Nat → Int64} {y1_round : Nat → Int32} {F : Nat} {x2 : Int32} {r : Int32} {z_ahead' : Nat → Int64} (hB : fr_BX p s m args meth c cX6_goOn (some .boolean) 10 RX6 wsX6_goOn) (hcx : fr_cx D cI cJ cZ cR cN s) (hA : ∀ q, s.heap.size ≤ q → A q) {k19_ : (Nat → Int64) → Int64 → Int32 → Int32 → Option (Int32 × (Nat → Int64))} (hk19 : ∀ (z_ahead : Nat → Int64) (v3 : Int64) (v5 : Int32) (v6 : Int32) (H : Heap) (locs : List Loc) (ls : Array Slot), k19_ z_ahead v3 v5 v6 = some (r, z_ahead') → va_P D vwCl [(a_z, .inr (ob_X6 a_z_cells a_z_earliest a_z_latest z_length a_z_here a_z_ahead)), (a_z_latest, .inl (cI, 5, .inl z_latest)), (a_z_here, .inl (cJ, 48, .inr (.inl z_here))), (a_z_ahead, .inl (cJ, 48, .inr (.inl z_ahead))), (a_y1, .inr (ob_X0 a_y1_kinds a_y1_openWith a_y1_keyCells y1_goalCells a_y1_round y1_width y1_height y1_roundLength y1_startCell)), (a_y1_openWith, .inl (cJ, 8, .inr (.inl y1_openWith))), (a_y1_keyCells, .inl (cJ, 3, .inr (.inl y1_keyCells))), (a_y1_round, .inl (cI, 6, .inl y1_round))] H → va_D A [(a_z, .inr (ob_X6 a_z_cells a_z_earliest a_z_latest z_length a_z_here a_z_ahead)), (a_z_latest, .inl (cI, 5, .inl z_latest)), (a_z_here, .inl (cJ, 48, .inr (.inl z_here))), (a_z_ahead, .inl (cJ, 48, .inr (.inl z_ahead))), (a_y1, .inr (ob_X0 a_y1_kinds a_y1_openWith a_y1_keyCells y1_goalCells a_y1_round y1_width y1_height y1_roundLength y1_startCell)), (a_y1_openWith, .inl (cJ, 8, .inr (.inl y1_openWith))), (a_y1_keyCells, .inl (cJ, 3, .inr (.inl y1_keyCells))), (a_y1_round, .inl (cI, 6, .inl y1_round))] → va_S A s.heap H locs → lv_has ls 10 [(0, .ref a_z), (1, .ref a_y1), (2, .int x2), (3, .long v3), (5, .int v5), (6, .int v6)] → W p l e ({ frames := 3, cells := 0, slots := 0, locals := 75 } : Room) s m args below meth c H locs 0 0 (MQ below (fr_Wi D [(a_z, .inr (ob_X6 a_z_cells a_z_earliest a_z_latest z_length a_z_here a_z_ahead)), (a_z_latest, .inl (cI, 5, .inl z_latest)), (a_z_here, .inl (cJ, 48, .inr (.inl z_here))), (a_z_ahead, .inl (cJ, 48, .inr (.inl z_ahead'))), (a_y1, .inr (ob_X0 a_y1_kinds a_y1_openWith a_y1_keyCells y1_goalCells a_y1_round y1_width y1_height y1_roundLength y1_startCell)), (a_y1_openWith, .inl (cJ, 8, .inr (.inl y1_openWith))), (a_y1_keyCells, .inl (cJ, 3, .inr (.inl y1_keyCells))), (a_y1_round, .inl (cI, 6, .inl y1_round))] A r) args s 0 0 A) (F0 m 19 ls [])) : ∀ (n : Nat) (z_ahead : Nat → Int64) (v3 : Int64) (v5 : Int32) (v6 : Int32) (v7 : Int32) (H : Heap) (locs : List Loc) (ls : Array Slot), m_X6_goOn_b31 F z_length z_latest z_here y1_goalCells y1_roundLength y1_openWith y1_keyCells y1_round x2 k19_ n z_ahead v3 v5 v6 v7 = some (r, z_ahead') → va_P D vwCl [(a_z, .inr (ob_X6 a_z_cells a_z_earliest a_z_latest z_length a_z_here a_z_ahead)), (a_z_latest, .inl (cI, 5, .inl z_latest)), (a_z_here, .inl (cJ, 48, .inr (.inl z_here))), (a_z_ahead, .inl (cJ, 48, .inr (.inl z_ahead))), (a_y1, .inr (ob_X0 a_y1_kinds a_y1_openWith a_y1_keyCells y1_goalCells a_y1_round y1_width y1_height y1_roundLength y1_startCell)), (a_y1_openWith, .inl (cJ, 8, .inr (.inl y1_openWith))), (a_y1_keyCells, .inl (cJ, 3, .inr (.inl y1_keyCells))), (a_y1_round, .inl (cI, 6, .inl y1_round))] H → va_D A [(a_z, .inr (ob_X6 a_z_cells a_z_earliest a_z_latest z_length a_z_here a_z_ahead)), (a_z_latest, .inl (cI, 5, .inl z_latest)), (a_z_here, .inl (cJ, 48, .inr (.inl z_here))), (a_z_ahead, .inl (cJ, 48, .inr (.inl z_ahead))), (a_y1, .inr (ob_X0 a_y1_kinds a_y1_openWith a_y1_keyCells y1_goalCells a_y1_round y1_width y1_height y1_roundLength y1_startCell)), (a_y1_openWith, .inl (cJ, 8, .inr (.inl y1_openWith))), (a_y1_keyCells, .inl (cJ, 3, .inr (.inl y1_keyCells))), (a_y1_round, .inl (cI, 6, .inl y1_round))] → va_S A s.heap H locs → lv_has ls 10 [(0, .ref a_z), (1, .ref a_y1), (2, .int x2), (3, .long v3), (5, .int v5), (6, .int v6), (7, .int v7)] → W p l e ({ frames := 3, cells := 0, slots := 0, locals := 75 } : Room) s m args below meth c H locs 0 0 (MQ below (fr_Wi D [(a_z, .inr (ob_X6 a_z_cells a_z_earliest a_z_latest z_length a_z_here a_z_ahead)), (a_z_latest, .inl (cI, 5, .inl z_latest)), (a_z_here, .inl (cJ, 48, .inr (.inl z_here))), (a_z_ahead, .inl (cJ, 48, .inr (.inl z_ahead'))), (a_y1, .inr (ob_X0 a_y1_kinds a_y1_openWith a_y1_keyCells y1_goalCells a_y1_round y1_width y1_height y1_roundLength y1_startCell)), (a_y1_openWith, .inl (cJ, 8, .inr (.inl y1_openWith))), (a_y1_keyCells, .inl (cJ, 3, .inr (.inl y1_keyCells))), (a_y1_round, .inl (cI, 6, .inl y1_round))] A r) args s 0 0 A) (F0 m 31 ls []) := by
  obtain ⟨hx, hb, hr, hml, hown, hts, hlocks⟩ := id hB
  have hK := hcx.1
  intro n
  induction n with
  | zero =>
    intro z_ahead v3 v5 v6 v7 H locs ls hm
    have hm : none = some _ := hm
    cases hm
  | succ n ih =>
    intro z_ahead v3 v5 v6 v7 H locs ls hm hP hD hS hl
    rw [m_X6_goOn_b31] at hm
    refine lv_iload hx hb dX6_goOn_31 (lv_at hl 6 rfl) ?_
    refine lv_bipush (v := (8 : Int32)) hx hb dX6_goOn_33 (by decide) ?_
    refine lv_icmp_ge (tgt := 104) hx hb dX6_goOn_35 (by decide) (fun c_4 => ?_) (fun c_4 => ?_)
    · have hm := fr_ifp c_4 hm
      refine lv_iinc (v := (v6 + 1)) (lv' := [(6, .int (v6 + 1)), (0, .ref a_z), (1, .ref a_y1), (2, .int x2), (3, .long v3), (5, .int v5), (7, .int v7)]) hx hb dX6_goOn_104 hl (k := 5) rfl rfl (by decide) rfl (fun ls hl => ?_)
      refine lv_goto (tgt := 19) hx hb dX6_goOn_107 (by decide) ?_
      exact hk19 _ _ _ _ _ _ _ hm hP hD hS (lv_sub hl [1, 2, 3, 4, 5, 0] rfl)
    · have hm := fr_ifn c_4 hm
      refine lv_iload_n hx hb dX6_goOn_38 rfl (lv_at hl 2 rfl) ?_
      refine lv_aload_n hx hb dX6_goOn_39 rfl (lv_at hl 0 rfl) ?_
      refine va_get (D := D) (ci := 6) (v := .ref a_z_latest) (C := RX6) (T := TX6) (N := 6) hx hb hts in_X6_goOn_X6 hown hK hP 0 rfl rfl 2 (by decide) (hts (.fieldLink RX6 16 "FastestRun$Splits" "latest" "[I") (List.mem_of_getElem? (i := 2) rfl)) (fun _ h9 => h9) rfl dX6_goOn_40 ?_
      refine lv_iload hx hb dX6_goOn_43 (lv_at hl 5 rfl) ?_
      obtain ⟨h_5, hm⟩ := fr_ck hm
      refine va_iald hx hb hK hP 1 0 rfl rfl h_5 dX6_goOn_45 ?_
      refine lv_icmp_ge (tgt := 104) hx hb dX6_goOn_46 (by decide) (fun c_6 => ?_) (fun c_6 => ?_)
      · have hm := fr_ifp c_6 hm
        refine lv_iinc (v := (v6 + 1)) (lv' := [(6, .int (v6 + 1)), (0, .ref a_z), (1, .ref a_y1), (2, .int x2), (3, .long v3), (5, .int v5), (7, .int v7)]) hx hb dX6_goOn_104 hl (k := 5) rfl rfl (by decide) rfl (fun ls hl => ?_)
        refine lv_goto (tgt := 19) hx hb dX6_goOn_107 (by decide) ?_
        exact hk19 _ _ _ _ _ _ _ hm hP hD hS (lv_sub hl [1, 2, 3, 4, 5, 0] rfl)
      · have hm := fr_ifn c_6 hm
        refine lv_aload_n hx hb dX6_goOn_49 rfl (lv_at hl 0 rfl) ?_
        refine va_get (D := D) (ci := 6) (v := .ref a_z_here) (C := RX6) (T := TX6) (N := 6) hx hb hts in_X6_goOn_X6 hown hK hP 0 rfl rfl 4 (by decide) (hts (.fieldLink RX6 21 "FastestRun$Splits" "here" "[J") (List.mem_of_getElem? (i := 3) rfl)) (fun _ h9 => h9) rfl dX6_goOn_50 ?_
        refine lv_iload hx hb dX6_goOn_53 (lv_at hl 5 rfl) ?_
        refine lv_bipush (v := (8 : Int32)) hx hb dX6_goOn_55 (by decide) ?_
        refine lv_imul hx hb dX6_goOn_57 ?_
        refine lv_iload hx hb dX6_goOn_58 (lv_at hl 6 rfl) ?_
        refine lv_iadd hx hb dX6_goOn_60 ?_
        obtain ⟨h_7, hm⟩ := fr_ck hm
        refine va_lald hx hb hK hP 2 1 rfl rfl h_7 dX6_goOn_61 ?_
        refine lv_lload_n hx hb dX6_goOn_62 rfl (lv_at hl 3 rfl) ?_
        refine lv_ldc2 (v := (-1 : Int64)) hx hb hown (hts (.constantLong RX6 49 (-1)) (List.mem_of_getElem? (i := 4) rfl)) dX6_goOn_63 ?_
        refine lv_lxor hx hb dX6_goOn_66 ?_
        refine lv_land hx hb dX6_goOn_67 ?_
        refine lv_lstore (lv' := [(8, .long ((z_here ((v6 * (8 : Int32)) + v7).toNatClampNeg) &&& (v3 ^^^ (-1 : Int64)))), (0, .ref a_z), (1, .ref a_y1), (2, .int x2), (3, .long v3), (5, .int v5), (6, .int v6), (7, .int v7)]) hx hb dX6_goOn_68 hl (by decide) rfl (fun ls hl => ?_)
        refine lv_lload hx hb dX6_goOn_70 (lv_at hl 0 rfl) ?_
        refine lv_lconst (v := (0 : Int64)) hx hb dX6_goOn_72 (by decide) ?_
        refine W.lcmp hx hb dX6_goOn_73 ?_
        refine lv_if_eq (tgt := 98) hx hb dX6_goOn_74 (by decide) (fun c_8 => ?_) (fun c_8 => ?_)
        · have hm := fr_ifp c_8 hm
          refine lv_iinc (v := (v7 + 1)) (lv' := [(7, .int (v7 + 1)), (8, .long ((z_here ((v6 * (8 : Int32)) + v7).toNatClampNeg) &&& (v3 ^^^ (-1 : Int64)))), (0, .ref a_z), (1, .ref a_y1), (2, .int x2), (3, .long v3), (5, .int v5), (6, .int v6)]) hx hb dX6_goOn_98 hl (k := 7) rfl rfl (by decide) rfl (fun ls hl => ?_)
          refine lv_goto (tgt := 31) hx hb dX6_goOn_101 (by decide) ?_
          exact ih _ _ _ _ _ _ _ _ hm hP hD hS (lv_sub hl [2, 3, 4, 5, 6, 7, 0] rfl)
        · have hm := fr_ifn c_8 hm
          refine lv_aload_n hx hb dX6_goOn_77 rfl (lv_at hl 1 rfl) ?_
          refine lv_aload_n hx hb dX6_goOn_78 rfl (lv_at hl 2 rfl) ?_
          refine lv_aload_n hx hb dX6_goOn_79 rfl (lv_at hl 2 rfl) ?_
          refine lv_lload hx hb dX6_goOn_80 (lv_at hl 0 rfl) ?_
          refine lv_iload hx hb dX6_goOn_82 (lv_at hl 7 rfl) ?_
          refine lv_iload_n hx hb dX6_goOn_84 rfl (lv_at hl 3 rfl) ?_
          obtain ⟨o9, hc10, hm⟩ := fr_bd hm
          refine fr_rol (va_runV (As := [.long ((z_here ((v6 * (8 : Int32)) + v7).toNatClampNeg) &&& (v3 ^^^ (-1 : Int64))), .int v7, .int x2]) (rest := [.ref a_y1, .ref a_z]) ⟨hx, hb, hml, hown, hts⟩ (c_X0_allAfter (l := l) (x1 := ((z_here ((v6 * (8 : Int32)) + v7).toNatClampNeg) &&& (v3 ^^^ (-1 : Int64)))) (x3 := v7) (x4 := x2) (D := D) (cI := cI) (cJ := cJ) (cZ := cZ) (cR := cR) (cN := cN) hc10 (fr_sub (ws' := [(a_y1, .inr (ob_X0 a_y1_kinds a_y1_openWith a_y1_keyCells y1_goalCells a_y1_round y1_width y1_height y1_roundLength y1_startCell)), (a_y1_openWith, .inl (cJ, 8, .inr (.inl y1_openWith))), (a_y1_round, .inl (cI, 6, .inl y1_round))]) hP [4, 5, 7] rfl)) (cwV 3 hts gX6_goOn_X0_allAfter rfl rfl rfl (by decide +kernel) ⟨Nat.le_of_ble_eq_true rfl, Nat.le_of_ble_eq_true rfl⟩) (fr_pvr hcx (va_recv hK hP (ci := 0) (q0 := 4) rfl rfl)) rfl rfl hl.1 rfl (lv_room (Nat.le_of_ble_eq_true rfl)) dX6_goOn_85 ⟨Nat.zero_le _, Nat.zero_le _⟩) hS (fun locs hS => ?_)
          refine lv_iload hx hb dX6_goOn_88 (lv_at hl 6 rfl) ?_
          refine lv_iload hx hb dX6_goOn_90 (lv_at hl 7 rfl) ?_
          obtain ⟨o11, hc12, hm⟩ := fr_bd hm
          have hPc : va_P D vwCl [(a_z, .inr (ob_X6 a_z_cells a_z_earliest a_z_latest z_length a_z_here a_z_ahead)), (a_z_ahead, .inl (cJ, 48, .inr (.inl z_ahead))), (a_y1, .inr (ob_X0 a_y1_kinds a_y1_openWith a_y1_keyCells y1_goalCells a_y1_round y1_width y1_height y1_roundLength y1_startCell)), (a_y1_keyCells, .inl (cJ, 3, .inr (.inl y1_keyCells)))] H := (fr_sub (ws' := [(a_z, .inr (ob_X6 a_z_cells a_z_earliest a_z_latest z_length a_z_here a_z_ahead)), (a_z_ahead, .inl (cJ, 48, .inr (.inl z_ahead))), (a_y1, .inr (ob_X0 a_y1_kinds a_y1_openWith a_y1_keyCells y1_goalCells a_y1_round y1_width y1_height y1_roundLength y1_startCell)), (a_y1_keyCells, .inl (cJ, 3, .inr (.inl y1_keyCells)))]) hP [0, 3, 4, 6] rfl)
          have hDc : va_D A [(a_z, .inr (ob_X6 a_z_cells a_z_earliest a_z_latest z_length a_z_here a_z_ahead)), (a_z_ahead, .inl (cJ, 48, .inr (.inl z_ahead))), (a_y1, .inr (ob_X0 a_y1_kinds a_y1_openWith a_y1_keyCells y1_goalCells a_y1_round y1_width y1_height y1_roundLength y1_startCell)), (a_y1_keyCells, .inl (cJ, 3, .inr (.inl y1_keyCells)))] := hD.sub (ws' := [(a_z, .inr (ob_X6 a_z_cells a_z_earliest a_z_latest z_length a_z_here a_z_ahead)), (a_z_ahead, .inl (cJ, 48, .inr (.inl z_ahead))), (a_y1, .inr (ob_X0 a_y1_kinds a_y1_openWith a_y1_keyCells y1_goalCells a_y1_round y1_width y1_height y1_roundLength y1_startCell)), (a_y1_keyCells, .inl (cJ, 3, .inr (.inl y1_keyCells)))]) [0, 3, 4, 6] (by decide) rfl
          have hFc := va_free (wc := [(a_z, .inr (ob_X6 a_z_cells a_z_earliest a_z_latest z_length a_z_here a_z_ahead)), (a_z_ahead, .inl (cJ, 48, .inr (.inl z_ahead))), (a_y1, .inr (ob_X0 a_y1_kinds a_y1_openWith a_y1_keyCells y1_goalCells a_y1_round y1_width y1_height y1_roundLength y1_startCell)), (a_y1_keyCells, .inl (cJ, 3, .inr (.inl y1_keyCells)))]) hD hS hA [0, 3, 4, 6] rfl
          refine fr_rwv (w1 := [(a_z, .inr (ob_X6 a_z_cells a_z_earliest a_z_latest z_length a_z_here a_z_ahead)), (a_z_ahead, .inl (cJ, 48, .inr (.inl o11))), (a_y1, .inr (ob_X0 a_y1_kinds a_y1_openWith a_y1_keyCells y1_goalCells a_y1_round y1_width y1_height y1_roundLength y1_startCell)), (a_y1_keyCells, .inl (cJ, 3, .inr (.inl y1_keyCells)))]) (wc := [(a_z, .inr (ob_X6 a_z_cells a_z_earliest a_z_latest z_length a_z_here a_z_ahead)), (a_z_ahead, .inl (cJ, 48, .inr (.inl z_ahead))), (a_y1, .inr (ob_X0 a_y1_kinds a_y1_openWith a_y1_keyCells y1_goalCells a_y1_round y1_width y1_height y1_roundLength y1_startCell)), (a_y1_keyCells, .inl (cJ, 3, .inr (.inl y1_keyCells)))]) (wr := [(a_z_latest, .inl (cI, 5, .inl z_latest)), (a_z_here, .inl (cJ, 48, .inr (.inl z_here))), (a_y1_openWith, .inl (cJ, 8, .inr (.inl y1_openWith))), (a_y1_round, .inl (cI, 6, .inl y1_round))]) (ws2 := [(a_z, .inr (ob_X6 a_z_cells a_z_earliest a_z_latest z_length a_z_here a_z_ahead)), (a_z_latest, .inl (cI, 5, .inl z_latest)), (a_z_here, .inl (cJ, 48, .inr (.inl z_here))), (a_z_ahead, .inl (cJ, 48, .inr (.inl o11))), (a_y1, .inr (ob_X0 a_y1_kinds a_y1_openWith a_y1_keyCells y1_goalCells a_y1_round y1_width y1_height y1_roundLength y1_startCell)), (a_y1_openWith, .inl (cJ, 8, .inr (.inl y1_openWith))), (a_y1_keyCells, .inl (cJ, 3, .inr (.inl y1_keyCells))), (a_y1_round, .inl (cI, 6, .inl y1_round))]) (va_runV (As := [.ref a_y1, .long o9, .int v6, .int v7]) (rest := []) ⟨hx, hb, hml, hown, hts⟩ (c_X6_arrive (l := l) (x2 := o9) (x4 := v6) (x5 := v7) (D := D) (cI := cI) (cJ := cJ) (cZ := cZ) (cR := cR) (cN := cN) (z_ahead' := o11) hc12 (sz := H.size)) (cwV 4 hts gX6_goOn_X6_arrive rfl rfl rfl (by decide +kernel) ⟨Nat.le_of_ble_eq_true rfl, Nat.le_of_ble_eq_true rfl⟩) (fr_pvw hcx hPc hDc (va_recv hK hP (ci := 6) (q0 := 0) rfl rfl)) rfl rfl hl.1 rfl (lv_room (Nat.le_of_ble_eq_true rfl)) dX6_goOn_92 ⟨Nat.zero_le _, Nat.zero_le _⟩) hS hP hD hFc [0, 3, 4, 6] [1, 2, 5, 7] [4, 0, 1, 5, 6, 2, 7, 3] rfl rfl (by decide) (by decide) (by decide) rfl (fun H locs hP hD hS => ?_)
          refine lv_iconst (v := (1 : Int32)) hx hb dX6_goOn_95 (by decide) ?_
          refine lv_istore (lv' := [(5, .int (1 : Int32)), (8, .long ((z_here ((v6 * (8 : Int32)) + v7).toNatClampNeg) &&& (v3 ^^^ (-1 : Int64)))), (0, .ref a_z), (1, .ref a_y1), (2, .int x2), (3, .long v3), (6, .int v6), (7, .int v7)]) hx hb dX6_goOn_96 hl (by decide) rfl (fun ls hl => ?_)
          refine lv_iinc (v := (v7 + 1)) (lv' := [(7, .int (v7 + 1)), (5, .int (1 : Int32)), (8, .long ((z_here ((v6 * (8 : Int32)) + v7).toNatClampNeg) &&& (v3 ^^^ (-1 : Int64)))), (0, .ref a_z), (1, .ref a_y1), (2, .int x2), (3, .long v3), (6, .int v6)]) hx hb dX6_goOn_98 hl (k := 7) rfl rfl (by decide) rfl (fun ls hl => ?_)
          refine lv_goto (tgt := 31) hx hb dX6_goOn_101 (by decide) ?_
          exact ih _ _ _ _ _ _ _ _ hm hP hD hS (lv_sub hl [3, 4, 5, 6, 1, 7, 0] rfl)
set_option maxHeartbeats 4000000 in
set_option maxRecDepth 100000 in
theorem t_X6_goOn_19 {p : Program} {l : Launch} {e : Env} {s : State} {m : MethodId} {args : Array Value} {below : List Frame} {meth : Method} {c : Code} {D : va_G} {cI cJ cZ cR cN : ClassId} {A : Nat → Prop} {a_z a_z_cells a_z_earliest a_z_latest a_z_here a_z_ahead a_y1 a_y1_kinds a_y1_openWith a_y1_keyCells a_y1_round : Nat} {z_length : Int32} {z_latest : Nat → Int32} {z_here : Nat → Int64} {y1_goalCells : Int64} {y1_width : Int32} {y1_height : Int32} {y1_roundLength : Int32} {y1_startCell : Int32} {y1_openWith : Nat → Int64} {y1_keyCells : Nat → Int64} {y1_round : Nat → Int32} {F : Nat} {x2 : Int32} {r : Int32} {z_ahead' : Nat → Int64} (hB : fr_BX p s m args meth c cX6_goOn (some .boolean) 10 RX6 wsX6_goOn) (hcx : fr_cx D cI cJ cZ cR cN s) (hA : ∀ q, s.heap.size ≤ q → A q) : ∀ (n : Nat) (z_ahead : Nat → Int64) (v3 : Int64) (v5 : Int32) (v6 : Int32) (H : Heap) (locs : List Loc) (ls : Array Slot), m_X6_goOn_b19 F z_length z_latest z_here y1_goalCells y1_roundLength y1_openWith y1_keyCells y1_round x2 n z_ahead v3 v5 v6 = some (r, z_ahead') → va_P D vwCl [(a_z, .inr (ob_X6 a_z_cells a_z_earliest a_z_latest z_length a_z_here a_z_ahead)), (a_z_latest, .inl (cI, 5, .inl z_latest)), (a_z_here, .inl (cJ, 48, .inr (.inl z_here))), (a_z_ahead, .inl (cJ, 48, .inr (.inl z_ahead))), (a_y1, .inr (ob_X0 a_y1_kinds a_y1_openWith a_y1_keyCells y1_goalCells a_y1_round y1_width y1_height y1_roundLength y1_startCell)), (a_y1_openWith, .inl (cJ, 8, .inr (.inl y1_openWith))), (a_y1_keyCells, .inl (cJ, 3, .inr (.inl y1_keyCells))), (a_y1_round, .inl (cI, 6, .inl y1_round))] H → va_D A [(a_z, .inr (ob_X6 a_z_cells a_z_earliest a_z_latest z_length a_z_here a_z_ahead)), (a_z_latest, .inl (cI, 5, .inl z_latest)), (a_z_here, .inl (cJ, 48, .inr (.inl z_here))), (a_z_ahead, .inl (cJ, 48, .inr (.inl z_ahead))), (a_y1, .inr (ob_X0 a_y1_kinds a_y1_openWith a_y1_keyCells y1_goalCells a_y1_round y1_width y1_height y1_roundLength y1_startCell)), (a_y1_openWith, .inl (cJ, 8, .inr (.inl y1_openWith))), (a_y1_keyCells, .inl (cJ, 3, .inr (.inl y1_keyCells))), (a_y1_round, .inl (cI, 6, .inl y1_round))] → va_S A s.heap H locs → lv_has ls 10 [(0, .ref a_z), (1, .ref a_y1), (2, .int x2), (3, .long v3), (5, .int v5), (6, .int v6)] → W p l e ({ frames := 3, cells := 0, slots := 0, locals := 75 } : Room) s m args below meth c H locs 0 0 (MQ below (fr_Wi D [(a_z, .inr (ob_X6 a_z_cells a_z_earliest a_z_latest z_length a_z_here a_z_ahead)), (a_z_latest, .inl (cI, 5, .inl z_latest)), (a_z_here, .inl (cJ, 48, .inr (.inl z_here))), (a_z_ahead, .inl (cJ, 48, .inr (.inl z_ahead'))), (a_y1, .inr (ob_X0 a_y1_kinds a_y1_openWith a_y1_keyCells y1_goalCells a_y1_round y1_width y1_height y1_roundLength y1_startCell)), (a_y1_openWith, .inl (cJ, 8, .inr (.inl y1_openWith))), (a_y1_keyCells, .inl (cJ, 3, .inr (.inl y1_keyCells))), (a_y1_round, .inl (cI, 6, .inl y1_round))] A r) args s 0 0 A) (F0 m 19 ls []) := by
  obtain ⟨hx, hb, hr, hml, hown, hts, hlocks⟩ := id hB
  have hK := hcx.1
  intro n
  induction n with
  | zero =>
    intro z_ahead v3 v5 v6 H locs ls hm
    have hm : none = some _ := hm
    cases hm
  | succ n ih =>
    intro z_ahead v3 v5 v6 H locs ls hm hP hD hS hl
    rw [m_X6_goOn_b19] at hm
    refine lv_iload hx hb dX6_goOn_19 (lv_at hl 5 rfl) ?_
    refine lv_aload_n hx hb dX6_goOn_21 rfl (lv_at hl 0 rfl) ?_
    refine va_get (D := D) (ci := 6) (v := .int z_length) (C := RX6) (T := TX6) (N := 6) hx hb hts in_X6_goOn_X6 hown hK hP 0 rfl rfl 3 (by decide) (hts (.fieldLink RX6 28 "FastestRun$Splits" "length" "I") (List.mem_of_getElem? (i := 1) rfl)) (fun _ h9 => h9) rfl dX6_goOn_22 ?_
    refine lv_icmp_ge (tgt := 110) hx hb dX6_goOn_25 (by decide) (fun c_2 => ?_) (fun c_2 => ?_)
    · have hm := fr_ifp c_2 hm
      refine lv_iload hx hb dX6_goOn_110 (lv_at hl 4 rfl) ?_
      obtain ⟨h_3, hm⟩ := fr_ck hm
      cases hm
      exact W.zret hx hb hr (fr_nz h_3) (fun t ht hW => ⟨⟨_, (), rfl, rfl, by rw [ht]; exact hP, hD⟩, hS.F ht⟩) hS.2.2 dX6_goOn_112 hlocks
    · have hm := fr_ifn c_2 hm
      refine lv_iconst (v := (0 : Int32)) hx hb dX6_goOn_28 (by decide) ?_
      refine lv_istore (lv' := [(7, .int (0 : Int32)), (0, .ref a_z), (1, .ref a_y1), (2, .int x2), (3, .long v3), (5, .int v5), (6, .int v6)]) hx hb dX6_goOn_29 hl (by decide) rfl (fun ls hl => ?_)
      exact t_X6_goOn_31 hB hcx hA ih _ _ _ _ _ _ _ _ _ hm hP hD hS (lv_sub hl [1, 2, 3, 4, 5, 6, 0] rfl)
set_option maxHeartbeats 4000000 in
set_option maxRecDepth 100000 in
theorem t_X6_goOn_0 {p : Program} {l : Launch} {e : Env} {s : State} {m : MethodId} {args : Array Value} {below : List Frame} {meth : Method} {c : Code} {D : va_G} {cI cJ cZ cR cN : ClassId} {A : Nat → Prop} {a_z a_z_cells a_z_earliest a_z_latest a_z_here a_z_ahead a_y1 a_y1_kinds a_y1_openWith a_y1_keyCells a_y1_round : Nat} {z_length : Int32} {z_latest : Nat → Int32} {z_here : Nat → Int64} {z_ahead : Nat → Int64} {y1_goalCells : Int64} {y1_width : Int32} {y1_height : Int32} {y1_roundLength : Int32} {y1_startCell : Int32} {y1_openWith : Nat → Int64} {y1_keyCells : Nat → Int64} {y1_round : Nat → Int32} {F : Nat} {x2 : Int32} {H : Heap} {r : Int32} {z_ahead' : Nat → Int64} (hB : fr_BX p s m args meth c cX6_goOn (some .boolean) 10 RX6 wsX6_goOn) (hcx : fr_cx D cI cJ cZ cR cN s) (hA : ∀ q, s.heap.size ≤ q → A q) (hm : m_X6_goOn F z_length z_latest z_here y1_goalCells y1_roundLength y1_openWith y1_keyCells y1_round x2 z_ahead = some (r, z_ahead')) {locs : List Loc} {ls : Array Slot} (hP : va_P D vwCl [(a_z, .inr (ob_X6 a_z_cells a_z_earliest a_z_latest z_length a_z_here a_z_ahead)), (a_z_latest, .inl (cI, 5, .inl z_latest)), (a_z_here, .inl (cJ, 48, .inr (.inl z_here))), (a_z_ahead, .inl (cJ, 48, .inr (.inl z_ahead))), (a_y1, .inr (ob_X0 a_y1_kinds a_y1_openWith a_y1_keyCells y1_goalCells a_y1_round y1_width y1_height y1_roundLength y1_startCell)), (a_y1_openWith, .inl (cJ, 8, .inr (.inl y1_openWith))), (a_y1_keyCells, .inl (cJ, 3, .inr (.inl y1_keyCells))), (a_y1_round, .inl (cI, 6, .inl y1_round))] H) (hD : va_D A [(a_z, .inr (ob_X6 a_z_cells a_z_earliest a_z_latest z_length a_z_here a_z_ahead)), (a_z_latest, .inl (cI, 5, .inl z_latest)), (a_z_here, .inl (cJ, 48, .inr (.inl z_here))), (a_z_ahead, .inl (cJ, 48, .inr (.inl z_ahead))), (a_y1, .inr (ob_X0 a_y1_kinds a_y1_openWith a_y1_keyCells y1_goalCells a_y1_round y1_width y1_height y1_roundLength y1_startCell)), (a_y1_openWith, .inl (cJ, 8, .inr (.inl y1_openWith))), (a_y1_keyCells, .inl (cJ, 3, .inr (.inl y1_keyCells))), (a_y1_round, .inl (cI, 6, .inl y1_round))]) (hS : va_S A s.heap H locs) (hl : lv_has ls 10 [(0, .ref a_z), (1, .ref a_y1), (2, .int x2)]) : W p l e ({ frames := 3, cells := 0, slots := 0, locals := 75 } : Room) s m args below meth c H locs 0 0 (MQ below (fr_Wi D [(a_z, .inr (ob_X6 a_z_cells a_z_earliest a_z_latest z_length a_z_here a_z_ahead)), (a_z_latest, .inl (cI, 5, .inl z_latest)), (a_z_here, .inl (cJ, 48, .inr (.inl z_here))), (a_z_ahead, .inl (cJ, 48, .inr (.inl z_ahead'))), (a_y1, .inr (ob_X0 a_y1_kinds a_y1_openWith a_y1_keyCells y1_goalCells a_y1_round y1_width y1_height y1_roundLength y1_startCell)), (a_y1_openWith, .inl (cJ, 8, .inr (.inl y1_openWith))), (a_y1_keyCells, .inl (cJ, 3, .inr (.inl y1_keyCells))), (a_y1_round, .inl (cI, 6, .inl y1_round))] A r) args s 0 0 A) (F0 m 0 ls []) := by
  obtain ⟨hx, hb, hr, hml, hown, hts, hlocks⟩ := id hB
  have hK := hcx.1
  unfold m_X6_goOn at hm
  refine lv_iload_n hx hb dX6_goOn_0 rfl (lv_at hl 2 rfl) ?_
  refine lv_if_ne (tgt := 8) hx hb dX6_goOn_1 (by decide) (fun c_1 => ?_) (fun c_1 => ?_)
  · have hm := fr_ifn c_1 hm
    refine lv_aload_n hx hb dX6_goOn_8 rfl (lv_at hl 1 rfl) ?_
    refine va_getN (D := D) (ci := 0) (v := .long y1_goalCells) (C := RX0) (T := TX0) (N := 9) hx hb hts in_X6_goOn_X0 hown hK hP 4 rfl rfl 3 (by decide) (va_Nw.use rfl (hcx.2.1 ("FastestRun$Splits", 56, "FastestRun$Game", "goalCells", "J") (by decide +kernel))) (fun _ h9 => h9) rfl dX6_goOn_9 ?_
    refine lv_lstore_n (lv' := [(3, .long y1_goalCells), (0, .ref a_z), (1, .ref a_y1), (2, .int x2)]) hx hb dX6_goOn_12 rfl hl (by decide) rfl (fun ls hl => ?_)
    refine lv_iconst (v := (0 : Int32)) hx hb dX6_goOn_13 (by decide) ?_
    refine lv_istore (lv' := [(5, .int (0 : Int32)), (3, .long y1_goalCells), (0, .ref a_z), (1, .ref a_y1), (2, .int x2)]) hx hb dX6_goOn_14 hl (by decide) rfl (fun ls hl => ?_)
    refine lv_iconst (v := (0 : Int32)) hx hb dX6_goOn_16 (by decide) ?_
    refine lv_istore (lv' := [(6, .int (0 : Int32)), (5, .int (0 : Int32)), (3, .long y1_goalCells), (0, .ref a_z), (1, .ref a_y1), (2, .int x2)]) hx hb dX6_goOn_17 hl (by decide) rfl (fun ls hl => ?_)
    exact t_X6_goOn_19 hB hcx hA _ _ _ _ _ _ _ _ hm hP hD hS (lv_sub hl [3, 4, 5, 2, 1, 0] rfl)
  · have hm := fr_ifp c_1 hm
    refine lv_lconst (v := (0 : Int64)) hx hb dX6_goOn_4 (by decide) ?_
    refine lv_goto (tgt := 12) hx hb dX6_goOn_5 (by decide) ?_
    refine lv_lstore_n (lv' := [(3, .long (0 : Int64)), (0, .ref a_z), (1, .ref a_y1), (2, .int x2)]) hx hb dX6_goOn_12 rfl hl (by decide) rfl (fun ls hl => ?_)
    refine lv_iconst (v := (0 : Int32)) hx hb dX6_goOn_13 (by decide) ?_
    refine lv_istore (lv' := [(5, .int (0 : Int32)), (3, .long (0 : Int64)), (0, .ref a_z), (1, .ref a_y1), (2, .int x2)]) hx hb dX6_goOn_14 hl (by decide) rfl (fun ls hl => ?_)
    refine lv_iconst (v := (0 : Int32)) hx hb dX6_goOn_16 (by decide) ?_
    refine lv_istore (lv' := [(6, .int (0 : Int32)), (5, .int (0 : Int32)), (3, .long (0 : Int64)), (0, .ref a_z), (1, .ref a_y1), (2, .int x2)]) hx hb dX6_goOn_17 hl (by decide) rfl (fun ls hl => ?_)
    exact t_X6_goOn_19 hB hcx hA _ _ _ _ _ _ _ _ hm hP hD hS (lv_sub hl [3, 4, 5, 2, 1, 0] rfl)
set_option maxHeartbeats 4000000 in
set_option maxRecDepth 100000 in
theorem c_X6_goOn {l : Launch} {D : va_G} {cI cJ cZ cR cN : ClassId} {a_z a_z_cells a_z_earliest a_z_latest a_z_here a_z_ahead a_y1 a_y1_kinds a_y1_openWith a_y1_keyCells a_y1_round : Nat} {z_length : Int32} {z_latest : Nat → Int32} {z_here : Nat → Int64} {z_ahead : Nat → Int64} {y1_goalCells : Int64} {y1_width : Int32} {y1_height : Int32} {y1_roundLength : Int32} {y1_startCell : Int32} {y1_openWith : Nat → Int64} {y1_keyCells : Nat → Int64} {y1_round : Nat → Int32} {F : Nat} {x2 : Int32} {r : Int32} {z_ahead' : Nat → Int64} {sz : Nat} (hm : m_X6_goOn F z_length z_latest z_here y1_goalCells y1_roundLength y1_openWith y1_keyCells y1_round x2 z_ahead = some (r, z_ahead')) : Met l yX6_goOn wsX6_goOn ({ frames := 3, cells := 0, slots := 0, locals := 75 } : Room) (fr_Pw D cI cJ cZ cR cN [.ref a_z, .ref a_y1, .int x2] [(a_z, .inr (ob_X6 a_z_cells a_z_earliest a_z_latest z_length a_z_here a_z_ahead)), (a_z_latest, .inl (cI, 5, .inl z_latest)), (a_z_here, .inl (cJ, 48, .inr (.inl z_here))), (a_z_ahead, .inl (cJ, 48, .inr (.inl z_ahead))), (a_y1, .inr (ob_X0 a_y1_kinds a_y1_openWith a_y1_keyCells y1_goalCells a_y1_round y1_width y1_height y1_roundLength y1_startCell)), (a_y1_openWith, .inl (cJ, 8, .inr (.inl y1_openWith))), (a_y1_keyCells, .inl (cJ, 3, .inr (.inl y1_keyCells))), (a_y1_round, .inl (cI, 6, .inl y1_round))] sz) (fr_Wi D [(a_z, .inr (ob_X6 a_z_cells a_z_earliest a_z_latest z_length a_z_here a_z_ahead)), (a_z_latest, .inl (cI, 5, .inl z_latest)), (a_z_here, .inl (cJ, 48, .inr (.inl z_here))), (a_z_ahead, .inl (cJ, 48, .inr (.inl z_ahead'))), (a_y1, .inr (ob_X0 a_y1_kinds a_y1_openWith a_y1_keyCells y1_goalCells a_y1_round y1_width y1_height y1_roundLength y1_startCell)), (a_y1_openWith, .inl (cJ, 8, .inr (.inl y1_openWith))), (a_y1_keyCells, .inl (cJ, 3, .inr (.inl y1_keyCells))), (a_y1_round, .inl (cI, 6, .inl y1_round))] (va_A [(a_z, .inr (ob_X6 a_z_cells a_z_earliest a_z_latest z_length a_z_here a_z_ahead)), (a_z_latest, .inl (cI, 5, .inl z_latest)), (a_z_here, .inl (cJ, 48, .inr (.inl z_here))), (a_z_ahead, .inl (cJ, 48, .inr (.inl z_ahead))), (a_y1, .inr (ob_X0 a_y1_kinds a_y1_openWith a_y1_keyCells y1_goalCells a_y1_round y1_width y1_height y1_roundLength y1_startCell)), (a_y1_openWith, .inl (cJ, 8, .inr (.inl y1_openWith))), (a_y1_keyCells, .inl (cJ, 3, .inr (.inl y1_keyCells))), (a_y1_round, .inl (cI, 6, .inl y1_round))] sz) r) 0 0 (va_A [(a_z, .inr (ob_X6 a_z_cells a_z_earliest a_z_latest z_length a_z_here a_z_ahead)), (a_z_latest, .inl (cI, 5, .inl z_latest)), (a_z_here, .inl (cJ, 48, .inr (.inl z_here))), (a_z_ahead, .inl (cJ, 48, .inr (.inl z_ahead))), (a_y1, .inr (ob_X0 a_y1_kinds a_y1_openWith a_y1_keyCells y1_goalCells a_y1_round y1_width y1_height y1_roundLength y1_startCell)), (a_y1_openWith, .inl (cJ, 8, .inr (.inl y1_openWith))), (a_y1_keyCells, .inl (cJ, 3, .inr (.inl y1_keyCells))), (a_y1_round, .inl (cI, 6, .inl y1_round))] sz) := by
  refine fr_ofW (cc := cX6_goOn) (maxL := 10) (ret := (some .boolean)) (by decide +kernel) rfl ?_
  intro p e s m args below meth c s₁ B hml hv
  obtain ⟨rfl, hsz, hP, hD0, hcx⟩ := hv
  subst hsz
  have hD := hD0.self (sz := s.heap.size)
  have hB : fr_BX p s m _ meth c cX6_goOn (some .boolean) 10 RX6 wsX6_goOn := ⟨B.exec, B.bytes, B.returns, hml, findClass_of_methodNamed B.named, atoms_spec (ws := wsX6_goOn) B.pre, B.notSynchronized⟩
  have hl := lv_entry ([.ref a_z, .ref a_y1, .int x2]) (n := 10) (Nat.le_of_ble_eq_true rfl)
  rw [lg_entry_eq]
  generalize (lg_sl ([.ref a_z, .ref a_y1, .int x2]) ++ List.replicate (10 - (lg_sl ([.ref a_z, .ref a_y1, .int x2])).length) Slot.unset).toArray = ls at hl ⊢
  have hl : lv_has ls 10 [(0, .ref a_z), (1, .ref a_y1), (2, .int x2)] := hl
  exact t_X6_goOn_0 hB hcx (fun q h => Or.inr h) hm hP hD va_S.rf hl
