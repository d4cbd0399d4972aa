set_option maxHeartbeats 4000000 in
set_option maxRecDepth 100000 in
theorem case_board {p : Program} {l : Launch} {e : Env} {s : State} {m : MethodId} {below : List Frame} {meth : Method} {c : Code} {b L : Nat} {xs : Nat → Int32} (hX : va_X b L xs s s.heap) (hbl : b < s.heap.size) {D : va_G} {cI cJ cZ cR cN : ClassId} {tX tY : Nat} (K : LK p s m c b D cI cJ cZ cR cN tX tY) {Q : State → Prop} {ad ac ar : Nat → Nat} {F : Nat} (hF : 10000000 ≤ F) (hL : L ≤ 4608) {H : Heap} {locs : List Loc} {ls : Array Slot} {i : Nat} (hi : i + 9 ≤ L) (hl : lv_has ls 4 [(0, .ref b), (1, .ref (ac 0)), (2, .ref (ar 0)), (3, .int (nI i))]) (hS : va_S (fun q : Nat => s.heap.size ≤ q) s.heap H locs) {hh : Nat} {ah : Nat} {w : Nat} {h : Nat} {rl : Nat} {st : Nat} {ki : Nat → Nat} {ro : Nat → Nat} {opn : Nat → Int64} {kyc : Nat → Int64} {gc : Int64} {sp : Int32} {a : Nat} {k : Nat} {t : Nat} {ov : Nat} {ps : Nat → Nat} {ik : Nat → Int32} {ks : Nat → Int32} {ko : Nat → Int32} {kl : Nat → Int32} {kq : Nat → Nat → Nat} {ra : Nat → Int32} {rk : Nat → Int32} {rt : Nat → Int32} {rov : Nat → Int32} {rp : Nat → Int32} {qd : Int32} {cq : Nat → Int32} {ccf : Nat → Int32} {cpr : Nat → Int32} {len : Nat} {crow : Nat → Int32} {cn : Nat} {cl : Nat → Nat} {sn : Nat} {sc : Nat → Nat} {sa : Nat → Nat} {sb : Nat → Nat} {Hh : Nat → Int64} {Aa : Nat → Int64} {rn : Nat} {fr : Nat → Nat} {to : Nat → Nat} {ne : Nat → Nat} {gi : Nat → Nat} {ti : Nat → Nat} {od : Nat → Nat} {fa : Nat → Nat} {ft : Nat → Nat} {br : Nat → Nat} {rfa : Nat → Int32} {rft : Nat → Int32} {gr : Nat} {gt : Nat} {pr : Nat} {kn : Nat} {scn : Nat} {pc : Nat} {ch : Nat → Int32} {sd : Nat → Nat} {il : Nat → Int32} {sr : Nat → Nat} {sT : Nat → Nat} {fe : Nat → Nat} {d1 : Int32} {d2 : Int32} {d3 : Int32} {rq : Nat → Int32} {rcf : Nat → Int32} {rcb : Nat → Int32} {rs : Nat → Int32} {rrow : Nat → Int32} {nN : Nat → Int32} {nX : Nat → Int32} {fD : Nat → Nat} {Cr : Nat → Int32} (g : PV w h rl st ki ro opn kyc gc sp a k t ov ps ik ks ko kl kq ra rk rt rov rp len crow cn cl sn sc sa sb rn fr to ne gi ti od fa ft br rfa rft gr gt pr kn scn pc ch sd il sr sT rrow) (hP : va_P D vwCl ((wC cI cJ cZ cR cN ad ac hh ah gc (nI w) (nI h) (nI rl) (nI st) (fun j => nI (ki j)) opn kyc (fun j => nI (ro j)) sp (nI ov) (nI t) (fun j => nI (ps j)) ks ko kl (fun p j => nI (kq p j)) ik qd cq ccf cpr (nI len) crow (nI cn) (fun j => nI (cl j)) (nI sn) (fun j => nI (sc j)) (fun j => nI (sa j)) (fun j => nI (sb j)) Hh Aa (nI rn) (nI gr) (nI gt) (nI pr) (nI kn) (nI scn) (nI pc) (fun j => e1 (fe j)) ch (fun j => nI (sd j)) il (fun j => nI (sr j)) (fun j => nI (sT j)) ++ fr_pool ad (fun j => nI (fr j)) (fun j => nI (to j)) (fun j => nI (ne j)) (fun j => nI (gi j)) (fun j => nI (ti j)) (fun j => nI (od j)) (fun j => nI (fa j)) (fun j => nI (ft j)) (fun j => nI (br j))) ++ wR cI cZ ar (nI w) (nI h) (nI rl) (nI st) (nI a) (nI k) (nI t) (nI ov) d1 d2 d3 (nI len) (nI cn) (nI sn) (nI rn) (nI gr) (nI gt) (nI pr) (fun j => nI (ki j)) (fun j => nI (ro j)) (fun j => nI (ps j)) ik ra rk rt rov rp rq rcf rcb rs rrow (fun j => nI (cl j)) (fun j => nI (sc j)) (fun j => nI (sa j)) (fun j => nI (sb j)) nN nX (fun j => nI (fr j)) (fun j => nI (to j)) (fun j => nI (ne j)) (fun j => nI (gi j)) (fun j => nI (ti j)) (fun j => nI (od j)) rfa rft (fun j => nI (br j)) (fun j => e1 (fD j)) Cr) H) (hD : va_D (fun q : Nat => s.heap.size ≤ q) ((wC cI cJ cZ cR cN ad ac hh ah gc (nI w) (nI h) (nI rl) (nI st) (fun j => nI (ki j)) opn kyc (fun j => nI (ro j)) sp (nI ov) (nI t) (fun j => nI (ps j)) ks ko kl (fun p j => nI (kq p j)) ik qd cq ccf cpr (nI len) crow (nI cn) (fun j => nI (cl j)) (nI sn) (fun j => nI (sc j)) (fun j => nI (sa j)) (fun j => nI (sb j)) Hh Aa (nI rn) (nI gr) (nI gt) (nI pr) (nI kn) (nI scn) (nI pc) (fun j => e1 (fe j)) ch (fun j => nI (sd j)) il (fun j => nI (sr j)) (fun j => nI (sT j)) ++ fr_pool ad (fun j => nI (fr j)) (fun j => nI (to j)) (fun j => nI (ne j)) (fun j => nI (gi j)) (fun j => nI (ti j)) (fun j => nI (od j)) (fun j => nI (fa j)) (fun j => nI (ft j)) (fun j => nI (br j))) ++ wR cI cZ ar (nI w) (nI h) (nI rl) (nI st) (nI a) (nI k) (nI t) (nI ov) d1 d2 d3 (nI len) (nI cn) (nI sn) (nI rn) (nI gr) (nI gt) (nI pr) (fun j => nI (ki j)) (fun j => nI (ro j)) (fun j => nI (ps j)) ik ra rk rt rov rp rq rcf rcb rs rrow (fun j => nI (cl j)) (fun j => nI (sc j)) (fun j => nI (sa j)) (fun j => nI (sb j)) nN nX (fun j => nI (fr j)) (fun j => nI (to j)) (fun j => nI (ne j)) (fun j => nI (gi j)) (fun j => nI (ti j)) (fun j => nI (od j)) rfa rft (fun j => nI (br j)) (fun j => e1 (fD j)) Cr)) (kk : ∀ (H : Heap) (locs : List Loc), va_S (fun q : Nat => s.heap.size ≤ q) s.heap H locs → IV D cI cJ cZ cR cN ad ac ar (fun q : Nat => s.heap.size ≤ q) H → W p l e room_1 s m #[Value.ref b] below meth c H locs 117 139158 Q (F0 m 907 ls [])) : W p l e room_1 s m #[Value.ref b] below meth c H locs 117 139158 Q (F0 m 152 ls []) := by
  have K0 := K
  obtain ⟨hx, hb, hml, hown, hts, hcx, hst⟩ := K0
  have hbA : ¬ (fun q : Nat => s.heap.size ≤ q) b := Nat.not_le.mpr hbl
  have h1 : vp_in (nI i + (1 : Int32)) L := by
    show vp_in (nI i + nI 1) L
    rw [nI_add]; exact vp_in_nI (by omega) (by omega)
  have h2 : vp_in (nI i + (2 : Int32)) L := by
    show vp_in (nI i + nI 2) L
    rw [nI_add]; exact vp_in_nI (by omega) (by omega)
  obtain ⟨g1, g2, g3, g4, g5, g6, g7, g8⟩ := g
  rcases b_board (w := w) (h := h) (rl := rl) (st := st) (ki := ki) (opn := opn) (kyc := kyc) (gc := gc) hF (xs (nI i + (1 : Int32)).toNatClampNeg) (xs (nI i + (2 : Int32)).toNatClampNeg) sp (nI ov) (nI t) (nI cn) (nI sn) (nI a) (nI k) (nI t) (nI ov) ik with ⟨e1, e2⟩ | ⟨w2, hy2, ki2, opn2, kyc2, q1, q2, q3, q4, e1, e2⟩
  · refine lv_aload_n hx hb dL_law_152 rfl (lv_at hl 1 rfl) ?_
    refine lv_aload_n hx hb dL_law_153 rfl (lv_at hl 0 rfl) ?_
    refine lv_iload_n hx hb dL_law_154 rfl (lv_at hl 3 rfl) ?_
    refine lv_iconst (v := (1 : Int32)) hx hb dL_law_155 (by decide) ?_
    refine lv_iadd hx hb dL_law_156 ?_
    refine va_sld hx hb hX hbl hbA hS h1 dL_law_157 ?_
    refine lv_aload_n hx hb dL_law_158 rfl (lv_at hl 0 rfl) ?_
    refine lv_iload_n hx hb dL_law_159 rfl (lv_at hl 3 rfl) ?_
    refine lv_iconst (v := (2 : Int32)) hx hb dL_law_160 (by decide) ?_
    refine lv_iadd hx hb dL_law_161 ?_
    refine va_sld hx hb hX hbl hbA hS h2 dL_law_162 ?_
    refine k7_board K hl.1 hS hP hD e1 (fun H locs hP hD hS => ?_)
    refine lv_aload_n hx hb dL_law_166 rfl (lv_at hl 2 rfl) ?_
    refine lv_aload_n hx hb dL_law_167 rfl (lv_at hl 0 rfl) ?_
    refine lv_iload_n hx hb dL_law_168 rfl (lv_at hl 3 rfl) ?_
    refine lv_iconst (v := (1 : Int32)) hx hb dL_law_169 (by decide) ?_
    refine lv_iadd hx hb dL_law_170 ?_
    refine va_sld hx hb hX hbl hbA hS h1 dL_law_171 ?_
    refine lv_aload_n hx hb dL_law_172 rfl (lv_at hl 0 rfl) ?_
    refine lv_iload_n hx hb dL_law_173 rfl (lv_at hl 3 rfl) ?_
    refine lv_iconst (v := (2 : Int32)) hx hb dL_law_174 (by decide) ?_
    refine lv_iadd hx hb dL_law_175 ?_
    refine va_sld hx hb hX hbl hbA hS h2 dL_law_176 ?_
    refine k8_board K hl.1 hS hP hD e2 (fun H locs hP hD hS => ?_)
    refine lv_icmp_eq (tgt := 907) hx hb dL_law_180 (by decide) (fun _ => ?_) (fun h => absurd rfl h)
    exact kk H locs hS (IV_mk hh ah w h rl st ki ro opn kyc gc sp a k t ov ps ik ks ko kl kq ra rk rt rov rp qd cq ccf cpr len crow cn cl sn sc sa sb Hh Aa rn fr to ne gi ti od fa ft br rfa rft gr gt pr kn scn pc ch sd il sr sT fe d1 d2 d3 rq rcf rcb rs rrow nN nX fD Cr ⟨g1, g2, g3, g4, g5, g6, g7, g8⟩ hP hD)
  · refine lv_aload_n hx hb dL_law_152 rfl (lv_at hl 1 rfl) ?_
    refine lv_aload_n hx hb dL_law_153 rfl (lv_at hl 0 rfl) ?_
    refine lv_iload_n hx hb dL_law_154 rfl (lv_at hl 3 rfl) ?_
    refine lv_iconst (v := (1 : Int32)) hx hb dL_law_155 (by decide) ?_
    refine lv_iadd hx hb dL_law_156 ?_
    refine va_sld hx hb hX hbl hbA hS h1 dL_law_157 ?_
    refine lv_aload_n hx hb dL_law_158 rfl (lv_at hl 0 rfl) ?_
    refine lv_iload_n hx hb dL_law_159 rfl (lv_at hl 3 rfl) ?_
    refine lv_iconst (v := (2 : Int32)) hx hb dL_law_160 (by decide) ?_
    refine lv_iadd hx hb dL_law_161 ?_
    refine va_sld hx hb hX hbl hbA hS h2 dL_law_162 ?_
    refine k7_board K hl.1 hS hP hD e1 (fun H locs hP hD hS => ?_)
    refine lv_aload_n hx hb dL_law_166 rfl (lv_at hl 2 rfl) ?_
    refine lv_aload_n hx hb dL_law_167 rfl (lv_at hl 0 rfl) ?_
    refine lv_iload_n hx hb dL_law_168 rfl (lv_at hl 3 rfl) ?_
    refine lv_iconst (v := (1 : Int32)) hx hb dL_law_169 (by decide) ?_
    refine lv_iadd hx hb dL_law_170 ?_
    refine va_sld hx hb hX hbl hbA hS h1 dL_law_171 ?_
    refine lv_aload_n hx hb dL_law_172 rfl (lv_at hl 0 rfl) ?_
    refine lv_iload_n hx hb dL_law_173 rfl (lv_at hl 3 rfl) ?_
    refine lv_iconst (v := (2 : Int32)) hx hb dL_law_174 (by decide) ?_
    refine lv_iadd hx hb dL_law_175 ?_
    refine va_sld hx hb hX hbl hbA hS h2 dL_law_176 ?_
    refine k8_board K hl.1 hS hP hD e2 (fun H locs hP hD hS => ?_)
    refine lv_icmp_eq (tgt := 907) hx hb dL_law_180 (by decide) (fun _ => ?_) (fun h => absurd rfl h)
    exact kk H locs hS (IV_mk hh ah w2 hy2 0 0 ki2 ro opn2 kyc2 0 (nI 0) 0 0 0 0 ps (z4 ik) ks ko kl kq ra rk rt rov rp qd cq ccf cpr len crow 0 cl 0 sc sa sb Hh Aa rn fr to ne gi ti od fa ft br rfa rft gr gt pr kn scn pc ch sd il sr sT fe d1 d2 d3 rq rcf rcb rs rrow nN nX fD Cr ⟨⟨⟨q1, q2, by omega, fun j => (by rw [q3]; split; omega; exact g1.1.2.2.2.1 j), g1.1.2.2.2.2⟩, ⟨by omega, by omega⟩, q4⟩, ⟨rfl, ⟨⟨by omega, by omega⟩, by omega, by omega, by omega⟩, g2.2.2⟩, ⟨g3.1, fun p hp => ⟨(g3.2 p hp).1, .inl (if_pos hp)⟩⟩, g4, ⟨by omega, g5.2⟩, ⟨by omega, g6.2⟩, g7, g8⟩ hP hD)
set_option maxHeartbeats 4000000 in
set_option maxRecDepth 100000 in
theorem case_cell {p : Program} {l : Launch} {e : Env} {s : State} {m : MethodId} {below : List Frame} {meth : Method} {c : Code} {b L : Nat} {xs : Nat → Int32} (hX : va_X b L xs s s.heap) (hbl : b < s.heap.size) {D : va_G} {cI cJ cZ cR cN : ClassId} {tX tY : Nat} (K : LK p s m c b D cI cJ cZ cR cN tX tY) {Q : State → Prop} {ad ac ar : Nat → Nat} {F : Nat} (hF : 10000000 ≤ F) (hL : L ≤ 4608) {H : Heap} {locs : List Loc} {ls : Array Slot} {i : Nat} (hi : i + 9 ≤ L) (hl : lv_has ls 4 [(0, .ref b), (1, .ref (ac 0)), (2, .ref (ar 0)), (3, .int (nI i))]) (hS : va_S (fun q : Nat => s.heap.size ≤ q) s.heap H locs) {hh : Nat} {ah : Nat} {w : Nat} {h : Nat} {rl : Nat} {st : Nat} {ki : Nat → Nat} {ro : Nat → Nat} {opn : Nat → Int64} {kyc : Nat → Int64} {gc : Int64} {sp : Int32} {a : Nat} {k : Nat} {t : Nat} {ov : Nat} {ps : Nat → Nat} {ik : Nat → Int32} {ks : Nat → Int32} {ko : Nat → Int32} {kl : Nat → Int32} {kq : Nat → Nat → Nat} {ra : Nat → Int32} {rk : Nat → Int32} {rt : Nat → Int32} {rov : Nat → Int32} {rp : Nat → Int32} {qd : Int32} {cq : Nat → Int32} {ccf : Nat → Int32} {cpr : Nat → Int32} {len : Nat} {crow : Nat → Int32} {cn : Nat} {cl : Nat → Nat} {sn : Nat} {sc : Nat → Nat} {sa : Nat → Nat} {sb : Nat → Nat} {Hh : Nat → Int64} {Aa : Nat → Int64} {rn : Nat} {fr : Nat → Nat} {to : Nat → Nat} {ne : Nat → Nat} {gi : Nat → Nat} {ti : Nat → Nat} {od : Nat → Nat} {fa : Nat → Nat} {ft : Nat → Nat} {br : Nat → Nat} {rfa : Nat → Int32} {rft : Nat → Int32} {gr : Nat} {gt : Nat} {pr : Nat} {kn : Nat} {scn : Nat} {pc : Nat} {ch : Nat → Int32} {sd : Nat → Nat} {il : Nat → Int32} {sr : Nat → Nat} {sT : Nat → Nat} {fe : Nat → Nat} {d1 : Int32} {d2 : Int32} {d3 : Int32} {rq : Nat → Int32} {rcf : Nat → Int32} {rcb : Nat → Int32} {rs : Nat → Int32} {rrow : Nat → Int32} {nN : Nat → Int32} {nX : Nat → Int32} {fD : Nat → Nat} {Cr : Nat → Int32} (g : PV w h rl st ki ro opn kyc gc sp a k t ov ps ik ks ko kl kq ra rk rt rov rp len crow cn cl sn sc sa sb rn fr to ne gi ti od fa ft br rfa rft gr gt pr kn scn pc ch sd il sr sT rrow) (hP : va_P D vwCl ((wC cI cJ cZ cR cN ad ac hh ah gc (nI w) (nI h) (nI rl) (nI st) (fun j => nI (ki j)) opn kyc (fun j => nI (ro j)) sp (nI ov) (nI t) (fun j => nI (ps j)) ks ko kl (fun p j => nI (kq p j)) ik qd cq ccf cpr (nI len) crow (nI cn) (fun j => nI (cl j)) (nI sn) (fun j => nI (sc j)) (fun j => nI (sa j)) (fun j => nI (sb j)) Hh Aa (nI rn) (nI gr) (nI gt) (nI pr) (nI kn) (nI scn) (nI pc) (fun j => e1 (fe j)) ch (fun j => nI (sd j)) il (fun j => nI (sr j)) (fun j => nI (sT j)) ++ fr_pool ad (fun j => nI (fr j)) (fun j => nI (to j)) (fun j => nI (ne j)) (fun j => nI (gi j)) (fun j => nI (ti j)) (fun j => nI (od j)) (fun j => nI (fa j)) (fun j => nI (ft j)) (fun j => nI (br j))) ++ wR cI cZ ar (nI w) (nI h) (nI rl) (nI st) (nI a) (nI k) (nI t) (nI ov) d1 d2 d3 (nI len) (nI cn) (nI sn) (nI rn) (nI gr) (nI gt) (nI pr) (fun j => nI (ki j)) (fun j => nI (ro j)) (fun j => nI (ps j)) ik ra rk rt rov rp rq rcf rcb rs rrow (fun j => nI (cl j)) (fun j => nI (sc j)) (fun j => nI (sa j)) (fun j => nI (sb j)) nN nX (fun j => nI (fr j)) (fun j => nI (to j)) (fun j => nI (ne j)) (fun j => nI (gi j)) (fun j => nI (ti j)) (fun j => nI (od j)) rfa rft (fun j => nI (br j)) (fun j => e1 (fD j)) Cr) H) (hD : va_D (fun q : Nat => s.heap.size ≤ q) ((wC cI cJ cZ cR cN ad ac hh ah gc (nI w) (nI h) (nI rl) (nI st) (fun j => nI (ki j)) opn kyc (fun j => nI (ro j)) sp (nI ov) (nI t) (fun j => nI (ps j)) ks ko kl (fun p j => nI (kq p j)) ik qd cq ccf cpr (nI len) crow (nI cn) (fun j => nI (cl j)) (nI sn) (fun j => nI (sc j)) (fun j => nI (sa j)) (fun j => nI (sb j)) Hh Aa (nI rn) (nI gr) (nI gt) (nI pr) (nI kn) (nI scn) (nI pc) (fun j => e1 (fe j)) ch (fun j => nI (sd j)) il (fun j => nI (sr j)) (fun j => nI (sT j)) ++ fr_pool ad (fun j => nI (fr j)) (fun j => nI (to j)) (fun j => nI (ne j)) (fun j => nI (gi j)) (fun j => nI (ti j)) (fun j => nI (od j)) (fun j => nI (fa j)) (fun j => nI (ft j)) (fun j => nI (br j))) ++ wR cI cZ ar (nI w) (nI h) (nI rl) (nI st) (nI a) (nI k) (nI t) (nI ov) d1 d2 d3 (nI len) (nI cn) (nI sn) (nI rn) (nI gr) (nI gt) (nI pr) (fun j => nI (ki j)) (fun j => nI (ro j)) (fun j => nI (ps j)) ik ra rk rt rov rp rq rcf rcb rs rrow (fun j => nI (cl j)) (fun j => nI (sc j)) (fun j => nI (sa j)) (fun j => nI (sb j)) nN nX (fun j => nI (fr j)) (fun j => nI (to j)) (fun j => nI (ne j)) (fun j => nI (gi j)) (fun j => nI (ti j)) (fun j => nI (od j)) rfa rft (fun j => nI (br j)) (fun j => e1 (fD j)) Cr)) (kk : ∀ (H : Heap) (locs : List Loc), va_S (fun q : Nat => s.heap.size ≤ q) s.heap H locs → IV D cI cJ cZ cR cN ad ac ar (fun q : Nat => s.heap.size ≤ q) H → W p l e room_1 s m #[Value.ref b] below meth c H locs 117 139158 Q (F0 m 907 ls [])) : W p l e room_1 s m #[Value.ref b] below meth c H locs 117 139158 Q (F0 m 185 ls []) := by
  have K0 := K
  obtain ⟨hx, hb, hml, hown, hts, hcx, hst⟩ := K0
  have hbA : ¬ (fun q : Nat => s.heap.size ≤ q) b := Nat.not_le.mpr hbl
  have h1 : vp_in (nI i + (1 : Int32)) L := by
    show vp_in (nI i + nI 1) L
    rw [nI_add]; exact vp_in_nI (by omega) (by omega)
  have h2 : vp_in (nI i + (2 : Int32)) L := by
    show vp_in (nI i + nI 2) L
    rw [nI_add]; exact vp_in_nI (by omega) (by omega)
  have h3 : vp_in (nI i + (3 : Int32)) L := by
    show vp_in (nI i + nI 3) L
    rw [nI_add]; exact vp_in_nI (by omega) (by omega)
  obtain ⟨g1, g2, g3, g4, g5, g6, g7, g8⟩ := g
  rcases b_cell (w := w) (h := h) (st := st) (ki := ki) (opn := opn) (kyc := kyc) (gc := gc) hF g1.1.1.2 g1.1.2.1.2 g1.2.2 (xs (nI i + (1 : Int32)).toNatClampNeg) (xs (nI i + (2 : Int32)).toNatClampNeg) (xs (nI i + (3 : Int32)).toNatClampNeg) sp (nI ov) (nI t) (nI a) (nI k) (nI t) (nI ov) ik with ⟨e1, e2⟩ | ⟨c2, kd, gc2, opn2, kyc2, q1, q2, q3, q4, e1, e2⟩
  · refine lv_aload_n hx hb dL_law_185 rfl (lv_at hl 1 rfl) ?_
    refine lv_aload_n hx hb dL_law_186 rfl (lv_at hl 0 rfl) ?_
    refine lv_iload_n hx hb dL_law_187 rfl (lv_at hl 3 rfl) ?_
    refine lv_iconst (v := (1 : Int32)) hx hb dL_law_188 (by decide) ?_
    refine lv_iadd hx hb dL_law_189 ?_
    refine va_sld hx hb hX hbl hbA hS h1 dL_law_190 ?_
    refine lv_aload_n hx hb dL_law_191 rfl (lv_at hl 0 rfl) ?_
    refine lv_iload_n hx hb dL_law_192 rfl (lv_at hl 3 rfl) ?_
    refine lv_iconst (v := (2 : Int32)) hx hb dL_law_193 (by decide) ?_
    refine lv_iadd hx hb dL_law_194 ?_
    refine va_sld hx hb hX hbl hbA hS h2 dL_law_195 ?_
    refine lv_aload_n hx hb dL_law_196 rfl (lv_at hl 0 rfl) ?_
    refine lv_iload_n hx hb dL_law_197 rfl (lv_at hl 3 rfl) ?_
    refine lv_iconst (v := (3 : Int32)) hx hb dL_law_198 (by decide) ?_
    refine lv_iadd hx hb dL_law_199 ?_
    refine va_sld hx hb hX hbl hbA hS h3 dL_law_200 ?_
    refine k7_cell K hl.1 hS hP hD e1 (fun H locs hP hD hS => ?_)
    refine lv_aload_n hx hb dL_law_204 rfl (lv_at hl 2 rfl) ?_
    refine lv_aload_n hx hb dL_law_205 rfl (lv_at hl 0 rfl) ?_
    refine lv_iload_n hx hb dL_law_206 rfl (lv_at hl 3 rfl) ?_
    refine lv_iconst (v := (1 : Int32)) hx hb dL_law_207 (by decide) ?_
    refine lv_iadd hx hb dL_law_208 ?_
    refine va_sld hx hb hX hbl hbA hS h1 dL_law_209 ?_
    refine lv_aload_n hx hb dL_law_210 rfl (lv_at hl 0 rfl) ?_
    refine lv_iload_n hx hb dL_law_211 rfl (lv_at hl 3 rfl) ?_
    refine lv_iconst (v := (2 : Int32)) hx hb dL_law_212 (by decide) ?_
    refine lv_iadd hx hb dL_law_213 ?_
    refine va_sld hx hb hX hbl hbA hS h2 dL_law_214 ?_
    refine lv_aload_n hx hb dL_law_215 rfl (lv_at hl 0 rfl) ?_
    refine lv_iload_n hx hb dL_law_216 rfl (lv_at hl 3 rfl) ?_
    refine lv_iconst (v := (3 : Int32)) hx hb dL_law_217 (by decide) ?_
    refine lv_iadd hx hb dL_law_218 ?_
    refine va_sld hx hb hX hbl hbA hS h3 dL_law_219 ?_
    refine k8_cell K hl.1 hS hP hD e2 (fun H locs hP hD hS => ?_)
    refine lv_icmp_eq (tgt := 907) hx hb dL_law_223 (by decide) (fun _ => ?_) (fun h => absurd rfl h)
    exact kk H locs hS (IV_mk hh ah w h rl st ki ro opn kyc gc sp a k t ov ps ik ks ko kl kq ra rk rt rov rp qd cq ccf cpr len crow cn cl sn sc sa sb Hh Aa rn fr to ne gi ti od fa ft br rfa rft gr gt pr kn scn pc ch sd il sr sT fe d1 d2 d3 rq rcf rcb rs rrow nN nX fD Cr ⟨g1, g2, g3, g4, g5, g6, g7, g8⟩ hP hD)
  · refine lv_aload_n hx hb dL_law_185 rfl (lv_at hl 1 rfl) ?_
    refine lv_aload_n hx hb dL_law_186 rfl (lv_at hl 0 rfl) ?_
    refine lv_iload_n hx hb dL_law_187 rfl (lv_at hl 3 rfl) ?_
    refine lv_iconst (v := (1 : Int32)) hx hb dL_law_188 (by decide) ?_
    refine lv_iadd hx hb dL_law_189 ?_
    refine va_sld hx hb hX hbl hbA hS h1 dL_law_190 ?_
    refine lv_aload_n hx hb dL_law_191 rfl (lv_at hl 0 rfl) ?_
    refine lv_iload_n hx hb dL_law_192 rfl (lv_at hl 3 rfl) ?_
    refine lv_iconst (v := (2 : Int32)) hx hb dL_law_193 (by decide) ?_
    refine lv_iadd hx hb dL_law_194 ?_
    refine va_sld hx hb hX hbl hbA hS h2 dL_law_195 ?_
    refine lv_aload_n hx hb dL_law_196 rfl (lv_at hl 0 rfl) ?_
    refine lv_iload_n hx hb dL_law_197 rfl (lv_at hl 3 rfl) ?_
    refine lv_iconst (v := (3 : Int32)) hx hb dL_law_198 (by decide) ?_
    refine lv_iadd hx hb dL_law_199 ?_
    refine va_sld hx hb hX hbl hbA hS h3 dL_law_200 ?_
    refine k7_cell K hl.1 hS hP hD e1 (fun H locs hP hD hS => ?_)
    refine lv_aload_n hx hb dL_law_204 rfl (lv_at hl 2 rfl) ?_
    refine lv_aload_n hx hb dL_law_205 rfl (lv_at hl 0 rfl) ?_
    refine lv_iload_n hx hb dL_law_206 rfl (lv_at hl 3 rfl) ?_
    refine lv_iconst (v := (1 : Int32)) hx hb dL_law_207 (by decide) ?_
    refine lv_iadd hx hb dL_law_208 ?_
    refine va_sld hx hb hX hbl hbA hS h1 dL_law_209 ?_
    refine lv_aload_n hx hb dL_law_210 rfl (lv_at hl 0 rfl) ?_
    refine lv_iload_n hx hb dL_law_211 rfl (lv_at hl 3 rfl) ?_
    refine lv_iconst (v := (2 : Int32)) hx hb dL_law_212 (by decide) ?_
    refine lv_iadd hx hb dL_law_213 ?_
    refine va_sld hx hb hX hbl hbA hS h2 dL_law_214 ?_
    refine lv_aload_n hx hb dL_law_215 rfl (lv_at hl 0 rfl) ?_
    refine lv_iload_n hx hb dL_law_216 rfl (lv_at hl 3 rfl) ?_
    refine lv_iconst (v := (3 : Int32)) hx hb dL_law_217 (by decide) ?_
    refine lv_iadd hx hb dL_law_218 ?_
    refine va_sld hx hb hX hbl hbA hS h3 dL_law_219 ?_
    refine k8_cell K hl.1 hS hP hD e2 (fun H locs hP hD hS => ?_)
    refine lv_icmp_eq (tgt := 907) hx hb dL_law_223 (by decide) (fun _ => ?_) (fun h => absurd rfl h)
    exact kk H locs hS (IV_mk hh ah w h rl st (nu ki c2 kd) ro opn2 kyc2 gc2 (nI st) st 0 0 0 ps (z4 ik) ks ko kl kq ra rk rt rov rp qd cq ccf cpr len crow cn cl sn sc sa sb Hh Aa rn fr to ne gi ti od fa ft br rfa rft gr gt pr kn scn pc ch sd il sr sT fe d1 d2 d3 rq rcf rcb rs rrow nN nX fD Cr ⟨⟨⟨g1.1.1, g1.1.2.1, g1.1.2.2.1, fun j => (by unfold nu; split; exact q3; exact g1.1.2.2.2.1 j), g1.1.2.2.2.2⟩, g1.2.1, q4⟩, ⟨by rw [Nat.mul_zero, Nat.zero_add], ⟨g1.2.1, by omega, by omega, by omega⟩, g2.2.2⟩, ⟨g3.1, fun p hp => ⟨(g3.2 p hp).1, .inl (if_pos hp)⟩⟩, g4, g5, g6, g7, g8⟩ hP hD)
set_option maxHeartbeats 4000000 in
set_option maxRecDepth 100000 in
theorem case_foe {p : Program} {l : Launch} {e : Env} {s : State} {m : MethodId} {below : List Frame} {meth : Method} {c : Code} {b L : Nat} {xs : Nat → Int32} (hX : va_X b L xs s s.heap) (hbl : b < s.heap.size) {D : va_G} {cI cJ cZ cR cN : ClassId} {tX tY : Nat} (K : LK p s m c b D cI cJ cZ cR cN tX tY) {Q : State → Prop} {ad ac ar : Nat → Nat} {F : Nat} (hF : 10000000 ≤ F) (hL : L ≤ 4608) {H : Heap} {locs : List Loc} {ls : Array Slot} {i : Nat} (hi : i + 9 ≤ L) (hl : lv_has ls 4 [(0, .ref b), (1, .ref (ac 0)), (2, .ref (ar 0)), (3, .int (nI i))]) (hS : va_S (fun q : Nat => s.heap.size ≤ q) s.heap H locs) {hh : Nat} {ah : Nat} {w : Nat} {h : Nat} {rl : Nat} {st : Nat} {ki : Nat → Nat} {ro : Nat → Nat} {opn : Nat → Int64} {kyc : Nat → Int64} {gc : Int64} {sp : Int32} {a : Nat} {k : Nat} {t : Nat} {ov : Nat} {ps : Nat → Nat} {ik : Nat → Int32} {ks : Nat → Int32} {ko : Nat → Int32} {kl : Nat → Int32} {kq : Nat → Nat → Nat} {ra : Nat → Int32} {rk : Nat → Int32} {rt : Nat → Int32} {rov : Nat → Int32} {rp : Nat → Int32} {qd : Int32} {cq : Nat → Int32} {ccf : Nat → Int32} {cpr : Nat → Int32} {len : Nat} {crow : Nat → Int32} {cn : Nat} {cl : Nat → Nat} {sn : Nat} {sc : Nat → Nat} {sa : Nat → Nat} {sb : Nat → Nat} {Hh : Nat → Int64} {Aa : Nat → Int64} {rn : Nat} {fr : Nat → Nat} {to : Nat → Nat} {ne : Nat → Nat} {gi : Nat → Nat} {ti : Nat → Nat} {od : Nat → Nat} {fa : Nat → Nat} {ft : Nat → Nat} {br : Nat → Nat} {rfa : Nat → Int32} {rft : Nat → Int32} {gr : Nat} {gt : Nat} {pr : Nat} {kn : Nat} {scn : Nat} {pc : Nat} {ch : Nat → Int32} {sd : Nat → Nat} {il : Nat → Int32} {sr : Nat → Nat} {sT : Nat → Nat} {fe : Nat → Nat} {d1 : Int32} {d2 : Int32} {d3 : Int32} {rq : Nat → Int32} {rcf : Nat → Int32} {rcb : Nat → Int32} {rs : Nat → Int32} {rrow : Nat → Int32} {nN : Nat → Int32} {nX : Nat → Int32} {fD : Nat → Nat} {Cr : Nat → Int32} (g : PV w h rl st ki ro opn kyc gc sp a k t ov ps ik ks ko kl kq ra rk rt rov rp len crow cn cl sn sc sa sb rn fr to ne gi ti od fa ft br rfa rft gr gt pr kn scn pc ch sd il sr sT rrow) (hP : va_P D vwCl ((wC cI cJ cZ cR cN ad ac hh ah gc (nI w) (nI h) (nI rl) (nI st) (fun j => nI (ki j)) opn kyc (fun j => nI (ro j)) sp (nI ov) (nI t) (fun j => nI (ps j)) ks ko kl (fun p j => nI (kq p j)) ik qd cq ccf cpr (nI len) crow (nI cn) (fun j => nI (cl j)) (nI sn) (fun j => nI (sc j)) (fun j => nI (sa j)) (fun j => nI (sb j)) Hh Aa (nI rn) (nI gr) (nI gt) (nI pr) (nI kn) (nI scn) (nI pc) (fun j => e1 (fe j)) ch (fun j => nI (sd j)) il (fun j => nI (sr j)) (fun j => nI (sT j)) ++ fr_pool ad (fun j => nI (fr j)) (fun j => nI (to j)) (fun j => nI (ne j)) (fun j => nI (gi j)) (fun j => nI (ti j)) (fun j => nI (od j)) (fun j => nI (fa j)) (fun j => nI (ft j)) (fun j => nI (br j))) ++ wR cI cZ ar (nI w) (nI h) (nI rl) (nI st) (nI a) (nI k) (nI t) (nI ov) d1 d2 d3 (nI len) (nI cn) (nI sn) (nI rn) (nI gr) (nI gt) (nI pr) (fun j => nI (ki j)) (fun j => nI (ro j)) (fun j => nI (ps j)) ik ra rk rt rov rp rq rcf rcb rs rrow (fun j => nI (cl j)) (fun j => nI (sc j)) (fun j => nI (sa j)) (fun j => nI (sb j)) nN nX (fun j => nI (fr j)) (fun j => nI (to j)) (fun j => nI (ne j)) (fun j => nI (gi j)) (fun j => nI (ti j)) (fun j => nI (od j)) rfa rft (fun j => nI (br j)) (fun j => e1 (fD j)) Cr) H) (hD : va_D (fun q : Nat => s.heap.size ≤ q) ((wC cI cJ cZ cR cN ad ac hh ah gc (nI w) (nI h) (nI rl) (nI st) (fun j => nI (ki j)) opn kyc (fun j => nI (ro j)) sp (nI ov) (nI t) (fun j => nI (ps j)) ks ko kl (fun p j => nI (kq p j)) ik qd cq ccf cpr (nI len) crow (nI cn) (fun j => nI (cl j)) (nI sn) (fun j => nI (sc j)) (fun j => nI (sa j)) (fun j => nI (sb j)) Hh Aa (nI rn) (nI gr) (nI gt) (nI pr) (nI kn) (nI scn) (nI pc) (fun j => e1 (fe j)) ch (fun j => nI (sd j)) il (fun j => nI (sr j)) (fun j => nI (sT j)) ++ fr_pool ad (fun j => nI (fr j)) (fun j => nI (to j)) (fun j => nI (ne j)) (fun j => nI (gi j)) (fun j => nI (ti j)) (fun j => nI (od j)) (fun j => nI (fa j)) (fun j => nI (ft j)) (fun j => nI (br j))) ++ wR cI cZ ar (nI w) (nI h) (nI rl) (nI st) (nI a) (nI k) (nI t) (nI ov) d1 d2 d3 (nI len) (nI cn) (nI sn) (nI rn) (nI gr) (nI gt) (nI pr) (fun j => nI (ki j)) (fun j => nI (ro j)) (fun j => nI (ps j)) ik ra rk rt rov rp rq rcf rcb rs rrow (fun j => nI (cl j)) (fun j => nI (sc j)) (fun j => nI (sa j)) (fun j => nI (sb j)) nN nX (fun j => nI (fr j)) (fun j => nI (to j)) (fun j => nI (ne j)) (fun j => nI (gi j)) (fun j => nI (ti j)) (fun j => nI (od j)) rfa rft (fun j => nI (br j)) (fun j => e1 (fD j)) Cr)) (kk : ∀ (H : Heap) (locs : List Loc), va_S (fun q : Nat => s.heap.size ≤ q) s.heap H locs → IV D cI cJ cZ cR cN ad ac ar (fun q : Nat => s.heap.size ≤ q) H → W p l e room_1 s m #[Value.ref b] below meth c H locs 117 139158 Q (F0 m 907 ls [])) : W p l e room_1 s m #[Value.ref b] below meth c H locs 117 139158 Q (F0 m 228 ls []) := by
  have K0 := K
  obtain ⟨hx, hb, hml, hown, hts, hcx, hst⟩ := K0
  have hbA : ¬ (fun q : Nat => s.heap.size ≤ q) b := Nat.not_le.mpr hbl
  have h1 : vp_in (nI i + (1 : Int32)) L := by
    show vp_in (nI i + nI 1) L
    rw [nI_add]; exact vp_in_nI (by omega) (by omega)
  have h2 : vp_in (nI i + (2 : Int32)) L := by
    show vp_in (nI i + nI 2) L
    rw [nI_add]; exact vp_in_nI (by omega) (by omega)
  obtain ⟨g1, g2, g3, g4, g5, g6, g7, g8⟩ := g
  rcases b_foe (w := w) (h := h) (rl := rl) (st := st) (ro := ro) hF g1.1.1.2 g1.1.2.1.2 g1.1.2.2.1 (xs (nI i + (1 : Int32)).toNatClampNeg) (xs (nI i + (2 : Int32)).toNatClampNeg) sp (nI ov) (nI t) (nI a) (nI k) (nI t) (nI ov) ik with ⟨e1, e2⟩ | ⟨c2, q1, q2, e1, e2⟩
  · refine lv_aload_n hx hb dL_law_228 rfl (lv_at hl 1 rfl) ?_
    refine lv_aload_n hx hb dL_law_229 rfl (lv_at hl 0 rfl) ?_
    refine lv_iload_n hx hb dL_law_230 rfl (lv_at hl 3 rfl) ?_
    refine lv_iconst (v := (1 : Int32)) hx hb dL_law_231 (by decide) ?_
    refine lv_iadd hx hb dL_law_232 ?_
    refine va_sld hx hb hX hbl hbA hS h1 dL_law_233 ?_
    refine lv_aload_n hx hb dL_law_234 rfl (lv_at hl 0 rfl) ?_
    refine lv_iload_n hx hb dL_law_235 rfl (lv_at hl 3 rfl) ?_
    refine lv_iconst (v := (2 : Int32)) hx hb dL_law_236 (by decide) ?_
    refine lv_iadd hx hb dL_law_237 ?_
    refine va_sld hx hb hX hbl hbA hS h2 dL_law_238 ?_
    refine k7_foe K hl.1 hS hP hD e1 (fun H locs hP hD hS => ?_)
    refine lv_aload_n hx hb dL_law_242 rfl (lv_at hl 2 rfl) ?_
    refine lv_aload_n hx hb dL_law_243 rfl (lv_at hl 0 rfl) ?_
    refine lv_iload_n hx hb dL_law_244 rfl (lv_at hl 3 rfl) ?_
    refine lv_iconst (v := (1 : Int32)) hx hb dL_law_245 (by decide) ?_
    refine lv_iadd hx hb dL_law_246 ?_
    refine va_sld hx hb hX hbl hbA hS h1 dL_law_247 ?_
    refine lv_aload_n hx hb dL_law_248 rfl (lv_at hl 0 rfl) ?_
    refine lv_iload_n hx hb dL_law_249 rfl (lv_at hl 3 rfl) ?_
    refine lv_iconst (v := (2 : Int32)) hx hb dL_law_250 (by decide) ?_
    refine lv_iadd hx hb dL_law_251 ?_
    refine va_sld hx hb hX hbl hbA hS h2 dL_law_252 ?_
    refine k8_foe K hl.1 hS hP hD e2 (fun H locs hP hD hS => ?_)
    refine lv_icmp_eq (tgt := 907) hx hb dL_law_256 (by decide) (fun _ => ?_) (fun h => absurd rfl h)
    exact kk H locs hS (IV_mk hh ah w h rl st ki ro opn kyc gc sp a k t ov ps ik ks ko kl kq ra rk rt rov rp qd cq ccf cpr len crow cn cl sn sc sa sb Hh Aa rn fr to ne gi ti od fa ft br rfa rft gr gt pr kn scn pc ch sd il sr sT fe d1 d2 d3 rq rcf rcb rs rrow nN nX fD Cr ⟨g1, g2, g3, g4, g5, g6, g7, g8⟩ hP hD)
  · refine lv_aload_n hx hb dL_law_228 rfl (lv_at hl 1 rfl) ?_
    refine lv_aload_n hx hb dL_law_229 rfl (lv_at hl 0 rfl) ?_
    refine lv_iload_n hx hb dL_law_230 rfl (lv_at hl 3 rfl) ?_
    refine lv_iconst (v := (1 : Int32)) hx hb dL_law_231 (by decide) ?_
    refine lv_iadd hx hb dL_law_232 ?_
    refine va_sld hx hb hX hbl hbA hS h1 dL_law_233 ?_
    refine lv_aload_n hx hb dL_law_234 rfl (lv_at hl 0 rfl) ?_
    refine lv_iload_n hx hb dL_law_235 rfl (lv_at hl 3 rfl) ?_
    refine lv_iconst (v := (2 : Int32)) hx hb dL_law_236 (by decide) ?_
    refine lv_iadd hx hb dL_law_237 ?_
    refine va_sld hx hb hX hbl hbA hS h2 dL_law_238 ?_
    refine k7_foe K hl.1 hS hP hD e1 (fun H locs hP hD hS => ?_)
    refine lv_aload_n hx hb dL_law_242 rfl (lv_at hl 2 rfl) ?_
    refine lv_aload_n hx hb dL_law_243 rfl (lv_at hl 0 rfl) ?_
    refine lv_iload_n hx hb dL_law_244 rfl (lv_at hl 3 rfl) ?_
    refine lv_iconst (v := (1 : Int32)) hx hb dL_law_245 (by decide) ?_
    refine lv_iadd hx hb dL_law_246 ?_
    refine va_sld hx hb hX hbl hbA hS h1 dL_law_247 ?_
    refine lv_aload_n hx hb dL_law_248 rfl (lv_at hl 0 rfl) ?_
    refine lv_iload_n hx hb dL_law_249 rfl (lv_at hl 3 rfl) ?_
    refine lv_iconst (v := (2 : Int32)) hx hb dL_law_250 (by decide) ?_
    refine lv_iadd hx hb dL_law_251 ?_
    refine va_sld hx hb hX hbl hbA hS h2 dL_law_252 ?_
    refine k8_foe K hl.1 hS hP hD e2 (fun H locs hP hD hS => ?_)
    refine lv_icmp_eq (tgt := 907) hx hb dL_law_256 (by decide) (fun _ => ?_) (fun h => absurd rfl h)
    exact kk H locs hS (IV_mk hh ah w h (rl + 1) st ki (nu ro rl c2) opn kyc gc (nI st) st 0 0 0 ps (z4 ik) ks ko kl kq ra rk rt rov rp qd cq ccf cpr len crow cn cl sn sc sa sb Hh Aa rn fr to ne gi ti od fa ft br rfa rft gr gt pr kn scn pc ch sd il sr sT fe d1 d2 d3 rq rcf rcb rs rrow nN nX fD Cr ⟨⟨⟨g1.1.1, g1.1.2.1, q2, g1.1.2.2.2.1, fun j => (by unfold nu; split; exact q1; exact g1.1.2.2.2.2 j)⟩, g1.2.1, g1.2.2⟩, ⟨by rw [Nat.mul_zero, Nat.zero_add], ⟨g1.2.1, by omega, by omega, by omega⟩, g2.2.2⟩, ⟨g3.1, fun p hp => ⟨(g3.2 p hp).1, .inl (if_pos hp)⟩⟩, g4, g5, g6, g7, g8⟩ hP hD)
set_option maxHeartbeats 4000000 in
set_option maxRecDepth 100000 in
theorem case_start {p : Program} {l : Launch} {e : Env} {s : State} {m : MethodId} {below : List Frame} {meth : Method} {c : Code} {b L : Nat} {xs : Nat → Int32} (hX : va_X b L xs s s.heap) (hbl : b < s.heap.size) {D : va_G} {cI cJ cZ cR cN : ClassId} {tX tY : Nat} (K : LK p s m c b D cI cJ cZ cR cN tX tY) {Q : State → Prop} {ad ac ar : Nat → Nat} {F : Nat} (hF : 10000000 ≤ F) (hL : L ≤ 4608) {H : Heap} {locs : List Loc} {ls : Array Slot} {i : Nat} (hi : i + 9 ≤ L) (hl : lv_has ls 4 [(0, .ref b), (1, .ref (ac 0)), (2, .ref (ar 0)), (3, .int (nI i))]) (hS : va_S (fun q : Nat => s.heap.size ≤ q) s.heap H locs) {hh : Nat} {ah : Nat} {w : Nat} {h : Nat} {rl : Nat} {st : Nat} {ki : Nat → Nat} {ro : Nat → Nat} {opn : Nat → Int64} {kyc : Nat → Int64} {gc : Int64} {sp : Int32} {a : Nat} {k : Nat} {t : Nat} {ov : Nat} {ps : Nat → Nat} {ik : Nat → Int32} {ks : Nat → Int32} {ko : Nat → Int32} {kl : Nat → Int32} {kq : Nat → Nat → Nat} {ra : Nat → Int32} {rk : Nat → Int32} {rt : Nat → Int32} {rov : Nat → Int32} {rp : Nat → Int32} {qd : Int32} {cq : Nat → Int32} {ccf : Nat → Int32} {cpr : Nat → Int32} {len : Nat} {crow : Nat → Int32} {cn : Nat} {cl : Nat → Nat} {sn : Nat} {sc : Nat → Nat} {sa : Nat → Nat} {sb : Nat → Nat} {Hh : Nat → Int64} {Aa : Nat → Int64} {rn : Nat} {fr : Nat → Nat} {to : Nat → Nat} {ne : Nat → Nat} {gi : Nat → Nat} {ti : Nat → Nat} {od : Nat → Nat} {fa : Nat → Nat} {ft : Nat → Nat} {br : Nat → Nat} {rfa : Nat → Int32} {rft : Nat → Int32} {gr : Nat} {gt : Nat} {pr : Nat} {kn : Nat} {scn : Nat} {pc : Nat} {ch : Nat → Int32} {sd : Nat → Nat} {il : Nat → Int32} {sr : Nat → Nat} {sT : Nat → Nat} {fe : Nat → Nat} {d1 : Int32} {d2 : Int32} {d3 : Int32} {rq : Nat → Int32} {rcf : Nat → Int32} {rcb : Nat → Int32} {rs : Nat → Int32} {rrow : Nat → Int32} {nN : Nat → Int32} {nX : Nat → Int32} {fD : Nat → Nat} {Cr : Nat → Int32} (g : PV w h rl st ki ro opn kyc gc sp a k t ov ps ik ks ko kl kq ra rk rt rov rp len crow cn cl sn sc sa sb rn fr to ne gi ti od fa ft br rfa rft gr gt pr kn scn pc ch sd il sr sT rrow) (hP : va_P D vwCl ((wC cI cJ cZ cR cN ad ac hh ah gc (nI w) (nI h) (nI rl) (nI st) (fun j => nI (ki j)) opn kyc (fun j => nI (ro j)) sp (nI ov) (nI t) (fun j => nI (ps j)) ks ko kl (fun p j => nI (kq p j)) ik qd cq ccf cpr (nI len) crow (nI cn) (fun j => nI (cl j)) (nI sn) (fun j => nI (sc j)) (fun j => nI (sa j)) (fun j => nI (sb j)) Hh Aa (nI rn) (nI gr) (nI gt) (nI pr) (nI kn) (nI scn) (nI pc) (fun j => e1 (fe j)) ch (fun j => nI (sd j)) il (fun j => nI (sr j)) (fun j => nI (sT j)) ++ fr_pool ad (fun j => nI (fr j)) (fun j => nI (to j)) (fun j => nI (ne j)) (fun j => nI (gi j)) (fun j => nI (ti j)) (fun j => nI (od j)) (fun j => nI (fa j)) (fun j => nI (ft j)) (fun j => nI (br j))) ++ wR cI cZ ar (nI w) (nI h) (nI rl) (nI st) (nI a) (nI k) (nI t) (nI ov) d1 d2 d3 (nI len) (nI cn) (nI sn) (nI rn) (nI gr) (nI gt) (nI pr) (fun j => nI (ki j)) (fun j => nI (ro j)) (fun j => nI (ps j)) ik ra rk rt rov rp rq rcf rcb rs rrow (fun j => nI (cl j)) (fun j => nI (sc j)) (fun j => nI (sa j)) (fun j => nI (sb j)) nN nX (fun j => nI (fr j)) (fun j => nI (to j)) (fun j => nI (ne j)) (fun j => nI (gi j)) (fun j => nI (ti j)) (fun j => nI (od j)) rfa rft (fun j => nI (br j)) (fun j => e1 (fD j)) Cr) H) (hD : va_D (fun q : Nat => s.heap.size ≤ q) ((wC cI cJ cZ cR cN ad ac hh ah gc (nI w) (nI h) (nI rl) (nI st) (fun j => nI (ki j)) opn kyc (fun j => nI (ro j)) sp (nI ov) (nI t) (fun j => nI (ps j)) ks ko kl (fun p j => nI (kq p j)) ik qd cq ccf cpr (nI len) crow (nI cn) (fun j => nI (cl j)) (nI sn) (fun j => nI (sc j)) (fun j => nI (sa j)) (fun j => nI (sb j)) Hh Aa (nI rn) (nI gr) (nI gt) (nI pr) (nI kn) (nI scn) (nI pc) (fun j => e1 (fe j)) ch (fun j => nI (sd j)) il (fun j => nI (sr j)) (fun j => nI (sT j)) ++ fr_pool ad (fun j => nI (fr j)) (fun j => nI (to j)) (fun j => nI (ne j)) (fun j => nI (gi j)) (fun j => nI (ti j)) (fun j => nI (od j)) (fun j => nI (fa j)) (fun j => nI (ft j)) (fun j => nI (br j))) ++ wR cI cZ ar (nI w) (nI h) (nI rl) (nI st) (nI a) (nI k) (nI t) (nI ov) d1 d2 d3 (nI len) (nI cn) (nI sn) (nI rn) (nI gr) (nI gt) (nI pr) (fun j => nI (ki j)) (fun j => nI (ro j)) (fun j => nI (ps j)) ik ra rk rt rov rp rq rcf rcb rs rrow (fun j => nI (cl j)) (fun j => nI (sc j)) (fun j => nI (sa j)) (fun j => nI (sb j)) nN nX (fun j => nI (fr j)) (fun j => nI (to j)) (fun j => nI (ne j)) (fun j => nI (gi j)) (fun j => nI (ti j)) (fun j => nI (od j)) rfa rft (fun j => nI (br j)) (fun j => e1 (fD j)) Cr)) (kk : ∀ (H : Heap) (locs : List Loc), va_S (fun q : Nat => s.heap.size ≤ q) s.heap H locs → IV D cI cJ cZ cR cN ad ac ar (fun q : Nat => s.heap.size ≤ q) H → W p l e room_1 s m #[Value.ref b] below meth c H locs 117 139158 Q (F0 m 907 ls [])) : W p l e room_1 s m #[Value.ref b] below meth c H locs 117 139158 Q (F0 m 261 ls []) := by
  have K0 := K
  obtain ⟨hx, hb, hml, hown, hts, hcx, hst⟩ := K0
  have hbA : ¬ (fun q : Nat => s.heap.size ≤ q) b := Nat.not_le.mpr hbl
  have h1 : vp_in (nI i + (1 : Int32)) L := by
    show vp_in (nI i + nI 1) L
    rw [nI_add]; exact vp_in_nI (by omega) (by omega)
  have h2 : vp_in (nI i + (2 : Int32)) L := by
    show vp_in (nI i + nI 2) L
    rw [nI_add]; exact vp_in_nI (by omega) (by omega)
  obtain ⟨g1, g2, g3, g4, g5, g6, g7, g8⟩ := g
  rcases b_start (w := w) (h := h) (st := st) hF g1.1.1.2 g1.1.2.1.2 (xs (nI i + (1 : Int32)).toNatClampNeg) (xs (nI i + (2 : Int32)).toNatClampNeg) sp (nI ov) (nI t) (nI a) (nI k) (nI t) (nI ov) ik with ⟨e1, e2⟩ | ⟨c2, q1, q2, e1, e2⟩
  · refine lv_aload_n hx hb dL_law_261 rfl (lv_at hl 1 rfl) ?_
    refine lv_aload_n hx hb dL_law_262 rfl (lv_at hl 0 rfl) ?_
    refine lv_iload_n hx hb dL_law_263 rfl (lv_at hl 3 rfl) ?_
    refine lv_iconst (v := (1 : Int32)) hx hb dL_law_264 (by decide) ?_
    refine lv_iadd hx hb dL_law_265 ?_
    refine va_sld hx hb hX hbl hbA hS h1 dL_law_266 ?_
    refine lv_aload_n hx hb dL_law_267 rfl (lv_at hl 0 rfl) ?_
    refine lv_iload_n hx hb dL_law_268 rfl (lv_at hl 3 rfl) ?_
    refine lv_iconst (v := (2 : Int32)) hx hb dL_law_269 (by decide) ?_
    refine lv_iadd hx hb dL_law_270 ?_
    refine va_sld hx hb hX hbl hbA hS h2 dL_law_271 ?_
    refine k7_start K hl.1 hS hP hD e1 (fun H locs hP hD hS => ?_)
    refine lv_aload_n hx hb dL_law_275 rfl (lv_at hl 2 rfl) ?_
    refine lv_aload_n hx hb dL_law_276 rfl (lv_at hl 0 rfl) ?_
    refine lv_iload_n hx hb dL_law_277 rfl (lv_at hl 3 rfl) ?_
    refine lv_iconst (v := (1 : Int32)) hx hb dL_law_278 (by decide) ?_
    refine lv_iadd hx hb dL_law_279 ?_
    refine va_sld hx hb hX hbl hbA hS h1 dL_law_280 ?_
    refine lv_aload_n hx hb dL_law_281 rfl (lv_at hl 0 rfl) ?_
    refine lv_iload_n hx hb dL_law_282 rfl (lv_at hl 3 rfl) ?_
    refine lv_iconst (v := (2 : Int32)) hx hb dL_law_283 (by decide) ?_
    refine lv_iadd hx hb dL_law_284 ?_
    refine va_sld hx hb hX hbl hbA hS h2 dL_law_285 ?_
    refine k8_start K hl.1 hS hP hD e2 (fun H locs hP hD hS => ?_)
    refine lv_icmp_eq (tgt := 907) hx hb dL_law_289 (by decide) (fun _ => ?_) (fun h => absurd rfl h)
    exact kk H locs hS (IV_mk hh ah w h rl st ki ro opn kyc gc sp a k t ov ps ik ks ko kl kq ra rk rt rov rp qd cq ccf cpr len crow cn cl sn sc sa sb Hh Aa rn fr to ne gi ti od fa ft br rfa rft gr gt pr kn scn pc ch sd il sr sT fe d1 d2 d3 rq rcf rcb rs rrow nN nX fD Cr ⟨g1, g2, g3, g4, g5, g6, g7, g8⟩ hP hD)
  · refine lv_aload_n hx hb dL_law_261 rfl (lv_at hl 1 rfl) ?_
    refine lv_aload_n hx hb dL_law_262 rfl (lv_at hl 0 rfl) ?_
    refine lv_iload_n hx hb dL_law_263 rfl (lv_at hl 3 rfl) ?_
    refine lv_iconst (v := (1 : Int32)) hx hb dL_law_264 (by decide) ?_
    refine lv_iadd hx hb dL_law_265 ?_
    refine va_sld hx hb hX hbl hbA hS h1 dL_law_266 ?_
    refine lv_aload_n hx hb dL_law_267 rfl (lv_at hl 0 rfl) ?_
    refine lv_iload_n hx hb dL_law_268 rfl (lv_at hl 3 rfl) ?_
    refine lv_iconst (v := (2 : Int32)) hx hb dL_law_269 (by decide) ?_
    refine lv_iadd hx hb dL_law_270 ?_
    refine va_sld hx hb hX hbl hbA hS h2 dL_law_271 ?_
    refine k7_start K hl.1 hS hP hD e1 (fun H locs hP hD hS => ?_)
    refine lv_aload_n hx hb dL_law_275 rfl (lv_at hl 2 rfl) ?_
    refine lv_aload_n hx hb dL_law_276 rfl (lv_at hl 0 rfl) ?_
    refine lv_iload_n hx hb dL_law_277 rfl (lv_at hl 3 rfl) ?_
    refine lv_iconst (v := (1 : Int32)) hx hb dL_law_278 (by decide) ?_
    refine lv_iadd hx hb dL_law_279 ?_
    refine va_sld hx hb hX hbl hbA hS h1 dL_law_280 ?_
    refine lv_aload_n hx hb dL_law_281 rfl (lv_at hl 0 rfl) ?_
    refine lv_iload_n hx hb dL_law_282 rfl (lv_at hl 3 rfl) ?_
    refine lv_iconst (v := (2 : Int32)) hx hb dL_law_283 (by decide) ?_
    refine lv_iadd hx hb dL_law_284 ?_
    refine va_sld hx hb hX hbl hbA hS h2 dL_law_285 ?_
    refine k8_start K hl.1 hS hP hD e2 (fun H locs hP hD hS => ?_)
    refine lv_icmp_eq (tgt := 907) hx hb dL_law_289 (by decide) (fun _ => ?_) (fun h => absurd rfl h)
    exact kk H locs hS (IV_mk hh ah w h rl c2 ki ro opn kyc gc (nI c2) c2 0 0 0 ps (z4 ik) ks ko kl kq ra rk rt rov rp qd cq ccf cpr len crow cn cl sn sc sa sb Hh Aa rn fr to ne gi ti od fa ft br rfa rft gr gt pr kn scn pc ch sd il sr sT fe d1 d2 d3 rq rcf rcb rs rrow nN nX fD Cr ⟨⟨g1.1, q1, g1.2.2⟩, ⟨by rw [Nat.mul_zero, Nat.zero_add], ⟨q1, by omega, by omega, by omega⟩, g2.2.2⟩, ⟨g3.1, fun p hp => ⟨(g3.2 p hp).1, .inl (if_pos hp)⟩⟩, g4, g5, g6, g7, g8⟩ hP hD)
set_option maxHeartbeats 4000000 in
set_option maxRecDepth 100000 in
theorem case_press {p : Program} {l : Launch} {e : Env} {s : State} {m : MethodId} {below : List Frame} {meth : Method} {c : Code} {b L : Nat} {xs : Nat → Int32} (hX : va_X b L xs s s.heap) (hbl : b < s.heap.size) {D : va_G} {cI cJ cZ cR cN : ClassId} {tX tY : Nat} (K : LK p s m c b D cI cJ cZ cR cN tX tY) {Q : State → Prop} {ad ac ar : Nat → Nat} {F : Nat} (hF : 10000000 ≤ F) (hL : L ≤ 4608) {H : Heap} {locs : List Loc} {ls : Array Slot} {i : Nat} (hi : i + 9 ≤ L) (hl : lv_has ls 4 [(0, .ref b), (1, .ref (ac 0)), (2, .ref (ar 0)), (3, .int (nI i))]) (hS : va_S (fun q : Nat => s.heap.size ≤ q) s.heap H locs) {hh : Nat} {ah : Nat} {w : Nat} {h : Nat} {rl : Nat} {st : Nat} {ki : Nat → Nat} {ro : Nat → Nat} {opn : Nat → Int64} {kyc : Nat → Int64} {gc : Int64} {sp : Int32} {a : Nat} {k : Nat} {t : Nat} {ov : Nat} {ps : Nat → Nat} {ik : Nat → Int32} {ks : Nat → Int32} {ko : Nat → Int32} {kl : Nat → Int32} {kq : Nat → Nat → Nat} {ra : Nat → Int32} {rk : Nat → Int32} {rt : Nat → Int32} {rov : Nat → Int32} {rp : Nat → Int32} {qd : Int32} {cq : Nat → Int32} {ccf : Nat → Int32} {cpr : Nat → Int32} {len : Nat} {crow : Nat → Int32} {cn : Nat} {cl : Nat → Nat} {sn : Nat} {sc : Nat → Nat} {sa : Nat → Nat} {sb : Nat → Nat} {Hh : Nat → Int64} {Aa : Nat → Int64} {rn : Nat} {fr : Nat → Nat} {to : Nat → Nat} {ne : Nat → Nat} {gi : Nat → Nat} {ti : Nat → Nat} {od : Nat → Nat} {fa : Nat → Nat} {ft : Nat → Nat} {br : Nat → Nat} {rfa : Nat → Int32} {rft : Nat → Int32} {gr : Nat} {gt : Nat} {pr : Nat} {kn : Nat} {scn : Nat} {pc : Nat} {ch : Nat → Int32} {sd : Nat → Nat} {il : Nat → Int32} {sr : Nat → Nat} {sT : Nat → Nat} {fe : Nat → Nat} {d1 : Int32} {d2 : Int32} {d3 : Int32} {rq : Nat → Int32} {rcf : Nat → Int32} {rcb : Nat → Int32} {rs : Nat → Int32} {rrow : Nat → Int32} {nN : Nat → Int32} {nX : Nat → Int32} {fD : Nat → Nat} {Cr : Nat → Int32} (g : PV w h rl st ki ro opn kyc gc sp a k t ov ps ik ks ko kl kq ra rk rt rov rp len crow cn cl sn sc sa sb rn fr to ne gi ti od fa ft br rfa rft gr gt pr kn scn pc ch sd il sr sT rrow) (hP : va_P D vwCl ((wC cI cJ cZ cR cN ad ac hh ah gc (nI w) (nI h) (nI rl) (nI st) (fun j => nI (ki j)) opn kyc (fun j => nI (ro j)) sp (nI ov) (nI t) (fun j => nI (ps j)) ks ko kl (fun p j => nI (kq p j)) ik qd cq ccf cpr (nI len) crow (nI cn) (fun j => nI (cl j)) (nI sn) (fun j => nI (sc j)) (fun j => nI (sa j)) (fun j => nI (sb j)) Hh Aa (nI rn) (nI gr) (nI gt) (nI pr) (nI kn) (nI scn) (nI pc) (fun j => e1 (fe j)) ch (fun j => nI (sd j)) il (fun j => nI (sr j)) (fun j => nI (sT j)) ++ fr_pool ad (fun j => nI (fr j)) (fun j => nI (to j)) (fun j => nI (ne j)) (fun j => nI (gi j)) (fun j => nI (ti j)) (fun j => nI (od j)) (fun j => nI (fa j)) (fun j => nI (ft j)) (fun j => nI (br j))) ++ wR cI cZ ar (nI w) (nI h) (nI rl) (nI st) (nI a) (nI k) (nI t) (nI ov) d1 d2 d3 (nI len) (nI cn) (nI sn) (nI rn) (nI gr) (nI gt) (nI pr) (fun j => nI (ki j)) (fun j => nI (ro j)) (fun j => nI (ps j)) ik ra rk rt rov rp rq rcf rcb rs rrow (fun j => nI (cl j)) (fun j => nI (sc j)) (fun j => nI (sa j)) (fun j => nI (sb j)) nN nX (fun j => nI (fr j)) (fun j => nI (to j)) (fun j => nI (ne j)) (fun j => nI (gi j)) (fun j => nI (ti j)) (fun j => nI (od j)) rfa rft (fun j => nI (br j)) (fun j => e1 (fD j)) Cr) H) (hD : va_D (fun q : Nat => s.heap.size ≤ q) ((wC cI cJ cZ cR cN ad ac hh ah gc (nI w) (nI h) (nI rl) (nI st) (fun j => nI (ki j)) opn kyc (fun j => nI (ro j)) sp (nI ov) (nI t) (fun j => nI (ps j)) ks ko kl (fun p j => nI (kq p j)) ik qd cq ccf cpr (nI len) crow (nI cn) (fun j => nI (cl j)) (nI sn) (fun j => nI (sc j)) (fun j => nI (sa j)) (fun j => nI (sb j)) Hh Aa (nI rn) (nI gr) (nI gt) (nI pr) (nI kn) (nI scn) (nI pc) (fun j => e1 (fe j)) ch (fun j => nI (sd j)) il (fun j => nI (sr j)) (fun j => nI (sT j)) ++ fr_pool ad (fun j => nI (fr j)) (fun j => nI (to j)) (fun j => nI (ne j)) (fun j => nI (gi j)) (fun j => nI (ti j)) (fun j => nI (od j)) (fun j => nI (fa j)) (fun j => nI (ft j)) (fun j => nI (br j))) ++ wR cI cZ ar (nI w) (nI h) (nI rl) (nI st) (nI a) (nI k) (nI t) (nI ov) d1 d2 d3 (nI len) (nI cn) (nI sn) (nI rn) (nI gr) (nI gt) (nI pr) (fun j => nI (ki j)) (fun j => nI (ro j)) (fun j => nI (ps j)) ik ra rk rt rov rp rq rcf rcb rs rrow (fun j => nI (cl j)) (fun j => nI (sc j)) (fun j => nI (sa j)) (fun j => nI (sb j)) nN nX (fun j => nI (fr j)) (fun j => nI (to j)) (fun j => nI (ne j)) (fun j => nI (gi j)) (fun j => nI (ti j)) (fun j => nI (od j)) rfa rft (fun j => nI (br j)) (fun j => e1 (fD j)) Cr)) (kk : ∀ (H : Heap) (locs : List Loc), va_S (fun q : Nat => s.heap.size ≤ q) s.heap H locs → IV D cI cJ cZ cR cN ad ac ar (fun q : Nat => s.heap.size ≤ q) H → W p l e room_1 s m #[Value.ref b] below meth c H locs 117 139158 Q (F0 m 907 ls [])) : W p l e room_1 s m #[Value.ref b] below meth c H locs 117 139158 Q (F0 m 294 ls []) := by
  have K0 := K
  obtain ⟨hx, hb, hml, hown, hts, hcx, hst⟩ := K0
  have hbA : ¬ (fun q : Nat => s.heap.size ≤ q) b := Nat.not_le.mpr hbl
  have h1 : vp_in (nI i + (1 : Int32)) L := by
    show vp_in (nI i + nI 1) L
    rw [nI_add]; exact vp_in_nI (by omega) (by omega)
  obtain ⟨g1, g2, g3, g4, g5, g6, g7, g8⟩ := g
  obtain ⟨r, a2, k2, t2, ov2, ps2, f1, f2, f3, q1, q2, e1, e2⟩ := b_press g1.1 g2.2.1 g2.2.2 (xs (nI i + (1 : Int32)).toNatClampNeg) d1 d2 d3
  rw [← g2.1] at e1
  refine lv_aload_n hx hb dL_law_294 rfl (lv_at hl 1 rfl) ?_
  refine lv_aload_n hx hb dL_law_295 rfl (lv_at hl 0 rfl) ?_
  refine lv_iload_n hx hb dL_law_296 rfl (lv_at hl 3 rfl) ?_
  refine lv_iconst (v := (1 : Int32)) hx hb dL_law_297 (by decide) ?_
  refine lv_iadd hx hb dL_law_298 ?_
  refine va_sld hx hb hX hbl hbA hS h1 dL_law_299 ?_
  refine k7_press K hl.1 hS hP hD e1 (fun H locs hP hD hS => ?_)
  refine lv_aload_n hx hb dL_law_303 rfl (lv_at hl 2 rfl) ?_
  refine lv_aload_n hx hb dL_law_304 rfl (lv_at hl 0 rfl) ?_
  refine lv_iload_n hx hb dL_law_305 rfl (lv_at hl 3 rfl) ?_
  refine lv_iconst (v := (1 : Int32)) hx hb dL_law_306 (by decide) ?_
  refine lv_iadd hx hb dL_law_307 ?_
  refine va_sld hx hb hX hbl hbA hS h1 dL_law_308 ?_
  refine k8_press K hl.1 hS hP hD e2 (fun H locs hP hD hS => ?_)
  refine lv_icmp_eq (tgt := 907) hx hb dL_law_312 (by decide) (fun _ => ?_) (fun h => absurd rfl h)
  exact kk H locs hS (IV_mk hh ah w h rl st ki ro opn kyc gc (nI (64 * k2 + a2)) a2 k2 t2 ov2 ps2 ik ks ko kl kq ra rk rt rov rp qd cq ccf cpr len crow cn cl sn sc sa sb Hh Aa rn fr to ne gi ti od fa ft br rfa rft gr gt pr kn scn pc ch sd il sr sT fe f1 f2 f3 rq rcf rcb rs rrow nN nX fD Cr ⟨g1, ⟨rfl, q1, q2⟩, g3, g4, g5, g6, g7, g8⟩ hP hD)
set_option maxHeartbeats 4000000 in
set_option maxRecDepth 100000 in
theorem case_state {p : Program} {l : Launch} {e : Env} {s : State} {m : MethodId} {below : List Frame} {meth : Method} {c : Code} {b L : Nat} {xs : Nat → Int32} (hX : va_X b L xs s s.heap) (hbl : b < s.heap.size) {D : va_G} {cI cJ cZ cR cN : ClassId} {tX tY : Nat} (K : LK p s m c b D cI cJ cZ cR cN tX tY) {Q : State → Prop} {ad ac ar : Nat → Nat} {F : Nat} (hF : 10000000 ≤ F) (hL : L ≤ 4608) {H : Heap} {locs : List Loc} {ls : Array Slot} {i : Nat} (hi : i + 9 ≤ L) (hl : lv_has ls 4 [(0, .ref b), (1, .ref (ac 0)), (2, .ref (ar 0)), (3, .int (nI i))]) (hS : va_S (fun q : Nat => s.heap.size ≤ q) s.heap H locs) {hh : Nat} {ah : Nat} {w : Nat} {h : Nat} {rl : Nat} {st : Nat} {ki : Nat → Nat} {ro : Nat → Nat} {opn : Nat → Int64} {kyc : Nat → Int64} {gc : Int64} {sp : Int32} {a : Nat} {k : Nat} {t : Nat} {ov : Nat} {ps : Nat → Nat} {ik : Nat → Int32} {ks : Nat → Int32} {ko : Nat → Int32} {kl : Nat → Int32} {kq : Nat → Nat → Nat} {ra : Nat → Int32} {rk : Nat → Int32} {rt : Nat → Int32} {rov : Nat → Int32} {rp : Nat → Int32} {qd : Int32} {cq : Nat → Int32} {ccf : Nat → Int32} {cpr : Nat → Int32} {len : Nat} {crow : Nat → Int32} {cn : Nat} {cl : Nat → Nat} {sn : Nat} {sc : Nat → Nat} {sa : Nat → Nat} {sb : Nat → Nat} {Hh : Nat → Int64} {Aa : Nat → Int64} {rn : Nat} {fr : Nat → Nat} {to : Nat → Nat} {ne : Nat → Nat} {gi : Nat → Nat} {ti : Nat → Nat} {od : Nat → Nat} {fa : Nat → Nat} {ft : Nat → Nat} {br : Nat → Nat} {rfa : Nat → Int32} {rft : Nat → Int32} {gr : Nat} {gt : Nat} {pr : Nat} {kn : Nat} {scn : Nat} {pc : Nat} {ch : Nat → Int32} {sd : Nat → Nat} {il : Nat → Int32} {sr : Nat → Nat} {sT : Nat → Nat} {fe : Nat → Nat} {d1 : Int32} {d2 : Int32} {d3 : Int32} {rq : Nat → Int32} {rcf : Nat → Int32} {rcb : Nat → Int32} {rs : Nat → Int32} {rrow : Nat → Int32} {nN : Nat → Int32} {nX : Nat → Int32} {fD : Nat → Nat} {Cr : Nat → Int32} (g : PV w h rl st ki ro opn kyc gc sp a k t ov ps ik ks ko kl kq ra rk rt rov rp len crow cn cl sn sc sa sb rn fr to ne gi ti od fa ft br rfa rft gr gt pr kn scn pc ch sd il sr sT rrow) (hP : va_P D vwCl ((wC cI cJ cZ cR cN ad ac hh ah gc (nI w) (nI h) (nI rl) (nI st) (fun j => nI (ki j)) opn kyc (fun j => nI (ro j)) sp (nI ov) (nI t) (fun j => nI (ps j)) ks ko kl (fun p j => nI (kq p j)) ik qd cq ccf cpr (nI len) crow (nI cn) (fun j => nI (cl j)) (nI sn) (fun j => nI (sc j)) (fun j => nI (sa j)) (fun j => nI (sb j)) Hh Aa (nI rn) (nI gr) (nI gt) (nI pr) (nI kn) (nI scn) (nI pc) (fun j => e1 (fe j)) ch (fun j => nI (sd j)) il (fun j => nI (sr j)) (fun j => nI (sT j)) ++ fr_pool ad (fun j => nI (fr j)) (fun j => nI (to j)) (fun j => nI (ne j)) (fun j => nI (gi j)) (fun j => nI (ti j)) (fun j => nI (od j)) (fun j => nI (fa j)) (fun j => nI (ft j)) (fun j => nI (br j))) ++ wR cI cZ ar (nI w) (nI h) (nI rl) (nI st) (nI a) (nI k) (nI t) (nI ov) d1 d2 d3 (nI len) (nI cn) (nI sn) (nI rn) (nI gr) (nI gt) (nI pr) (fun j => nI (ki j)) (fun j => nI (ro j)) (fun j => nI (ps j)) ik ra rk rt rov rp rq rcf rcb rs rrow (fun j => nI (cl j)) (fun j => nI (sc j)) (fun j => nI (sa j)) (fun j => nI (sb j)) nN nX (fun j => nI (fr j)) (fun j => nI (to j)) (fun j => nI (ne j)) (fun j => nI (gi j)) (fun j => nI (ti j)) (fun j => nI (od j)) rfa rft (fun j => nI (br j)) (fun j => e1 (fD j)) Cr) H) (hD : va_D (fun q : Nat => s.heap.size ≤ q) ((wC cI cJ cZ cR cN ad ac hh ah gc (nI w) (nI h) (nI rl) (nI st) (fun j => nI (ki j)) opn kyc (fun j => nI (ro j)) sp (nI ov) (nI t) (fun j => nI (ps j)) ks ko kl (fun p j => nI (kq p j)) ik qd cq ccf cpr (nI len) crow (nI cn) (fun j => nI (cl j)) (nI sn) (fun j => nI (sc j)) (fun j => nI (sa j)) (fun j => nI (sb j)) Hh Aa (nI rn) (nI gr) (nI gt) (nI pr) (nI kn) (nI scn) (nI pc) (fun j => e1 (fe j)) ch (fun j => nI (sd j)) il (fun j => nI (sr j)) (fun j => nI (sT j)) ++ fr_pool ad (fun j => nI (fr j)) (fun j => nI (to j)) (fun j => nI (ne j)) (fun j => nI (gi j)) (fun j => nI (ti j)) (fun j => nI (od j)) (fun j => nI (fa j)) (fun j => nI (ft j)) (fun j => nI (br j))) ++ wR cI cZ ar (nI w) (nI h) (nI rl) (nI st) (nI a) (nI k) (nI t) (nI ov) d1 d2 d3 (nI len) (nI cn) (nI sn) (nI rn) (nI gr) (nI gt) (nI pr) (fun j => nI (ki j)) (fun j => nI (ro j)) (fun j => nI (ps j)) ik ra rk rt rov rp rq rcf rcb rs rrow (fun j => nI (cl j)) (fun j => nI (sc j)) (fun j => nI (sa j)) (fun j => nI (sb j)) nN nX (fun j => nI (fr j)) (fun j => nI (to j)) (fun j => nI (ne j)) (fun j => nI (gi j)) (fun j => nI (ti j)) (fun j => nI (od j)) rfa rft (fun j => nI (br j)) (fun j => e1 (fD j)) Cr)) (kk : ∀ (H : Heap) (locs : List Loc), va_S (fun q : Nat => s.heap.size ≤ q) s.heap H locs → IV D cI cJ cZ cR cN ad ac ar (fun q : Nat => s.heap.size ≤ q) H → W p l e room_1 s m #[Value.ref b] below meth c H locs 117 139158 Q (F0 m 907 ls [])) : W p l e room_1 s m #[Value.ref b] below meth c H locs 117 139158 Q (F0 m 317 ls []) := by
  have K0 := K
  obtain ⟨hx, hb, hml, hown, hts, hcx, hst⟩ := K0
  have hbA : ¬ (fun q : Nat => s.heap.size ≤ q) b := Nat.not_le.mpr hbl
  have h1 : vp_in (nI i + (1 : Int32)) L := by
    show vp_in (nI i + nI 1) L
    rw [nI_add]; exact vp_in_nI (by omega) (by omega)
  obtain ⟨g1, g2, g3, g4, g5, g6, g7, g8⟩ := g
  obtain ⟨r, e1, e2⟩ := b_state g1.1 g2.2.1 (xs (nI i + (1 : Int32)).toNatClampNeg)
  rw [← g2.1] at e1
  refine lv_aload_n hx hb dL_law_317 rfl (lv_at hl 1 rfl) ?_
  refine lv_aload_n hx hb dL_law_318 rfl (lv_at hl 0 rfl) ?_
  refine lv_iload_n hx hb dL_law_319 rfl (lv_at hl 3 rfl) ?_
  refine lv_iconst (v := (1 : Int32)) hx hb dL_law_320 (by decide) ?_
  refine lv_iadd hx hb dL_law_321 ?_
  refine va_sld hx hb hX hbl hbA hS h1 dL_law_322 ?_
  refine k7_state K hl.1 hS hP hD e1 (fun H locs hP hD hS => ?_)
  refine lv_aload_n hx hb dL_law_326 rfl (lv_at hl 2 rfl) ?_
  refine lv_aload_n hx hb dL_law_327 rfl (lv_at hl 0 rfl) ?_
  refine lv_iload_n hx hb dL_law_328 rfl (lv_at hl 3 rfl) ?_
  refine lv_iconst (v := (1 : Int32)) hx hb dL_law_329 (by decide) ?_
  refine lv_iadd hx hb dL_law_330 ?_
  refine va_sld hx hb hX hbl hbA hS h1 dL_law_331 ?_
  refine k8_state K hl.1 hS hP hD e2 (fun H locs hP hD hS => ?_)
  refine lv_icmp_eq (tgt := 907) hx hb dL_law_335 (by decide) (fun _ => ?_) (fun h => absurd rfl h)
  exact kk H locs hS (IV_mk hh ah w h rl st ki ro opn kyc gc sp a k t ov ps ik ks ko kl kq ra rk rt rov rp qd cq ccf cpr len crow cn cl sn sc sa sb Hh Aa rn fr to ne gi ti od fa ft br rfa rft gr gt pr kn scn pc ch sd il sr sT fe d1 d2 d3 rq rcf rcb rs rrow nN nX fD Cr ⟨g1, g2, g3, g4, g5, g6, g7, g8⟩ hP hD)
set_option maxHeartbeats 4000000 in
set_option maxRecDepth 100000 in
theorem case_save {p : Program} {l : Launch} {e : Env} {s : State} {m : MethodId} {below : List Frame} {meth : Method} {c : Code} {b L : Nat} {xs : Nat → Int32} (hX : va_X b L xs s s.heap) (hbl : b < s.heap.size) {D : va_G} {cI cJ cZ cR cN : ClassId} {tX tY : Nat} (K : LK p s m c b D cI cJ cZ cR cN tX tY) {Q : State → Prop} {ad ac ar : Nat → Nat} {F : Nat} (hF : 10000000 ≤ F) (hL : L ≤ 4608) {H : Heap} {locs : List Loc} {ls : Array Slot} {i : Nat} (hi : i + 9 ≤ L) (hl : lv_has ls 4 [(0, .ref b), (1, .ref (ac 0)), (2, .ref (ar 0)), (3, .int (nI i))]) (hS : va_S (fun q : Nat => s.heap.size ≤ q) s.heap H locs) {hh : Nat} {ah : Nat} {w : Nat} {h : Nat} {rl : Nat} {st : Nat} {ki : Nat → Nat} {ro : Nat → Nat} {opn : Nat → Int64} {kyc : Nat → Int64} {gc : Int64} {sp : Int32} {a : Nat} {k : Nat} {t : Nat} {ov : Nat} {ps : Nat → Nat} {ik : Nat → Int32} {ks : Nat → Int32} {ko : Nat → Int32} {kl : Nat → Int32} {kq : Nat → Nat → Nat} {ra : Nat → Int32} {rk : Nat → Int32} {rt : Nat → Int32} {rov : Nat → Int32} {rp : Nat → Int32} {qd : Int32} {cq : Nat → Int32} {ccf : Nat → Int32} {cpr : Nat → Int32} {len : Nat} {crow : Nat → Int32} {cn : Nat} {cl : Nat → Nat} {sn : Nat} {sc : Nat → Nat} {sa : Nat → Nat} {sb : Nat → Nat} {Hh : Nat → Int64} {Aa : Nat → Int64} {rn : Nat} {fr : Nat → Nat} {to : Nat → Nat} {ne : Nat → Nat} {gi : Nat → Nat} {ti : Nat → Nat} {od : Nat → Nat} {fa : Nat → Nat} {ft : Nat → Nat} {br : Nat → Nat} {rfa : Nat → Int32} {rft : Nat → Int32} {gr : Nat} {gt : Nat} {pr : Nat} {kn : Nat} {scn : Nat} {pc : Nat} {ch : Nat → Int32} {sd : Nat → Nat} {il : Nat → Int32} {sr : Nat → Nat} {sT : Nat → Nat} {fe : Nat → Nat} {d1 : Int32} {d2 : Int32} {d3 : Int32} {rq : Nat → Int32} {rcf : Nat → Int32} {rcb : Nat → Int32} {rs : Nat → Int32} {rrow : Nat → Int32} {nN : Nat → Int32} {nX : Nat → Int32} {fD : Nat → Nat} {Cr : Nat → Int32} (g : PV w h rl st ki ro opn kyc gc sp a k t ov ps ik ks ko kl kq ra rk rt rov rp len crow cn cl sn sc sa sb rn fr to ne gi ti od fa ft br rfa rft gr gt pr kn scn pc ch sd il sr sT rrow) (hP : va_P D vwCl ((wC cI cJ cZ cR cN ad ac hh ah gc (nI w) (nI h) (nI rl) (nI st) (fun j => nI (ki j)) opn kyc (fun j => nI (ro j)) sp (nI ov) (nI t) (fun j => nI (ps j)) ks ko kl (fun p j => nI (kq p j)) ik qd cq ccf cpr (nI len) crow (nI cn) (fun j => nI (cl j)) (nI sn) (fun j => nI (sc j)) (fun j => nI (sa j)) (fun j => nI (sb j)) Hh Aa (nI rn) (nI gr) (nI gt) (nI pr) (nI kn) (nI scn) (nI pc) (fun j => e1 (fe j)) ch (fun j => nI (sd j)) il (fun j => nI (sr j)) (fun j => nI (sT j)) ++ fr_pool ad (fun j => nI (fr j)) (fun j => nI (to j)) (fun j => nI (ne j)) (fun j => nI (gi j)) (fun j => nI (ti j)) (fun j => nI (od j)) (fun j => nI (fa j)) (fun j => nI (ft j)) (fun j => nI (br j))) ++ wR cI cZ ar (nI w) (nI h) (nI rl) (nI st) (nI a) (nI k) (nI t) (nI ov) d1 d2 d3 (nI len) (nI cn) (nI sn) (nI rn) (nI gr) (nI gt) (nI pr) (fun j => nI (ki j)) (fun j => nI (ro j)) (fun j => nI (ps j)) ik ra rk rt rov rp rq rcf rcb rs rrow (fun j => nI (cl j)) (fun j => nI (sc j)) (fun j => nI (sa j)) (fun j => nI (sb j)) nN nX (fun j => nI (fr j)) (fun j => nI (to j)) (fun j => nI (ne j)) (fun j => nI (gi j)) (fun j => nI (ti j)) (fun j => nI (od j)) rfa rft (fun j => nI (br j)) (fun j => e1 (fD j)) Cr) H) (hD : va_D (fun q : Nat => s.heap.size ≤ q) ((wC cI cJ cZ cR cN ad ac hh ah gc (nI w) (nI h) (nI rl) (nI st) (fun j => nI (ki j)) opn kyc (fun j => nI (ro j)) sp (nI ov) (nI t) (fun j => nI (ps j)) ks ko kl (fun p j => nI (kq p j)) ik qd cq ccf cpr (nI len) crow (nI cn) (fun j => nI (cl j)) (nI sn) (fun j => nI (sc j)) (fun j => nI (sa j)) (fun j => nI (sb j)) Hh Aa (nI rn) (nI gr) (nI gt) (nI pr) (nI kn) (nI scn) (nI pc) (fun j => e1 (fe j)) ch (fun j => nI (sd j)) il (fun j => nI (sr j)) (fun j => nI (sT j)) ++ fr_pool ad (fun j => nI (fr j)) (fun j => nI (to j)) (fun j => nI (ne j)) (fun j => nI (gi j)) (fun j => nI (ti j)) (fun j => nI (od j)) (fun j => nI (fa j)) (fun j => nI (ft j)) (fun j => nI (br j))) ++ wR cI cZ ar (nI w) (nI h) (nI rl) (nI st) (nI a) (nI k) (nI t) (nI ov) d1 d2 d3 (nI len) (nI cn) (nI sn) (nI rn) (nI gr) (nI gt) (nI pr) (fun j => nI (ki j)) (fun j => nI (ro j)) (fun j => nI (ps j)) ik ra rk rt rov rp rq rcf rcb rs rrow (fun j => nI (cl j)) (fun j => nI (sc j)) (fun j => nI (sa j)) (fun j => nI (sb j)) nN nX (fun j => nI (fr j)) (fun j => nI (to j)) (fun j => nI (ne j)) (fun j => nI (gi j)) (fun j => nI (ti j)) (fun j => nI (od j)) rfa rft (fun j => nI (br j)) (fun j => e1 (fD j)) Cr)) (kk : ∀ (H : Heap) (locs : List Loc), va_S (fun q : Nat => s.heap.size ≤ q) s.heap H locs → IV D cI cJ cZ cR cN ad ac ar (fun q : Nat => s.heap.size ≤ q) H → W p l e room_1 s m #[Value.ref b] below meth c H locs 117 139158 Q (F0 m 907 ls [])) : W p l e room_1 s m #[Value.ref b] below meth c H locs 117 139158 Q (F0 m 340 ls []) := by
  have K0 := K
  obtain ⟨hx, hb, hml, hown, hts, hcx, hst⟩ := K0
  have hbA : ¬ (fun q : Nat => s.heap.size ≤ q) b := Nat.not_le.mpr hbl
  have h1 : vp_in (nI i + (1 : Int32)) L := by
    show vp_in (nI i + nI 1) L
    rw [nI_add]; exact vp_in_nI (by omega) (by omega)
  obtain ⟨g1, g2, g3, g4, g5, g6, g7, g8⟩ := g
  obtain ⟨r, ik2, ks2, ko2, kl2, ra2, rk2, rt2, rov2, rp2, kq2, q1, e1, e2⟩ := b_save hF g1.1 g2.2.1 g2.2.2 g3 (xs (nI i + (1 : Int32)).toNatClampNeg)
  rw [← g2.1] at e1
  refine lv_aload_n hx hb dL_law_340 rfl (lv_at hl 1 rfl) ?_
  refine lv_aload_n hx hb dL_law_341 rfl (lv_at hl 0 rfl) ?_
  refine lv_iload_n hx hb dL_law_342 rfl (lv_at hl 3 rfl) ?_
  refine lv_iconst (v := (1 : Int32)) hx hb dL_law_343 (by decide) ?_
  refine lv_iadd hx hb dL_law_344 ?_
  refine va_sld hx hb hX hbl hbA hS h1 dL_law_345 ?_
  refine k7_save K hl.1 hS hP hD e1 (fun H locs hP hD hS => ?_)
  refine lv_aload_n hx hb dL_law_349 rfl (lv_at hl 2 rfl) ?_
  refine lv_aload_n hx hb dL_law_350 rfl (lv_at hl 0 rfl) ?_
  refine lv_iload_n hx hb dL_law_351 rfl (lv_at hl 3 rfl) ?_
  refine lv_iconst (v := (1 : Int32)) hx hb dL_law_352 (by decide) ?_
  refine lv_iadd hx hb dL_law_353 ?_
  refine va_sld hx hb hX hbl hbA hS h1 dL_law_354 ?_
  refine k8_save K hl.1 hS hP hD e2 (fun H locs hP hD hS => ?_)
  refine lv_icmp_eq (tgt := 907) hx hb dL_law_358 (by decide) (fun _ => ?_) (fun h => absurd rfl h)
  exact kk H locs hS (IV_mk hh ah w h rl st ki ro opn kyc gc sp a k t ov ps ik2 ks2 ko2 kl2 kq2 ra2 rk2 rt2 rov2 rp2 qd cq ccf cpr len crow cn cl sn sc sa sb Hh Aa rn fr to ne gi ti od fa ft br rfa rft gr gt pr kn scn pc ch sd il sr sT fe d1 d2 d3 rq rcf rcb rs rrow nN nX fD Cr ⟨g1, g2, q1, g4, g5, g6, g7, g8⟩ hP hD)
