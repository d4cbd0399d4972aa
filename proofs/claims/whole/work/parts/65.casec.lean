set_option maxHeartbeats 4000000 in
set_option maxRecDepth 100000 in
theorem case_unsplit {p : Program} {l : Launch} {e : Env} {s : State} {m : MethodId} {below : List Frame} {meth : Method} {c : Code} {b L : Nat} {xs : Nat → Int32} (hX : va_X b L xs s s.heap) (hbl : b < s.heap.size) {D : va_G} {cI cJ cZ cR cN : ClassId} {tX tY : Nat} (K : LK p s m c b D cI cJ cZ cR cN tX tY) {Q : State → Prop} {ad ac ar : Nat → Nat} {F : Nat} (hF : 10000000 ≤ F) (hL : L ≤ 4608) {H : Heap} {locs : List Loc} {ls : Array Slot} {i : Nat} (hi : i + 9 ≤ L) (hl : lv_has ls 4 [(0, .ref b), (1, .ref (ac 0)), (2, .ref (ar 0)), (3, .int (nI i))]) (hS : va_S (fun q : Nat => s.heap.size ≤ q) s.heap H locs) {hh : Nat} {ah : Nat} {w : Nat} {h : Nat} {rl : Nat} {st : Nat} {ki : Nat → Nat} {ro : Nat → Nat} {opn : Nat → Int64} {kyc : Nat → Int64} {gc : Int64} {sp : Int32} {a : Nat} {k : Nat} {t : Nat} {ov : Nat} {ps : Nat → Nat} {ik : Nat → Int32} {ks : Nat → Int32} {ko : Nat → Int32} {kl : Nat → Int32} {kq : Nat → Nat → Nat} {ra : Nat → Int32} {rk : Nat → Int32} {rt : Nat → Int32} {rov : Nat → Int32} {rp : Nat → Int32} {qd : Int32} {cq : Nat → Int32} {ccf : Nat → Int32} {cpr : Nat → Int32} {len : Nat} {crow : Nat → Int32} {cn : Nat} {cl : Nat → Nat} {sn : Nat} {sc : Nat → Nat} {sa : Nat → Nat} {sb : Nat → Nat} {Hh : Nat → Int64} {Aa : Nat → Int64} {rn : Nat} {fr : Nat → Nat} {to : Nat → Nat} {ne : Nat → Nat} {gi : Nat → Nat} {ti : Nat → Nat} {od : Nat → Nat} {fa : Nat → Nat} {ft : Nat → Nat} {br : Nat → Nat} {rfa : Nat → Int32} {rft : Nat → Int32} {gr : Nat} {gt : Nat} {pr : Nat} {kn : Nat} {scn : Nat} {pc : Nat} {ch : Nat → Int32} {sd : Nat → Nat} {il : Nat → Int32} {sr : Nat → Nat} {sT : Nat → Nat} {fe : Nat → Nat} {d1 : Int32} {d2 : Int32} {d3 : Int32} {rq : Nat → Int32} {rcf : Nat → Int32} {rcb : Nat → Int32} {rs : Nat → Int32} {rrow : Nat → Int32} {nN : Nat → Int32} {nX : Nat → Int32} {fD : Nat → Nat} {Cr : Nat → Int32} (g : PV w h rl st ki ro opn kyc gc sp a k t ov ps ik ks ko kl kq ra rk rt rov rp len crow cn cl sn sc sa sb rn fr to ne gi ti od fa ft br rfa rft gr gt pr kn scn pc ch sd il sr sT rrow) (hP : va_P D vwCl ((wC cI cJ cZ cR cN ad ac hh ah gc (nI w) (nI h) (nI rl) (nI st) (fun j => nI (ki j)) opn kyc (fun j => nI (ro j)) sp (nI ov) (nI t) (fun j => nI (ps j)) ks ko kl (fun p j => nI (kq p j)) ik qd cq ccf cpr (nI len) crow (nI cn) (fun j => nI (cl j)) (nI sn) (fun j => nI (sc j)) (fun j => nI (sa j)) (fun j => nI (sb j)) Hh Aa (nI rn) (nI gr) (nI gt) (nI pr) (nI kn) (nI scn) (nI pc) (fun j => e1 (fe j)) ch (fun j => nI (sd j)) il (fun j => nI (sr j)) (fun j => nI (sT j)) ++ fr_pool ad (fun j => nI (fr j)) (fun j => nI (to j)) (fun j => nI (ne j)) (fun j => nI (gi j)) (fun j => nI (ti j)) (fun j => nI (od j)) (fun j => nI (fa j)) (fun j => nI (ft j)) (fun j => nI (br j))) ++ wR cI cZ ar (nI w) (nI h) (nI rl) (nI st) (nI a) (nI k) (nI t) (nI ov) d1 d2 d3 (nI len) (nI cn) (nI sn) (nI rn) (nI gr) (nI gt) (nI pr) (fun j => nI (ki j)) (fun j => nI (ro j)) (fun j => nI (ps j)) ik ra rk rt rov rp rq rcf rcb rs rrow (fun j => nI (cl j)) (fun j => nI (sc j)) (fun j => nI (sa j)) (fun j => nI (sb j)) nN nX (fun j => nI (fr j)) (fun j => nI (to j)) (fun j => nI (ne j)) (fun j => nI (gi j)) (fun j => nI (ti j)) (fun j => nI (od j)) rfa rft (fun j => nI (br j)) (fun j => e1 (fD j)) Cr) H) (hD : va_D (fun q : Nat => s.heap.size ≤ q) ((wC cI cJ cZ cR cN ad ac hh ah gc (nI w) (nI h) (nI rl) (nI st) (fun j => nI (ki j)) opn kyc (fun j => nI (ro j)) sp (nI ov) (nI t) (fun j => nI (ps j)) ks ko kl (fun p j => nI (kq p j)) ik qd cq ccf cpr (nI len) crow (nI cn) (fun j => nI (cl j)) (nI sn) (fun j => nI (sc j)) (fun j => nI (sa j)) (fun j => nI (sb j)) Hh Aa (nI rn) (nI gr) (nI gt) (nI pr) (nI kn) (nI scn) (nI pc) (fun j => e1 (fe j)) ch (fun j => nI (sd j)) il (fun j => nI (sr j)) (fun j => nI (sT j)) ++ fr_pool ad (fun j => nI (fr j)) (fun j => nI (to j)) (fun j => nI (ne j)) (fun j => nI (gi j)) (fun j => nI (ti j)) (fun j => nI (od j)) (fun j => nI (fa j)) (fun j => nI (ft j)) (fun j => nI (br j))) ++ wR cI cZ ar (nI w) (nI h) (nI rl) (nI st) (nI a) (nI k) (nI t) (nI ov) d1 d2 d3 (nI len) (nI cn) (nI sn) (nI rn) (nI gr) (nI gt) (nI pr) (fun j => nI (ki j)) (fun j => nI (ro j)) (fun j => nI (ps j)) ik ra rk rt rov rp rq rcf rcb rs rrow (fun j => nI (cl j)) (fun j => nI (sc j)) (fun j => nI (sa j)) (fun j => nI (sb j)) nN nX (fun j => nI (fr j)) (fun j => nI (to j)) (fun j => nI (ne j)) (fun j => nI (gi j)) (fun j => nI (ti j)) (fun j => nI (od j)) rfa rft (fun j => nI (br j)) (fun j => e1 (fD j)) Cr)) (kk : ∀ (H : Heap) (locs : List Loc), va_S (fun q : Nat => s.heap.size ≤ q) s.heap H locs → IV D cI cJ cZ cR cN ad ac ar (fun q : Nat => s.heap.size ≤ q) H → W p l e room_1 s m #[Value.ref b] below meth c H locs 117 139158 Q (F0 m 907 ls [])) : W p l e room_1 s m #[Value.ref b] below meth c H locs 117 139158 Q (F0 m 556 ls []) := by
  have K0 := K
  obtain ⟨hx, hb, hml, hown, hts, hcx, hst⟩ := K0
  have hbA : ¬ (fun q : Nat => s.heap.size ≤ q) b := Nat.not_le.mpr hbl
  obtain ⟨g1, g2, g3, g4, g5, g6, g7, g8⟩ := g
  have e1 : m_X7_unsplit (nI sn) = some (nI 0) := rfl
  have e2 : m_X8_unsplit (nI sn) = some (nI 0) := rfl
  refine lv_aload_n hx hb dL_law_556 rfl (lv_at hl 1 rfl) ?_
  refine k7_unsplit K hl.1 hS hP hD e1 (fun H locs hP hD hS => ?_)
  refine lv_aload_n hx hb dL_law_560 rfl (lv_at hl 2 rfl) ?_
  refine k8_unsplit K hl.1 hS hP hD e2 (fun H locs hP hD hS => ?_)
  refine lv_goto (tgt := 907) hx hb dL_law_564 (by decide) ?_
  exact kk H locs hS (IV_mk hh ah w h rl st ki ro opn kyc gc sp a k t ov ps ik ks ko kl kq ra rk rt rov rp qd cq ccf cpr len crow cn cl 0 sc sa sb Hh Aa rn fr to ne gi ti od fa ft br rfa rft gr gt pr kn scn pc ch sd il sr sT fe d1 d2 d3 rq rcf rcb rs rrow nN nX fD Cr ⟨g1, g2, g3, g4, g5, ⟨by omega, g6.2⟩, g7, g8⟩ hP hD)
set_option maxHeartbeats 4000000 in
set_option maxRecDepth 100000 in
theorem case_could {p : Program} {l : Launch} {e : Env} {s : State} {m : MethodId} {below : List Frame} {meth : Method} {c : Code} {b L : Nat} {xs : Nat → Int32} (hX : va_X b L xs s s.heap) (hbl : b < s.heap.size) {D : va_G} {cI cJ cZ cR cN : ClassId} {tX tY : Nat} (K : LK p s m c b D cI cJ cZ cR cN tX tY) {Q : State → Prop} {ad ac ar : Nat → Nat} {F : Nat} (hF : 10000000 ≤ F) (hL : L ≤ 4608) {H : Heap} {locs : List Loc} {ls : Array Slot} {i : Nat} (hi : i + 9 ≤ L) (hl : lv_has ls 4 [(0, .ref b), (1, .ref (ac 0)), (2, .ref (ar 0)), (3, .int (nI i))]) (hS : va_S (fun q : Nat => s.heap.size ≤ q) s.heap H locs) {hh : Nat} {ah : Nat} {w : Nat} {h : Nat} {rl : Nat} {st : Nat} {ki : Nat → Nat} {ro : Nat → Nat} {opn : Nat → Int64} {kyc : Nat → Int64} {gc : Int64} {sp : Int32} {a : Nat} {k : Nat} {t : Nat} {ov : Nat} {ps : Nat → Nat} {ik : Nat → Int32} {ks : Nat → Int32} {ko : Nat → Int32} {kl : Nat → Int32} {kq : Nat → Nat → Nat} {ra : Nat → Int32} {rk : Nat → Int32} {rt : Nat → Int32} {rov : Nat → Int32} {rp : Nat → Int32} {qd : Int32} {cq : Nat → Int32} {ccf : Nat → Int32} {cpr : Nat → Int32} {len : Nat} {crow : Nat → Int32} {cn : Nat} {cl : Nat → Nat} {sn : Nat} {sc : Nat → Nat} {sa : Nat → Nat} {sb : Nat → Nat} {Hh : Nat → Int64} {Aa : Nat → Int64} {rn : Nat} {fr : Nat → Nat} {to : Nat → Nat} {ne : Nat → Nat} {gi : Nat → Nat} {ti : Nat → Nat} {od : Nat → Nat} {fa : Nat → Nat} {ft : Nat → Nat} {br : Nat → Nat} {rfa : Nat → Int32} {rft : Nat → Int32} {gr : Nat} {gt : Nat} {pr : Nat} {kn : Nat} {scn : Nat} {pc : Nat} {ch : Nat → Int32} {sd : Nat → Nat} {il : Nat → Int32} {sr : Nat → Nat} {sT : Nat → Nat} {fe : Nat → Nat} {d1 : Int32} {d2 : Int32} {d3 : Int32} {rq : Nat → Int32} {rcf : Nat → Int32} {rcb : Nat → Int32} {rs : Nat → Int32} {rrow : Nat → Int32} {nN : Nat → Int32} {nX : Nat → Int32} {fD : Nat → Nat} {Cr : Nat → Int32} (g : PV w h rl st ki ro opn kyc gc sp a k t ov ps ik ks ko kl kq ra rk rt rov rp len crow cn cl sn sc sa sb rn fr to ne gi ti od fa ft br rfa rft gr gt pr kn scn pc ch sd il sr sT rrow) (hP : va_P D vwCl ((wC cI cJ cZ cR cN ad ac hh ah gc (nI w) (nI h) (nI rl) (nI st) (fun j => nI (ki j)) opn kyc (fun j => nI (ro j)) sp (nI ov) (nI t) (fun j => nI (ps j)) ks ko kl (fun p j => nI (kq p j)) ik qd cq ccf cpr (nI len) crow (nI cn) (fun j => nI (cl j)) (nI sn) (fun j => nI (sc j)) (fun j => nI (sa j)) (fun j => nI (sb j)) Hh Aa (nI rn) (nI gr) (nI gt) (nI pr) (nI kn) (nI scn) (nI pc) (fun j => e1 (fe j)) ch (fun j => nI (sd j)) il (fun j => nI (sr j)) (fun j => nI (sT j)) ++ fr_pool ad (fun j => nI (fr j)) (fun j => nI (to j)) (fun j => nI (ne j)) (fun j => nI (gi j)) (fun j => nI (ti j)) (fun j => nI (od j)) (fun j => nI (fa j)) (fun j => nI (ft j)) (fun j => nI (br j))) ++ wR cI cZ ar (nI w) (nI h) (nI rl) (nI st) (nI a) (nI k) (nI t) (nI ov) d1 d2 d3 (nI len) (nI cn) (nI sn) (nI rn) (nI gr) (nI gt) (nI pr) (fun j => nI (ki j)) (fun j => nI (ro j)) (fun j => nI (ps j)) ik ra rk rt rov rp rq rcf rcb rs rrow (fun j => nI (cl j)) (fun j => nI (sc j)) (fun j => nI (sa j)) (fun j => nI (sb j)) nN nX (fun j => nI (fr j)) (fun j => nI (to j)) (fun j => nI (ne j)) (fun j => nI (gi j)) (fun j => nI (ti j)) (fun j => nI (od j)) rfa rft (fun j => nI (br j)) (fun j => e1 (fD j)) Cr) H) (hD : va_D (fun q : Nat => s.heap.size ≤ q) ((wC cI cJ cZ cR cN ad ac hh ah gc (nI w) (nI h) (nI rl) (nI st) (fun j => nI (ki j)) opn kyc (fun j => nI (ro j)) sp (nI ov) (nI t) (fun j => nI (ps j)) ks ko kl (fun p j => nI (kq p j)) ik qd cq ccf cpr (nI len) crow (nI cn) (fun j => nI (cl j)) (nI sn) (fun j => nI (sc j)) (fun j => nI (sa j)) (fun j => nI (sb j)) Hh Aa (nI rn) (nI gr) (nI gt) (nI pr) (nI kn) (nI scn) (nI pc) (fun j => e1 (fe j)) ch (fun j => nI (sd j)) il (fun j => nI (sr j)) (fun j => nI (sT j)) ++ fr_pool ad (fun j => nI (fr j)) (fun j => nI (to j)) (fun j => nI (ne j)) (fun j => nI (gi j)) (fun j => nI (ti j)) (fun j => nI (od j)) (fun j => nI (fa j)) (fun j => nI (ft j)) (fun j => nI (br j))) ++ wR cI cZ ar (nI w) (nI h) (nI rl) (nI st) (nI a) (nI k) (nI t) (nI ov) d1 d2 d3 (nI len) (nI cn) (nI sn) (nI rn) (nI gr) (nI gt) (nI pr) (fun j => nI (ki j)) (fun j => nI (ro j)) (fun j => nI (ps j)) ik ra rk rt rov rp rq rcf rcb rs rrow (fun j => nI (cl j)) (fun j => nI (sc j)) (fun j => nI (sa j)) (fun j => nI (sb j)) nN nX (fun j => nI (fr j)) (fun j => nI (to j)) (fun j => nI (ne j)) (fun j => nI (gi j)) (fun j => nI (ti j)) (fun j => nI (od j)) rfa rft (fun j => nI (br j)) (fun j => e1 (fD j)) Cr)) (kk : ∀ (H : Heap) (locs : List Loc), va_S (fun q : Nat => s.heap.size ≤ q) s.heap H locs → IV D cI cJ cZ cR cN ad ac ar (fun q : Nat => s.heap.size ≤ q) H → W p l e room_1 s m #[Value.ref b] below meth c H locs 117 139158 Q (F0 m 907 ls [])) : W p l e room_1 s m #[Value.ref b] below meth c H locs 117 139158 Q (F0 m 567 ls []) := by
  have K0 := K
  obtain ⟨hx, hb, hml, hown, hts, hcx, hst⟩ := K0
  have hbA : ¬ (fun q : Nat => s.heap.size ≤ q) b := Nat.not_le.mpr hbl
  obtain ⟨g1, g2, g3, g4, g5, g6, g7, g8⟩ := g
  obtain ⟨r, Hh2, Aa2, f1, f2, f3, nN2, nX2, e1, e2⟩ := b_could hF g1.1 g1.2.2 g1.2.1 g6.1 g6.2.1 g6.2.2.1 g6.2.2.2 Hh Aa d1 d2 d3 nN nX
  refine lv_aload_n hx hb dL_law_567 rfl (lv_at hl 1 rfl) ?_
  refine k7_could K hl.1 hS hP hD e1 (fun u H locs hP hD hS => ?_)
  refine lv_aload_n hx hb dL_law_571 rfl (lv_at hl 2 rfl) ?_
  refine k8_could K hl.1 hS hP hD e2 (fun H locs hP hD hS => ?_)
  refine lv_icmp_eq (tgt := 907) hx hb dL_law_575 (by decide) (fun _ => ?_) (fun h => absurd rfl h)
  exact kk H locs hS (IV_mk u.1 u.2 w h rl st ki ro opn kyc gc sp a k t ov ps ik ks ko kl kq ra rk rt rov rp qd cq ccf cpr len crow cn cl sn sc sa sb Hh2 Aa2 rn fr to ne gi ti od fa ft br rfa rft gr gt pr kn scn pc ch sd il sr sT fe f1 f2 f3 rq rcf rcb rs rrow nN2 nX2 fD Cr ⟨g1, g2, g3, g4, g5, g6, g7, g8⟩ hP hD)
set_option maxHeartbeats 4000000 in
set_option maxRecDepth 100000 in
theorem case_road {p : Program} {l : Launch} {e : Env} {s : State} {m : MethodId} {below : List Frame} {meth : Method} {c : Code} {b L : Nat} {xs : Nat → Int32} (hX : va_X b L xs s s.heap) (hbl : b < s.heap.size) {D : va_G} {cI cJ cZ cR cN : ClassId} {tX tY : Nat} (K : LK p s m c b D cI cJ cZ cR cN tX tY) {Q : State → Prop} {ad ac ar : Nat → Nat} {F : Nat} (hF : 10000000 ≤ F) (hL : L ≤ 4608) {H : Heap} {locs : List Loc} {ls : Array Slot} {i : Nat} (hi : i + 9 ≤ L) (hl : lv_has ls 4 [(0, .ref b), (1, .ref (ac 0)), (2, .ref (ar 0)), (3, .int (nI i))]) (hS : va_S (fun q : Nat => s.heap.size ≤ q) s.heap H locs) {hh : Nat} {ah : Nat} {w : Nat} {h : Nat} {rl : Nat} {st : Nat} {ki : Nat → Nat} {ro : Nat → Nat} {opn : Nat → Int64} {kyc : Nat → Int64} {gc : Int64} {sp : Int32} {a : Nat} {k : Nat} {t : Nat} {ov : Nat} {ps : Nat → Nat} {ik : Nat → Int32} {ks : Nat → Int32} {ko : Nat → Int32} {kl : Nat → Int32} {kq : Nat → Nat → Nat} {ra : Nat → Int32} {rk : Nat → Int32} {rt : Nat → Int32} {rov : Nat → Int32} {rp : Nat → Int32} {qd : Int32} {cq : Nat → Int32} {ccf : Nat → Int32} {cpr : Nat → Int32} {len : Nat} {crow : Nat → Int32} {cn : Nat} {cl : Nat → Nat} {sn : Nat} {sc : Nat → Nat} {sa : Nat → Nat} {sb : Nat → Nat} {Hh : Nat → Int64} {Aa : Nat → Int64} {rn : Nat} {fr : Nat → Nat} {to : Nat → Nat} {ne : Nat → Nat} {gi : Nat → Nat} {ti : Nat → Nat} {od : Nat → Nat} {fa : Nat → Nat} {ft : Nat → Nat} {br : Nat → Nat} {rfa : Nat → Int32} {rft : Nat → Int32} {gr : Nat} {gt : Nat} {pr : Nat} {kn : Nat} {scn : Nat} {pc : Nat} {ch : Nat → Int32} {sd : Nat → Nat} {il : Nat → Int32} {sr : Nat → Nat} {sT : Nat → Nat} {fe : Nat → Nat} {d1 : Int32} {d2 : Int32} {d3 : Int32} {rq : Nat → Int32} {rcf : Nat → Int32} {rcb : Nat → Int32} {rs : Nat → Int32} {rrow : Nat → Int32} {nN : Nat → Int32} {nX : Nat → Int32} {fD : Nat → Nat} {Cr : Nat → Int32} (g : PV w h rl st ki ro opn kyc gc sp a k t ov ps ik ks ko kl kq ra rk rt rov rp len crow cn cl sn sc sa sb rn fr to ne gi ti od fa ft br rfa rft gr gt pr kn scn pc ch sd il sr sT rrow) (hP : va_P D vwCl ((wC cI cJ cZ cR cN ad ac hh ah gc (nI w) (nI h) (nI rl) (nI st) (fun j => nI (ki j)) opn kyc (fun j => nI (ro j)) sp (nI ov) (nI t) (fun j => nI (ps j)) ks ko kl (fun p j => nI (kq p j)) ik qd cq ccf cpr (nI len) crow (nI cn) (fun j => nI (cl j)) (nI sn) (fun j => nI (sc j)) (fun j => nI (sa j)) (fun j => nI (sb j)) Hh Aa (nI rn) (nI gr) (nI gt) (nI pr) (nI kn) (nI scn) (nI pc) (fun j => e1 (fe j)) ch (fun j => nI (sd j)) il (fun j => nI (sr j)) (fun j => nI (sT j)) ++ fr_pool ad (fun j => nI (fr j)) (fun j => nI (to j)) (fun j => nI (ne j)) (fun j => nI (gi j)) (fun j => nI (ti j)) (fun j => nI (od j)) (fun j => nI (fa j)) (fun j => nI (ft j)) (fun j => nI (br j))) ++ wR cI cZ ar (nI w) (nI h) (nI rl) (nI st) (nI a) (nI k) (nI t) (nI ov) d1 d2 d3 (nI len) (nI cn) (nI sn) (nI rn) (nI gr) (nI gt) (nI pr) (fun j => nI (ki j)) (fun j => nI (ro j)) (fun j => nI (ps j)) ik ra rk rt rov rp rq rcf rcb rs rrow (fun j => nI (cl j)) (fun j => nI (sc j)) (fun j => nI (sa j)) (fun j => nI (sb j)) nN nX (fun j => nI (fr j)) (fun j => nI (to j)) (fun j => nI (ne j)) (fun j => nI (gi j)) (fun j => nI (ti j)) (fun j => nI (od j)) rfa rft (fun j => nI (br j)) (fun j => e1 (fD j)) Cr) H) (hD : va_D (fun q : Nat => s.heap.size ≤ q) ((wC cI cJ cZ cR cN ad ac hh ah gc (nI w) (nI h) (nI rl) (nI st) (fun j => nI (ki j)) opn kyc (fun j => nI (ro j)) sp (nI ov) (nI t) (fun j => nI (ps j)) ks ko kl (fun p j => nI (kq p j)) ik qd cq ccf cpr (nI len) crow (nI cn) (fun j => nI (cl j)) (nI sn) (fun j => nI (sc j)) (fun j => nI (sa j)) (fun j => nI (sb j)) Hh Aa (nI rn) (nI gr) (nI gt) (nI pr) (nI kn) (nI scn) (nI pc) (fun j => e1 (fe j)) ch (fun j => nI (sd j)) il (fun j => nI (sr j)) (fun j => nI (sT j)) ++ fr_pool ad (fun j => nI (fr j)) (fun j => nI (to j)) (fun j => nI (ne j)) (fun j => nI (gi j)) (fun j => nI (ti j)) (fun j => nI (od j)) (fun j => nI (fa j)) (fun j => nI (ft j)) (fun j => nI (br j))) ++ wR cI cZ ar (nI w) (nI h) (nI rl) (nI st) (nI a) (nI k) (nI t) (nI ov) d1 d2 d3 (nI len) (nI cn) (nI sn) (nI rn) (nI gr) (nI gt) (nI pr) (fun j => nI (ki j)) (fun j => nI (ro j)) (fun j => nI (ps j)) ik ra rk rt rov rp rq rcf rcb rs rrow (fun j => nI (cl j)) (fun j => nI (sc j)) (fun j => nI (sa j)) (fun j => nI (sb j)) nN nX (fun j => nI (fr j)) (fun j => nI (to j)) (fun j => nI (ne j)) (fun j => nI (gi j)) (fun j => nI (ti j)) (fun j => nI (od j)) rfa rft (fun j => nI (br j)) (fun j => e1 (fD j)) Cr)) (kk : ∀ (H : Heap) (locs : List Loc), va_S (fun q : Nat => s.heap.size ≤ q) s.heap H locs → IV D cI cJ cZ cR cN ad ac ar (fun q : Nat => s.heap.size ≤ q) H → W p l e room_1 s m #[Value.ref b] below meth c H locs 117 139158 Q (F0 m 907 ls [])) : W p l e room_1 s m #[Value.ref b] below meth c H locs 117 139158 Q (F0 m 580 ls []) := by
  have K0 := K
  obtain ⟨hx, hb, hml, hown, hts, hcx, hst⟩ := K0
  have hbA : ¬ (fun q : Nat => s.heap.size ≤ q) b := Nat.not_le.mpr hbl
  have h1 : vp_in (nI i + (1 : Int32)) L := by
    show vp_in (nI i + nI 1) L
    rw [nI_add]; exact vp_in_nI (by omega) (by omega)
  have h2 : vp_in (nI i + (2 : Int32)) L := by
    show vp_in (nI i + nI 2) L
    rw [nI_add]; exact vp_in_nI (by omega) (by omega)
  have h3 : vp_in (nI i + (3 : Int32)) L := by
    show vp_in (nI i + nI 3) L
    rw [nI_add]; exact vp_in_nI (by omega) (by omega)
  have h4 : vp_in (nI i + (4 : Int32)) L := by
    show vp_in (nI i + nI 4) L
    rw [nI_add]; exact vp_in_nI (by omega) (by omega)
  have h5 : vp_in (nI i + (5 : Int32)) L := by
    show vp_in (nI i + nI 5) L
    rw [nI_add]; exact vp_in_nI (by omega) (by omega)
  have h6 : vp_in (nI i + (6 : Int32)) L := by
    show vp_in (nI i + nI 6) L
    rw [nI_add]; exact vp_in_nI (by omega) (by omega)
  have h7 : vp_in (nI i + (7 : Int32)) L := by
    show vp_in (nI i + nI 7) L
    rw [nI_add]; exact vp_in_nI (by omega) (by omega)
  have h8 : vp_in (nI i + (8 : Int32)) L := by
    show vp_in (nI i + nI 8) L
    rw [nI_add]; exact vp_in_nI (by omega) (by omega)
  obtain ⟨g1, g2, g3, g4, g5, g6, g7, g8⟩ := g
  rcases b_road hF g7.1 g8.1.1 pc (xs (nI i + (1 : Int32)).toNatClampNeg) (xs (nI i + (2 : Int32)).toNatClampNeg) (xs (nI i + (3 : Int32)).toNatClampNeg) (xs (nI i + (4 : Int32)).toNatClampNeg) (xs (nI i + (5 : Int32)).toNatClampNeg) (xs (nI i + (6 : Int32)).toNatClampNeg) (xs (nI i + (7 : Int32)).toNatClampNeg) (xs (nI i + (8 : Int32)).toNatClampNeg) with ⟨e1, e2⟩ | ⟨r, fr2, to2, ne2, gi2, ti2, od2, fa2, ft2, il2, rfa2, rft2, q1, q2, e1, e2⟩
  · refine lv_aload_n hx hb dL_law_580 rfl (lv_at hl 1 rfl) ?_
    refine lv_aload_n hx hb dL_law_581 rfl (lv_at hl 0 rfl) ?_
    refine lv_iload_n hx hb dL_law_582 rfl (lv_at hl 3 rfl) ?_
    refine lv_iconst (v := (1 : Int32)) hx hb dL_law_583 (by decide) ?_
    refine lv_iadd hx hb dL_law_584 ?_
    refine va_sld hx hb hX hbl hbA hS h1 dL_law_585 ?_
    refine lv_aload_n hx hb dL_law_586 rfl (lv_at hl 0 rfl) ?_
    refine lv_iload_n hx hb dL_law_587 rfl (lv_at hl 3 rfl) ?_
    refine lv_iconst (v := (2 : Int32)) hx hb dL_law_588 (by decide) ?_
    refine lv_iadd hx hb dL_law_589 ?_
    refine va_sld hx hb hX hbl hbA hS h2 dL_law_590 ?_
    refine lv_aload_n hx hb dL_law_591 rfl (lv_at hl 0 rfl) ?_
    refine lv_iload_n hx hb dL_law_592 rfl (lv_at hl 3 rfl) ?_
    refine lv_iconst (v := (3 : Int32)) hx hb dL_law_593 (by decide) ?_
    refine lv_iadd hx hb dL_law_594 ?_
    refine va_sld hx hb hX hbl hbA hS h3 dL_law_595 ?_
    refine lv_aload_n hx hb dL_law_596 rfl (lv_at hl 0 rfl) ?_
    refine lv_iload_n hx hb dL_law_597 rfl (lv_at hl 3 rfl) ?_
    refine lv_iconst (v := (4 : Int32)) hx hb dL_law_598 (by decide) ?_
    refine lv_iadd hx hb dL_law_599 ?_
    refine va_sld hx hb hX hbl hbA hS h4 dL_law_600 ?_
    refine lv_aload_n hx hb dL_law_601 rfl (lv_at hl 0 rfl) ?_
    refine lv_iload_n hx hb dL_law_602 rfl (lv_at hl 3 rfl) ?_
    refine lv_iconst (v := (5 : Int32)) hx hb dL_law_603 (by decide) ?_
    refine lv_iadd hx hb dL_law_604 ?_
    refine va_sld hx hb hX hbl hbA hS h5 dL_law_605 ?_
    refine lv_aload_n hx hb dL_law_606 rfl (lv_at hl 0 rfl) ?_
    refine lv_iload_n hx hb dL_law_607 rfl (lv_at hl 3 rfl) ?_
    refine lv_bipush (v := (6 : Int32)) hx hb dL_law_608 (by decide) ?_
    refine lv_iadd hx hb dL_law_610 ?_
    refine va_sld hx hb hX hbl hbA hS h6 dL_law_611 ?_
    refine lv_aload_n hx hb dL_law_612 rfl (lv_at hl 0 rfl) ?_
    refine lv_iload_n hx hb dL_law_613 rfl (lv_at hl 3 rfl) ?_
    refine lv_bipush (v := (7 : Int32)) hx hb dL_law_614 (by decide) ?_
    refine lv_iadd hx hb dL_law_616 ?_
    refine va_sld hx hb hX hbl hbA hS h7 dL_law_617 ?_
    refine lv_aload_n hx hb dL_law_618 rfl (lv_at hl 0 rfl) ?_
    refine lv_iload_n hx hb dL_law_619 rfl (lv_at hl 3 rfl) ?_
    refine lv_bipush (v := (8 : Int32)) hx hb dL_law_620 (by decide) ?_
    refine lv_iadd hx hb dL_law_622 ?_
    refine va_sld hx hb hX hbl hbA hS h8 dL_law_623 ?_
    refine k7_road K hl.1 hS hP hD e1 (fun H locs hP hD hS => ?_)
    refine lv_aload_n hx hb dL_law_627 rfl (lv_at hl 2 rfl) ?_
    refine lv_aload_n hx hb dL_law_628 rfl (lv_at hl 0 rfl) ?_
    refine lv_iload_n hx hb dL_law_629 rfl (lv_at hl 3 rfl) ?_
    refine lv_iconst (v := (1 : Int32)) hx hb dL_law_630 (by decide) ?_
    refine lv_iadd hx hb dL_law_631 ?_
    refine va_sld hx hb hX hbl hbA hS h1 dL_law_632 ?_
    refine lv_aload_n hx hb dL_law_633 rfl (lv_at hl 0 rfl) ?_
    refine lv_iload_n hx hb dL_law_634 rfl (lv_at hl 3 rfl) ?_
    refine lv_iconst (v := (2 : Int32)) hx hb dL_law_635 (by decide) ?_
    refine lv_iadd hx hb dL_law_636 ?_
    refine va_sld hx hb hX hbl hbA hS h2 dL_law_637 ?_
    refine lv_aload_n hx hb dL_law_638 rfl (lv_at hl 0 rfl) ?_
    refine lv_iload_n hx hb dL_law_639 rfl (lv_at hl 3 rfl) ?_
    refine lv_iconst (v := (3 : Int32)) hx hb dL_law_640 (by decide) ?_
    refine lv_iadd hx hb dL_law_641 ?_
    refine va_sld hx hb hX hbl hbA hS h3 dL_law_642 ?_
    refine lv_aload_n hx hb dL_law_643 rfl (lv_at hl 0 rfl) ?_
    refine lv_iload_n hx hb dL_law_644 rfl (lv_at hl 3 rfl) ?_
    refine lv_iconst (v := (4 : Int32)) hx hb dL_law_645 (by decide) ?_
    refine lv_iadd hx hb dL_law_646 ?_
    refine va_sld hx hb hX hbl hbA hS h4 dL_law_647 ?_
    refine lv_aload_n hx hb dL_law_648 rfl (lv_at hl 0 rfl) ?_
    refine lv_iload_n hx hb dL_law_649 rfl (lv_at hl 3 rfl) ?_
    refine lv_iconst (v := (5 : Int32)) hx hb dL_law_650 (by decide) ?_
    refine lv_iadd hx hb dL_law_651 ?_
    refine va_sld hx hb hX hbl hbA hS h5 dL_law_652 ?_
    refine lv_aload_n hx hb dL_law_653 rfl (lv_at hl 0 rfl) ?_
    refine lv_iload_n hx hb dL_law_654 rfl (lv_at hl 3 rfl) ?_
    refine lv_bipush (v := (6 : Int32)) hx hb dL_law_655 (by decide) ?_
    refine lv_iadd hx hb dL_law_657 ?_
    refine va_sld hx hb hX hbl hbA hS h6 dL_law_658 ?_
    refine lv_aload_n hx hb dL_law_659 rfl (lv_at hl 0 rfl) ?_
    refine lv_iload_n hx hb dL_law_660 rfl (lv_at hl 3 rfl) ?_
    refine lv_bipush (v := (7 : Int32)) hx hb dL_law_661 (by decide) ?_
    refine lv_iadd hx hb dL_law_663 ?_
    refine va_sld hx hb hX hbl hbA hS h7 dL_law_664 ?_
    refine lv_aload_n hx hb dL_law_665 rfl (lv_at hl 0 rfl) ?_
    refine lv_iload_n hx hb dL_law_666 rfl (lv_at hl 3 rfl) ?_
    refine lv_bipush (v := (8 : Int32)) hx hb dL_law_667 (by decide) ?_
    refine lv_iadd hx hb dL_law_669 ?_
    refine va_sld hx hb hX hbl hbA hS h8 dL_law_670 ?_
    refine k8_road K hl.1 hS hP hD e2 (fun H locs hP hD hS => ?_)
    refine lv_icmp_eq (tgt := 907) hx hb dL_law_674 (by decide) (fun _ => ?_) (fun h => absurd rfl h)
    exact kk H locs hS (IV_mk hh ah w h rl st ki ro opn kyc gc sp a k t ov ps ik ks ko kl kq ra rk rt rov rp qd cq ccf cpr len crow cn cl sn sc sa sb Hh Aa rn fr to ne gi ti od fa ft br rfa rft gr gt pr kn scn pc ch sd il sr sT fe d1 d2 d3 rq rcf rcb rs rrow nN nX fD Cr ⟨g1, g2, g3, g4, g5, g6, g7, g8⟩ hP hD)
  · refine lv_aload_n hx hb dL_law_580 rfl (lv_at hl 1 rfl) ?_
    refine lv_aload_n hx hb dL_law_581 rfl (lv_at hl 0 rfl) ?_
    refine lv_iload_n hx hb dL_law_582 rfl (lv_at hl 3 rfl) ?_
    refine lv_iconst (v := (1 : Int32)) hx hb dL_law_583 (by decide) ?_
    refine lv_iadd hx hb dL_law_584 ?_
    refine va_sld hx hb hX hbl hbA hS h1 dL_law_585 ?_
    refine lv_aload_n hx hb dL_law_586 rfl (lv_at hl 0 rfl) ?_
    refine lv_iload_n hx hb dL_law_587 rfl (lv_at hl 3 rfl) ?_
    refine lv_iconst (v := (2 : Int32)) hx hb dL_law_588 (by decide) ?_
    refine lv_iadd hx hb dL_law_589 ?_
    refine va_sld hx hb hX hbl hbA hS h2 dL_law_590 ?_
    refine lv_aload_n hx hb dL_law_591 rfl (lv_at hl 0 rfl) ?_
    refine lv_iload_n hx hb dL_law_592 rfl (lv_at hl 3 rfl) ?_
    refine lv_iconst (v := (3 : Int32)) hx hb dL_law_593 (by decide) ?_
    refine lv_iadd hx hb dL_law_594 ?_
    refine va_sld hx hb hX hbl hbA hS h3 dL_law_595 ?_
    refine lv_aload_n hx hb dL_law_596 rfl (lv_at hl 0 rfl) ?_
    refine lv_iload_n hx hb dL_law_597 rfl (lv_at hl 3 rfl) ?_
    refine lv_iconst (v := (4 : Int32)) hx hb dL_law_598 (by decide) ?_
    refine lv_iadd hx hb dL_law_599 ?_
    refine va_sld hx hb hX hbl hbA hS h4 dL_law_600 ?_
    refine lv_aload_n hx hb dL_law_601 rfl (lv_at hl 0 rfl) ?_
    refine lv_iload_n hx hb dL_law_602 rfl (lv_at hl 3 rfl) ?_
    refine lv_iconst (v := (5 : Int32)) hx hb dL_law_603 (by decide) ?_
    refine lv_iadd hx hb dL_law_604 ?_
    refine va_sld hx hb hX hbl hbA hS h5 dL_law_605 ?_
    refine lv_aload_n hx hb dL_law_606 rfl (lv_at hl 0 rfl) ?_
    refine lv_iload_n hx hb dL_law_607 rfl (lv_at hl 3 rfl) ?_
    refine lv_bipush (v := (6 : Int32)) hx hb dL_law_608 (by decide) ?_
    refine lv_iadd hx hb dL_law_610 ?_
    refine va_sld hx hb hX hbl hbA hS h6 dL_law_611 ?_
    refine lv_aload_n hx hb dL_law_612 rfl (lv_at hl 0 rfl) ?_
    refine lv_iload_n hx hb dL_law_613 rfl (lv_at hl 3 rfl) ?_
    refine lv_bipush (v := (7 : Int32)) hx hb dL_law_614 (by decide) ?_
    refine lv_iadd hx hb dL_law_616 ?_
    refine va_sld hx hb hX hbl hbA hS h7 dL_law_617 ?_
    refine lv_aload_n hx hb dL_law_618 rfl (lv_at hl 0 rfl) ?_
    refine lv_iload_n hx hb dL_law_619 rfl (lv_at hl 3 rfl) ?_
    refine lv_bipush (v := (8 : Int32)) hx hb dL_law_620 (by decide) ?_
    refine lv_iadd hx hb dL_law_622 ?_
    refine va_sld hx hb hX hbl hbA hS h8 dL_law_623 ?_
    refine k7_road K hl.1 hS hP hD e1 (fun H locs hP hD hS => ?_)
    refine lv_aload_n hx hb dL_law_627 rfl (lv_at hl 2 rfl) ?_
    refine lv_aload_n hx hb dL_law_628 rfl (lv_at hl 0 rfl) ?_
    refine lv_iload_n hx hb dL_law_629 rfl (lv_at hl 3 rfl) ?_
    refine lv_iconst (v := (1 : Int32)) hx hb dL_law_630 (by decide) ?_
    refine lv_iadd hx hb dL_law_631 ?_
    refine va_sld hx hb hX hbl hbA hS h1 dL_law_632 ?_
    refine lv_aload_n hx hb dL_law_633 rfl (lv_at hl 0 rfl) ?_
    refine lv_iload_n hx hb dL_law_634 rfl (lv_at hl 3 rfl) ?_
    refine lv_iconst (v := (2 : Int32)) hx hb dL_law_635 (by decide) ?_
    refine lv_iadd hx hb dL_law_636 ?_
    refine va_sld hx hb hX hbl hbA hS h2 dL_law_637 ?_
    refine lv_aload_n hx hb dL_law_638 rfl (lv_at hl 0 rfl) ?_
    refine lv_iload_n hx hb dL_law_639 rfl (lv_at hl 3 rfl) ?_
    refine lv_iconst (v := (3 : Int32)) hx hb dL_law_640 (by decide) ?_
    refine lv_iadd hx hb dL_law_641 ?_
    refine va_sld hx hb hX hbl hbA hS h3 dL_law_642 ?_
    refine lv_aload_n hx hb dL_law_643 rfl (lv_at hl 0 rfl) ?_
    refine lv_iload_n hx hb dL_law_644 rfl (lv_at hl 3 rfl) ?_
    refine lv_iconst (v := (4 : Int32)) hx hb dL_law_645 (by decide) ?_
    refine lv_iadd hx hb dL_law_646 ?_
    refine va_sld hx hb hX hbl hbA hS h4 dL_law_647 ?_
    refine lv_aload_n hx hb dL_law_648 rfl (lv_at hl 0 rfl) ?_
    refine lv_iload_n hx hb dL_law_649 rfl (lv_at hl 3 rfl) ?_
    refine lv_iconst (v := (5 : Int32)) hx hb dL_law_650 (by decide) ?_
    refine lv_iadd hx hb dL_law_651 ?_
    refine va_sld hx hb hX hbl hbA hS h5 dL_law_652 ?_
    refine lv_aload_n hx hb dL_law_653 rfl (lv_at hl 0 rfl) ?_
    refine lv_iload_n hx hb dL_law_654 rfl (lv_at hl 3 rfl) ?_
    refine lv_bipush (v := (6 : Int32)) hx hb dL_law_655 (by decide) ?_
    refine lv_iadd hx hb dL_law_657 ?_
    refine va_sld hx hb hX hbl hbA hS h6 dL_law_658 ?_
    refine lv_aload_n hx hb dL_law_659 rfl (lv_at hl 0 rfl) ?_
    refine lv_iload_n hx hb dL_law_660 rfl (lv_at hl 3 rfl) ?_
    refine lv_bipush (v := (7 : Int32)) hx hb dL_law_661 (by decide) ?_
    refine lv_iadd hx hb dL_law_663 ?_
    refine va_sld hx hb hX hbl hbA hS h7 dL_law_664 ?_
    refine lv_aload_n hx hb dL_law_665 rfl (lv_at hl 0 rfl) ?_
    refine lv_iload_n hx hb dL_law_666 rfl (lv_at hl 3 rfl) ?_
    refine lv_bipush (v := (8 : Int32)) hx hb dL_law_667 (by decide) ?_
    refine lv_iadd hx hb dL_law_669 ?_
    refine va_sld hx hb hX hbl hbA hS h8 dL_law_670 ?_
    refine k8_road K hl.1 hS hP hD e2 (fun H locs hP hD hS => ?_)
    refine lv_icmp_eq (tgt := 907) hx hb dL_law_674 (by decide) (fun _ => ?_) (fun h => absurd rfl h)
    exact kk H locs hS (IV_mk hh ah w h rl st ki ro opn kyc gc sp a k t ov ps ik ks ko kl kq ra rk rt rov rp qd cq ccf cpr len crow cn cl sn sc sa sb Hh Aa (rn + 1) fr2 to2 ne2 gi2 ti2 od2 fa2 ft2 br rfa2 rft2 gr gt pr kn 0 0 ch sd il2 sr sT fe d1 d2 d3 rq rcf rcb rs rrow nN nX fD Cr ⟨g1, g2, g3, g4, g5, g6, ⟨q1, g7.2⟩, i_m_0 q2 g8.2.2.1⟩ hP hD)
set_option maxHeartbeats 4000000 in
set_option maxRecDepth 100000 in
theorem case_bar {p : Program} {l : Launch} {e : Env} {s : State} {m : MethodId} {below : List Frame} {meth : Method} {c : Code} {b L : Nat} {xs : Nat → Int32} (hX : va_X b L xs s s.heap) (hbl : b < s.heap.size) {D : va_G} {cI cJ cZ cR cN : ClassId} {tX tY : Nat} (K : LK p s m c b D cI cJ cZ cR cN tX tY) {Q : State → Prop} {ad ac ar : Nat → Nat} {F : Nat} (hF : 10000000 ≤ F) (hL : L ≤ 4608) {H : Heap} {locs : List Loc} {ls : Array Slot} {i : Nat} (hi : i + 9 ≤ L) (hl : lv_has ls 4 [(0, .ref b), (1, .ref (ac 0)), (2, .ref (ar 0)), (3, .int (nI i))]) (hS : va_S (fun q : Nat => s.heap.size ≤ q) s.heap H locs) {hh : Nat} {ah : Nat} {w : Nat} {h : Nat} {rl : Nat} {st : Nat} {ki : Nat → Nat} {ro : Nat → Nat} {opn : Nat → Int64} {kyc : Nat → Int64} {gc : Int64} {sp : Int32} {a : Nat} {k : Nat} {t : Nat} {ov : Nat} {ps : Nat → Nat} {ik : Nat → Int32} {ks : Nat → Int32} {ko : Nat → Int32} {kl : Nat → Int32} {kq : Nat → Nat → Nat} {ra : Nat → Int32} {rk : Nat → Int32} {rt : Nat → Int32} {rov : Nat → Int32} {rp : Nat → Int32} {qd : Int32} {cq : Nat → Int32} {ccf : Nat → Int32} {cpr : Nat → Int32} {len : Nat} {crow : Nat → Int32} {cn : Nat} {cl : Nat → Nat} {sn : Nat} {sc : Nat → Nat} {sa : Nat → Nat} {sb : Nat → Nat} {Hh : Nat → Int64} {Aa : Nat → Int64} {rn : Nat} {fr : Nat → Nat} {to : Nat → Nat} {ne : Nat → Nat} {gi : Nat → Nat} {ti : Nat → Nat} {od : Nat → Nat} {fa : Nat → Nat} {ft : Nat → Nat} {br : Nat → Nat} {rfa : Nat → Int32} {rft : Nat → Int32} {gr : Nat} {gt : Nat} {pr : Nat} {kn : Nat} {scn : Nat} {pc : Nat} {ch : Nat → Int32} {sd : Nat → Nat} {il : Nat → Int32} {sr : Nat → Nat} {sT : Nat → Nat} {fe : Nat → Nat} {d1 : Int32} {d2 : Int32} {d3 : Int32} {rq : Nat → Int32} {rcf : Nat → Int32} {rcb : Nat → Int32} {rs : Nat → Int32} {rrow : Nat → Int32} {nN : Nat → Int32} {nX : Nat → Int32} {fD : Nat → Nat} {Cr : Nat → Int32} (g : PV w h rl st ki ro opn kyc gc sp a k t ov ps ik ks ko kl kq ra rk rt rov rp len crow cn cl sn sc sa sb rn fr to ne gi ti od fa ft br rfa rft gr gt pr kn scn pc ch sd il sr sT rrow) (hP : va_P D vwCl ((wC cI cJ cZ cR cN ad ac hh ah gc (nI w) (nI h) (nI rl) (nI st) (fun j => nI (ki j)) opn kyc (fun j => nI (ro j)) sp (nI ov) (nI t) (fun j => nI (ps j)) ks ko kl (fun p j => nI (kq p j)) ik qd cq ccf cpr (nI len) crow (nI cn) (fun j => nI (cl j)) (nI sn) (fun j => nI (sc j)) (fun j => nI (sa j)) (fun j => nI (sb j)) Hh Aa (nI rn) (nI gr) (nI gt) (nI pr) (nI kn) (nI scn) (nI pc) (fun j => e1 (fe j)) ch (fun j => nI (sd j)) il (fun j => nI (sr j)) (fun j => nI (sT j)) ++ fr_pool ad (fun j => nI (fr j)) (fun j => nI (to j)) (fun j => nI (ne j)) (fun j => nI (gi j)) (fun j => nI (ti j)) (fun j => nI (od j)) (fun j => nI (fa j)) (fun j => nI (ft j)) (fun j => nI (br j))) ++ wR cI cZ ar (nI w) (nI h) (nI rl) (nI st) (nI a) (nI k) (nI t) (nI ov) d1 d2 d3 (nI len) (nI cn) (nI sn) (nI rn) (nI gr) (nI gt) (nI pr) (fun j => nI (ki j)) (fun j => nI (ro j)) (fun j => nI (ps j)) ik ra rk rt rov rp rq rcf rcb rs rrow (fun j => nI (cl j)) (fun j => nI (sc j)) (fun j => nI (sa j)) (fun j => nI (sb j)) nN nX (fun j => nI (fr j)) (fun j => nI (to j)) (fun j => nI (ne j)) (fun j => nI (gi j)) (fun j => nI (ti j)) (fun j => nI (od j)) rfa rft (fun j => nI (br j)) (fun j => e1 (fD j)) Cr) H) (hD : va_D (fun q : Nat => s.heap.size ≤ q) ((wC cI cJ cZ cR cN ad ac hh ah gc (nI w) (nI h) (nI rl) (nI st) (fun j => nI (ki j)) opn kyc (fun j => nI (ro j)) sp (nI ov) (nI t) (fun j => nI (ps j)) ks ko kl (fun p j => nI (kq p j)) ik qd cq ccf cpr (nI len) crow (nI cn) (fun j => nI (cl j)) (nI sn) (fun j => nI (sc j)) (fun j => nI (sa j)) (fun j => nI (sb j)) Hh Aa (nI rn) (nI gr) (nI gt) (nI pr) (nI kn) (nI scn) (nI pc) (fun j => e1 (fe j)) ch (fun j => nI (sd j)) il (fun j => nI (sr j)) (fun j => nI (sT j)) ++ fr_pool ad (fun j => nI (fr j)) (fun j => nI (to j)) (fun j => nI (ne j)) (fun j => nI (gi j)) (fun j => nI (ti j)) (fun j => nI (od j)) (fun j => nI (fa j)) (fun j => nI (ft j)) (fun j => nI (br j))) ++ wR cI cZ ar (nI w) (nI h) (nI rl) (nI st) (nI a) (nI k) (nI t) (nI ov) d1 d2 d3 (nI len) (nI cn) (nI sn) (nI rn) (nI gr) (nI gt) (nI pr) (fun j => nI (ki j)) (fun j => nI (ro j)) (fun j => nI (ps j)) ik ra rk rt rov rp rq rcf rcb rs rrow (fun j => nI (cl j)) (fun j => nI (sc j)) (fun j => nI (sa j)) (fun j => nI (sb j)) nN nX (fun j => nI (fr j)) (fun j => nI (to j)) (fun j => nI (ne j)) (fun j => nI (gi j)) (fun j => nI (ti j)) (fun j => nI (od j)) rfa rft (fun j => nI (br j)) (fun j => e1 (fD j)) Cr)) (kk : ∀ (H : Heap) (locs : List Loc), va_S (fun q : Nat => s.heap.size ≤ q) s.heap H locs → IV D cI cJ cZ cR cN ad ac ar (fun q : Nat => s.heap.size ≤ q) H → W p l e room_1 s m #[Value.ref b] below meth c H locs 117 139158 Q (F0 m 907 ls [])) : W p l e room_1 s m #[Value.ref b] below meth c H locs 117 139158 Q (F0 m 679 ls []) := by
  have K0 := K
  obtain ⟨hx, hb, hml, hown, hts, hcx, hst⟩ := K0
  have hbA : ¬ (fun q : Nat => s.heap.size ≤ q) b := Nat.not_le.mpr hbl
  have h1 : vp_in (nI i + (1 : Int32)) L := by
    show vp_in (nI i + nI 1) L
    rw [nI_add]; exact vp_in_nI (by omega) (by omega)
  have h2 : vp_in (nI i + (2 : Int32)) L := by
    show vp_in (nI i + nI 2) L
    rw [nI_add]; exact vp_in_nI (by omega) (by omega)
  obtain ⟨g1, g2, g3, g4, g5, g6, g7, g8⟩ := g
  refine lv_aload_n hx hb dL_law_679 rfl (lv_at hl 1 rfl) ?_
  refine lv_aload_n hx hb dL_law_680 rfl (lv_at hl 0 rfl) ?_
  refine lv_iload_n hx hb dL_law_681 rfl (lv_at hl 3 rfl) ?_
  refine lv_iconst (v := (1 : Int32)) hx hb dL_law_682 (by decide) ?_
  refine lv_iadd hx hb dL_law_683 ?_
  refine va_sld hx hb hX hbl hbA hS h1 dL_law_684 ?_
  refine lv_aload_n hx hb dL_law_685 rfl (lv_at hl 0 rfl) ?_
  refine lv_iload_n hx hb dL_law_686 rfl (lv_at hl 3 rfl) ?_
  refine lv_iconst (v := (2 : Int32)) hx hb dL_law_687 (by decide) ?_
  refine lv_iadd hx hb dL_law_688 ?_
  refine va_sld hx hb hX hbl hbA hS h2 dL_law_689 ?_
  refine lv_if_eq (tgt := 697) hx hb dL_law_690 (by decide) (fun hz => ?_) (fun hz => ?_)
  · refine lv_iconst (v := (0 : Int32)) hx hb dL_law_697 (by decide) ?_
    rcases b_bar hF g7.1 g8.1.1 pc (xs (nI i + (1 : Int32)).toNatClampNeg) 0 (.inl rfl) with ⟨e1, e2⟩ | ⟨br2, il2, q1, q2, e1, e2⟩
    · refine k7_bar K hl.1 hS hP hD e1 (fun H locs hP hD hS => ?_)
      refine lv_aload_n hx hb dL_law_701 rfl (lv_at hl 2 rfl) ?_
      refine lv_aload_n hx hb dL_law_702 rfl (lv_at hl 0 rfl) ?_
      refine lv_iload_n hx hb dL_law_703 rfl (lv_at hl 3 rfl) ?_
      refine lv_iconst (v := (1 : Int32)) hx hb dL_law_704 (by decide) ?_
      refine lv_iadd hx hb dL_law_705 ?_
      refine va_sld hx hb hX hbl hbA hS h1 dL_law_706 ?_
      refine lv_aload_n hx hb dL_law_707 rfl (lv_at hl 0 rfl) ?_
      refine lv_iload_n hx hb dL_law_708 rfl (lv_at hl 3 rfl) ?_
      refine lv_iconst (v := (2 : Int32)) hx hb dL_law_709 (by decide) ?_
      refine lv_iadd hx hb dL_law_710 ?_
      refine va_sld hx hb hX hbl hbA hS h2 dL_law_711 ?_
      refine lv_if_eq (tgt := 719) hx hb dL_law_712 (by decide) (fun _ => ?_) (fun h => absurd hz h)
      refine lv_iconst (v := (0 : Int32)) hx hb dL_law_719 (by decide) ?_
      refine k8_bar K hl.1 hS hP hD e2 (fun H locs hP hD hS => ?_)
      refine lv_icmp_eq (tgt := 907) hx hb dL_law_723 (by decide) (fun _ => ?_) (fun h => absurd rfl h)
      exact kk H locs hS (IV_mk hh ah w h rl st ki ro opn kyc gc sp a k t ov ps ik ks ko kl kq ra rk rt rov rp qd cq ccf cpr len crow cn cl sn sc sa sb Hh Aa rn fr to ne gi ti od fa ft br rfa rft gr gt pr kn scn pc ch sd il sr sT fe d1 d2 d3 rq rcf rcb rs rrow nN nX fD Cr ⟨g1, g2, g3, g4, g5, g6, g7, g8⟩ hP hD)
    · refine k7_bar K hl.1 hS hP hD e1 (fun H locs hP hD hS => ?_)
      refine lv_aload_n hx hb dL_law_701 rfl (lv_at hl 2 rfl) ?_
      refine lv_aload_n hx hb dL_law_702 rfl (lv_at hl 0 rfl) ?_
      refine lv_iload_n hx hb dL_law_703 rfl (lv_at hl 3 rfl) ?_
      refine lv_iconst (v := (1 : Int32)) hx hb dL_law_704 (by decide) ?_
      refine lv_iadd hx hb dL_law_705 ?_
      refine va_sld hx hb hX hbl hbA hS h1 dL_law_706 ?_
      refine lv_aload_n hx hb dL_law_707 rfl (lv_at hl 0 rfl) ?_
      refine lv_iload_n hx hb dL_law_708 rfl (lv_at hl 3 rfl) ?_
      refine lv_iconst (v := (2 : Int32)) hx hb dL_law_709 (by decide) ?_
      refine lv_iadd hx hb dL_law_710 ?_
      refine va_sld hx hb hX hbl hbA hS h2 dL_law_711 ?_
      refine lv_if_eq (tgt := 719) hx hb dL_law_712 (by decide) (fun _ => ?_) (fun h => absurd hz h)
      refine lv_iconst (v := (0 : Int32)) hx hb dL_law_719 (by decide) ?_
      refine k8_bar K hl.1 hS hP hD e2 (fun H locs hP hD hS => ?_)
      refine lv_icmp_eq (tgt := 907) hx hb dL_law_723 (by decide) (fun _ => ?_) (fun h => absurd rfl h)
      exact kk H locs hS (IV_mk hh ah w h rl st ki ro opn kyc gc sp a k t ov ps ik ks ko kl kq ra rk rt rov rp qd cq ccf cpr len crow cn cl sn sc sa sb Hh Aa rn fr to ne gi ti od fa ft br2 rfa rft gr gt pr kn 0 0 ch sd il2 sr sT fe d1 d2 d3 rq rcf rcb rs rrow nN nX fD Cr ⟨g1, g2, g3, g4, g5, g6, ⟨q1, g7.2⟩, i_m_0 q2 g8.2.2.1⟩ hP hD)
  · refine lv_iconst (v := (1 : Int32)) hx hb dL_law_693 (by decide) ?_
    refine lv_goto (tgt := 698) hx hb dL_law_694 (by decide) ?_
    rcases b_bar hF g7.1 g8.1.1 pc (xs (nI i + (1 : Int32)).toNatClampNeg) 1 (.inr rfl) with ⟨e1, e2⟩ | ⟨br2, il2, q1, q2, e1, e2⟩
    · refine k7_bar K hl.1 hS hP hD e1 (fun H locs hP hD hS => ?_)
      refine lv_aload_n hx hb dL_law_701 rfl (lv_at hl 2 rfl) ?_
      refine lv_aload_n hx hb dL_law_702 rfl (lv_at hl 0 rfl) ?_
      refine lv_iload_n hx hb dL_law_703 rfl (lv_at hl 3 rfl) ?_
      refine lv_iconst (v := (1 : Int32)) hx hb dL_law_704 (by decide) ?_
      refine lv_iadd hx hb dL_law_705 ?_
      refine va_sld hx hb hX hbl hbA hS h1 dL_law_706 ?_
      refine lv_aload_n hx hb dL_law_707 rfl (lv_at hl 0 rfl) ?_
      refine lv_iload_n hx hb dL_law_708 rfl (lv_at hl 3 rfl) ?_
      refine lv_iconst (v := (2 : Int32)) hx hb dL_law_709 (by decide) ?_
      refine lv_iadd hx hb dL_law_710 ?_
      refine va_sld hx hb hX hbl hbA hS h2 dL_law_711 ?_
      refine lv_if_eq (tgt := 719) hx hb dL_law_712 (by decide) (fun h => absurd h hz) (fun _ => ?_)
      refine lv_iconst (v := (1 : Int32)) hx hb dL_law_715 (by decide) ?_
      refine lv_goto (tgt := 720) hx hb dL_law_716 (by decide) ?_
      refine k8_bar K hl.1 hS hP hD e2 (fun H locs hP hD hS => ?_)
      refine lv_icmp_eq (tgt := 907) hx hb dL_law_723 (by decide) (fun _ => ?_) (fun h => absurd rfl h)
      exact kk H locs hS (IV_mk hh ah w h rl st ki ro opn kyc gc sp a k t ov ps ik ks ko kl kq ra rk rt rov rp qd cq ccf cpr len crow cn cl sn sc sa sb Hh Aa rn fr to ne gi ti od fa ft br rfa rft gr gt pr kn scn pc ch sd il sr sT fe d1 d2 d3 rq rcf rcb rs rrow nN nX fD Cr ⟨g1, g2, g3, g4, g5, g6, g7, g8⟩ hP hD)
    · refine k7_bar K hl.1 hS hP hD e1 (fun H locs hP hD hS => ?_)
      refine lv_aload_n hx hb dL_law_701 rfl (lv_at hl 2 rfl) ?_
      refine lv_aload_n hx hb dL_law_702 rfl (lv_at hl 0 rfl) ?_
      refine lv_iload_n hx hb dL_law_703 rfl (lv_at hl 3 rfl) ?_
      refine lv_iconst (v := (1 : Int32)) hx hb dL_law_704 (by decide) ?_
      refine lv_iadd hx hb dL_law_705 ?_
      refine va_sld hx hb hX hbl hbA hS h1 dL_law_706 ?_
      refine lv_aload_n hx hb dL_law_707 rfl (lv_at hl 0 rfl) ?_
      refine lv_iload_n hx hb dL_law_708 rfl (lv_at hl 3 rfl) ?_
      refine lv_iconst (v := (2 : Int32)) hx hb dL_law_709 (by decide) ?_
      refine lv_iadd hx hb dL_law_710 ?_
      refine va_sld hx hb hX hbl hbA hS h2 dL_law_711 ?_
      refine lv_if_eq (tgt := 719) hx hb dL_law_712 (by decide) (fun h => absurd h hz) (fun _ => ?_)
      refine lv_iconst (v := (1 : Int32)) hx hb dL_law_715 (by decide) ?_
      refine lv_goto (tgt := 720) hx hb dL_law_716 (by decide) ?_
      refine k8_bar K hl.1 hS hP hD e2 (fun H locs hP hD hS => ?_)
      refine lv_icmp_eq (tgt := 907) hx hb dL_law_723 (by decide) (fun _ => ?_) (fun h => absurd rfl h)
      exact kk H locs hS (IV_mk hh ah w h rl st ki ro opn kyc gc sp a k t ov ps ik ks ko kl kq ra rk rt rov rp qd cq ccf cpr len crow cn cl sn sc sa sb Hh Aa rn fr to ne gi ti od fa ft br2 rfa rft gr gt pr kn 0 0 ch sd il2 sr sT fe d1 d2 d3 rq rcf rcb rs rrow nN nX fD Cr ⟨g1, g2, g3, g4, g5, g6, ⟨q1, g7.2⟩, i_m_0 q2 g8.2.2.1⟩ hP hD)
set_option maxHeartbeats 4000000 in
set_option maxRecDepth 100000 in
theorem case_goal {p : Program} {l : Launch} {e : Env} {s : State} {m : MethodId} {below : List Frame} {meth : Method} {c : Code} {b L : Nat} {xs : Nat → Int32} (hX : va_X b L xs s s.heap) (hbl : b < s.heap.size) {D : va_G} {cI cJ cZ cR cN : ClassId} {tX tY : Nat} (K : LK p s m c b D cI cJ cZ cR cN tX tY) {Q : State → Prop} {ad ac ar : Nat → Nat} {F : Nat} (hF : 10000000 ≤ F) (hL : L ≤ 4608) {H : Heap} {locs : List Loc} {ls : Array Slot} {i : Nat} (hi : i + 9 ≤ L) (hl : lv_has ls 4 [(0, .ref b), (1, .ref (ac 0)), (2, .ref (ar 0)), (3, .int (nI i))]) (hS : va_S (fun q : Nat => s.heap.size ≤ q) s.heap H locs) {hh : Nat} {ah : Nat} {w : Nat} {h : Nat} {rl : Nat} {st : Nat} {ki : Nat → Nat} {ro : Nat → Nat} {opn : Nat → Int64} {kyc : Nat → Int64} {gc : Int64} {sp : Int32} {a : Nat} {k : Nat} {t : Nat} {ov : Nat} {ps : Nat → Nat} {ik : Nat → Int32} {ks : Nat → Int32} {ko : Nat → Int32} {kl : Nat → Int32} {kq : Nat → Nat → Nat} {ra : Nat → Int32} {rk : Nat → Int32} {rt : Nat → Int32} {rov : Nat → Int32} {rp : Nat → Int32} {qd : Int32} {cq : Nat → Int32} {ccf : Nat → Int32} {cpr : Nat → Int32} {len : Nat} {crow : Nat → Int32} {cn : Nat} {cl : Nat → Nat} {sn : Nat} {sc : Nat → Nat} {sa : Nat → Nat} {sb : Nat → Nat} {Hh : Nat → Int64} {Aa : Nat → Int64} {rn : Nat} {fr : Nat → Nat} {to : Nat → Nat} {ne : Nat → Nat} {gi : Nat → Nat} {ti : Nat → Nat} {od : Nat → Nat} {fa : Nat → Nat} {ft : Nat → Nat} {br : Nat → Nat} {rfa : Nat → Int32} {rft : Nat → Int32} {gr : Nat} {gt : Nat} {pr : Nat} {kn : Nat} {scn : Nat} {pc : Nat} {ch : Nat → Int32} {sd : Nat → Nat} {il : Nat → Int32} {sr : Nat → Nat} {sT : Nat → Nat} {fe : Nat → Nat} {d1 : Int32} {d2 : Int32} {d3 : Int32} {rq : Nat → Int32} {rcf : Nat → Int32} {rcb : Nat → Int32} {rs : Nat → Int32} {rrow : Nat → Int32} {nN : Nat → Int32} {nX : Nat → Int32} {fD : Nat → Nat} {Cr : Nat → Int32} (g : PV w h rl st ki ro opn kyc gc sp a k t ov ps ik ks ko kl kq ra rk rt rov rp len crow cn cl sn sc sa sb rn fr to ne gi ti od fa ft br rfa rft gr gt pr kn scn pc ch sd il sr sT rrow) (hP : va_P D vwCl ((wC cI cJ cZ cR cN ad ac hh ah gc (nI w) (nI h) (nI rl) (nI st) (fun j => nI (ki j)) opn kyc (fun j => nI (ro j)) sp (nI ov) (nI t) (fun j => nI (ps j)) ks ko kl (fun p j => nI (kq p j)) ik qd cq ccf cpr (nI len) crow (nI cn) (fun j => nI (cl j)) (nI sn) (fun j => nI (sc j)) (fun j => nI (sa j)) (fun j => nI (sb j)) Hh Aa (nI rn) (nI gr) (nI gt) (nI pr) (nI kn) (nI scn) (nI pc) (fun j => e1 (fe j)) ch (fun j => nI (sd j)) il (fun j => nI (sr j)) (fun j => nI (sT j)) ++ fr_pool ad (fun j => nI (fr j)) (fun j => nI (to j)) (fun j => nI (ne j)) (fun j => nI (gi j)) (fun j => nI (ti j)) (fun j => nI (od j)) (fun j => nI (fa j)) (fun j => nI (ft j)) (fun j => nI (br j))) ++ wR cI cZ ar (nI w) (nI h) (nI rl) (nI st) (nI a) (nI k) (nI t) (nI ov) d1 d2 d3 (nI len) (nI cn) (nI sn) (nI rn) (nI gr) (nI gt) (nI pr) (fun j => nI (ki j)) (fun j => nI (ro j)) (fun j => nI (ps j)) ik ra rk rt rov rp rq rcf rcb rs rrow (fun j => nI (cl j)) (fun j => nI (sc j)) (fun j => nI (sa j)) (fun j => nI (sb j)) nN nX (fun j => nI (fr j)) (fun j => nI (to j)) (fun j => nI (ne j)) (fun j => nI (gi j)) (fun j => nI (ti j)) (fun j => nI (od j)) rfa rft (fun j => nI (br j)) (fun j => e1 (fD j)) Cr) H) (hD : va_D (fun q : Nat => s.heap.size ≤ q) ((wC cI cJ cZ cR cN ad ac hh ah gc (nI w) (nI h) (nI rl) (nI st) (fun j => nI (ki j)) opn kyc (fun j => nI (ro j)) sp (nI ov) (nI t) (fun j => nI (ps j)) ks ko kl (fun p j => nI (kq p j)) ik qd cq ccf cpr (nI len) crow (nI cn) (fun j => nI (cl j)) (nI sn) (fun j => nI (sc j)) (fun j => nI (sa j)) (fun j => nI (sb j)) Hh Aa (nI rn) (nI gr) (nI gt) (nI pr) (nI kn) (nI scn) (nI pc) (fun j => e1 (fe j)) ch (fun j => nI (sd j)) il (fun j => nI (sr j)) (fun j => nI (sT j)) ++ fr_pool ad (fun j => nI (fr j)) (fun j => nI (to j)) (fun j => nI (ne j)) (fun j => nI (gi j)) (fun j => nI (ti j)) (fun j => nI (od j)) (fun j => nI (fa j)) (fun j => nI (ft j)) (fun j => nI (br j))) ++ wR cI cZ ar (nI w) (nI h) (nI rl) (nI st) (nI a) (nI k) (nI t) (nI ov) d1 d2 d3 (nI len) (nI cn) (nI sn) (nI rn) (nI gr) (nI gt) (nI pr) (fun j => nI (ki j)) (fun j => nI (ro j)) (fun j => nI (ps j)) ik ra rk rt rov rp rq rcf rcb rs rrow (fun j => nI (cl j)) (fun j => nI (sc j)) (fun j => nI (sa j)) (fun j => nI (sb j)) nN nX (fun j => nI (fr j)) (fun j => nI (to j)) (fun j => nI (ne j)) (fun j => nI (gi j)) (fun j => nI (ti j)) (fun j => nI (od j)) rfa rft (fun j => nI (br j)) (fun j => e1 (fD j)) Cr)) (kk : ∀ (H : Heap) (locs : List Loc), va_S (fun q : Nat => s.heap.size ≤ q) s.heap H locs → IV D cI cJ cZ cR cN ad ac ar (fun q : Nat => s.heap.size ≤ q) H → W p l e room_1 s m #[Value.ref b] below meth c H locs 117 139158 Q (F0 m 907 ls [])) : W p l e room_1 s m #[Value.ref b] below meth c H locs 117 139158 Q (F0 m 728 ls []) := by
  have K0 := K
  obtain ⟨hx, hb, hml, hown, hts, hcx, hst⟩ := K0
  have hbA : ¬ (fun q : Nat => s.heap.size ≤ q) b := Nat.not_le.mpr hbl
  have h1 : vp_in (nI i + (1 : Int32)) L := by
    show vp_in (nI i + nI 1) L
    rw [nI_add]; exact vp_in_nI (by omega) (by omega)
  have h2 : vp_in (nI i + (2 : Int32)) L := by
    show vp_in (nI i + nI 2) L
    rw [nI_add]; exact vp_in_nI (by omega) (by omega)
  obtain ⟨g1, g2, g3, g4, g5, g6, g7, g8⟩ := g
  rcases b_goal hF g8.1.1 pc gr gt (xs (nI i + (1 : Int32)).toNatClampNeg) (xs (nI i + (2 : Int32)).toNatClampNeg) with ⟨e1, e2⟩ | ⟨gr2, gt2, il2, q1, q2, q3, e1, e2⟩
  · refine lv_aload_n hx hb dL_law_728 rfl (lv_at hl 1 rfl) ?_
    refine lv_aload_n hx hb dL_law_729 rfl (lv_at hl 0 rfl) ?_
    refine lv_iload_n hx hb dL_law_730 rfl (lv_at hl 3 rfl) ?_
    refine lv_iconst (v := (1 : Int32)) hx hb dL_law_731 (by decide) ?_
    refine lv_iadd hx hb dL_law_732 ?_
    refine va_sld hx hb hX hbl hbA hS h1 dL_law_733 ?_
    refine lv_aload_n hx hb dL_law_734 rfl (lv_at hl 0 rfl) ?_
    refine lv_iload_n hx hb dL_law_735 rfl (lv_at hl 3 rfl) ?_
    refine lv_iconst (v := (2 : Int32)) hx hb dL_law_736 (by decide) ?_
    refine lv_iadd hx hb dL_law_737 ?_
    refine va_sld hx hb hX hbl hbA hS h2 dL_law_738 ?_
    refine k7_goal K hl.1 hS hP hD e1 (fun H locs hP hD hS => ?_)
    refine lv_aload_n hx hb dL_law_742 rfl (lv_at hl 2 rfl) ?_
    refine lv_aload_n hx hb dL_law_743 rfl (lv_at hl 0 rfl) ?_
    refine lv_iload_n hx hb dL_law_744 rfl (lv_at hl 3 rfl) ?_
    refine lv_iconst (v := (1 : Int32)) hx hb dL_law_745 (by decide) ?_
    refine lv_iadd hx hb dL_law_746 ?_
    refine va_sld hx hb hX hbl hbA hS h1 dL_law_747 ?_
    refine lv_aload_n hx hb dL_law_748 rfl (lv_at hl 0 rfl) ?_
    refine lv_iload_n hx hb dL_law_749 rfl (lv_at hl 3 rfl) ?_
    refine lv_iconst (v := (2 : Int32)) hx hb dL_law_750 (by decide) ?_
    refine lv_iadd hx hb dL_law_751 ?_
    refine va_sld hx hb hX hbl hbA hS h2 dL_law_752 ?_
    refine k8_goal K hl.1 hS hP hD e2 (fun H locs hP hD hS => ?_)
    refine lv_icmp_eq (tgt := 907) hx hb dL_law_756 (by decide) (fun _ => ?_) (fun h => absurd rfl h)
    exact kk H locs hS (IV_mk hh ah w h rl st ki ro opn kyc gc sp a k t ov ps ik ks ko kl kq ra rk rt rov rp qd cq ccf cpr len crow cn cl sn sc sa sb Hh Aa rn fr to ne gi ti od fa ft br rfa rft gr gt pr kn scn pc ch sd il sr sT fe d1 d2 d3 rq rcf rcb rs rrow nN nX fD Cr ⟨g1, g2, g3, g4, g5, g6, g7, g8⟩ hP hD)
  · refine lv_aload_n hx hb dL_law_728 rfl (lv_at hl 1 rfl) ?_
    refine lv_aload_n hx hb dL_law_729 rfl (lv_at hl 0 rfl) ?_
    refine lv_iload_n hx hb dL_law_730 rfl (lv_at hl 3 rfl) ?_
    refine lv_iconst (v := (1 : Int32)) hx hb dL_law_731 (by decide) ?_
    refine lv_iadd hx hb dL_law_732 ?_
    refine va_sld hx hb hX hbl hbA hS h1 dL_law_733 ?_
    refine lv_aload_n hx hb dL_law_734 rfl (lv_at hl 0 rfl) ?_
    refine lv_iload_n hx hb dL_law_735 rfl (lv_at hl 3 rfl) ?_
    refine lv_iconst (v := (2 : Int32)) hx hb dL_law_736 (by decide) ?_
    refine lv_iadd hx hb dL_law_737 ?_
    refine va_sld hx hb hX hbl hbA hS h2 dL_law_738 ?_
    refine k7_goal K hl.1 hS hP hD e1 (fun H locs hP hD hS => ?_)
    refine lv_aload_n hx hb dL_law_742 rfl (lv_at hl 2 rfl) ?_
    refine lv_aload_n hx hb dL_law_743 rfl (lv_at hl 0 rfl) ?_
    refine lv_iload_n hx hb dL_law_744 rfl (lv_at hl 3 rfl) ?_
    refine lv_iconst (v := (1 : Int32)) hx hb dL_law_745 (by decide) ?_
    refine lv_iadd hx hb dL_law_746 ?_
    refine va_sld hx hb hX hbl hbA hS h1 dL_law_747 ?_
    refine lv_aload_n hx hb dL_law_748 rfl (lv_at hl 0 rfl) ?_
    refine lv_iload_n hx hb dL_law_749 rfl (lv_at hl 3 rfl) ?_
    refine lv_iconst (v := (2 : Int32)) hx hb dL_law_750 (by decide) ?_
    refine lv_iadd hx hb dL_law_751 ?_
    refine va_sld hx hb hX hbl hbA hS h2 dL_law_752 ?_
    refine k8_goal K hl.1 hS hP hD e2 (fun H locs hP hD hS => ?_)
    refine lv_icmp_eq (tgt := 907) hx hb dL_law_756 (by decide) (fun _ => ?_) (fun h => absurd rfl h)
    exact kk H locs hS (IV_mk hh ah w h rl st ki ro opn kyc gc sp a k t ov ps ik ks ko kl kq ra rk rt rov rp qd cq ccf cpr len crow cn cl sn sc sa sb Hh Aa rn fr to ne gi ti od fa ft br rfa rft gr2 gt2 pr kn 0 0 ch sd il2 sr sT fe d1 d2 d3 rq rcf rcb rs rrow nN nX fD Cr ⟨g1, g2, g3, g4, g5, g6, ⟨g7.1, q1, q2, g7.2.2.2⟩, i_m_0 q3 g8.2.2.1⟩ hP hD)
set_option maxHeartbeats 4000000 in
set_option maxRecDepth 100000 in
theorem case_anew {p : Program} {l : Launch} {e : Env} {s : State} {m : MethodId} {below : List Frame} {meth : Method} {c : Code} {b L : Nat} {xs : Nat → Int32} (hX : va_X b L xs s s.heap) (hbl : b < s.heap.size) {D : va_G} {cI cJ cZ cR cN : ClassId} {tX tY : Nat} (K : LK p s m c b D cI cJ cZ cR cN tX tY) {Q : State → Prop} {ad ac ar : Nat → Nat} {F : Nat} (hF : 10000000 ≤ F) (hL : L ≤ 4608) {H : Heap} {locs : List Loc} {ls : Array Slot} {i : Nat} (hi : i + 9 ≤ L) (hl : lv_has ls 4 [(0, .ref b), (1, .ref (ac 0)), (2, .ref (ar 0)), (3, .int (nI i))]) (hS : va_S (fun q : Nat => s.heap.size ≤ q) s.heap H locs) {hh : Nat} {ah : Nat} {w : Nat} {h : Nat} {rl : Nat} {st : Nat} {ki : Nat → Nat} {ro : Nat → Nat} {opn : Nat → Int64} {kyc : Nat → Int64} {gc : Int64} {sp : Int32} {a : Nat} {k : Nat} {t : Nat} {ov : Nat} {ps : Nat → Nat} {ik : Nat → Int32} {ks : Nat → Int32} {ko : Nat → Int32} {kl : Nat → Int32} {kq : Nat → Nat → Nat} {ra : Nat → Int32} {rk : Nat → Int32} {rt : Nat → Int32} {rov : Nat → Int32} {rp : Nat → Int32} {qd : Int32} {cq : Nat → Int32} {ccf : Nat → Int32} {cpr : Nat → Int32} {len : Nat} {crow : Nat → Int32} {cn : Nat} {cl : Nat → Nat} {sn : Nat} {sc : Nat → Nat} {sa : Nat → Nat} {sb : Nat → Nat} {Hh : Nat → Int64} {Aa : Nat → Int64} {rn : Nat} {fr : Nat → Nat} {to : Nat → Nat} {ne : Nat → Nat} {gi : Nat → Nat} {ti : Nat → Nat} {od : Nat → Nat} {fa : Nat → Nat} {ft : Nat → Nat} {br : Nat → Nat} {rfa : Nat → Int32} {rft : Nat → Int32} {gr : Nat} {gt : Nat} {pr : Nat} {kn : Nat} {scn : Nat} {pc : Nat} {ch : Nat → Int32} {sd : Nat → Nat} {il : Nat → Int32} {sr : Nat → Nat} {sT : Nat → Nat} {fe : Nat → Nat} {d1 : Int32} {d2 : Int32} {d3 : Int32} {rq : Nat → Int32} {rcf : Nat → Int32} {rcb : Nat → Int32} {rs : Nat → Int32} {rrow : Nat → Int32} {nN : Nat → Int32} {nX : Nat → Int32} {fD : Nat → Nat} {Cr : Nat → Int32} (g : PV w h rl st ki ro opn kyc gc sp a k t ov ps ik ks ko kl kq ra rk rt rov rp len crow cn cl sn sc sa sb rn fr to ne gi ti od fa ft br rfa rft gr gt pr kn scn pc ch sd il sr sT rrow) (hP : va_P D vwCl ((wC cI cJ cZ cR cN ad ac hh ah gc (nI w) (nI h) (nI rl) (nI st) (fun j => nI (ki j)) opn kyc (fun j => nI (ro j)) sp (nI ov) (nI t) (fun j => nI (ps j)) ks ko kl (fun p j => nI (kq p j)) ik qd cq ccf cpr (nI len) crow (nI cn) (fun j => nI (cl j)) (nI sn) (fun j => nI (sc j)) (fun j => nI (sa j)) (fun j => nI (sb j)) Hh Aa (nI rn) (nI gr) (nI gt) (nI pr) (nI kn) (nI scn) (nI pc) (fun j => e1 (fe j)) ch (fun j => nI (sd j)) il (fun j => nI (sr j)) (fun j => nI (sT j)) ++ fr_pool ad (fun j => nI (fr j)) (fun j => nI (to j)) (fun j => nI (ne j)) (fun j => nI (gi j)) (fun j => nI (ti j)) (fun j => nI (od j)) (fun j => nI (fa j)) (fun j => nI (ft j)) (fun j => nI (br j))) ++ wR cI cZ ar (nI w) (nI h) (nI rl) (nI st) (nI a) (nI k) (nI t) (nI ov) d1 d2 d3 (nI len) (nI cn) (nI sn) (nI rn) (nI gr) (nI gt) (nI pr) (fun j => nI (ki j)) (fun j => nI (ro j)) (fun j => nI (ps j)) ik ra rk rt rov rp rq rcf rcb rs rrow (fun j => nI (cl j)) (fun j => nI (sc j)) (fun j => nI (sa j)) (fun j => nI (sb j)) nN nX (fun j => nI (fr j)) (fun j => nI (to j)) (fun j => nI (ne j)) (fun j => nI (gi j)) (fun j => nI (ti j)) (fun j => nI (od j)) rfa rft (fun j => nI (br j)) (fun j => e1 (fD j)) Cr) H) (hD : va_D (fun q : Nat => s.heap.size ≤ q) ((wC cI cJ cZ cR cN ad ac hh ah gc (nI w) (nI h) (nI rl) (nI st) (fun j => nI (ki j)) opn kyc (fun j => nI (ro j)) sp (nI ov) (nI t) (fun j => nI (ps j)) ks ko kl (fun p j => nI (kq p j)) ik qd cq ccf cpr (nI len) crow (nI cn) (fun j => nI (cl j)) (nI sn) (fun j => nI (sc j)) (fun j => nI (sa j)) (fun j => nI (sb j)) Hh Aa (nI rn) (nI gr) (nI gt) (nI pr) (nI kn) (nI scn) (nI pc) (fun j => e1 (fe j)) ch (fun j => nI (sd j)) il (fun j => nI (sr j)) (fun j => nI (sT j)) ++ fr_pool ad (fun j => nI (fr j)) (fun j => nI (to j)) (fun j => nI (ne j)) (fun j => nI (gi j)) (fun j => nI (ti j)) (fun j => nI (od j)) (fun j => nI (fa j)) (fun j => nI (ft j)) (fun j => nI (br j))) ++ wR cI cZ ar (nI w) (nI h) (nI rl) (nI st) (nI a) (nI k) (nI t) (nI ov) d1 d2 d3 (nI len) (nI cn) (nI sn) (nI rn) (nI gr) (nI gt) (nI pr) (fun j => nI (ki j)) (fun j => nI (ro j)) (fun j => nI (ps j)) ik ra rk rt rov rp rq rcf rcb rs rrow (fun j => nI (cl j)) (fun j => nI (sc j)) (fun j => nI (sa j)) (fun j => nI (sb j)) nN nX (fun j => nI (fr j)) (fun j => nI (to j)) (fun j => nI (ne j)) (fun j => nI (gi j)) (fun j => nI (ti j)) (fun j => nI (od j)) rfa rft (fun j => nI (br j)) (fun j => e1 (fD j)) Cr)) (kk : ∀ (H : Heap) (locs : List Loc), va_S (fun q : Nat => s.heap.size ≤ q) s.heap H locs → IV D cI cJ cZ cR cN ad ac ar (fun q : Nat => s.heap.size ≤ q) H → W p l e room_1 s m #[Value.ref b] below meth c H locs 117 139158 Q (F0 m 907 ls [])) : W p l e room_1 s m #[Value.ref b] below meth c H locs 117 139158 Q (F0 m 761 ls []) := by
  have K0 := K
  obtain ⟨hx, hb, hml, hown, hts, hcx, hst⟩ := K0
  have hbA : ¬ (fun q : Nat => s.heap.size ≤ q) b := Nat.not_le.mpr hbl
  have h1 : vp_in (nI i + (1 : Int32)) L := by
    show vp_in (nI i + nI 1) L
    rw [nI_add]; exact vp_in_nI (by omega) (by omega)
  obtain ⟨g1, g2, g3, g4, g5, g6, g7, g8⟩ := g
  rcases b_anew hF g8.1.1 pc pr (xs (nI i + (1 : Int32)).toNatClampNeg) with ⟨e1, e2⟩ | ⟨pr2, il2, q1, q2, e1, e2⟩
  · refine lv_aload_n hx hb dL_law_761 rfl (lv_at hl 1 rfl) ?_
    refine lv_aload_n hx hb dL_law_762 rfl (lv_at hl 0 rfl) ?_
    refine lv_iload_n hx hb dL_law_763 rfl (lv_at hl 3 rfl) ?_
    refine lv_iconst (v := (1 : Int32)) hx hb dL_law_764 (by decide) ?_
    refine lv_iadd hx hb dL_law_765 ?_
    refine va_sld hx hb hX hbl hbA hS h1 dL_law_766 ?_
    refine k7_anew K hl.1 hS hP hD e1 (fun H locs hP hD hS => ?_)
    refine lv_aload_n hx hb dL_law_770 rfl (lv_at hl 2 rfl) ?_
    refine lv_aload_n hx hb dL_law_771 rfl (lv_at hl 0 rfl) ?_
    refine lv_iload_n hx hb dL_law_772 rfl (lv_at hl 3 rfl) ?_
    refine lv_iconst (v := (1 : Int32)) hx hb dL_law_773 (by decide) ?_
    refine lv_iadd hx hb dL_law_774 ?_
    refine va_sld hx hb hX hbl hbA hS h1 dL_law_775 ?_
    refine k8_anew K hl.1 hS hP hD e2 (fun H locs hP hD hS => ?_)
    refine lv_icmp_eq (tgt := 907) hx hb dL_law_779 (by decide) (fun _ => ?_) (fun h => absurd rfl h)
    exact kk H locs hS (IV_mk hh ah w h rl st ki ro opn kyc gc sp a k t ov ps ik ks ko kl kq ra rk rt rov rp qd cq ccf cpr len crow cn cl sn sc sa sb Hh Aa rn fr to ne gi ti od fa ft br rfa rft gr gt pr kn scn pc ch sd il sr sT fe d1 d2 d3 rq rcf rcb rs rrow nN nX fD Cr ⟨g1, g2, g3, g4, g5, g6, g7, g8⟩ hP hD)
  · refine lv_aload_n hx hb dL_law_761 rfl (lv_at hl 1 rfl) ?_
    refine lv_aload_n hx hb dL_law_762 rfl (lv_at hl 0 rfl) ?_
    refine lv_iload_n hx hb dL_law_763 rfl (lv_at hl 3 rfl) ?_
    refine lv_iconst (v := (1 : Int32)) hx hb dL_law_764 (by decide) ?_
    refine lv_iadd hx hb dL_law_765 ?_
    refine va_sld hx hb hX hbl hbA hS h1 dL_law_766 ?_
    refine k7_anew K hl.1 hS hP hD e1 (fun H locs hP hD hS => ?_)
    refine lv_aload_n hx hb dL_law_770 rfl (lv_at hl 2 rfl) ?_
    refine lv_aload_n hx hb dL_law_771 rfl (lv_at hl 0 rfl) ?_
    refine lv_iload_n hx hb dL_law_772 rfl (lv_at hl 3 rfl) ?_
    refine lv_iconst (v := (1 : Int32)) hx hb dL_law_773 (by decide) ?_
    refine lv_iadd hx hb dL_law_774 ?_
    refine va_sld hx hb hX hbl hbA hS h1 dL_law_775 ?_
    refine k8_anew K hl.1 hS hP hD e2 (fun H locs hP hD hS => ?_)
    refine lv_icmp_eq (tgt := 907) hx hb dL_law_779 (by decide) (fun _ => ?_) (fun h => absurd rfl h)
    exact kk H locs hS (IV_mk hh ah w h rl st ki ro opn kyc gc sp a k t ov ps ik ks ko kl kq ra rk rt rov rp qd cq ccf cpr len crow cn cl sn sc sa sb Hh Aa rn fr to ne gi ti od fa ft br rfa rft gr gt pr2 kn 0 0 ch sd il2 sr sT fe d1 d2 d3 rq rcf rcb rs rrow nN nX fD Cr ⟨g1, g2, g3, g4, g5, g6, ⟨g7.1, g7.2.1, g7.2.2.1, q1⟩, i_m_0 q2 g8.2.2.1⟩ hP hD)
