set_option maxHeartbeats 4000000 in
set_option maxRecDepth 100000 in
theorem case_sure {p : Program} {l : Launch} {e : Env} {s : State} {m : MethodId} {below : List Frame} {meth : Method} {c : Code} {b L : Nat} {xs : Nat → Int32} (hX : va_X b L xs s s.heap) (hbl : b < s.heap.size) {D : va_G} {cI cJ cZ cR cN : ClassId} {tX tY : Nat} (K : LK p s m c b D cI cJ cZ cR cN tX tY) {Q : State → Prop} {ad ac ar : Nat → Nat} {F : Nat} (hF : 10000000 ≤ F) (hL : L ≤ 4608) {H : Heap} {locs : List Loc} {ls : Array Slot} {i : Nat} (hi : i + 9 ≤ L) (hl : lv_has ls 4 [(0, .ref b), (1, .ref (ac 0)), (2, .ref (ar 0)), (3, .int (nI i))]) (hS : va_S (fun q : Nat => s.heap.size ≤ q) s.heap H locs) {hh : Nat} {ah : Nat} {w : Nat} {h : Nat} {rl : Nat} {st : Nat} {ki : Nat → Nat} {ro : Nat → Nat} {opn : Nat → Int64} {kyc : Nat → Int64} {gc : Int64} {sp : Int32} {a : Nat} {k : Nat} {t : Nat} {ov : Nat} {ps : Nat → Nat} {ik : Nat → Int32} {ks : Nat → Int32} {ko : Nat → Int32} {kl : Nat → Int32} {kq : Nat → Nat → Nat} {ra : Nat → Int32} {rk : Nat → Int32} {rt : Nat → Int32} {rov : Nat → Int32} {rp : Nat → Int32} {qd : Int32} {cq : Nat → Int32} {ccf : Nat → Int32} {cpr : Nat → Int32} {len : Nat} {crow : Nat → Int32} {cn : Nat} {cl : Nat → Nat} {sn : Nat} {sc : Nat → Nat} {sa : Nat → Nat} {sb : Nat → Nat} {Hh : Nat → Int64} {Aa : Nat → Int64} {rn : Nat} {fr : Nat → Nat} {to : Nat → Nat} {ne : Nat → Nat} {gi : Nat → Nat} {ti : Nat → Nat} {od : Nat → Nat} {fa : Nat → Nat} {ft : Nat → Nat} {br : Nat → Nat} {rfa : Nat → Int32} {rft : Nat → Int32} {gr : Nat} {gt : Nat} {pr : Nat} {kn : Nat} {scn : Nat} {pc : Nat} {ch : Nat → Int32} {sd : Nat → Nat} {il : Nat → Int32} {sr : Nat → Nat} {sT : Nat → Nat} {fe : Nat → Nat} {d1 : Int32} {d2 : Int32} {d3 : Int32} {rq : Nat → Int32} {rcf : Nat → Int32} {rcb : Nat → Int32} {rs : Nat → Int32} {rrow : Nat → Int32} {nN : Nat → Int32} {nX : Nat → Int32} {fD : Nat → Nat} {Cr : Nat → Int32} (g : PV w h rl st ki ro opn kyc gc sp a k t ov ps ik ks ko kl kq ra rk rt rov rp len crow cn cl sn sc sa sb rn fr to ne gi ti od fa ft br rfa rft gr gt pr kn scn pc ch sd il sr sT rrow) (hP : va_P D vwCl ((wC cI cJ cZ cR cN ad ac hh ah gc (nI w) (nI h) (nI rl) (nI st) (fun j => nI (ki j)) opn kyc (fun j => nI (ro j)) sp (nI ov) (nI t) (fun j => nI (ps j)) ks ko kl (fun p j => nI (kq p j)) ik qd cq ccf cpr (nI len) crow (nI cn) (fun j => nI (cl j)) (nI sn) (fun j => nI (sc j)) (fun j => nI (sa j)) (fun j => nI (sb j)) Hh Aa (nI rn) (nI gr) (nI gt) (nI pr) (nI kn) (nI scn) (nI pc) (fun j => e1 (fe j)) ch (fun j => nI (sd j)) il (fun j => nI (sr j)) (fun j => nI (sT j)) ++ fr_pool ad (fun j => nI (fr j)) (fun j => nI (to j)) (fun j => nI (ne j)) (fun j => nI (gi j)) (fun j => nI (ti j)) (fun j => nI (od j)) (fun j => nI (fa j)) (fun j => nI (ft j)) (fun j => nI (br j))) ++ wR cI cZ ar (nI w) (nI h) (nI rl) (nI st) (nI a) (nI k) (nI t) (nI ov) d1 d2 d3 (nI len) (nI cn) (nI sn) (nI rn) (nI gr) (nI gt) (nI pr) (fun j => nI (ki j)) (fun j => nI (ro j)) (fun j => nI (ps j)) ik ra rk rt rov rp rq rcf rcb rs rrow (fun j => nI (cl j)) (fun j => nI (sc j)) (fun j => nI (sa j)) (fun j => nI (sb j)) nN nX (fun j => nI (fr j)) (fun j => nI (to j)) (fun j => nI (ne j)) (fun j => nI (gi j)) (fun j => nI (ti j)) (fun j => nI (od j)) rfa rft (fun j => nI (br j)) (fun j => e1 (fD j)) Cr) H) (hD : va_D (fun q : Nat => s.heap.size ≤ q) ((wC cI cJ cZ cR cN ad ac hh ah gc (nI w) (nI h) (nI rl) (nI st) (fun j => nI (ki j)) opn kyc (fun j => nI (ro j)) sp (nI ov) (nI t) (fun j => nI (ps j)) ks ko kl (fun p j => nI (kq p j)) ik qd cq ccf cpr (nI len) crow (nI cn) (fun j => nI (cl j)) (nI sn) (fun j => nI (sc j)) (fun j => nI (sa j)) (fun j => nI (sb j)) Hh Aa (nI rn) (nI gr) (nI gt) (nI pr) (nI kn) (nI scn) (nI pc) (fun j => e1 (fe j)) ch (fun j => nI (sd j)) il (fun j => nI (sr j)) (fun j => nI (sT j)) ++ fr_pool ad (fun j => nI (fr j)) (fun j => nI (to j)) (fun j => nI (ne j)) (fun j => nI (gi j)) (fun j => nI (ti j)) (fun j => nI (od j)) (fun j => nI (fa j)) (fun j => nI (ft j)) (fun j => nI (br j))) ++ wR cI cZ ar (nI w) (nI h) (nI rl) (nI st) (nI a) (nI k) (nI t) (nI ov) d1 d2 d3 (nI len) (nI cn) (nI sn) (nI rn) (nI gr) (nI gt) (nI pr) (fun j => nI (ki j)) (fun j => nI (ro j)) (fun j => nI (ps j)) ik ra rk rt rov rp rq rcf rcb rs rrow (fun j => nI (cl j)) (fun j => nI (sc j)) (fun j => nI (sa j)) (fun j => nI (sb j)) nN nX (fun j => nI (fr j)) (fun j => nI (to j)) (fun j => nI (ne j)) (fun j => nI (gi j)) (fun j => nI (ti j)) (fun j => nI (od j)) rfa rft (fun j => nI (br j)) (fun j => e1 (fD j)) Cr)) (kk : ∀ (H : Heap) (locs : List Loc), va_S (fun q : Nat => s.heap.size ≤ q) s.heap H locs → IV D cI cJ cZ cR cN ad ac ar (fun q : Nat => s.heap.size ≤ q) H → W p l e room_1 s m #[Value.ref b] below meth c H locs 117 139158 Q (F0 m 907 ls [])) : W p l e room_1 s m #[Value.ref b] below meth c H locs 117 139158 Q (F0 m 784 ls []) := by
  have K0 := K
  obtain ⟨hx, hb, hml, hown, hts, hcx, hst⟩ := K0
  have hbA : ¬ (fun q : Nat => s.heap.size ≤ q) b := Nat.not_le.mpr hbl
  obtain ⟨g1, g2, g3, g4, g5, g6, g7, g8⟩ := g
  obtain ⟨r, fe2, fD2, e1, e2⟩ := b_sure (pr := pr) hF g7.1 g7.2.1 g7.2.2.1 fe fD
  refine lv_aload_n hx hb dL_law_784 rfl (lv_at hl 1 rfl) ?_
  refine k7_sure K hl.1 hS hP hD e1 (fun H locs hP hD hS => ?_)
  refine lv_aload_n hx hb dL_law_788 rfl (lv_at hl 2 rfl) ?_
  refine k8_sure K hl.1 hS hP hD e2 (fun H locs hP hD hS => ?_)
  refine lv_icmp_eq (tgt := 907) hx hb dL_law_792 (by decide) (fun _ => ?_) (fun h => absurd rfl h)
  exact kk H locs hS (IV_mk hh ah w h rl st ki ro opn kyc gc sp a k t ov ps ik ks ko kl kq ra rk rt rov rp qd cq ccf cpr len crow cn cl sn sc sa sb Hh Aa rn fr to ne gi ti od fa ft br rfa rft gr gt pr kn scn pc ch sd il sr sT fe2 d1 d2 d3 rq rcf rcb rs rrow nN nX fD2 Cr ⟨g1, g2, g3, g4, g5, g6, g7, g8⟩ hP hD)
set_option maxHeartbeats 4000000 in
set_option maxRecDepth 100000 in
theorem case_chance {p : Program} {l : Launch} {e : Env} {s : State} {m : MethodId} {below : List Frame} {meth : Method} {c : Code} {b L : Nat} {xs : Nat → Int32} (hX : va_X b L xs s s.heap) (hbl : b < s.heap.size) {D : va_G} {cI cJ cZ cR cN : ClassId} {tX tY : Nat} (K : LK p s m c b D cI cJ cZ cR cN tX tY) {Q : State → Prop} {ad ac ar : Nat → Nat} {F : Nat} (hF : 10000000 ≤ F) (hL : L ≤ 4608) {H : Heap} {locs : List Loc} {ls : Array Slot} {i : Nat} (hi : i + 9 ≤ L) (hl : lv_has ls 4 [(0, .ref b), (1, .ref (ac 0)), (2, .ref (ar 0)), (3, .int (nI i))]) (hS : va_S (fun q : Nat => s.heap.size ≤ q) s.heap H locs) {hh : Nat} {ah : Nat} {w : Nat} {h : Nat} {rl : Nat} {st : Nat} {ki : Nat → Nat} {ro : Nat → Nat} {opn : Nat → Int64} {kyc : Nat → Int64} {gc : Int64} {sp : Int32} {a : Nat} {k : Nat} {t : Nat} {ov : Nat} {ps : Nat → Nat} {ik : Nat → Int32} {ks : Nat → Int32} {ko : Nat → Int32} {kl : Nat → Int32} {kq : Nat → Nat → Nat} {ra : Nat → Int32} {rk : Nat → Int32} {rt : Nat → Int32} {rov : Nat → Int32} {rp : Nat → Int32} {qd : Int32} {cq : Nat → Int32} {ccf : Nat → Int32} {cpr : Nat → Int32} {len : Nat} {crow : Nat → Int32} {cn : Nat} {cl : Nat → Nat} {sn : Nat} {sc : Nat → Nat} {sa : Nat → Nat} {sb : Nat → Nat} {Hh : Nat → Int64} {Aa : Nat → Int64} {rn : Nat} {fr : Nat → Nat} {to : Nat → Nat} {ne : Nat → Nat} {gi : Nat → Nat} {ti : Nat → Nat} {od : Nat → Nat} {fa : Nat → Nat} {ft : Nat → Nat} {br : Nat → Nat} {rfa : Nat → Int32} {rft : Nat → Int32} {gr : Nat} {gt : Nat} {pr : Nat} {kn : Nat} {scn : Nat} {pc : Nat} {ch : Nat → Int32} {sd : Nat → Nat} {il : Nat → Int32} {sr : Nat → Nat} {sT : Nat → Nat} {fe : Nat → Nat} {d1 : Int32} {d2 : Int32} {d3 : Int32} {rq : Nat → Int32} {rcf : Nat → Int32} {rcb : Nat → Int32} {rs : Nat → Int32} {rrow : Nat → Int32} {nN : Nat → Int32} {nX : Nat → Int32} {fD : Nat → Nat} {Cr : Nat → Int32} (g : PV w h rl st ki ro opn kyc gc sp a k t ov ps ik ks ko kl kq ra rk rt rov rp len crow cn cl sn sc sa sb rn fr to ne gi ti od fa ft br rfa rft gr gt pr kn scn pc ch sd il sr sT rrow) (hP : va_P D vwCl ((wC cI cJ cZ cR cN ad ac hh ah gc (nI w) (nI h) (nI rl) (nI st) (fun j => nI (ki j)) opn kyc (fun j => nI (ro j)) sp (nI ov) (nI t) (fun j => nI (ps j)) ks ko kl (fun p j => nI (kq p j)) ik qd cq ccf cpr (nI len) crow (nI cn) (fun j => nI (cl j)) (nI sn) (fun j => nI (sc j)) (fun j => nI (sa j)) (fun j => nI (sb j)) Hh Aa (nI rn) (nI gr) (nI gt) (nI pr) (nI kn) (nI scn) (nI pc) (fun j => e1 (fe j)) ch (fun j => nI (sd j)) il (fun j => nI (sr j)) (fun j => nI (sT j)) ++ fr_pool ad (fun j => nI (fr j)) (fun j => nI (to j)) (fun j => nI (ne j)) (fun j => nI (gi j)) (fun j => nI (ti j)) (fun j => nI (od j)) (fun j => nI (fa j)) (fun j => nI (ft j)) (fun j => nI (br j))) ++ wR cI cZ ar (nI w) (nI h) (nI rl) (nI st) (nI a) (nI k) (nI t) (nI ov) d1 d2 d3 (nI len) (nI cn) (nI sn) (nI rn) (nI gr) (nI gt) (nI pr) (fun j => nI (ki j)) (fun j => nI (ro j)) (fun j => nI (ps j)) ik ra rk rt rov rp rq rcf rcb rs rrow (fun j => nI (cl j)) (fun j => nI (sc j)) (fun j => nI (sa j)) (fun j => nI (sb j)) nN nX (fun j => nI (fr j)) (fun j => nI (to j)) (fun j => nI (ne j)) (fun j => nI (gi j)) (fun j => nI (ti j)) (fun j => nI (od j)) rfa rft (fun j => nI (br j)) (fun j => e1 (fD j)) Cr) H) (hD : va_D (fun q : Nat => s.heap.size ≤ q) ((wC cI cJ cZ cR cN ad ac hh ah gc (nI w) (nI h) (nI rl) (nI st) (fun j => nI (ki j)) opn kyc (fun j => nI (ro j)) sp (nI ov) (nI t) (fun j => nI (ps j)) ks ko kl (fun p j => nI (kq p j)) ik qd cq ccf cpr (nI len) crow (nI cn) (fun j => nI (cl j)) (nI sn) (fun j => nI (sc j)) (fun j => nI (sa j)) (fun j => nI (sb j)) Hh Aa (nI rn) (nI gr) (nI gt) (nI pr) (nI kn) (nI scn) (nI pc) (fun j => e1 (fe j)) ch (fun j => nI (sd j)) il (fun j => nI (sr j)) (fun j => nI (sT j)) ++ fr_pool ad (fun j => nI (fr j)) (fun j => nI (to j)) (fun j => nI (ne j)) (fun j => nI (gi j)) (fun j => nI (ti j)) (fun j => nI (od j)) (fun j => nI (fa j)) (fun j => nI (ft j)) (fun j => nI (br j))) ++ wR cI cZ ar (nI w) (nI h) (nI rl) (nI st) (nI a) (nI k) (nI t) (nI ov) d1 d2 d3 (nI len) (nI cn) (nI sn) (nI rn) (nI gr) (nI gt) (nI pr) (fun j => nI (ki j)) (fun j => nI (ro j)) (fun j => nI (ps j)) ik ra rk rt rov rp rq rcf rcb rs rrow (fun j => nI (cl j)) (fun j => nI (sc j)) (fun j => nI (sa j)) (fun j => nI (sb j)) nN nX (fun j => nI (fr j)) (fun j => nI (to j)) (fun j => nI (ne j)) (fun j => nI (gi j)) (fun j => nI (ti j)) (fun j => nI (od j)) rfa rft (fun j => nI (br j)) (fun j => e1 (fD j)) Cr)) (kk : ∀ (H : Heap) (locs : List Loc), va_S (fun q : Nat => s.heap.size ≤ q) s.heap H locs → IV D cI cJ cZ cR cN ad ac ar (fun q : Nat => s.heap.size ≤ q) H → W p l e room_1 s m #[Value.ref b] below meth c H locs 117 139158 Q (F0 m 907 ls [])) : W p l e room_1 s m #[Value.ref b] below meth c H locs 117 139158 Q (F0 m 797 ls []) := by
  have K0 := K
  obtain ⟨hx, hb, hml, hown, hts, hcx, hst⟩ := K0
  have hbA : ¬ (fun q : Nat => s.heap.size ≤ q) b := Nat.not_le.mpr hbl
  have h1 : vp_in (nI i + (1 : Int32)) L := by
    show vp_in (nI i + nI 1) L
    rw [nI_add]; exact vp_in_nI (by omega) (by omega)
  have h2 : vp_in (nI i + (2 : Int32)) L := by
    show vp_in (nI i + nI 2) L
    rw [nI_add]; exact vp_in_nI (by omega) (by omega)
  have h3 : vp_in (nI i + (3 : Int32)) L := by
    show vp_in (nI i + nI 3) L
    rw [nI_add]; exact vp_in_nI (by omega) (by omega)
  obtain ⟨g1, g2, g3, g4, g5, g6, g7, g8⟩ := g
  obtain ⟨r, scn2, pc2, kn2, sd2, sr2, sT2, il2, ch2, Cr2, q1, e1, e2⟩ := b_chance hF g7.1 g7.2.1 g7.2.2.1 g7.2.2.2 g8 Cr (xs (nI i + (1 : Int32)).toNatClampNeg) (xs (nI i + (2 : Int32)).toNatClampNeg) (xs (nI i + (3 : Int32)).toNatClampNeg)
  refine lv_aload_n hx hb dL_law_797 rfl (lv_at hl 1 rfl) ?_
  refine lv_aload_n hx hb dL_law_798 rfl (lv_at hl 0 rfl) ?_
  refine lv_iload_n hx hb dL_law_799 rfl (lv_at hl 3 rfl) ?_
  refine lv_iconst (v := (1 : Int32)) hx hb dL_law_800 (by decide) ?_
  refine lv_iadd hx hb dL_law_801 ?_
  refine va_sld hx hb hX hbl hbA hS h1 dL_law_802 ?_
  refine lv_aload_n hx hb dL_law_803 rfl (lv_at hl 0 rfl) ?_
  refine lv_iload_n hx hb dL_law_804 rfl (lv_at hl 3 rfl) ?_
  refine lv_iconst (v := (2 : Int32)) hx hb dL_law_805 (by decide) ?_
  refine lv_iadd hx hb dL_law_806 ?_
  refine va_sld hx hb hX hbl hbA hS h2 dL_law_807 ?_
  refine lv_aload_n hx hb dL_law_808 rfl (lv_at hl 0 rfl) ?_
  refine lv_iload_n hx hb dL_law_809 rfl (lv_at hl 3 rfl) ?_
  refine lv_iconst (v := (3 : Int32)) hx hb dL_law_810 (by decide) ?_
  refine lv_iadd hx hb dL_law_811 ?_
  refine va_sld hx hb hX hbl hbA hS h3 dL_law_812 ?_
  refine k7_chance K hl.1 hS hP hD e1 (fun H locs hP hD hS => ?_)
  refine lv_aload_n hx hb dL_law_816 rfl (lv_at hl 2 rfl) ?_
  refine lv_aload_n hx hb dL_law_817 rfl (lv_at hl 0 rfl) ?_
  refine lv_iload_n hx hb dL_law_818 rfl (lv_at hl 3 rfl) ?_
  refine lv_iconst (v := (1 : Int32)) hx hb dL_law_819 (by decide) ?_
  refine lv_iadd hx hb dL_law_820 ?_
  refine va_sld hx hb hX hbl hbA hS h1 dL_law_821 ?_
  refine lv_aload_n hx hb dL_law_822 rfl (lv_at hl 0 rfl) ?_
  refine lv_iload_n hx hb dL_law_823 rfl (lv_at hl 3 rfl) ?_
  refine lv_iconst (v := (2 : Int32)) hx hb dL_law_824 (by decide) ?_
  refine lv_iadd hx hb dL_law_825 ?_
  refine va_sld hx hb hX hbl hbA hS h2 dL_law_826 ?_
  refine lv_aload_n hx hb dL_law_827 rfl (lv_at hl 0 rfl) ?_
  refine lv_iload_n hx hb dL_law_828 rfl (lv_at hl 3 rfl) ?_
  refine lv_iconst (v := (3 : Int32)) hx hb dL_law_829 (by decide) ?_
  refine lv_iadd hx hb dL_law_830 ?_
  refine va_sld hx hb hX hbl hbA hS h3 dL_law_831 ?_
  refine k8_chance K hl.1 hS hP hD e2 (fun H locs hP hD hS => ?_)
  refine W.lcmp hx hb dL_law_835 ?_
  refine lv_if_eq (tgt := 907) hx hb dL_law_836 (by decide) (fun _ => ?_) (fun h => absurd (lg_self _) h)
  exact kk H locs hS (IV_mk hh ah w h rl st ki ro opn kyc gc sp a k t ov ps ik ks ko kl kq ra rk rt rov rp qd cq ccf cpr len crow cn cl sn sc sa sb Hh Aa rn fr to ne gi ti od fa ft br rfa rft gr gt pr kn2 scn2 pc2 ch2 sd2 il2 sr2 sT2 fe d1 d2 d3 rq rcf rcb rs rrow nN nX fD Cr2 ⟨g1, g2, g3, g4, g5, g6, g7, q1⟩ hP hD)
set_option maxHeartbeats 4000000 in
set_option maxRecDepth 100000 in
theorem case_choice {p : Program} {l : Launch} {e : Env} {s : State} {m : MethodId} {below : List Frame} {meth : Method} {c : Code} {b L : Nat} {xs : Nat → Int32} (hX : va_X b L xs s s.heap) (hbl : b < s.heap.size) {D : va_G} {cI cJ cZ cR cN : ClassId} {tX tY : Nat} (K : LK p s m c b D cI cJ cZ cR cN tX tY) {Q : State → Prop} {ad ac ar : Nat → Nat} {F : Nat} (hF : 10000000 ≤ F) (hL : L ≤ 4608) {H : Heap} {locs : List Loc} {ls : Array Slot} {i : Nat} (hi : i + 9 ≤ L) (hl : lv_has ls 4 [(0, .ref b), (1, .ref (ac 0)), (2, .ref (ar 0)), (3, .int (nI i))]) (hS : va_S (fun q : Nat => s.heap.size ≤ q) s.heap H locs) {hh : Nat} {ah : Nat} {w : Nat} {h : Nat} {rl : Nat} {st : Nat} {ki : Nat → Nat} {ro : Nat → Nat} {opn : Nat → Int64} {kyc : Nat → Int64} {gc : Int64} {sp : Int32} {a : Nat} {k : Nat} {t : Nat} {ov : Nat} {ps : Nat → Nat} {ik : Nat → Int32} {ks : Nat → Int32} {ko : Nat → Int32} {kl : Nat → Int32} {kq : Nat → Nat → Nat} {ra : Nat → Int32} {rk : Nat → Int32} {rt : Nat → Int32} {rov : Nat → Int32} {rp : Nat → Int32} {qd : Int32} {cq : Nat → Int32} {ccf : Nat → Int32} {cpr : Nat → Int32} {len : Nat} {crow : Nat → Int32} {cn : Nat} {cl : Nat → Nat} {sn : Nat} {sc : Nat → Nat} {sa : Nat → Nat} {sb : Nat → Nat} {Hh : Nat → Int64} {Aa : Nat → Int64} {rn : Nat} {fr : Nat → Nat} {to : Nat → Nat} {ne : Nat → Nat} {gi : Nat → Nat} {ti : Nat → Nat} {od : Nat → Nat} {fa : Nat → Nat} {ft : Nat → Nat} {br : Nat → Nat} {rfa : Nat → Int32} {rft : Nat → Int32} {gr : Nat} {gt : Nat} {pr : Nat} {kn : Nat} {scn : Nat} {pc : Nat} {ch : Nat → Int32} {sd : Nat → Nat} {il : Nat → Int32} {sr : Nat → Nat} {sT : Nat → Nat} {fe : Nat → Nat} {d1 : Int32} {d2 : Int32} {d3 : Int32} {rq : Nat → Int32} {rcf : Nat → Int32} {rcb : Nat → Int32} {rs : Nat → Int32} {rrow : Nat → Int32} {nN : Nat → Int32} {nX : Nat → Int32} {fD : Nat → Nat} {Cr : Nat → Int32} (g : PV w h rl st ki ro opn kyc gc sp a k t ov ps ik ks ko kl kq ra rk rt rov rp len crow cn cl sn sc sa sb rn fr to ne gi ti od fa ft br rfa rft gr gt pr kn scn pc ch sd il sr sT rrow) (hP : va_P D vwCl ((wC cI cJ cZ cR cN ad ac hh ah gc (nI w) (nI h) (nI rl) (nI st) (fun j => nI (ki j)) opn kyc (fun j => nI (ro j)) sp (nI ov) (nI t) (fun j => nI (ps j)) ks ko kl (fun p j => nI (kq p j)) ik qd cq ccf cpr (nI len) crow (nI cn) (fun j => nI (cl j)) (nI sn) (fun j => nI (sc j)) (fun j => nI (sa j)) (fun j => nI (sb j)) Hh Aa (nI rn) (nI gr) (nI gt) (nI pr) (nI kn) (nI scn) (nI pc) (fun j => e1 (fe j)) ch (fun j => nI (sd j)) il (fun j => nI (sr j)) (fun j => nI (sT j)) ++ fr_pool ad (fun j => nI (fr j)) (fun j => nI (to j)) (fun j => nI (ne j)) (fun j => nI (gi j)) (fun j => nI (ti j)) (fun j => nI (od j)) (fun j => nI (fa j)) (fun j => nI (ft j)) (fun j => nI (br j))) ++ wR cI cZ ar (nI w) (nI h) (nI rl) (nI st) (nI a) (nI k) (nI t) (nI ov) d1 d2 d3 (nI len) (nI cn) (nI sn) (nI rn) (nI gr) (nI gt) (nI pr) (fun j => nI (ki j)) (fun j => nI (ro j)) (fun j => nI (ps j)) ik ra rk rt rov rp rq rcf rcb rs rrow (fun j => nI (cl j)) (fun j => nI (sc j)) (fun j => nI (sa j)) (fun j => nI (sb j)) nN nX (fun j => nI (fr j)) (fun j => nI (to j)) (fun j => nI (ne j)) (fun j => nI (gi j)) (fun j => nI (ti j)) (fun j => nI (od j)) rfa rft (fun j => nI (br j)) (fun j => e1 (fD j)) Cr) H) (hD : va_D (fun q : Nat => s.heap.size ≤ q) ((wC cI cJ cZ cR cN ad ac hh ah gc (nI w) (nI h) (nI rl) (nI st) (fun j => nI (ki j)) opn kyc (fun j => nI (ro j)) sp (nI ov) (nI t) (fun j => nI (ps j)) ks ko kl (fun p j => nI (kq p j)) ik qd cq ccf cpr (nI len) crow (nI cn) (fun j => nI (cl j)) (nI sn) (fun j => nI (sc j)) (fun j => nI (sa j)) (fun j => nI (sb j)) Hh Aa (nI rn) (nI gr) (nI gt) (nI pr) (nI kn) (nI scn) (nI pc) (fun j => e1 (fe j)) ch (fun j => nI (sd j)) il (fun j => nI (sr j)) (fun j => nI (sT j)) ++ fr_pool ad (fun j => nI (fr j)) (fun j => nI (to j)) (fun j => nI (ne j)) (fun j => nI (gi j)) (fun j => nI (ti j)) (fun j => nI (od j)) (fun j => nI (fa j)) (fun j => nI (ft j)) (fun j => nI (br j))) ++ wR cI cZ ar (nI w) (nI h) (nI rl) (nI st) (nI a) (nI k) (nI t) (nI ov) d1 d2 d3 (nI len) (nI cn) (nI sn) (nI rn) (nI gr) (nI gt) (nI pr) (fun j => nI (ki j)) (fun j => nI (ro j)) (fun j => nI (ps j)) ik ra rk rt rov rp rq rcf rcb rs rrow (fun j => nI (cl j)) (fun j => nI (sc j)) (fun j => nI (sa j)) (fun j => nI (sb j)) nN nX (fun j => nI (fr j)) (fun j => nI (to j)) (fun j => nI (ne j)) (fun j => nI (gi j)) (fun j => nI (ti j)) (fun j => nI (od j)) rfa rft (fun j => nI (br j)) (fun j => e1 (fD j)) Cr)) (kk : ∀ (H : Heap) (locs : List Loc), va_S (fun q : Nat => s.heap.size ≤ q) s.heap H locs → IV D cI cJ cZ cR cN ad ac ar (fun q : Nat => s.heap.size ≤ q) H → W p l e room_1 s m #[Value.ref b] below meth c H locs 117 139158 Q (F0 m 907 ls [])) : W p l e room_1 s m #[Value.ref b] below meth c H locs 117 139158 Q (F0 m 841 ls []) := by
  have K0 := K
  obtain ⟨hx, hb, hml, hown, hts, hcx, hst⟩ := K0
  have hbA : ¬ (fun q : Nat => s.heap.size ≤ q) b := Nat.not_le.mpr hbl
  have h1 : vp_in (nI i + (1 : Int32)) L := by
    show vp_in (nI i + nI 1) L
    rw [nI_add]; exact vp_in_nI (by omega) (by omega)
  have h2 : vp_in (nI i + (2 : Int32)) L := by
    show vp_in (nI i + nI 2) L
    rw [nI_add]; exact vp_in_nI (by omega) (by omega)
  have h3 : vp_in (nI i + (3 : Int32)) L := by
    show vp_in (nI i + nI 3) L
    rw [nI_add]; exact vp_in_nI (by omega) (by omega)
  obtain ⟨g1, g2, g3, g4, g5, g6, g7, g8⟩ := g
  obtain ⟨r, scn2, pc2, kn2, sd2, sr2, sT2, il2, ch2, Cr2, q1, e1, e2⟩ := b_choice hF g7.1 g7.2.1 g7.2.2.1 g7.2.2.2 g8 Cr (xs (nI i + (1 : Int32)).toNatClampNeg) (xs (nI i + (2 : Int32)).toNatClampNeg) (xs (nI i + (3 : Int32)).toNatClampNeg)
  refine lv_aload_n hx hb dL_law_841 rfl (lv_at hl 1 rfl) ?_
  refine lv_aload_n hx hb dL_law_842 rfl (lv_at hl 0 rfl) ?_
  refine lv_iload_n hx hb dL_law_843 rfl (lv_at hl 3 rfl) ?_
  refine lv_iconst (v := (1 : Int32)) hx hb dL_law_844 (by decide) ?_
  refine lv_iadd hx hb dL_law_845 ?_
  refine va_sld hx hb hX hbl hbA hS h1 dL_law_846 ?_
  refine lv_aload_n hx hb dL_law_847 rfl (lv_at hl 0 rfl) ?_
  refine lv_iload_n hx hb dL_law_848 rfl (lv_at hl 3 rfl) ?_
  refine lv_iconst (v := (2 : Int32)) hx hb dL_law_849 (by decide) ?_
  refine lv_iadd hx hb dL_law_850 ?_
  refine va_sld hx hb hX hbl hbA hS h2 dL_law_851 ?_
  refine lv_aload_n hx hb dL_law_852 rfl (lv_at hl 0 rfl) ?_
  refine lv_iload_n hx hb dL_law_853 rfl (lv_at hl 3 rfl) ?_
  refine lv_iconst (v := (3 : Int32)) hx hb dL_law_854 (by decide) ?_
  refine lv_iadd hx hb dL_law_855 ?_
  refine va_sld hx hb hX hbl hbA hS h3 dL_law_856 ?_
  refine k7_choice K hl.1 hS hP hD e1 (fun H locs hP hD hS => ?_)
  refine lv_aload_n hx hb dL_law_860 rfl (lv_at hl 2 rfl) ?_
  refine lv_aload_n hx hb dL_law_861 rfl (lv_at hl 0 rfl) ?_
  refine lv_iload_n hx hb dL_law_862 rfl (lv_at hl 3 rfl) ?_
  refine lv_iconst (v := (1 : Int32)) hx hb dL_law_863 (by decide) ?_
  refine lv_iadd hx hb dL_law_864 ?_
  refine va_sld hx hb hX hbl hbA hS h1 dL_law_865 ?_
  refine lv_aload_n hx hb dL_law_866 rfl (lv_at hl 0 rfl) ?_
  refine lv_iload_n hx hb dL_law_867 rfl (lv_at hl 3 rfl) ?_
  refine lv_iconst (v := (2 : Int32)) hx hb dL_law_868 (by decide) ?_
  refine lv_iadd hx hb dL_law_869 ?_
  refine va_sld hx hb hX hbl hbA hS h2 dL_law_870 ?_
  refine lv_aload_n hx hb dL_law_871 rfl (lv_at hl 0 rfl) ?_
  refine lv_iload_n hx hb dL_law_872 rfl (lv_at hl 3 rfl) ?_
  refine lv_iconst (v := (3 : Int32)) hx hb dL_law_873 (by decide) ?_
  refine lv_iadd hx hb dL_law_874 ?_
  refine va_sld hx hb hX hbl hbA hS h3 dL_law_875 ?_
  refine k8_choice K hl.1 hS hP hD e2 (fun H locs hP hD hS => ?_)
  refine lv_icmp_eq (tgt := 907) hx hb dL_law_879 (by decide) (fun _ => ?_) (fun h => absurd rfl h)
  exact kk H locs hS (IV_mk hh ah w h rl st ki ro opn kyc gc sp a k t ov ps ik ks ko kl kq ra rk rt rov rp qd cq ccf cpr len crow cn cl sn sc sa sb Hh Aa rn fr to ne gi ti od fa ft br rfa rft gr gt pr kn2 scn2 pc2 ch2 sd2 il2 sr2 sT2 fe d1 d2 d3 rq rcf rcb rs rrow nN nX fD Cr2 ⟨g1, g2, g3, g4, g5, g6, g7, q1⟩ hP hD)
set_option maxHeartbeats 4000000 in
set_option maxRecDepth 100000 in
theorem case_count {p : Program} {l : Launch} {e : Env} {s : State} {m : MethodId} {below : List Frame} {meth : Method} {c : Code} {b L : Nat} {xs : Nat → Int32} (hX : va_X b L xs s s.heap) (hbl : b < s.heap.size) {D : va_G} {cI cJ cZ cR cN : ClassId} {tX tY : Nat} (K : LK p s m c b D cI cJ cZ cR cN tX tY) {Q : State → Prop} {ad ac ar : Nat → Nat} {F : Nat} (hF : 10000000 ≤ F) (hL : L ≤ 4608) {H : Heap} {locs : List Loc} {ls : Array Slot} {i : Nat} (hi : i + 9 ≤ L) (hl : lv_has ls 4 [(0, .ref b), (1, .ref (ac 0)), (2, .ref (ar 0)), (3, .int (nI i))]) (hS : va_S (fun q : Nat => s.heap.size ≤ q) s.heap H locs) {hh : Nat} {ah : Nat} {w : Nat} {h : Nat} {rl : Nat} {st : Nat} {ki : Nat → Nat} {ro : Nat → Nat} {opn : Nat → Int64} {kyc : Nat → Int64} {gc : Int64} {sp : Int32} {a : Nat} {k : Nat} {t : Nat} {ov : Nat} {ps : Nat → Nat} {ik : Nat → Int32} {ks : Nat → Int32} {ko : Nat → Int32} {kl : Nat → Int32} {kq : Nat → Nat → Nat} {ra : Nat → Int32} {rk : Nat → Int32} {rt : Nat → Int32} {rov : Nat → Int32} {rp : Nat → Int32} {qd : Int32} {cq : Nat → Int32} {ccf : Nat → Int32} {cpr : Nat → Int32} {len : Nat} {crow : Nat → Int32} {cn : Nat} {cl : Nat → Nat} {sn : Nat} {sc : Nat → Nat} {sa : Nat → Nat} {sb : Nat → Nat} {Hh : Nat → Int64} {Aa : Nat → Int64} {rn : Nat} {fr : Nat → Nat} {to : Nat → Nat} {ne : Nat → Nat} {gi : Nat → Nat} {ti : Nat → Nat} {od : Nat → Nat} {fa : Nat → Nat} {ft : Nat → Nat} {br : Nat → Nat} {rfa : Nat → Int32} {rft : Nat → Int32} {gr : Nat} {gt : Nat} {pr : Nat} {kn : Nat} {scn : Nat} {pc : Nat} {ch : Nat → Int32} {sd : Nat → Nat} {il : Nat → Int32} {sr : Nat → Nat} {sT : Nat → Nat} {fe : Nat → Nat} {d1 : Int32} {d2 : Int32} {d3 : Int32} {rq : Nat → Int32} {rcf : Nat → Int32} {rcb : Nat → Int32} {rs : Nat → Int32} {rrow : Nat → Int32} {nN : Nat → Int32} {nX : Nat → Int32} {fD : Nat → Nat} {Cr : Nat → Int32} (g : PV w h rl st ki ro opn kyc gc sp a k t ov ps ik ks ko kl kq ra rk rt rov rp len crow cn cl sn sc sa sb rn fr to ne gi ti od fa ft br rfa rft gr gt pr kn scn pc ch sd il sr sT rrow) (hP : va_P D vwCl ((wC cI cJ cZ cR cN ad ac hh ah gc (nI w) (nI h) (nI rl) (nI st) (fun j => nI (ki j)) opn kyc (fun j => nI (ro j)) sp (nI ov) (nI t) (fun j => nI (ps j)) ks ko kl (fun p j => nI (kq p j)) ik qd cq ccf cpr (nI len) crow (nI cn) (fun j => nI (cl j)) (nI sn) (fun j => nI (sc j)) (fun j => nI (sa j)) (fun j => nI (sb j)) Hh Aa (nI rn) (nI gr) (nI gt) (nI pr) (nI kn) (nI scn) (nI pc) (fun j => e1 (fe j)) ch (fun j => nI (sd j)) il (fun j => nI (sr j)) (fun j => nI (sT j)) ++ fr_pool ad (fun j => nI (fr j)) (fun j => nI (to j)) (fun j => nI (ne j)) (fun j => nI (gi j)) (fun j => nI (ti j)) (fun j => nI (od j)) (fun j => nI (fa j)) (fun j => nI (ft j)) (fun j => nI (br j))) ++ wR cI cZ ar (nI w) (nI h) (nI rl) (nI st) (nI a) (nI k) (nI t) (nI ov) d1 d2 d3 (nI len) (nI cn) (nI sn) (nI rn) (nI gr) (nI gt) (nI pr) (fun j => nI (ki j)) (fun j => nI (ro j)) (fun j => nI (ps j)) ik ra rk rt rov rp rq rcf rcb rs rrow (fun j => nI (cl j)) (fun j => nI (sc j)) (fun j => nI (sa j)) (fun j => nI (sb j)) nN nX (fun j => nI (fr j)) (fun j => nI (to j)) (fun j => nI (ne j)) (fun j => nI (gi j)) (fun j => nI (ti j)) (fun j => nI (od j)) rfa rft (fun j => nI (br j)) (fun j => e1 (fD j)) Cr) H) (hD : va_D (fun q : Nat => s.heap.size ≤ q) ((wC cI cJ cZ cR cN ad ac hh ah gc (nI w) (nI h) (nI rl) (nI st) (fun j => nI (ki j)) opn kyc (fun j => nI (ro j)) sp (nI ov) (nI t) (fun j => nI (ps j)) ks ko kl (fun p j => nI (kq p j)) ik qd cq ccf cpr (nI len) crow (nI cn) (fun j => nI (cl j)) (nI sn) (fun j => nI (sc j)) (fun j => nI (sa j)) (fun j => nI (sb j)) Hh Aa (nI rn) (nI gr) (nI gt) (nI pr) (nI kn) (nI scn) (nI pc) (fun j => e1 (fe j)) ch (fun j => nI (sd j)) il (fun j => nI (sr j)) (fun j => nI (sT j)) ++ fr_pool ad (fun j => nI (fr j)) (fun j => nI (to j)) (fun j => nI (ne j)) (fun j => nI (gi j)) (fun j => nI (ti j)) (fun j => nI (od j)) (fun j => nI (fa j)) (fun j => nI (ft j)) (fun j => nI (br j))) ++ wR cI cZ ar (nI w) (nI h) (nI rl) (nI st) (nI a) (nI k) (nI t) (nI ov) d1 d2 d3 (nI len) (nI cn) (nI sn) (nI rn) (nI gr) (nI gt) (nI pr) (fun j => nI (ki j)) (fun j => nI (ro j)) (fun j => nI (ps j)) ik ra rk rt rov rp rq rcf rcb rs rrow (fun j => nI (cl j)) (fun j => nI (sc j)) (fun j => nI (sa j)) (fun j => nI (sb j)) nN nX (fun j => nI (fr j)) (fun j => nI (to j)) (fun j => nI (ne j)) (fun j => nI (gi j)) (fun j => nI (ti j)) (fun j => nI (od j)) rfa rft (fun j => nI (br j)) (fun j => e1 (fD j)) Cr)) (kk : ∀ (H : Heap) (locs : List Loc), va_S (fun q : Nat => s.heap.size ≤ q) s.heap H locs → IV D cI cJ cZ cR cN ad ac ar (fun q : Nat => s.heap.size ≤ q) H → W p l e room_1 s m #[Value.ref b] below meth c H locs 117 139158 Q (F0 m 907 ls [])) : W p l e room_1 s m #[Value.ref b] below meth c H locs 117 139158 Q (F0 m 884 ls []) := by
  have K0 := K
  obtain ⟨hx, hb, hml, hown, hts, hcx, hst⟩ := K0
  have hbA : ¬ (fun q : Nat => s.heap.size ≤ q) b := Nat.not_le.mpr hbl
  have h1 : vp_in (nI i + (1 : Int32)) L := by
    show vp_in (nI i + nI 1) L
    rw [nI_add]; exact vp_in_nI (by omega) (by omega)
  obtain ⟨g1, g2, g3, g4, g5, g6, g7, g8⟩ := g
  have e2 := b_count (w := w) (h := h) (rl := rl) (cn := cn) (sn := sn) (rn := rn) (xs (nI i + (1 : Int32)).toNatClampNeg)
  refine lv_aload_n hx hb dL_law_884 rfl (lv_at hl 1 rfl) ?_
  refine lv_aload_n hx hb dL_law_885 rfl (lv_at hl 0 rfl) ?_
  refine lv_iload_n hx hb dL_law_886 rfl (lv_at hl 3 rfl) ?_
  refine lv_iconst (v := (1 : Int32)) hx hb dL_law_887 (by decide) ?_
  refine lv_iadd hx hb dL_law_888 ?_
  refine va_sld hx hb hX hbl hbA hS h1 dL_law_889 ?_
  refine k7_count K hl.1 hS hP hD (fun H locs hP hD hS => ?_)
  refine lv_aload_n hx hb dL_law_893 rfl (lv_at hl 2 rfl) ?_
  refine lv_aload_n hx hb dL_law_894 rfl (lv_at hl 0 rfl) ?_
  refine lv_iload_n hx hb dL_law_895 rfl (lv_at hl 3 rfl) ?_
  refine lv_iconst (v := (1 : Int32)) hx hb dL_law_896 (by decide) ?_
  refine lv_iadd hx hb dL_law_897 ?_
  refine va_sld hx hb hX hbl hbA hS h1 dL_law_898 ?_
  refine k8_count K hl.1 hS hP hD e2 (fun H locs hP hD hS => ?_)
  refine lv_icmp_eq (tgt := 907) hx hb dL_law_902 (by decide) (fun _ => ?_) (fun h => absurd rfl h)
  exact kk H locs hS (IV_mk hh ah w h rl st ki ro opn kyc gc sp a k t ov ps ik ks ko kl kq ra rk rt rov rp qd cq ccf cpr len crow cn cl sn sc sa sb Hh Aa rn fr to ne gi ti od fa ft br rfa rft gr gt pr kn scn pc ch sd il sr sT fe d1 d2 d3 rq rcf rcb rs rrow nN nX fD Cr ⟨g1, g2, g3, g4, g5, g6, g7, g8⟩ hP hD)
