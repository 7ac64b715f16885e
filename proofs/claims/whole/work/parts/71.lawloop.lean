theorem law_more {i L : Nat} (hi : i ≤ L) (hL : L ≤ 2560) (h : ¬ (Int32.ofNat L - 5 : Int32) < nI i) : i + 5 ≤ L := by
  rw [Int32.lt_iff_toInt_lt] at h
  have h1 : (Int32.ofNat L - 5 : Int32).toInt = (L : Int) - 5 := pk_sub_toInt (a := L) (b := 5) (by omega) (by decide)
  rw [h1, nI_toInt (by omega)] at h
  omega
set_option maxHeartbeats 4000000 in
set_option maxRecDepth 100000 in
theorem law_loop {p : Program} {l : Launch} {e : Env} {s : State} {m : MethodId} {below : List Frame} {meth : Method} {c : Code} {D : va_G} {cI cZ : ClassId} {b L : Nat} {xs : Nat → Int32} {tF tS : Nat} {ad : Nat → Nat} (hL : L ≤ 2560) (hr : meth.sig.returnType = ret) (hlocks : meth.locks = false) (C : kC p s m #[Value.ref b] meth c code 4 wsL_law RL D cI cZ (fun q : Nat => s.heap.size ≤ q)) (hX : va_X b L xs s s.heap) (hbl : b < s.heap.size) (hz : kZ tF tS (fun q : Nat => s.heap.size ≤ q) s s.heap) : ∀ (n i : Nat) (ii : Int32) (nx : Int32) (yr : Int32) (ww : Nat → Int32) (gg : Nat → Int32) (rr : Nat → Int32) (kn : Nat → Int32) (sn : Int32) (ss : Nat → Int32) (sc : Nat → Int32) (pa : Int32) (sg : Int32) (wp : Int32) (ex : Int32) (on : Int32) (ot : Int32) (pk : Nat → Int32) (po : Nat → Int32) (pt : Nat → Int32) (pm : Nat → Int32) (t1 : Int32) (t2 : Int32) (t3 : Int32) (t4 : Int32) (t5 : Int32) (ti : Int32) (tn : Int32) (ty : Int32) (tw : Nat → Int32) (tg : Nat → Int32) (tr : Nat → Int32) (eo : Int32) (ed : Nat → Int32) (em : Nat → Int32) (rw : Nat → Int32) (gs : Int32) (gq : Int32) (gt : Int32) (gf : Nat → Int32) (gl : Nat → Int32) (uf : Int32) (ui : Int32) (un : Int32) (uy : Int32) (uw : Nat → Int32) (ug : Nat → Int32) (ur : Nat → Int32) (uk : Nat → Int32) (um : Int32) (us : Nat → Int32) (uc : Nat → Int32) (zf : Int32) (zi : Int32) (zn : Int32) (zy : Int32) (zw : Nat → Int32) (zg : Nat → Int32) (zr : Nat → Int32) (zk : Nat → Int32) (zm : Int32) (zs : Nat → Int32) (zc : Nat → Int32) (mc : Int32) (mn : Int32) (me : Int32) (m1 : Int32) (m2 : Int32) (m3 : Int32) (m4 : Int32) (m5 : Int32) (m6 : Int32) (m7 : Int32) (md : Nat → Int32) (pd : Nat → Int32) (ma : Nat → Int32) (mh : Nat → Int32) (mo : Nat → Int32) (mu : Nat → Int32) (mq : Nat → Int32) (mv : Nat → Int32) (mg : Nat → Int32) (mw : Nat → Int32) (mf : Nat → Int32) (mb : Nat → Int32) (kp : Nat → Int32) (ik : Nat → Int32), i ≤ L → L < i + 5 * n → RA ww gg rr ii nx yr kn ss sc sn sg pd pk po pt pm pa wp ex on ot tw tg tr uw ug ur ui un uy uk us uc um uf zw zg zr zi zn zy zk zs zc zm zf kp ik → ∀ (H : Heap) (locs : List Loc), kW D (fun q : Nat => s.heap.size ≤ q) s H locs (lwW cI cZ ad ii nx yr ww gg rr kn sn ss sc pa sg wp ex on ot pk po pt pm t1 t2 t3 t4 t5 ti tn ty tw tg tr eo ed em rw gs gq gt gf gl uf ui un uy uw ug ur uk um us uc zf zi zn zy zw zg zr zk zm zs zc mc mn me m1 m2 m3 m4 m5 m6 m7 md pd ma mh mo mu mq mv mg mw mf mb kp ik) → ∀ (ls : Array Slot), lv_has ls 4 [(0, .ref b), (1, .ref (ad 0)), (2, .ref (ad 48)), (3, .int (nI i))] → W p l e room_1 s m #[Value.ref b] below meth c H locs 69 6637 (lw_Z below #[Value.ref b] s) (F0 m 18 ls []) := by
  have hx := C.hx
  have hb := C.hb
  have hbA : ¬ (fun q : Nat => s.heap.size ≤ q) b := Nat.not_le.mpr hbl
  intro n
  induction n with
  | zero =>
    intro i ii nx yr ww gg rr kn sn ss sc pa sg wp ex on ot pk po pt pm t1 t2 t3 t4 t5 ti tn ty tw tg tr eo ed em rw gs gq gt gf gl uf ui un uy uw ug ur uk um us uc zf zi zn zy zw zg zr zk zm zs zc mc mn me m1 m2 m3 m4 m5 m6 m7 md pd ma mh mo mu mq mv mg mw mf mb kp ik hi hn
    exact absurd hn (by omega)
  | succ n ih =>
    intro i ii nx yr ww gg rr kn sn ss sc pa sg wp ex on ot pk po pt pm t1 t2 t3 t4 t5 ti tn ty tw tg tr eo ed em rw gs gq gt gf gl uf ui un uy uw ug ur uk um us uc zf zi zn zy zw zg zr zk zm zs zc mc mn me m1 m2 m3 m4 m5 m6 m7 md pd ma mh mo mu mq mv mg mw mf mb kp ik hi hn hRA H locs hw ls hl
    refine lv_iload_n hx hb dL_law_18 rfl (lv_at hl 3 rfl) ?_
    refine lv_aload_n hx hb dL_law_19 rfl (lv_at hl 0 rfl) ?_
    refine va_slen hx hb hX hbl hbA hw.2.2 dL_law_20 ?_
    refine lv_iconst (v := 5) hx hb dL_law_21 (by decide) ?_
    refine lv_isub hx hb dL_law_22 ?_
    refine lv_icmp_gt (tgt := 913) hx hb dL_law_23 (by decide) (fun c1 => ?_) (fun c1 => ?_)
    · refine lv_iconst (v := 1) hx hb dL_law_913 (by decide) ?_
      refine va_forget (fun q hq => hw.2.2.2.2 q hq) ?_
      exact lw_ret hx hb hr hlocks dL_law_914
    · have hlt : i + 5 ≤ L := law_more hi hL c1
      have h0 : vp_in (nI i) L := by
        exact vp_in_nI (by omega) (by omega)
      have h1 : vp_in (nI i + 1) L := by
        rw [show nI i + 1 = nI (i + 1) from nI_add i 1]
        exact vp_in_nI (by omega) (by omega)
      have h2 : vp_in (nI i + 2) L := by
        rw [show nI i + 2 = nI (i + 2) from nI_add i 2]
        exact vp_in_nI (by omega) (by omega)
      have h3 : vp_in (nI i + 3) L := by
        rw [show nI i + 3 = nI (i + 3) from nI_add i 3]
        exact vp_in_nI (by omega) (by omega)
      have h4 : vp_in (nI i + 4) L := by
        rw [show nI i + 4 = nI (i + 4) from nI_add i 4]
        exact vp_in_nI (by omega) (by omega)
      have K : lwK p l e s m below meth c D cI cZ b ad (nI i) := by
        intro ii nx yr ww gg rr kn sn ss sc pa sg wp ex on ot pk po pt pm t1 t2 t3 t4 t5 ti tn ty tw tg tr eo ed em rw gs gq gt gf gl uf ui un uy uw ug ur uk um us uc zf zi zn zy zw zg zr zk zm zs zc mc mn me m1 m2 m3 m4 m5 m6 m7 md pd ma mh mo mu mq mv mg mw mf mb kp ik hRA H locs hw ls hl
        refine lv_iinc (v := (nI (i + 5))) (lv' := [(3, .int (nI (i + 5))), (0, .ref b), (1, .ref (ad 0)), (2, .ref (ad 48))]) hx hb dL_law_907 hl (k := 3) rfl (nI_add i 5) (by decide) rfl (fun ls hl => ?_)
        refine lv_goto (tgt := 18) hx hb dL_law_910 (by decide) ?_
        exact ih (i + 5) ii nx yr ww gg rr kn sn ss sc pa sg wp ex on ot pk po pt pm t1 t2 t3 t4 t5 ti tn ty tw tg tr eo ed em rw gs gq gt gf gl uf ui un uy uw ug ur uk um us uc zf zi zn zy zw zg zr zk zm zs zc mc mn me m1 m2 m3 m4 m5 m6 m7 md pd ma mh mo mu mq mv mg mw mf mb kp ik hlt (by omega) hRA _ _ hw _ (lv_sub hl [1, 2, 3, 0] rfl)
      refine lv_aload_n hx hb dL_law_26 rfl (lv_at hl 0 rfl) ?_
      refine lv_iload_n hx hb dL_law_27 rfl (lv_at hl 3 rfl) ?_
      refine va_sld hx hb hX hbl hbA hw.2.2 h0 dL_law_28 ?_
      refine lv_bipush (v := 31) hx hb dL_law_29 (by decide) ?_
      refine lv_iand hx hb dL_law_31 ?_
      refine lv_topi (fun x ex1 => ?_)
      clear ex1
      by_cases c10 : x = 0
      · refine lv_tableIn (tgt := 152) hx hb dL_law_32 (by rw [c10]; decide) (by rw [c10]; decide) (by rw [c10]; rfl) (by decide) ?_
        exact lc_house ii nx yr ww gg rr kn sn ss sc pa sg wp ex on ot pk po pt pm t1 t2 t3 t4 t5 ti tn ty tw tg tr eo ed em rw gs gq gt gf gl uf ui un uy uw ug ur uk um us uc zf zi zn zy zw zg zr zk zm zs zc mc mn me m1 m2 m3 m4 m5 m6 m7 md pd ma mh mo mu mq mv mg mw mf mb kp ik C hX hbl hz h1 h2 h3 h4 hRA K hw hl
      by_cases c11 : x = 1
      · refine lv_tableIn (tgt := 195) hx hb dL_law_32 (by rw [c11]; decide) (by rw [c11]; decide) (by rw [c11]; rfl) (by decide) ?_
        exact lc_gave ii nx yr ww gg rr kn sn ss sc pa sg wp ex on ot pk po pt pm t1 t2 t3 t4 t5 ti tn ty tw tg tr eo ed em rw gs gq gt gf gl uf ui un uy uw ug ur uk um us uc zf zi zn zy zw zg zr zk zm zs zc mc mn me m1 m2 m3 m4 m5 m6 m7 md pd ma mh mo mu mq mv mg mw mf mb kp ik C hX hbl hz h1 h2 h3 h4 hRA K hw hl
      by_cases c12 : x = 2
      · refine lv_tableIn (tgt := 238) hx hb dL_law_32 (by rw [c12]; decide) (by rw [c12]; decide) (by rw [c12]; rfl) (by decide) ?_
        exact lc_map ii nx yr ww gg rr kn sn ss sc pa sg wp ex on ot pk po pt pm t1 t2 t3 t4 t5 ti tn ty tw tg tr eo ed em rw gs gq gt gf gl uf ui un uy uw ug ur uk um us uc zf zi zn zy zw zg zr zk zm zs zc mc mn me m1 m2 m3 m4 m5 m6 m7 md pd ma mh mo mu mq mv mg mw mf mb kp ik C hX hbl hz h1 h2 h3 h4 hRA K hw hl
      by_cases c13 : x = 3
      · refine lv_tableIn (tgt := 271) hx hb dL_law_32 (by rw [c13]; decide) (by rw [c13]; decide) (by rw [c13]; rfl) (by decide) ?_
        by_cases hc : xs (nI i + 3).toNatClampNeg = 0
        · exact lc_kin0 ii nx yr ww gg rr kn sn ss sc pa sg wp ex on ot pk po pt pm t1 t2 t3 t4 t5 ti tn ty tw tg tr eo ed em rw gs gq gt gf gl uf ui un uy uw ug ur uk um us uc zf zi zn zy zw zg zr zk zm zs zc mc mn me m1 m2 m3 m4 m5 m6 m7 md pd ma mh mo mu mq mv mg mw mf mb kp ik C hX hbl hz h1 h2 h3 h4 hc hRA K hw hl
        · exact lc_kin1 ii nx yr ww gg rr kn sn ss sc pa sg wp ex on ot pk po pt pm t1 t2 t3 t4 t5 ti tn ty tw tg tr eo ed em rw gs gq gt gf gl uf ui un uy uw ug ur uk um us uc zf zi zn zy zw zg zr zk zm zs zc mc mn me m1 m2 m3 m4 m5 m6 m7 md pd ma mh mo mu mq mv mg mw mf mb kp ik C hX hbl hz h1 h2 h3 h4 hc hRA K hw hl
      by_cases c14 : x = 4
      · refine lv_tableIn (tgt := 330) hx hb dL_law_32 (by rw [c14]; decide) (by rw [c14]; decide) (by rw [c14]; rfl) (by decide) ?_
        exact lc_say ii nx yr ww gg rr kn sn ss sc pa sg wp ex on ot pk po pt pm t1 t2 t3 t4 t5 ti tn ty tw tg tr eo ed em rw gs gq gt gf gl uf ui un uy uw ug ur uk um us uc zf zi zn zy zw zg zr zk zm zs zc mc mn me m1 m2 m3 m4 m5 m6 m7 md pd ma mh mo mu mq mv mg mw mf mb kp ik C hX hbl hz h1 h2 h3 h4 hRA K hw hl
      by_cases c15 : x = 5
      · refine lv_tableIn (tgt := 353) hx hb dL_law_32 (by rw [c15]; decide) (by rw [c15]; decide) (by rw [c15]; rfl) (by decide) ?_
        exact lc_wipe ii nx yr ww gg rr kn sn ss sc pa sg wp ex on ot pk po pt pm t1 t2 t3 t4 t5 ti tn ty tw tg tr eo ed em rw gs gq gt gf gl uf ui un uy uw ug ur uk um us uc zf zi zn zy zw zg zr zk zm zs zc mc mn me m1 m2 m3 m4 m5 m6 m7 md pd ma mh mo mu mq mv mg mw mf mb kp ik C hX hbl hz h1 h2 h3 h4 hRA K hw hl
      by_cases c16 : x = 6
      · refine lv_tableIn (tgt := 366) hx hb dL_law_32 (by rw [c16]; decide) (by rw [c16]; decide) (by rw [c16]; rfl) (by decide) ?_
        exact lc_fault ii nx yr ww gg rr kn sn ss sc pa sg wp ex on ot pk po pt pm t1 t2 t3 t4 t5 ti tn ty tw tg tr eo ed em rw gs gq gt gf gl uf ui un uy uw ug ur uk um us uc zf zi zn zy zw zg zr zk zm zs zc mc mn me m1 m2 m3 m4 m5 m6 m7 md pd ma mh mo mu mq mv mg mw mf mb kp ik C hX hbl hz h1 h2 h3 h4 hRA K hw hl
      by_cases c17 : x = 7
      · refine lv_tableIn (tgt := 379) hx hb dL_law_32 (by rw [c17]; decide) (by rw [c17]; decide) (by rw [c17]; rfl) (by decide) ?_
        exact lc_judge ii nx yr ww gg rr kn sn ss sc pa sg wp ex on ot pk po pt pm t1 t2 t3 t4 t5 ti tn ty tw tg tr eo ed em rw gs gq gt gf gl uf ui un uy uw ug ur uk um us uc zf zi zn zy zw zg zr zk zm zs zc mc mn me m1 m2 m3 m4 m5 m6 m7 md pd ma mh mo mu mq mv mg mw mf mb kp ik C hX hbl hz h1 h2 h3 h4 hRA K hw hl
      by_cases c18 : x = 8
      · refine lv_tableIn (tgt := 402) hx hb dL_law_32 (by rw [c18]; decide) (by rw [c18]; decide) (by rw [c18]; rfl) (by decide) ?_
        exact lc_behind ii nx yr ww gg rr kn sn ss sc pa sg wp ex on ot pk po pt pm t1 t2 t3 t4 t5 ti tn ty tw tg tr eo ed em rw gs gq gt gf gl uf ui un uy uw ug ur uk um us uc zf zi zn zy zw zg zr zk zm zs zc mc mn me m1 m2 m3 m4 m5 m6 m7 md pd ma mh mo mu mq mv mg mw mf mb kp ik C hX hbl hz h1 h2 h3 h4 hRA K hw hl
      by_cases c19 : x = 9
      · refine lv_tableIn (tgt := 435) hx hb dL_law_32 (by rw [c19]; decide) (by rw [c19]; decide) (by rw [c19]; rfl) (by decide) ?_
        exact lc_parish ii nx yr ww gg rr kn sn ss sc pa sg wp ex on ot pk po pt pm t1 t2 t3 t4 t5 ti tn ty tw tg tr eo ed em rw gs gq gt gf gl uf ui un uy uw ug ur uk um us uc zf zi zn zy zw zg zr zk zm zs zc mc mn me m1 m2 m3 m4 m5 m6 m7 md pd ma mh mo mu mq mv mg mw mf mb kp ik C hX hbl hz h1 h2 h3 h4 hRA K hw hl
      by_cases c20 : x = 10
      · refine lv_tableIn (tgt := 458) hx hb dL_law_32 (by rw [c20]; decide) (by rw [c20]; decide) (by rw [c20]; rfl) (by decide) ?_
        exact lc_first ii nx yr ww gg rr kn sn ss sc pa sg wp ex on ot pk po pt pm t1 t2 t3 t4 t5 ti tn ty tw tg tr eo ed em rw gs gq gt gf gl uf ui un uy uw ug ur uk um us uc zf zi zn zy zw zg zr zk zm zs zc mc mn me m1 m2 m3 m4 m5 m6 m7 md pd ma mh mo mu mq mv mg mw mf mb kp ik C hX hbl hz h1 h2 h3 h4 hRA K hw hl
      by_cases c21 : x = 11
      · refine lv_tableIn (tgt := 481) hx hb dL_law_32 (by rw [c21]; decide) (by rw [c21]; decide) (by rw [c21]; rfl) (by decide) ?_
        exact lc_done ii nx yr ww gg rr kn sn ss sc pa sg wp ex on ot pk po pt pm t1 t2 t3 t4 t5 ti tn ty tw tg tr eo ed em rw gs gq gt gf gl uf ui un uy uw ug ur uk um us uc zf zi zn zy zw zg zr zk zm zs zc mc mn me m1 m2 m3 m4 m5 m6 m7 md pd ma mh mo mu mq mv mg mw mf mb kp ik C hX hbl hz h1 h2 h3 h4 hRA K hw hl
      by_cases c22 : x = 12
      · refine lv_tableIn (tgt := 494) hx hb dL_law_32 (by rw [c22]; decide) (by rw [c22]; decide) (by rw [c22]; rfl) (by decide) ?_
        exact lc_due ii nx yr ww gg rr kn sn ss sc pa sg wp ex on ot pk po pt pm t1 t2 t3 t4 t5 ti tn ty tw tg tr eo ed em rw gs gq gt gf gl uf ui un uy uw ug ur uk um us uc zf zi zn zy zw zg zr zk zm zs zc mc mn me m1 m2 m3 m4 m5 m6 m7 md pd ma mh mo mu mq mv mg mw mf mb kp ik C hX hbl hz h1 h2 h3 h4 hRA K hw hl
      by_cases c23 : x = 13
      · refine lv_tableIn (tgt := 517) hx hb dL_law_32 (by rw [c23]; decide) (by rw [c23]; decide) (by rw [c23]; rfl) (by decide) ?_
        exact lc_even ii nx yr ww gg rr kn sn ss sc pa sg wp ex on ot pk po pt pm t1 t2 t3 t4 t5 ti tn ty tw tg tr eo ed em rw gs gq gt gf gl uf ui un uy uw ug ur uk um us uc zf zi zn zy zw zg zr zk zm zs zc mc mn me m1 m2 m3 m4 m5 m6 m7 md pd ma mh mo mu mq mv mg mw mf mb kp ik C hX hbl hz h1 h2 h3 h4 hRA K hw hl
      by_cases c24 : x = 14
      · refine lv_tableIn (tgt := 540) hx hb dL_law_32 (by rw [c24]; decide) (by rw [c24]; decide) (by rw [c24]; rfl) (by decide) ?_
        exact lc_orders ii nx yr ww gg rr kn sn ss sc pa sg wp ex on ot pk po pt pm t1 t2 t3 t4 t5 ti tn ty tw tg tr eo ed em rw gs gq gt gf gl uf ui un uy uw ug ur uk um us uc zf zi zn zy zw zg zr zk zm zs zc mc mn me m1 m2 m3 m4 m5 m6 m7 md pd ma mh mo mu mq mv mg mw mf mb kp ik C hX hbl hz h1 h2 h3 h4 hRA K hw hl
      by_cases c25 : x = 15
      · refine lv_tableIn (tgt := 563) hx hb dL_law_32 (by rw [c25]; decide) (by rw [c25]; decide) (by rw [c25]; rfl) (by decide) ?_
        exact lc_ring ii nx yr ww gg rr kn sn ss sc pa sg wp ex on ot pk po pt pm t1 t2 t3 t4 t5 ti tn ty tw tg tr eo ed em rw gs gq gt gf gl uf ui un uy uw ug ur uk um us uc zf zi zn zy zw zg zr zk zm zs zc mc mn me m1 m2 m3 m4 m5 m6 m7 md pd ma mh mo mu mq mv mg mw mf mb kp ik C hX hbl hz h1 h2 h3 h4 hRA K hw hl
      by_cases c26 : x = 16
      · refine lv_tableIn (tgt := 606) hx hb dL_law_32 (by rw [c26]; decide) (by rw [c26]; decide) (by rw [c26]; rfl) (by decide) ?_
        exact lc_count ii nx yr ww gg rr kn sn ss sc pa sg wp ex on ot pk po pt pm t1 t2 t3 t4 t5 ti tn ty tw tg tr eo ed em rw gs gq gt gf gl uf ui un uy uw ug ur uk um us uc zf zi zn zy zw zg zr zk zm zs zc mc mn me m1 m2 m3 m4 m5 m6 m7 md pd ma mh mo mu mq mv mg mw mf mb kp ik C hX hbl hz h1 h2 h3 h4 hRA K hw hl
      by_cases c27 : x = 17
      · refine lv_tableIn (tgt := 639) hx hb dL_law_32 (by rw [c27]; decide) (by rw [c27]; decide) (by rw [c27]; rfl) (by decide) ?_
        exact lc_forget ii nx yr ww gg rr kn sn ss sc pa sg wp ex on ot pk po pt pm t1 t2 t3 t4 t5 ti tn ty tw tg tr eo ed em rw gs gq gt gf gl uf ui un uy uw ug ur uk um us uc zf zi zn zy zw zg zr zk zm zs zc mc mn me m1 m2 m3 m4 m5 m6 m7 md pd ma mh mo mu mq mv mg mw mf mb kp ik C hX hbl hz h1 h2 h3 h4 hRA K hw hl
      by_cases c28 : x = 18
      · refine lv_tableIn (tgt := 652) hx hb dL_law_32 (by rw [c28]; decide) (by rw [c28]; decide) (by rw [c28]; rfl) (by decide) ?_
        exact lc_ever ii nx yr ww gg rr kn sn ss sc pa sg wp ex on ot pk po pt pm t1 t2 t3 t4 t5 ti tn ty tw tg tr eo ed em rw gs gq gt gf gl uf ui un uy uw ug ur uk um us uc zf zi zn zy zw zg zr zk zm zs zc mc mn me m1 m2 m3 m4 m5 m6 m7 md pd ma mh mo mu mq mv mg mw mf mb kp ik C hX hbl hz h1 h2 h3 h4 hRA K hw hl
      by_cases c29 : x = 19
      · refine lv_tableIn (tgt := 675) hx hb dL_law_32 (by rw [c29]; decide) (by rw [c29]; decide) (by rw [c29]; rfl) (by decide) ?_
        exact lc_ask ii nx yr ww gg rr kn sn ss sc pa sg wp ex on ot pk po pt pm t1 t2 t3 t4 t5 ti tn ty tw tg tr eo ed em rw gs gq gt gf gl uf ui un uy uw ug ur uk um us uc zf zi zn zy zw zg zr zk zm zs zc mc mn me m1 m2 m3 m4 m5 m6 m7 md pd ma mh mo mu mq mv mg mw mf mb kp ik C hX hbl hz h1 h2 h3 h4 hRA K hw hl
      by_cases c30 : x = 20
      · refine lv_tableIn (tgt := 698) hx hb dL_law_32 (by rw [c30]; decide) (by rw [c30]; decide) (by rw [c30]; rfl) (by decide) ?_
        exact lc_crumbs ii nx yr ww gg rr kn sn ss sc pa sg wp ex on ot pk po pt pm t1 t2 t3 t4 t5 ti tn ty tw tg tr eo ed em rw gs gq gt gf gl uf ui un uy uw ug ur uk um us uc zf zi zn zy zw zg zr zk zm zs zc mc mn me m1 m2 m3 m4 m5 m6 m7 md pd ma mh mo mu mq mv mg mw mf mb kp ik C hX hbl hz h1 h2 h3 h4 hRA K hw hl
      by_cases c31 : x = 21
      · refine lv_tableIn (tgt := 741) hx hb dL_law_32 (by rw [c31]; decide) (by rw [c31]; decide) (by rw [c31]; rfl) (by decide) ?_
        exact lc_lots ii nx yr ww gg rr kn sn ss sc pa sg wp ex on ot pk po pt pm t1 t2 t3 t4 t5 ti tn ty tw tg tr eo ed em rw gs gq gt gf gl uf ui un uy uw ug ur uk um us uc zf zi zn zy zw zg zr zk zm zs zc mc mn me m1 m2 m3 m4 m5 m6 m7 md pd ma mh mo mu mq mv mg mw mf mb kp ik C hX hbl hz h1 h2 h3 h4 hRA K hw hl
      by_cases c32 : x = 22
      · refine lv_tableIn (tgt := 795) hx hb dL_law_32 (by rw [c32]; decide) (by rw [c32]; decide) (by rw [c32]; rfl) (by decide) ?_
        exact lc_century ii nx yr ww gg rr kn sn ss sc pa sg wp ex on ot pk po pt pm t1 t2 t3 t4 t5 ti tn ty tw tg tr eo ed em rw gs gq gt gf gl uf ui un uy uw ug ur uk um us uc zf zi zn zy zw zg zr zk zm zs zc mc mn me m1 m2 m3 m4 m5 m6 m7 md pd ma mh mo mu mq mv mg mw mf mb kp ik C hX hbl hz h1 h2 h3 h4 hRA K hw hl
      by_cases c33 : x = 23
      · refine lv_tableIn (tgt := 838) hx hb dL_law_32 (by rw [c33]; decide) (by rw [c33]; decide) (by rw [c33]; rfl) (by decide) ?_
        exact lc_image ii nx yr ww gg rr kn sn ss sc pa sg wp ex on ot pk po pt pm t1 t2 t3 t4 t5 ti tn ty tw tg tr eo ed em rw gs gq gt gf gl uf ui un uy uw ug ur uk um us uc zf zi zn zy zw zg zr zk zm zs zc mc mn me m1 m2 m3 m4 m5 m6 m7 md pd ma mh mo mu mq mv mg mw mf mb kp ik C hX hbl hz h1 h2 h3 h4 hRA K hw hl
      by_cases c34 : x = 24
      · refine lv_tableIn (tgt := 861) hx hb dL_law_32 (by rw [c34]; decide) (by rw [c34]; decide) (by rw [c34]; rfl) (by decide) ?_
        exact lc_restore ii nx yr ww gg rr kn sn ss sc pa sg wp ex on ot pk po pt pm t1 t2 t3 t4 t5 ti tn ty tw tg tr eo ed em rw gs gq gt gf gl uf ui un uy uw ug ur uk um us uc zf zi zn zy zw zg zr zk zm zs zc mc mn me m1 m2 m3 m4 m5 m6 m7 md pd ma mh mo mu mq mv mg mw mf mb kp ik C hX hbl hz h1 h2 h3 h4 hRA K hw hl
      by_cases c35 : x = 25
      · refine lv_tableIn (tgt := 884) hx hb dL_law_32 (by rw [c35]; decide) (by rw [c35]; decide) (by rw [c35]; rfl) (by decide) ?_
        exact lc_told ii nx yr ww gg rr kn sn ss sc pa sg wp ex on ot pk po pt pm t1 t2 t3 t4 t5 ti tn ty tw tg tr eo ed em rw gs gq gt gf gl uf ui un uy uw ug ur uk um us uc zf zi zn zy zw zg zr zk zm zs zc mc mn me m1 m2 m3 m4 m5 m6 m7 md pd ma mh mo mu mq mv mg mw mf mb kp ik C hX hbl hz h1 h2 h3 h4 hRA K hw hl
      refine lv_tableOut (tgt := 907) hx hb dL_law_32 (tab_out26 c10 c11 c12 c13 c14 c15 c16 c17 c18 c19 c20 c21 c22 c23 c24 c25 c26 c27 c28 c29 c30 c31 c32 c33 c34 c35) (by decide) ?_
      exact K ii nx yr ww gg rr kn sn ss sc pa sg wp ex on ot pk po pt pm t1 t2 t3 t4 t5 ti tn ty tw tg tr eo ed em rw gs gq gt gf gl uf ui un uy uw ug ur uk um us uc zf zi zn zy zw zg zr zk zm zs zc mc mn me m1 m2 m3 m4 m5 m6 m7 md pd ma mh mo mu mq mv mg mw mf mb kp ik hRA _ _ hw _ hl
