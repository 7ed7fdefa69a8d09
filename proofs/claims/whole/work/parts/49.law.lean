/-! THE LAW, from its entry -/
theorem and31_r (x : Int32) : (x &&& iI 31) = iI ((x &&& iI 31).toInt) := iI_of _
set_option maxHeartbeats 8000000 in
set_option maxRecDepth 100000 in
theorem law_loop {l : Launch} {nm : String} {L : Nat} {xs : Nat → Int32} {G : GT} {Z : ZT} {V : VT} {b0 x m r aT mo moc en enc i0 j0 j0c i1 j1 j1c e eLo eUp eSe eLe eGr f te tLo tUp tSe tLe tGr fcr t aL aU aP aK aN aH aBath aBather aMorn aText aRB aRN aLow aHigh aNeeds aLikes aHts aBook aImg aKept : Nat} (ML : MachL l nm b0 L xs G Z V) (hL320 : L ≤ 320) : ∀ (fu : Nat) {h hb ht h2 hb2 ht2 : Nat} {fa pa pn vb vn vo vm vbk d0 c0 d1 c1 fcc ffo cu cp nb2 n2 od2 vs vt vf va vw vu vna vrb vrn vro vtr vsd : Int} {ot k0 k1 ecl tcl ffd cb vch : Bool} {wT gmC geC g0 g1 el eu gs gL gG tl tu ts tL tG gc wL wU wP wK wN wH fb ft fb2 ft2 gb gt gm gx grb grn gl gh gn gk gq gbk gi gz : Int → Int} {i : Int}, (0 ≤ i ∧ i ≤ 325) → IT vt pn gx wT → IH vb vn vo fb ft gb gt → I2 fb2 ft2 → IR vm 12 vb vn gmC gm → IR vbk 30 vb vn geC gbk → II vb vn k0 k1 d0 c0 d1 c1 g0 g1 gi gz → LRN vn vm fb ft gmC ecl el eu → FLS vn vm fb ft gmC ffd ffo → CASI vb vn (hC fb ft vo vn) cb cu cp wL wU wP wK wN wH → 0 ≤ vs ∧ vs < 2147483648 → RX gl gh → (L + 5 - i : Int).toNat < fu → V 55 22575 18 [(x, eO 7 [.ref r, .ref mo, .ref en, .ref i0, .ref i1, .ref e, .ref f, .ref t, .ref h, .ref h2, .int (iI vs)]), (r, eO 5 [.ref aT, .int (iI vt), .int (iI fa), .int (iI vf), .int (iI pa), .int (iI pn), .int (iI (pI (ot = true)))]), (aT, eB G 400 wT), (mo, eO 6 [.ref moc, .int (iI vm)]), (moc, eI G 48 gmC), (en, eO 6 [.ref enc, .int (iI vbk)]), (enc, eI G 120 geC), (i0, eO 4 [.ref j0, .int (iI d0), .int (iI (pI (k0 = true)))]), (j0, eO 6 [.ref j0c, .int (iI c0)]), (j0c, eI G 48 g0), (i1, eO 4 [.ref j1, .int (iI d1), .int (iI (pI (k1 = true)))]), (j1, eO 6 [.ref j1c, .int (iI c1)]), (j1c, eI G 48 g1), (e, eO 1 [.ref eLo, .ref eUp, .ref eSe, .ref eLe, .ref eGr, .int (iI (pI (ecl = true)))]), (eLo, eI G 6 el), (eUp, eI G 6 eu), (eSe, eI G 12 gs), (eLe, eI G 12 gL), (eGr, eI G 12 gG), (f, eO 2 [.ref te, .ref fcr, .int (iI fcc), .int (iI (pI (ffd = true))), .int (iI ffo)]), (te, eO 1 [.ref tLo, .ref tUp, .ref tSe, .ref tLe, .ref tGr, .int (iI (pI (tcl = true)))]), (tLo, eI G 6 tl), (tUp, eI G 6 tu), (tSe, eI G 12 ts), (tLe, eI G 12 tL), (tGr, eI G 12 tG), (fcr, eI G 924 gc), (t, eO 0 [.ref aL, .ref aU, .ref aP, .ref aK, .ref aN, .ref aH, .int (iI cu), .int (iI cp), .int (iI (pI (cb = true)))]), (aL, eL G 128 wL), (aU, eI G 128 wU), (aP, eI G 1664 wP), (aK, eI G 13 wK), (aN, eI G 8192 wN), (aH, eI G 13 wH), (h, eO 3 [.ref hb, .ref ht, .int (iI vb), .int (iI vn), .int (iI vo)]), (hb, eI G 8 fb), (ht, eI G 24 ft), (h2, eO 3 [.ref hb2, .ref ht2, .int (iI nb2), .int (iI n2), .int (iI od2)]), (hb2, eI G 8 fb2), (ht2, eI G 24 ft2), (m, eO 8 [.int (iI vb), .ref aBath, .int (iI vn), .ref aBather, .int (iI vo), .int (iI vm), .ref aMorn, .int (iI vs), .ref aText, .int (iI vt), .int (iI vf), .int (iI va), .long (lI vsd), .int (iI vw), .int (iI vu), .int (iI vna), .int (iI vrb), .ref aRB, .int (iI vrn), .ref aRN, .int (iI vro), .ref aLow, .ref aHigh, .int (iI (pI (vch = true))), .ref aNeeds, .ref aLikes, .ref aHts, .int (iI vtr), .int (iI vbk), .ref aBook, .ref aImg, .ref aKept]), (aBath, eI G 8 gb), (aBather, eI G 24 gt), (aMorn, eI G 48 gm), (aText, eI G 400 gx), (aRB, eI G 8 grb), (aRN, eI G 24 grn), (aLow, eI G 6 gl), (aHigh, eI G 6 gh), (aNeeds, eI G 8192 gn), (aLikes, eI G 13 gk), (aHts, eI G 1638 gq), (aBook, eI G 120 gbk), (aImg, eI G 100 gi), (aKept, eZ G 2 gz)] [some (.ref b0), some (.ref x), some (.ref m), some (.int (iI i))] [] := by
  have MS := ML.ms
  have M := MS.m
  intro fu
  induction fu with
  | zero => intro h hb ht h2 hb2 ht2 fa pa pn vb vn vo vm vbk d0 c0 d1 c1 fcc ffo cu cp nb2 n2 od2 vs vt vf va vw vu vna vrb vrn vro vtr vsd ot k0 k1 ecl tcl ffd cb vch wT gmC geC g0 g1 el eu gs gL gG tl tu ts tL tG gc wL wU wP wK wN wH fb ft fb2 ft2 gb gt gm gx grb grn gl gh gn gk gq gbk gi gz i hi0 hT hH h2i hM hB hI hL hF hCa hS hR hm; exact absurd hm (Nat.not_lt_zero _)
  | succ fu ih =>
    intro h hb ht h2 hb2 ht2 fa pa pn vb vn vo vm vbk d0 c0 d1 c1 fcc ffo cu cp nb2 n2 od2 vs vt vf va vw vu vna vrb vrn vro vtr vsd ot k0 k1 ecl tcl ffd cb vch wT gmC geC g0 g1 el eu gs gL gG tl tu ts tL tG gc wL wU wP wK wN wH fb ft fb2 ft2 gb gt gm gx grb grn gl gh gn gk gq gbk gi gz i hi0 hT hH h2i hM hB hI hL hF hCa hS hR hm
    refine M.iloadn (pc := 18) 3 rfl rfl dL_law_18 ?_
    refine M.aloadn (pc := 19) 0 rfl rfl dL_law_19 ?_
    refine ML.slen (pc := 20) dL_law_20 ?_
    refine M.iconst (pc := 21) dL_law_21 ?_
    refine M.isub (pc := 22) dL_law_22 ?_
    refine M.icmp_gt (pc := 23) (tgt := 993) dL_law_23 (by decide) (by omega) (by omega) (fun c23 => ?_) (fun c23 => ?_)
    · refine M.iconst (pc := 993) dL_law_993 ?_
      exact ML.ret ⟨(Nat.le_of_ble_eq_true rfl), (Nat.le_of_ble_eq_true rfl)⟩ dL_law_994
    · have hi : 0 ≤ i ∧ i + 5 ≤ (L : Int) := ⟨hi0.1, by omega⟩
      have L987 : ∀ {h hb ht h2 hb2 ht2 : Nat} {fa pa pn vb vn vo vm vbk d0 c0 d1 c1 fcc ffo cu cp nb2 n2 od2 vs vt vf va vw vu vna vrb vrn vro vtr vsd : Int} {ot k0 k1 ecl tcl ffd cb vch : Bool} {wT gmC geC g0 g1 el eu gs gL gG tl tu ts tL tG gc wL wU wP wK wN wH fb ft fb2 ft2 gb gt gm gx grb grn gl gh gn gk gq gbk gi gz : Int → Int}, IT vt pn gx wT → IH vb vn vo fb ft gb gt → I2 fb2 ft2 → IR vm 12 vb vn gmC gm → IR vbk 30 vb vn geC gbk → II vb vn k0 k1 d0 c0 d1 c1 g0 g1 gi gz → LRN vn vm fb ft gmC ecl el eu → FLS vn vm fb ft gmC ffd ffo → CASI vb vn (hC fb ft vo vn) cb cu cp wL wU wP wK wN wH → 0 ≤ vs ∧ vs < 2147483648 → RX gl gh → V 55 22575 987 [(x, eO 7 [.ref r, .ref mo, .ref en, .ref i0, .ref i1, .ref e, .ref f, .ref t, .ref h, .ref h2, .int (iI vs)]), (r, eO 5 [.ref aT, .int (iI vt), .int (iI fa), .int (iI vf), .int (iI pa), .int (iI pn), .int (iI (pI (ot = true)))]), (aT, eB G 400 wT), (mo, eO 6 [.ref moc, .int (iI vm)]), (moc, eI G 48 gmC), (en, eO 6 [.ref enc, .int (iI vbk)]), (enc, eI G 120 geC), (i0, eO 4 [.ref j0, .int (iI d0), .int (iI (pI (k0 = true)))]), (j0, eO 6 [.ref j0c, .int (iI c0)]), (j0c, eI G 48 g0), (i1, eO 4 [.ref j1, .int (iI d1), .int (iI (pI (k1 = true)))]), (j1, eO 6 [.ref j1c, .int (iI c1)]), (j1c, eI G 48 g1), (e, eO 1 [.ref eLo, .ref eUp, .ref eSe, .ref eLe, .ref eGr, .int (iI (pI (ecl = true)))]), (eLo, eI G 6 el), (eUp, eI G 6 eu), (eSe, eI G 12 gs), (eLe, eI G 12 gL), (eGr, eI G 12 gG), (f, eO 2 [.ref te, .ref fcr, .int (iI fcc), .int (iI (pI (ffd = true))), .int (iI ffo)]), (te, eO 1 [.ref tLo, .ref tUp, .ref tSe, .ref tLe, .ref tGr, .int (iI (pI (tcl = true)))]), (tLo, eI G 6 tl), (tUp, eI G 6 tu), (tSe, eI G 12 ts), (tLe, eI G 12 tL), (tGr, eI G 12 tG), (fcr, eI G 924 gc), (t, eO 0 [.ref aL, .ref aU, .ref aP, .ref aK, .ref aN, .ref aH, .int (iI cu), .int (iI cp), .int (iI (pI (cb = true)))]), (aL, eL G 128 wL), (aU, eI G 128 wU), (aP, eI G 1664 wP), (aK, eI G 13 wK), (aN, eI G 8192 wN), (aH, eI G 13 wH), (h, eO 3 [.ref hb, .ref ht, .int (iI vb), .int (iI vn), .int (iI vo)]), (hb, eI G 8 fb), (ht, eI G 24 ft), (h2, eO 3 [.ref hb2, .ref ht2, .int (iI nb2), .int (iI n2), .int (iI od2)]), (hb2, eI G 8 fb2), (ht2, eI G 24 ft2), (m, eO 8 [.int (iI vb), .ref aBath, .int (iI vn), .ref aBather, .int (iI vo), .int (iI vm), .ref aMorn, .int (iI vs), .ref aText, .int (iI vt), .int (iI vf), .int (iI va), .long (lI vsd), .int (iI vw), .int (iI vu), .int (iI vna), .int (iI vrb), .ref aRB, .int (iI vrn), .ref aRN, .int (iI vro), .ref aLow, .ref aHigh, .int (iI (pI (vch = true))), .ref aNeeds, .ref aLikes, .ref aHts, .int (iI vtr), .int (iI vbk), .ref aBook, .ref aImg, .ref aKept]), (aBath, eI G 8 gb), (aBather, eI G 24 gt), (aMorn, eI G 48 gm), (aText, eI G 400 gx), (aRB, eI G 8 grb), (aRN, eI G 24 grn), (aLow, eI G 6 gl), (aHigh, eI G 6 gh), (aNeeds, eI G 8192 gn), (aLikes, eI G 13 gk), (aHts, eI G 1638 gq), (aBook, eI G 120 gbk), (aImg, eI G 100 gi), (aKept, eZ G 2 gz)] [some (.ref b0), some (.ref x), some (.ref m), some (.int (iI i))] [] := by
        intro h hb ht h2 hb2 ht2 fa pa pn vb vn vo vm vbk d0 c0 d1 c1 fcc ffo cu cp nb2 n2 od2 vs vt vf va vw vu vna vrb vrn vro vtr vsd ot k0 k1 ecl tcl ffd cb vch wT gmC geC g0 g1 el eu gs gL gG tl tu ts tL tG gc wL wU wP wK wN wH fb ft fb2 ft2 gb gt gm gx grb grn gl gh gn gk gq gbk gi gz hT hH h2i hM hB hI hL hF hCa hS hR
        refine M.iinc (pc := 987) (i := 3) rfl rfl dL_law_987 ?_
        dsimp only [List.set_cons_zero, List.set_cons_succ]
        refine M.goto (pc := 990) (tgt := 18) dL_law_990 (by decide) ?_
        exact ih (by omega) hT hH h2i hM hB hI hL hF hCa hS hR (by omega)
      refine M.aloadn (pc := 26) 0 rfl rfl dL_law_26 ?_
      refine M.iloadn (pc := 27) 3 rfl rfl dL_law_27 ?_
      refine ML.sld (pc := 28) (by omega) hL320 dL_law_28 ?_
      refine M.bipush (pc := 29) (by decide +kernel) dL_law_29 ?_
      refine M.iand (pc := 31) (iI_of _) dL_law_31 ?_
      have hzR := iI_r (iI (sc xs i) &&& iI 31)
      generalize (iI (sc xs i) &&& iI 31).toInt = z at hzR ⊢
      by_cases hz : z < 0 ∨ 26 < z
      · refine M.tableOut (pc := 32) (tgt := 987) dL_law_32 hzR hz (by decide) ?_
        exact L987 hT hH h2i hM hB hI hL hF hCa hS hR
      · have hzb : z = 0 ∨ z = 1 ∨ z = 2 ∨ z = 3 ∨ z = 4 ∨ z = 5 ∨ z = 6 ∨ z = 7 ∨ z = 8 ∨ z = 9 ∨ z = 10 ∨ z = 11 ∨ z = 12 ∨ z = 13 ∨ z = 14 ∨ z = 15 ∨ z = 16 ∨ z = 17 ∨ z = 18 ∨ z = 19 ∨ z = 20 ∨ z = 21 ∨ z = 22 ∨ z = 23 ∨ z = 24 ∨ z = 25 ∨ z = 26 := by omega
        rcases hzb with rfl | rfl | rfl | rfl | rfl | rfl | rfl | rfl | rfl | rfl | rfl | rfl | rfl | rfl | rfl | rfl | rfl | rfl | rfl | rfl | rfl | rfl | rfl | rfl | rfl | rfl | rfl
        · refine M.tableIn (pc := 32) 0 (tgt := 156) dL_law_32 (by omega) (by omega) (by omega) rfl (by decide) ?_
          exact lc_feed ML hL320 hi hT hH h2i hM hB hI hL hF hCa hS hR L987
        · refine M.tableIn (pc := 32) 1 (tgt := 219) dL_law_32 (by omega) (by omega) (by omega) rfl (by decide) ?_
          exact lc_house ML hL320 hi hT hH h2i hM hB hI hL hF hCa hS hR L987
        · refine M.tableIn (pc := 32) 2 (tgt := 232) dL_law_32 (by omega) (by omega) (by omega) rfl (by decide) ?_
          exact lc_fault ML hL320 hi hT hH h2i hM hB hI hL hF hCa hS hR L987
        · refine M.tableIn (pc := 32) 3 (tgt := 245) dL_law_32 (by omega) (by omega) (by omega) rfl (by decide) ?_
          exact lc_told ML hL320 hi hT hH h2i hM hB hI hL hF hCa hS hR L987
        · refine M.tableIn (pc := 32) 4 (tgt := 268) dL_law_32 (by omega) (by omega) (by omega) rfl (by decide) ?_
          exact lc_bath ML hL320 hi hT hH h2i hM hB hI hL hF hCa hS hR L987
        · refine M.tableIn (pc := 32) 5 (tgt := 301) dL_law_32 (by omega) (by omega) (by omega) rfl (by decide) ?_
          exact lc_bather ML hL320 hi hT hH h2i hM hB hI hL hF hCa hS hR L987
        · refine M.tableIn (pc := 32) 6 (tgt := 334) dL_law_32 (by omega) (by omega) (by omega) rfl (by decide) ?_
          exact lc_height ML hL320 hi hT hH h2i hM hB hI hL hF hCa hS hR L987
        · refine M.tableIn (pc := 32) 7 (tgt := 377) dL_law_32 (by omega) (by omega) (by omega) rfl (by decide) ?_
          exact lc_span ML hL320 hi hT hH h2i hM hB hI hL hF hCa hS hR L987
        · refine M.tableIn (pc := 32) 8 (tgt := 430) dL_law_32 (by omega) (by omega) (by omega) rfl (by decide) ?_
          exact lc_morning ML hL320 hi hT hH h2i hM hB hI hL hF hCa hS hR L987
        · refine M.tableIn (pc := 32) 9 (tgt := 483) dL_law_32 (by omega) (by omega) (by omega) rfl (by decide) ?_
          exact lc_strike ML hL320 hi hT hH h2i hM hB hI hL hF hCa hS hR L987
        · refine M.tableIn (pc := 32) 10 (tgt := 506) dL_law_32 (by omega) (by omega) (by omega) rfl (by decide) ?_
          exact lc_wrong ML hL320 hi hT hH h2i hM hB hI hL hF hCa hS hR L987
        · refine M.tableIn (pc := 32) 11 (tgt := 519) dL_law_32 (by omega) (by omega) (by omega) rfl (by decide) ?_
          exact lc_canBe ML hL320 hi hT hH h2i hM hB hI hL hF hCa hS hR L987
        · refine M.tableIn (pc := 32) 12 (tgt := 572) dL_law_32 (by omega) (by omega) (by omega) rfl (by decide) ?_
          exact lc_likely ML hL320 hi hT hH h2i hM hB hI hL hF hCa hS hR L987
        · refine M.tableIn (pc := 32) 13 (tgt := 625) dL_law_32 (by omega) (by omega) (by omega) rfl (by decide) ?_
          exact lc_odds ML hL320 hi hT hH h2i hM hB hI hL hF hCa hS hR L987
        · refine M.tableIn (pc := 32) 14 (tgt := 648) dL_law_32 (by omega) (by omega) (by omega) rfl (by decide) ?_
          exact lc_tells ML hL320 hi hT hH h2i hM hB hI hL hF hCa hS hR L987
        · refine M.tableIn (pc := 32) 15 (tgt := 691) dL_law_32 (by omega) (by omega) (by omega) rfl (by decide) ?_
          exact lc_alike ML hL320 hi hT hH h2i hM hB hI hL hF hCa hS hR L987
        · refine M.tableIn (pc := 32) 16 (tgt := 714) dL_law_32 (by omega) (by omega) (by omega) rfl (by decide) ?_
          exact lc_needed ML hL320 hi hT hH h2i hM hB hI hL hF hCa hS hR L987
        · refine M.tableIn (pc := 32) 17 (tgt := 747) dL_law_32 (by omega) (by omega) (by omega) rfl (by decide) ?_
          exact lc_away ML hL320 hi hT hH h2i hM hB hI hL hF hCa hS hR L987
        · refine M.tableIn (pc := 32) 18 (tgt := 760) dL_law_32 (by omega) (by omega) (by omega) rfl (by decide) ?_
          exact lc_called ML hL320 hi hT hH h2i hM hB hI hL hF hCa hS hR L987
        · refine M.tableIn (pc := 32) 19 (tgt := 793) dL_law_32 (by omega) (by omega) (by omega) rfl (by decide) ?_
          exact lc_write ML hL320 hi hT hH h2i hM hB hI hL hF hCa hS hR L987
        · refine M.tableIn (pc := 32) 20 (tgt := 846) dL_law_32 (by omega) (by omega) (by omega) rfl (by decide) ?_
          exact lc_tear ML hL320 hi hT hH h2i hM hB hI hL hF hCa hS hR L987
        · refine M.tableIn (pc := 32) 21 (tgt := 859) dL_law_32 (by omega) (by omega) (by omega) rfl (by decide) ?_
          exact lc_judge ML hL320 hi hT hH h2i hM hB hI hL hF hCa hS hR L987
        · refine M.tableIn (pc := 32) 22 (tgt := 872) dL_law_32 (by omega) (by omega) (by omega) rfl (by decide) ?_
          exact lc_drift ML hL320 hi hT hH h2i hM hB hI hL hF hCa hS hR L987
        · refine M.tableIn (pc := 32) 23 (tgt := 905) dL_law_32 (by omega) (by omega) (by omega) rfl (by decide) ?_
          exact lc_forget ML hL320 hi hT hH h2i hM hB hI hL hF hCa hS hR L987
        · refine M.tableIn (pc := 32) 24 (tgt := 918) dL_law_32 (by omega) (by omega) (by omega) rfl (by decide) ?_
          exact lc_seed ML hL320 hi hT hH h2i hM hB hI hL hF hCa hS hR L987
        · refine M.tableIn (pc := 32) 25 (tgt := 941) dL_law_32 (by omega) (by omega) (by omega) rfl (by decide) ?_
          exact lc_keep ML hL320 hi hT hH h2i hM hB hI hL hF hCa hS hR L987
        · refine M.tableIn (pc := 32) 26 (tgt := 964) dL_law_32 (by omega) (by omega) (by omega) rfl (by decide) ?_
          exact lc_goBack ML hL320 hi hT hH h2i hM hB hI hL hF hCa hS hR L987
set_option maxHeartbeats 8000000 in
set_option maxRecDepth 100000 in
theorem law_start {l : Launch} {nm : String} {b0 L : Nat} {xs : Nat → Int32} {G : GT} {Z : ZT} {V : VT} (ML : MachL l nm b0 L xs G Z V) (hL320 : L ≤ 320) : V 0 0 0 [] [some (.ref b0), none, none, none] [] := by
  have MS := ML.ms
  have M := MS.m
  refine M.new (pc := 0) (ci := 7) tyX7 tyX7_ok hwX7 nw_L_7 in_X7 ii_X7 rfl dv_X7 ⟨(Nat.le_of_ble_eq_true rfl), (Nat.le_of_ble_eq_true rfl)⟩ dL_law_0 (fun x => ?_)
  dsimp only [putL, List.set_cons_zero, List.set_cons_succ, Option.toList, List.cons_append, List.nil_append]
  refine M.dup (pc := 3) rfl dL_law_3 ?_
  refine M.invI (pc := 4) (rest := [.ref x]) c_X7_init mi_L_9 [0] rfl rfl rfl rfl (Nat.le_of_ble_eq_true rfl) rfl ⟨(Nat.le_of_ble_eq_true rfl), (Nat.le_of_ble_eq_true rfl)⟩ ⟨(Nat.le_of_ble_eq_true rfl), (Nat.le_of_ble_eq_true rfl)⟩ (fun u => [(x, eO 7 [.ref u.1, .ref u.2.2.1, .ref u.2.2.2.2.1, .ref u.2.2.2.2.2.2.1, .ref u.2.2.2.2.2.2.2.2.2.1, .ref u.2.2.2.2.2.2.2.2.2.2.2.2.1, .ref u.2.2.2.2.2.2.2.2.2.2.2.2.2.2.2.2.2.2.1, .ref u.2.2.2.2.2.2.2.2.2.2.2.2.2.2.2.2.2.2.2.2.2.2.2.2.2.2.1, .ref u.2.2.2.2.2.2.2.2.2.2.2.2.2.2.2.2.2.2.2.2.2.2.2.2.2.2.2.2.2.2.2.2.2.1, .ref u.2.2.2.2.2.2.2.2.2.2.2.2.2.2.2.2.2.2.2.2.2.2.2.2.2.2.2.2.2.2.2.2.2.2.2.2.1, .int (iI 0)])]) (fun u => [(u.1, eO 5 [.ref u.2.1, .int (iI 0), .int (iI 0), .int (iI (-1)), .int (iI 0), .int (iI 0), .int (iI 0)]), (u.2.1, eB G 400 (fun _ => 0)), (u.2.2.1, eO 6 [.ref u.2.2.2.1, .int (iI 0)]), (u.2.2.2.1, eI G 48 (fun _ => 0)), (u.2.2.2.2.1, eO 6 [.ref u.2.2.2.2.2.1, .int (iI 0)]), (u.2.2.2.2.2.1, eI G 120 (fun _ => 0)), (u.2.2.2.2.2.2.1, eO 4 [.ref u.2.2.2.2.2.2.2.1, .int (iI 0), .int (iI 0)]), (u.2.2.2.2.2.2.2.1, eO 6 [.ref u.2.2.2.2.2.2.2.2.1, .int (iI 0)]), (u.2.2.2.2.2.2.2.2.1, eI G 48 (fun _ => 0)), (u.2.2.2.2.2.2.2.2.2.1, eO 4 [.ref u.2.2.2.2.2.2.2.2.2.2.1, .int (iI 0), .int (iI 0)]), (u.2.2.2.2.2.2.2.2.2.2.1, eO 6 [.ref u.2.2.2.2.2.2.2.2.2.2.2.1, .int (iI 0)]), (u.2.2.2.2.2.2.2.2.2.2.2.1, eI G 48 (fun _ => 0)), (u.2.2.2.2.2.2.2.2.2.2.2.2.1, eO 1 [.ref u.2.2.2.2.2.2.2.2.2.2.2.2.2.1, .ref u.2.2.2.2.2.2.2.2.2.2.2.2.2.2.1, .ref u.2.2.2.2.2.2.2.2.2.2.2.2.2.2.2.1, .ref u.2.2.2.2.2.2.2.2.2.2.2.2.2.2.2.2.1, .ref u.2.2.2.2.2.2.2.2.2.2.2.2.2.2.2.2.2.1, .int (iI 0)]), (u.2.2.2.2.2.2.2.2.2.2.2.2.2.1, eI G 6 (fun _ => 0)), (u.2.2.2.2.2.2.2.2.2.2.2.2.2.2.1, eI G 6 (fun _ => 0)), (u.2.2.2.2.2.2.2.2.2.2.2.2.2.2.2.1, eI G 12 (fun _ => 0)), (u.2.2.2.2.2.2.2.2.2.2.2.2.2.2.2.2.1, eI G 12 (fun _ => 0)), (u.2.2.2.2.2.2.2.2.2.2.2.2.2.2.2.2.2.1, eI G 12 (fun _ => 0)), (u.2.2.2.2.2.2.2.2.2.2.2.2.2.2.2.2.2.2.1, eO 2 [.ref u.2.2.2.2.2.2.2.2.2.2.2.2.2.2.2.2.2.2.2.1, .ref u.2.2.2.2.2.2.2.2.2.2.2.2.2.2.2.2.2.2.2.2.2.2.2.2.2.1, .int (iI 0), .int (iI 0), .int (iI 0)]), (u.2.2.2.2.2.2.2.2.2.2.2.2.2.2.2.2.2.2.2.1, eO 1 [.ref u.2.2.2.2.2.2.2.2.2.2.2.2.2.2.2.2.2.2.2.2.1, .ref u.2.2.2.2.2.2.2.2.2.2.2.2.2.2.2.2.2.2.2.2.2.1, .ref u.2.2.2.2.2.2.2.2.2.2.2.2.2.2.2.2.2.2.2.2.2.2.1, .ref u.2.2.2.2.2.2.2.2.2.2.2.2.2.2.2.2.2.2.2.2.2.2.2.1, .ref u.2.2.2.2.2.2.2.2.2.2.2.2.2.2.2.2.2.2.2.2.2.2.2.2.1, .int (iI 0)]), (u.2.2.2.2.2.2.2.2.2.2.2.2.2.2.2.2.2.2.2.2.1, eI G 6 (fun _ => 0)), (u.2.2.2.2.2.2.2.2.2.2.2.2.2.2.2.2.2.2.2.2.2.1, eI G 6 (fun _ => 0)), (u.2.2.2.2.2.2.2.2.2.2.2.2.2.2.2.2.2.2.2.2.2.2.1, eI G 12 (fun _ => 0)), (u.2.2.2.2.2.2.2.2.2.2.2.2.2.2.2.2.2.2.2.2.2.2.2.1, eI G 12 (fun _ => 0)), (u.2.2.2.2.2.2.2.2.2.2.2.2.2.2.2.2.2.2.2.2.2.2.2.2.1, eI G 12 (fun _ => 0)), (u.2.2.2.2.2.2.2.2.2.2.2.2.2.2.2.2.2.2.2.2.2.2.2.2.2.1, eI G 924 (fun _ => 0)), (u.2.2.2.2.2.2.2.2.2.2.2.2.2.2.2.2.2.2.2.2.2.2.2.2.2.2.1, eO 0 [.ref u.2.2.2.2.2.2.2.2.2.2.2.2.2.2.2.2.2.2.2.2.2.2.2.2.2.2.2.1, .ref u.2.2.2.2.2.2.2.2.2.2.2.2.2.2.2.2.2.2.2.2.2.2.2.2.2.2.2.2.1, .ref u.2.2.2.2.2.2.2.2.2.2.2.2.2.2.2.2.2.2.2.2.2.2.2.2.2.2.2.2.2.1, .ref u.2.2.2.2.2.2.2.2.2.2.2.2.2.2.2.2.2.2.2.2.2.2.2.2.2.2.2.2.2.2.1, .ref u.2.2.2.2.2.2.2.2.2.2.2.2.2.2.2.2.2.2.2.2.2.2.2.2.2.2.2.2.2.2.2.1, .ref u.2.2.2.2.2.2.2.2.2.2.2.2.2.2.2.2.2.2.2.2.2.2.2.2.2.2.2.2.2.2.2.2.1, .int (iI 0), .int (iI 0), .int (iI 0)]), (u.2.2.2.2.2.2.2.2.2.2.2.2.2.2.2.2.2.2.2.2.2.2.2.2.2.2.2.1, eL G 128 (fun _ => 0)), (u.2.2.2.2.2.2.2.2.2.2.2.2.2.2.2.2.2.2.2.2.2.2.2.2.2.2.2.2.1, eI G 128 (fun _ => 0)), (u.2.2.2.2.2.2.2.2.2.2.2.2.2.2.2.2.2.2.2.2.2.2.2.2.2.2.2.2.2.1, eI G 1664 (fun _ => 0)), (u.2.2.2.2.2.2.2.2.2.2.2.2.2.2.2.2.2.2.2.2.2.2.2.2.2.2.2.2.2.2.1, eI G 13 (fun _ => 0)), (u.2.2.2.2.2.2.2.2.2.2.2.2.2.2.2.2.2.2.2.2.2.2.2.2.2.2.2.2.2.2.2.1, eI G 8192 (fun _ => 0)), (u.2.2.2.2.2.2.2.2.2.2.2.2.2.2.2.2.2.2.2.2.2.2.2.2.2.2.2.2.2.2.2.2.1, eI G 13 (fun _ => 0)), (u.2.2.2.2.2.2.2.2.2.2.2.2.2.2.2.2.2.2.2.2.2.2.2.2.2.2.2.2.2.2.2.2.2.1, eO 3 [.ref u.2.2.2.2.2.2.2.2.2.2.2.2.2.2.2.2.2.2.2.2.2.2.2.2.2.2.2.2.2.2.2.2.2.2.1, .ref u.2.2.2.2.2.2.2.2.2.2.2.2.2.2.2.2.2.2.2.2.2.2.2.2.2.2.2.2.2.2.2.2.2.2.2.1, .int (iI 0), .int (iI 0), .int (iI (5))]), (u.2.2.2.2.2.2.2.2.2.2.2.2.2.2.2.2.2.2.2.2.2.2.2.2.2.2.2.2.2.2.2.2.2.2.1, eI G 8 (fun _ => 0)), (u.2.2.2.2.2.2.2.2.2.2.2.2.2.2.2.2.2.2.2.2.2.2.2.2.2.2.2.2.2.2.2.2.2.2.2.1, eI G 24 (fun _ => 0)), (u.2.2.2.2.2.2.2.2.2.2.2.2.2.2.2.2.2.2.2.2.2.2.2.2.2.2.2.2.2.2.2.2.2.2.2.2.1, eO 3 [.ref u.2.2.2.2.2.2.2.2.2.2.2.2.2.2.2.2.2.2.2.2.2.2.2.2.2.2.2.2.2.2.2.2.2.2.2.2.2.1, .ref u.2.2.2.2.2.2.2.2.2.2.2.2.2.2.2.2.2.2.2.2.2.2.2.2.2.2.2.2.2.2.2.2.2.2.2.2.2.2, .int (iI 0), .int (iI 0), .int (iI (5))]), (u.2.2.2.2.2.2.2.2.2.2.2.2.2.2.2.2.2.2.2.2.2.2.2.2.2.2.2.2.2.2.2.2.2.2.2.2.2.1, eI G 8 (fun _ => 0)), (u.2.2.2.2.2.2.2.2.2.2.2.2.2.2.2.2.2.2.2.2.2.2.2.2.2.2.2.2.2.2.2.2.2.2.2.2.2.2, eI G 24 (fun _ => 0))]) (fun _ => rfl) (fun _ => rfl) dL_law_4 (fun u4 _ => ?_)
  obtain ⟨r, aT, mo, moc, en, enc, i0, j0, j0c, i1, j1, j1c, e, eLo, eUp, eSe, eLe, eGr, f, te, tLo, tUp, tSe, tLe, tGr, fcr, t, aL, aU, aP, aK, aN, aH, h, hb, ht, h2, hb2, ht2⟩ := u4
  dsimp only [putL, List.set_cons_zero, List.set_cons_succ, Option.toList, List.cons_append, List.nil_append]
  refine M.astoren (pc := 7) 1 rfl (Nat.le_of_ble_eq_true rfl) rfl dL_law_7 ?_
  dsimp only [List.set_cons_zero, List.set_cons_succ]
  refine M.new (pc := 8) (ci := 8) tyX8 tyX8_ok hwX8 nw_L_10 in_X8 ii_X8 rfl dv_X8 ⟨(Nat.le_of_ble_eq_true rfl), (Nat.le_of_ble_eq_true rfl)⟩ dL_law_8 (fun m => ?_)
  dsimp only [putL, List.set_cons_zero, List.set_cons_succ, Option.toList, List.cons_append, List.nil_append]
  refine M.dup (pc := 11) rfl dL_law_11 ?_
  refine M.invI (pc := 12) (rest := [.ref m]) c_X8_init mi_L_12 [40] rfl rfl rfl rfl (Nat.le_of_ble_eq_true rfl) rfl ⟨(Nat.le_of_ble_eq_true rfl), (Nat.le_of_ble_eq_true rfl)⟩ ⟨(Nat.le_of_ble_eq_true rfl), (Nat.le_of_ble_eq_true rfl)⟩ (fun u => [(m, eO 8 [.int (iI (0)), .ref u.1, .int (iI 0), .ref u.2.1, .int (iI (5)), .int (iI 0), .ref u.2.2.1, .int (iI 0), .ref u.2.2.2.1, .int (iI 0), .int (iI (-1)), .int (iI 0), .long (lI 0), .int (iI 0), .int (iI 0), .int (iI 0), .int (iI 0), .ref u.2.2.2.2.1, .int (iI 0), .ref u.2.2.2.2.2.1, .int (iI 0), .ref u.2.2.2.2.2.2.1, .ref u.2.2.2.2.2.2.2.1, .int (iI 0), .ref u.2.2.2.2.2.2.2.2.1, .ref u.2.2.2.2.2.2.2.2.2.1, .ref u.2.2.2.2.2.2.2.2.2.2.1, .int (iI 0), .int (iI 0), .ref u.2.2.2.2.2.2.2.2.2.2.2.1, .ref u.2.2.2.2.2.2.2.2.2.2.2.2.1, .ref u.2.2.2.2.2.2.2.2.2.2.2.2.2])]) (fun u => [(u.1, eI G 8 (fun _ => 0)), (u.2.1, eI G 24 (fun _ => 0)), (u.2.2.1, eI G 48 (fun _ => 0)), (u.2.2.2.1, eI G 400 (fun _ => 0)), (u.2.2.2.2.1, eI G 8 (fun _ => 0)), (u.2.2.2.2.2.1, eI G 24 (fun _ => 0)), (u.2.2.2.2.2.2.1, eI G 6 (fun _ => 0)), (u.2.2.2.2.2.2.2.1, eI G 6 (fun _ => 0)), (u.2.2.2.2.2.2.2.2.1, eI G 8192 (fun _ => 0)), (u.2.2.2.2.2.2.2.2.2.1, eI G 13 (fun _ => 0)), (u.2.2.2.2.2.2.2.2.2.2.1, eI G 1638 (fun _ => 0)), (u.2.2.2.2.2.2.2.2.2.2.2.1, eI G 120 (fun _ => 0)), (u.2.2.2.2.2.2.2.2.2.2.2.2.1, eI G 100 (fun _ => 0)), (u.2.2.2.2.2.2.2.2.2.2.2.2.2, eZ G 2 (fun _ => 0))]) (fun _ => rfl) (fun _ => rfl) dL_law_12 (fun u12 _ => ?_)
  obtain ⟨aBath, aBather, aMorn, aText, aRB, aRN, aLow, aHigh, aNeeds, aLikes, aHts, aBook, aImg, aKept⟩ := u12
  dsimp only [putL, List.set_cons_zero, List.set_cons_succ, Option.toList, List.cons_append, List.nil_append]
  refine M.astoren (pc := 15) 2 rfl (Nat.le_of_ble_eq_true rfl) rfl dL_law_15 ?_
  dsimp only [List.set_cons_zero, List.set_cons_succ]
  refine M.iconst (pc := 16) dL_law_16 ?_
  refine M.istoren (pc := 17) 3 rfl (Nat.le_of_ble_eq_true rfl) rfl dL_law_17 ?_
  dsimp only [List.set_cons_zero, List.set_cons_succ]
  have z0 : ∀ k : Int, (0 : Int) ≤ 0 ∧ (0 : Int) ≤ 999 := fun _ => by omega
  refine law_loop ML hL320 _ (ot := false) (k0 := false) (k1 := false) (ecl := false) (tcl := false) (ffd := false) (cb := false) (vch := false) ⟨by omega, by omega⟩ ?_ ?_ ?_ ?_ ?_ ?_ ?_ ?_ ?_ ?_ ?_ (Nat.lt_succ_self _)
  · exact ⟨by omega, fun i h0 h1 => by omega, fun i => by show (-128 : Int) ≤ 0 ∧ (0 : Int) < 128; omega, by omega⟩
  · refine ⟨by omega, by omega, by omega, fun b _ _ => ?_, fun k _ _ => ?_, fun b h0 h1 => by omega, fun k h0 h1 => by omega, fun x _ _ => rfl, fun x _ _ => rfl⟩
    · show ((0 : Int) ≤ 0 ∧ (0 : Int) ≤ 99) ∧ ((0 : Int) ≤ 0 ∧ (0 : Int) ≤ 99) ∧ ((0 : Int) ≤ 0 ∧ (0 : Int) ≤ 9999) ∧ ((0 : Int) ≤ 0 ∧ (0 : Int) ≤ 99); omega
    · show ((0 : Int) ≤ 0 ∧ (0 : Int) ≤ 999) ∧ ((0 : Int) ≤ 0 ∧ (0 : Int) ≤ 999) ∧ ((0 : Int) ≤ 0 ∧ (0 : Int) ≤ 999) ∧ ((0 : Int) ≤ 0 ∧ (0 : Int) ≤ 100); omega
  · refine ⟨fun b _ _ => ?_, fun k _ _ => ?_⟩
    · show ((0 : Int) ≤ 0 ∧ (0 : Int) ≤ 99) ∧ ((0 : Int) ≤ 0 ∧ (0 : Int) ≤ 99) ∧ ((0 : Int) ≤ 0 ∧ (0 : Int) ≤ 9999) ∧ ((0 : Int) ≤ 0 ∧ (0 : Int) ≤ 99); omega
    · show ((0 : Int) ≤ 0 ∧ (0 : Int) ≤ 999) ∧ ((0 : Int) ≤ 0 ∧ (0 : Int) ≤ 999) ∧ ((0 : Int) ≤ 0 ∧ (0 : Int) ≤ 999) ∧ ((0 : Int) ≤ 0 ∧ (0 : Int) ≤ 100); omega
  · exact IR.none (by omega)
  · exact IR.none (by omega)
  · exact II.zero rfl rfl
  · refine ⟨Or.inr ⟨rfl, ⟨fun k h0 h1 => by omega, fun k h0 h1 => by omega⟩, fun l' u' _ k h0 h1 => by omega⟩, fun k _ _ => ?_⟩
    show ((0 : Int) ≤ 0 ∧ (0 : Int) ≤ 999) ∧ ((0 : Int) ≤ 0 ∧ (0 : Int) ≤ 999); omega
  · exact FLS.off
  · refine ⟨fun x => ?_, fun d => ?_, fun d => ?_, fun z => absurd z (by decide)⟩
    · show (0 : Int) ≤ 0 ∧ (0 : Int) < 4503599627370496; omega
    · show (0 : Int) ≤ 0 ∧ (0 : Int) < 8192; omega
    · show (-2147483648 : Int) ≤ 0 ∧ (0 : Int) < 2147483648; omega
  · omega
  · intro k _ _
    show ((-2147483648 : Int) ≤ 0 ∧ (0 : Int) < 2147483648) ∧ ((-2147483648 : Int) ≤ 0 ∧ (0 : Int) < 2147483648); omega
set_option maxRecDepth 20000 in
theorem nest_in : ∀ q ∈ nestQ, Cond.methodLinkNest q.1 q.2.1 q.2.2.1 q.2.2.2 ∈ lw_tbl :=
  List.forall_mem_cons.mpr ⟨(tk_1 (List.mem_of_getElem? (i := 27) rfl)), List.forall_mem_cons.mpr ⟨(tk_1 (List.mem_of_getElem? (i := 79) rfl)), List.forall_mem_cons.mpr ⟨(tk_1 (List.mem_of_getElem? (i := 98) rfl)), List.forall_mem_cons.mpr ⟨(tk_1 (List.mem_of_getElem? (i := 124) rfl)), List.forall_mem_cons.mpr ⟨(tk_1 (List.mem_of_getElem? (i := 129) rfl)), List.forall_mem_cons.mpr ⟨(tk_1 (List.mem_of_getElem? (i := 149) rfl)), List.forall_mem_cons.mpr ⟨(tk_1 (List.mem_of_getElem? (i := 186) rfl)), List.forall_mem_cons.mpr ⟨(tk_2 (List.mem_of_getElem? (i := 201) rfl)), List.forall_mem_cons.mpr ⟨(tk_3 (List.mem_of_getElem? (i := 33) rfl)), List.forall_mem_cons.mpr ⟨(tk_3 (List.mem_of_getElem? (i := 91) rfl)), List.forall_mem_cons.mpr ⟨(tk_3 (List.mem_of_getElem? (i := 163) rfl)), fun _ h => absurd h List.not_mem_nil⟩⟩⟩⟩⟩⟩⟩⟩⟩⟩⟩
def tmS : Nat → Term := fun i => match i with
  | 0 => .string RX5 52
  | 1 => .string RX5 68
  | _ => .string RX5 76
set_option maxHeartbeats 8000000 in
set_option maxRecDepth 100000 in
/-- from the entry, for every script of at most 320 ints, the law comes to its end with true -/
theorem whole_start {p : Program} {e : Env} {s : State} {m : MethodId} {below : List Frame} {meth : Method} {c : Code} (l : Launch) (hflags : l.flags = flags0) {b L : Nat} {xs : Nat → Int32} (hL : L ≤ 320) (C0 : lw_At p s m meth c b L xs) : W p l e room_1 s m #[Value.ref b] below meth c s.heap [] 0 0 (lw_Z below #[Value.ref b] s) (entryFrame m ([Value.ref b] : List Value).toArray 4) := by
  obtain ⟨hx, hb, hr, hml, hown, hts0, hX, hbl, hlocks, hgv⟩ := id C0
  have hg := flat_of_before _ hgv
  have hA : ∀ a : Nat, a < s.heap.size → ¬ lwA s a := fun a h => Nat.not_le.mpr h
  obtain ⟨c0, d0, kn0⟩ := u_known (C := RX0) (T := TX0) (N := 9) (n := 9) hts0 (fun w h => big_lw (hwX0 w h)) (hts0 _ (big_lw in_X0))
  obtain ⟨c1, d1, kn1⟩ := u_known (C := RX1) (T := TX1) (N := 6) (n := 6) hts0 (fun w h => big_lw (hwX1 w h)) (hts0 _ (big_lw in_X1))
  obtain ⟨c2, d2, kn2⟩ := u_known (C := RX2) (T := TX2) (N := 5) (n := 5) hts0 (fun w h => big_lw (hwX2 w h)) (hts0 _ (big_lw in_X2))
  obtain ⟨c3, d3, kn3⟩ := u_known (C := RX3) (T := TX3) (N := 5) (n := 5) hts0 (fun w h => big_lw (hwX3 w h)) (hts0 _ (big_lw in_X3))
  obtain ⟨c4, d4, kn4⟩ := u_known (C := RX4) (T := TX4) (N := 3) (n := 3) hts0 (fun w h => big_lw (hwX4 w h)) (hts0 _ (big_lw in_X4))
  obtain ⟨c5, d5, kn5⟩ := u_known (C := RX5) (T := TX5) (N := 7) (n := 7) hts0 (fun w h => big_lw (hwX5 w h)) (hts0 _ (big_lw in_X5))
  obtain ⟨c6, d6, kn6⟩ := u_known (C := RX6) (T := TX6) (N := 2) (n := 2) hts0 (fun w h => big_lw (hwX6 w h)) (hts0 _ (big_lw in_X6))
  obtain ⟨c7, d7, kn7⟩ := u_known (C := RX7) (T := TX7) (N := 11) (n := 11) hts0 (fun w h => big_lw (hwX7 w h)) (hts0 _ (big_lw in_X7))
  obtain ⟨c8, d8, kn8⟩ := u_known (C := RX8) (T := TX8) (N := 32) (n := 32) hts0 (fun w h => big_lw (hwX8 w h)) (hts0 _ (big_lw in_X8))
  obtain ⟨dC, dI, hKc⟩ : ∃ (dC : Nat → ClassId) (dI : Nat → Nat → Nat), ∀ (k : Nat) (q : vw_C), vwCl[k]? = some q → u_Kn s q.1 q.2.1 q.2.2 (dC k) (dI k) := by
    refine ⟨fun k => [c0, c1, c2, c3, c4, c5, c6, c7, c8].getD k c0, fun k => [d0, d1, d2, d3, d4, d5, d6, d7, d8].getD k d0, ?_⟩
    intro k q hq
    match k, hq with
    | 0, hq => cases hq; exact kn0
    | 1, hq => cases hq; exact kn1
    | 2, hq => cases hq; exact kn2
    | 3, hq => cases hq; exact kn3
    | 4, hq => cases hq; exact kn4
    | 5, hq => cases hq; exact kn5
    | 6, hq => cases hq; exact kn6
    | 7, hq => cases hq; exact kn7
    | 8, hq => cases hq; exact kn8
    | k + 9, hq => simp [vwCl] at hq
  obtain ⟨aI, kI, cI, f1, f2, f3⟩ := Cond.arrayClass_spec (hts0 _ (big_lw aw_int))
  obtain ⟨aB, kB, cB, f4, f5, f6⟩ := Cond.arrayClass_spec (hts0 _ (big_lw aw_byte))
  obtain ⟨aL, kL, cL, f7, f8, f9⟩ := Cond.arrayClass_spec (hts0 _ (big_lw aw_long))
  obtain ⟨aZ, kZ, cZ, g1, g2, g3⟩ := Cond.arrayClass_spec (hts0 _ (big_lw aw_boolean))
  have hK : va_K (dC, dI) vwCl (T4 ((dC, dI), (aI, aB, aL, aZ))) s := by
    refine ⟨hKc, fun k q hq => ?_⟩
    match k, hq with
    | 0, hq => cases hq; exact ⟨fun n z => ⟨fun k h => (by cases h), kI, f2, cI, f3⟩, f1⟩
    | 1, hq => cases hq; exact ⟨fun n z => ⟨fun k h => (by cases h), kB, f5, cB, f6⟩, f4⟩
    | 2, hq => cases hq; exact ⟨fun n z => ⟨fun k h => (by cases h), kL, f8, cL, f9⟩, f7⟩
    | 3, hq => cases hq; exact ⟨fun n z => ⟨fun k h => (by cases h), kZ, g2, cZ, g3⟩, g1⟩
    | k + 4, hq => simp [T4] at hq
  have hN : nestOK s := fun q hq => va_Nw.of rfl (hts0 _ (nest_in q hq))
  obtain ⟨zK, zV, hZ1, hZ2⟩ := vk_Sof (args := #[Value.ref b]) (s := s) (N := 3) (tm := tmS) (len := lenJ) (byt := bytJ) (A := lwA s) (by decide)
    (fun i hi => by
      rcases (by omega : i = 0 ∨ i = 1 ∨ i = 2) with rfl | rfl | rfl <;> exact hg _ (by decide +kernel))
    (fun i hi => by
      rcases (by omega : i = 0 ∨ i = 1 ∨ i = 2) with rfl | rfl | rfl <;> exact hg _ (by decide +kernel))
    (fun i hi => by
      rcases (by omega : i = 0 ∨ i = 1 ∨ i = 2) with rfl | rfl | rfl <;> exact hg _ (by decide +kernel))
    (fun i hi => by
      rcases (by omega : i = 0 ∨ i = 1 ∨ i = 2) with rfl | rfl | rfl <;> exact hg _ (by decide +kernel))
    (fun i hi j hj => by
      rcases (by omega : i = 0 ∨ i = 1 ∨ i = 2) with rfl | rfl | rfl
      · have hj : j < 4 := hj
        rcases (by omega : j = 0 ∨ j = 1 ∨ j = 2 ∨ j = 3) with rfl | rfl | rfl | rfl <;> exact hg _ (by decide +kernel)
      · have hj : j < 6 := hj
        rcases (by omega : j = 0 ∨ j = 1 ∨ j = 2 ∨ j = 3 ∨ j = 4 ∨ j = 5) with rfl | rfl | rfl | rfl | rfl | rfl <;> exact hg _ (by decide +kernel)
      · have hj : j < 3 := hj
        rcases (by omega : j = 0 ∨ j = 1 ∨ j = 2) with rfl | rfl | rfl <;> exact hg _ (by decide +kernel))
    (fun i j hi hj hij => by
      rcases (by omega : i = 0 ∨ i = 1 ∨ i = 2) with rfl | rfl | rfl <;> rcases (by omega : j = 0 ∨ j = 1 ∨ j = 2) with rfl | rfl | rfl <;> first | exact absurd rfl hij | exact Or.inl (hg _ (by decide +kernel)) | exact Or.inr (hg _ (by decide +kernel)))
    hA
  have hZ : SOK (zK, zV) (lwA s) s s.heap := ⟨hZ1,
    va_Zof (hts0 _ (tk_2 (List.mem_of_getElem? (i := 57) rfl))) (hts0 _ (tk_1 (List.mem_of_getElem? (i := 11) rfl))) (va_eqt (hg _ (by decide +kernel))) hA,
    va_Zqof (hts0 _ (tk_2 (List.mem_of_getElem? (i := 73) rfl))) (hts0 _ (tk_1 (List.mem_of_getElem? (i := 13) rfl))) (hg _ (by decide +kernel)) hA,
    vk_R.of (hts0 _ (tk_2 (List.mem_of_getElem? (i := 43) rfl))) (hZ2 0 (by decide)), vk_R.of (hts0 _ (tk_2 (List.mem_of_getElem? (i := 122) rfl))) (hZ2 1 (by decide)), vk_R.of (hts0 _ (tk_2 (List.mem_of_getElem? (i := 131) rfl))) (hZ2 2 (by decide))⟩
  have hl := lv_entry ([.ref b]) (n := 4) (Nat.le_of_ble_eq_true rfl)
  rw [lg_entry_eq]
  have hl2 : lo_has ((lg_sl [Value.ref b] ++ List.replicate (4 - (lg_sl [Value.ref b]).length) Slot.unset).toArray) [some (.ref b), none, none, none] := hl
  have ML : MachL l meth.name b L xs ((dC, dI), (aI, aB, aL, aZ)) (zK, zV) (Vq p l e room_1 s m #[Value.ref b] below meth c (lwA s) (lw_Z below #[Value.ref b] s) ((dC, dI), (aI, aB, aL, aZ))) :=
    ⟨p, e, s, m, below, meth, c, rfl, hx, hb, hml, hown, fun w h => hts0 w (big_lw h), hK, hN, rfl, hZ, hX, hbl, hr, hlocks⟩
  exact law_start ML hL s.heap [] _ (fun k q h => by simp at h) ⟨fun i j p q h => by simp at h, fun k q h => by simp at h⟩ va_S.rf hl2
set_option maxHeartbeats 4000000 in
theorem lw_walk (l : Launch) (hflags : l.flags = flags0) (b : Addr) (xs : List Int32) : MetFree l x (headSpec (Jvm.Cond.code x code maxLocals ret :: tables_1) room_1) (lw_P b xs) (fun _ _ _ _ _ => True) lw_Q := by
  refine MetFree.of_bodyS (code := code) (maxLocals := maxLocals) (ret := ret) (by decide) ?_ ?_
  · intro args s m h hn
    obtain ⟨meth, c, h1, h2, h3, h4, h5, h6, -, -⟩ := Cond.code_spec hn (atoms_spec (ws := Jvm.Cond.code x code maxLocals ret :: tables_1) h _ List.mem_cons_self)
    exact ⟨meth, c, h1, h2, h3, h4, h5, h6⟩
  · intro p e s m args below meth c s₁ B hml0 hP _
    obtain ⟨rfl, hx, hbd, hgv⟩ := hP
    obtain ⟨scr, harrAt, hlist, hof, hsmall⟩ := hx
    obtain ⟨hcb, hkn, -, -⟩ := State.arrayAt?_spec harrAt
    have hown : s.vm.findClass R_law = some m.cls := findClass_of_methodNamed B.named
    have hts0 : ∀ c ∈ (Jvm.Cond.code x code maxLocals ret :: tables_1), c.before #[Value.ref b] s = true := atoms_spec (ws := Jvm.Cond.code x code maxLocals ret :: tables_1) B.pre
    have hts : ∀ w ∈ lw_tbl, w.before #[Value.ref b] s = true := k2_hts_sels lw_privs (fun w hw => hts0 w (List.mem_cons_of_mem _ hw)) lw_privs_ok
    have hml : c.maxLocals = 4 := B.maxLocals_eq (hts0 _ List.mem_cons_self)
    have X₀ : Stand p l e room_1 s m #[Value.ref b] below meth c s₁ [] 0 0 := Stand.of_body B
    have hh0 : s₁.heap = s.heap := by rw [B.state]; rfl
    have hsz : scr.slots.size = xs.length := by rw [← Array.length_toList, hlist, List.length_map]
    have hval : ∀ j : Nat, j < xs.length → scr.slots[j]? = some (.int (xs.getD j 0)) := fun j hj => by
      rw [← Array.getElem?_toList, hlist]
      simp [hj]
    have hbl : b < s.heap.size := (Array.getElem?_eq_some_iff.mp hcb).1
    have hX : va_X b xs.length (fun j => xs.getD j 0) s s.heap := ⟨scr, hcb, hof, hkn, hsz, hval⟩
    have K : W p l e room_1 s m #[Value.ref b] below meth c s₁.heap [] 0 0 (lw_Z below #[Value.ref b] s) (entryFrame m ([Value.ref b] : List Value).toArray 4) := by
      rw [hh0]
      exact whole_start l hflags hbd ⟨B.exec, B.bytes, B.returns, hml, hown, hts, hX, hbl, B.notSynchronized, hgv⟩
    obtain ⟨t, a1, o, b1, b2, b3⟩ := K s₁ rfl X₀
    exact ⟨t, o, a1, b1, b2, b3⟩
theorem lw_pre_spec {args : Array Value} {s : State} (h : (Jvm.Cond.and given_1 narrow_1).before args s = true) (hr : rest_1_c.before args s = true) : ∃ (b : Addr) (xs : List Int32), lw_P b xs args s := by
  have hs := flat_of_before _ h
  have hq := flat_of_before _ hr
  have hc : (Cond.count 1).before args s = true := hs _ (by decide +kernel)
  have harr : (Cond.arrayOf (.arg 0) .int).before args s = true := hs _ (by decide +kernel)
  have hle : (Cond.le (.length (.arg 0)) (.int 320)).before args s = true := hs _ (by decide +kernel)
  have hlen : (Cond.isInt (.length (.arg 0))).before args s = true := hq _ (by decide +kernel)
  have hall : (Cond.all (.arg 0) (.isInt (.elem (.arg 0) (.index 0)))).before args s = true := hq _ (by decide +kernel)
  obtain ⟨b, xs, hb, hx⟩ := State.ints_of_pre rfl harr hlen hall
  have hsm : xs.length < 2 ^ 31 := hx.choose_spec.2.2.2
  have hev : (Term.length (.arg 0)).eval args s none [] s = some (.int xs.length.toInt32) := hx.length_eval hb
  have hv := Cond.le_ints hev (show (Term.int 320).eval args s none [] s = some (.int 320) from rfl)
  have hd : xs.length.toInt32 ≤ 320 := by
    simpa [Cond.before, Cond.holds, hv] using hle
  have hN : xs.length ≤ 320 := (Int32.ofNat_le_ofNat hsm (by decide)).mp (show Int32.ofNat xs.length ≤ Int32.ofNat 320 from hd)
  exact ⟨b, xs, Cond.one_arg hc (show args[0]? = some (.ref b) from hb), hx, hN, h⟩
theorem lw_comes (l : Launch) (hflags : l.flags = flags0) : Comes l x (Jvm.Cond.code x code maxLocals ret :: tables_1) room_1 (fun tb e args s => Calls_1 tb e args s ∧ rest_1 tb e args s ∧ Pre_1 tb e args s)
    (fun _ _ args s o t => lw_Q args s o t) := by
  intro p e ha hc hk s m args below hf hfit hheap happ hpre
  obtain ⟨b, xs, hP⟩ := lw_pre_spec hpre.2.2 hpre.2.1
  obtain ⟨k, o, h1, h2, h3, hQ⟩ := lw_walk l hflags b xs p e ha hc hk s m args below hf ((Spec.applies_iff_loose hf).mp happ).1 hP trivial
  exact ⟨k, o, h1, h2, h3, hQ⟩
theorem lw_frame {s t : State} {o : Outcome} {args : Array Value} (h : Framed s o t [] 600000 7302250) :
    Framed s o t (fieldLocs frame_1_writes args s ++ arrayLocs frame_1_arrays args s ++ staticLocs frame_1_statics s) 600000 7302250 := h
theorem lw_limb (L : Cond) (hL : ∀ (args : Array Value) (s t : State), L.after args s (.returned (some (.int 1))) t = true) :
    ArmFor flags0 classFile x code maxLocals ret World_1 tables_1 room_1 Calls_1 rest_1 Pre_1
      (fun tb e a s o t => postC L tb e a s o t ∧ Framed s o t (fieldLocs frame_1_writes a s ++ arrayLocs frame_1_arrays a s ++ staticLocs frame_1_statics s) 600000 7302250) := by
  intro l hflags _ _ p e ha hc hk s m args below hf hfit hheap happ hpre
  obtain ⟨k, o, h1, h2, h3, rfl, hF⟩ := lw_comes l hflags p e ha hc hk s m args below hf hfit hheap happ hpre
  exact ⟨k, _, h1, h2, h3, hL args s _, lw_frame hF⟩
theorem i_vc : Claimed_1_1 ∧ Claimed_1_2 := ⟨lw_limb limb_1_1 (fun args s t => by simp [limb_1_1, Cond.after, Cond.holds, Cond.value]), lw_limb limb_1_2 (fun args s t => Cond.after_iff.mpr (by
  first | (rw [show limb_1_2 = Cond.eq .result (.int 1) from rfl, Cond.eq_ints (x := 1) (y := 1) rfl rfl]; simp; done) | (simp [limb_1_2, Cond.value, Term.eval]; done)))⟩
