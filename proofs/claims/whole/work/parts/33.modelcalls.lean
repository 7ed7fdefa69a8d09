/-! the reference's calls -/
theorem rwN_n {r c : Int} (h : r ≠ 0) : rwN r c = c := if_neg h
theorem rwN_0 {r c : Int} (h : r = 0) : rwN r c = c + 1 := if_pos h
theorem rwA_n {r c : Int} (h : r ≠ 0) : rwA r c = r := if_neg h
theorem rwA_0 {r c : Int} (h : r = 0) : rwA r c = c + 1 := if_pos h
theorem rwG_n {g : Int → Int} {r c b hr S v : Int} (h : r ≠ 0) : rwG g r c b hr S v = g := if_neg h
theorem rwG_0 {g : Int → Int} {r c b hr S v : Int} (h : r = 0) : rwG g r c b hr S v = up4 g (c * 4) b hr S v := if_pos h
theorem stN_0 {c i : Int} (h : 0 ≤ i ∧ i < c) : stN c i = c - 1 := if_pos h
theorem stN_n {c i : Int} (h : ¬ (0 ≤ i ∧ i < c)) : stN c i = c := if_neg h
theorem ifOr {P Q : Prop} [Decidable P] [Decidable Q] (h : P ↔ Q) {α : Type} (a b : α) : (if P then a else b) = if Q then a else b := by
  by_cases q : Q
  · rw [if_pos q, if_pos (h.mpr q)]
  · rw [if_neg q, if_neg (fun z => q (h.mp z))]
theorem EndsOf.rg {n c nb : Int} {gt Sm L Gm el eu : Int → Int} {T : Int} {cl : Bool} (hT : HVT gt n) (h : EndsOf n c (fU gt) (fV gt) Sm L Gm T cl el eu) : ∀ k, 0 ≤ k → k < n → (0 ≤ el k ∧ el k ≤ 999) ∧ (0 ≤ eu k ∧ eu k ≤ 999) := by
  intro k h0 h1
  have q := hT k h0 h1
  rcases h with ⟨_, _, g⟩ | ⟨_, g, _⟩
  · have e := g k h0 h1
    have e1 : el k = gt (k * 4 + 0) := e.1
    have e2 : eu k = gt (k * 4 + 1) := e.2
    omega
  · have e := g.1 k h0 h1
    have e1 : gt (k * 4 + 0) ≤ el k := e.1
    have e2 : eu k ≤ gt (k * 4 + 1) := e.2.2
    have e3 := e.2.1
    omega
set_option maxHeartbeats 4000000 in
set_option maxRecDepth 100000 in
theorem c_X8_fault {l : Launch} {G : GT} {m aBath aBather aMorn aText aRB aRN aLow aHigh aNeeds aLikes aHts aBook aImg aKept : Nat} {vb vn vo vm vs vt vf va vw vu vna vrb vrn vro vtr vbk vsd : Int} {vch : Bool}  : ConF l G yX8_fault cX8_fault 1 (some .int) { frames := 0, cells := 0, slots := 0, locals := 0 } [.ref m] [(m, eO 8 [.int (iI vb), .ref aBath, .int (iI vn), .ref aBather, .int (iI vo), .int (iI vm), .ref aMorn, .int (iI vs), .ref aText, .int (iI vt), .int (iI vf), .int (iI va), .long (lI vsd), .int (iI vw), .int (iI vu), .int (iI vna), .int (iI vrb), .ref aRB, .int (iI vrn), .ref aRN, .int (iI vro), .ref aLow, .ref aHigh, .int (iI (pI (vch = true))), .ref aNeeds, .ref aLikes, .ref aHts, .int (iI vtr), .int (iI vbk), .ref aBook, .ref aImg, .ref aKept])] (some (.int (iI (vf)))) := by
  refine Con.mk (by decide +kernel) [some (.ref m)] rfl (Nat.le_of_ble_eq_true rfl) rfl ?_
  intro V M EI EL EV EA
  refine M.aloadn (pc := 0) 0 rfl rfl dX8_fault_0 ?_
  refine M.getf (pc := 1) fg_X8_26 0 rfl rfl dX8_fault_1 ?_
  exact EI () _ _ _ _ dX8_fault_4 (Or.inl rfl) (eqI (by rfl)) rfl trivial
set_option maxHeartbeats 4000000 in
set_option maxRecDepth 100000 in
theorem c_X8_bath {l : Launch} {G : GT} {m aBath aBather aMorn aText aRB aRN aLow aHigh aNeeds aLikes aHts aBook aImg aKept : Nat} {vb vn vo vm vs vt vf va vw vu vna vrb vrn vro vtr vbk vsd : Int} {vch : Bool} {gb : Int → Int} {b w : Int} (hnb : 0 ≤ vb ∧ vb ≤ 2) (hrb : InR b) (hrw : InR w) : ConF l G yX8_bath cX8_bath 3 (some .int) { frames := 2, cells := 0, slots := 0, locals := 46 } [.ref m, .int (iI b), .int (iI w)] [(m, eO 8 [.int (iI vb), .ref aBath, .int (iI vn), .ref aBather, .int (iI vo), .int (iI vm), .ref aMorn, .int (iI vs), .ref aText, .int (iI vt), .int (iI vf), .int (iI va), .long (lI vsd), .int (iI vw), .int (iI vu), .int (iI vna), .int (iI vrb), .ref aRB, .int (iI vrn), .ref aRN, .int (iI vro), .ref aLow, .ref aHigh, .int (iI (pI (vch = true))), .ref aNeeds, .ref aLikes, .ref aHts, .int (iI vtr), .int (iI vbk), .ref aBook, .ref aImg, .ref aKept]), (aBath, eI G 8 gb)] (some (.int (iI (nBath gb vb b w)))) := by
  refine Con.mk (by decide +kernel) [some (.ref m), some (.int (iI b)), some (.int (iI w))] rfl (Nat.le_of_ble_eq_true rfl) rfl ?_
  intro V M EI EL EV EA
  refine M.aloadn (pc := 0) 0 rfl rfl dX8_bath_0 ?_
  refine M.iloadn (pc := 1) 1 rfl rfl dX8_bath_1 ?_
  refine M.pV (pc := 2) (c_X8_isBath  (by first | assumption | omega) (by first | assumption | omega)) mv_X8_170 [0] rfl rfl rfl 0 rfl rfl rfl rfl (Nat.le_of_ble_eq_true rfl) rfl ⟨(Nat.le_of_ble_eq_true rfl), (Nat.le_of_ble_eq_true rfl)⟩ ⟨(Nat.le_of_ble_eq_true rfl), (Nat.le_of_ble_eq_true rfl)⟩ rfl dX8_bath_2 ?_
  refine M.if_neP (pc := 5) (tgt := 11) dX8_bath_5 (by decide) (fun c5 => ?_) (fun c5 => ?_)
  · refine M.iloadn (pc := 11) 2 rfl rfl dX8_bath_11 ?_
    refine M.i2l (pc := 12) (by omega) dX8_bath_12 ?_
    refine M.lconst (pc := 13) 0 (by decide +kernel) dX8_bath_13 ?_
    refine M.ldc2 (pc := 14) (3) lc_X8_174 (by decide +kernel) dX8_bath_14 ?_
    refine M.pS (pc := 17) (c_X8_in  (by first | assumption | omega) (by first | assumption | omega) (by first | assumption | omega)) ms_X8_63 [] rfl rfl rfl rfl (Nat.le_of_ble_eq_true rfl) rfl ⟨(Nat.le_of_ble_eq_true rfl), (Nat.le_of_ble_eq_true rfl)⟩ ⟨(Nat.le_of_ble_eq_true rfl), (Nat.le_of_ble_eq_true rfl)⟩ rfl dX8_bath_17 ?_
    refine M.if_eqP (pc := 20) (tgt := 36) dX8_bath_20 (by decide) (fun c20 => ?_) (fun c20 => ?_)
    · refine M.ldc (pc := 36) (-1000000002) lc_X8_76 (by decide +kernel) dX8_bath_36 ?_
      exact EI () _ _ _ _ dX8_bath_38 (Or.inl rfl) (eqI (by unfold nBath; (repeat' split) <;> first | omega | rfl)) rfl trivial
    · refine M.aloadn (pc := 23) 0 rfl rfl dX8_bath_23 ?_
      refine M.getf (pc := 24) fg_X8_7 0 rfl rfl dX8_bath_24 ?_
      refine M.iconst (pc := 27) dX8_bath_27 ?_
      refine M.iloadn (pc := 28) 1 rfl rfl dX8_bath_28 ?_
      refine M.imul (pc := 29) dX8_bath_29 ?_
      refine M.iloadn (pc := 30) 2 rfl rfl dX8_bath_30 ?_
      refine M.iadd (pc := 31) dX8_bath_31 ?_
      refine M.ialdx (pc := 32) (b * 4 + w) (by omega) 1 rfl (by omega) (by omega) dX8_bath_32 ?_
      refine M.goto (pc := 33) (tgt := 38) dX8_bath_33 (by decide) ?_
      exact EI () _ _ _ _ dX8_bath_38 (Or.inl rfl) (eqI (by unfold nBath; (repeat' split) <;> first | omega | rfl)) rfl trivial
  · refine M.ldc (pc := 8) (-1000000001) lc_X8_173 (by decide +kernel) dX8_bath_8 ?_
    exact EI () _ _ _ _ dX8_bath_10 (Or.inl rfl) (eqI (by unfold nBath; (repeat' split) <;> first | omega | rfl)) rfl trivial
set_option maxHeartbeats 4000000 in
set_option maxRecDepth 100000 in
theorem c_X8_height {l : Launch} {G : GT} {m aBath aBather aMorn aText aRB aRN aLow aHigh aNeeds aLikes aHts aBook aImg aKept : Nat} {vb vn vo vm vs vt vf va vw vu vna vrb vrn vro vtr vbk vsd : Int} {vch : Bool} {gb : Int → Int} {gt : Int → Int} {b h S : Int} (hn : 0 ≤ vn ∧ vn ≤ 6) (hnb : 0 ≤ vb ∧ vb ≤ 2) (hV : HV gb vb) (hT : HVT gt vn) (hrb : InR b) (hrh : InR h) (hrS : InR S) : ConF l G yX8_height cX8_height 4 (some .int) { frames := 2, cells := 0, slots := 0, locals := 46 } [.ref m, .int (iI b), .int (iI h), .int (iI S)] [(m, eO 8 [.int (iI vb), .ref aBath, .int (iI vn), .ref aBather, .int (iI vo), .int (iI vm), .ref aMorn, .int (iI vs), .ref aText, .int (iI vt), .int (iI vf), .int (iI va), .long (lI vsd), .int (iI vw), .int (iI vu), .int (iI vna), .int (iI vrb), .ref aRB, .int (iI vrn), .ref aRN, .int (iI vro), .ref aLow, .ref aHigh, .int (iI (pI (vch = true))), .ref aNeeds, .ref aLikes, .ref aHts, .int (iI vtr), .int (iI vbk), .ref aBook, .ref aImg, .ref aKept]), (aBath, eI G 8 gb), (aBather, eI G 24 gt)] (some (.int (iI (aHeight gb gt vb vn b h S)))) := by
  refine Con.mk (by decide +kernel) [some (.ref m), some (.int (iI b)), some (.int (iI h)), some (.int (iI S))] rfl (Nat.le_of_ble_eq_true rfl) rfl ?_
  intro V M EI EL EV EA
  have hp2 := p2_b (by omega : vn ≤ 13)
  have hsb := sizeS_b (S := S) hT hn.1 hn.2 (by omega : (vn.toNat : Int) ≤ vn)
  refine M.aloadn (pc := 0) 0 rfl rfl dX8_height_0 ?_
  refine M.iloadn (pc := 1) 1 rfl rfl dX8_height_1 ?_
  refine M.pV (pc := 2) (c_X8_isBath  (by first | assumption | omega) (by first | assumption | omega)) mv_X8_170 [0] rfl rfl rfl 0 rfl rfl rfl rfl (Nat.le_of_ble_eq_true rfl) rfl ⟨(Nat.le_of_ble_eq_true rfl), (Nat.le_of_ble_eq_true rfl)⟩ ⟨(Nat.le_of_ble_eq_true rfl), (Nat.le_of_ble_eq_true rfl)⟩ rfl dX8_height_2 ?_
  refine M.if_eqP (pc := 5) (tgt := 16) dX8_height_5 (by decide) (fun c5 => ?_) (fun c5 => ?_)
  · refine M.ldc (pc := 16) (-1000000001) lc_X8_173 (by decide +kernel) dX8_height_16 ?_
    exact EI () _ _ _ _ dX8_height_18 (Or.inl rfl) (eqI (by unfold aHeight; (repeat' split) <;> first | omega | rfl)) rfl trivial
  · refine M.aloadn (pc := 8) 0 rfl rfl dX8_height_8 ?_
    refine M.iloadn (pc := 9) 3 rfl rfl dX8_height_9 ?_
    refine M.pV (pc := 10) (c_X8_isSet  (by first | assumption | omega) (by first | assumption | omega)) mv_X8_195 [0] rfl rfl rfl 0 rfl rfl rfl rfl (Nat.le_of_ble_eq_true rfl) rfl ⟨(Nat.le_of_ble_eq_true rfl), (Nat.le_of_ble_eq_true rfl)⟩ ⟨(Nat.le_of_ble_eq_true rfl), (Nat.le_of_ble_eq_true rfl)⟩ rfl dX8_height_10 ?_
    refine M.if_neP (pc := 13) (tgt := 19) dX8_height_13 (by decide) (fun c13 => ?_) (fun c13 => ?_)
    · refine M.iloadn (pc := 19) 2 rfl rfl dX8_height_19 ?_
      refine M.pS (pc := 20) (c_X8_isHour  (by first | assumption | omega)) ms_X8_198 [] rfl rfl rfl rfl (Nat.le_of_ble_eq_true rfl) rfl ⟨(Nat.le_of_ble_eq_true rfl), (Nat.le_of_ble_eq_true rfl)⟩ ⟨(Nat.le_of_ble_eq_true rfl), (Nat.le_of_ble_eq_true rfl)⟩ rfl dX8_height_20 ?_
      refine M.if_eqP (pc := 23) (tgt := 40) dX8_height_23 (by decide) (fun c23 => ?_) (fun c23 => ?_)
      · refine M.ldc (pc := 40) (-1000000002) lc_X8_76 (by decide +kernel) dX8_height_40 ?_
        exact EI () _ _ _ _ dX8_height_42 (Or.inl rfl) (eqI (by unfold aHeight; (repeat' split) <;> first | omega | rfl)) rfl trivial
      · refine M.aloadn (pc := 26) 0 rfl rfl dX8_height_26 ?_
        refine M.iloadn (pc := 27) 1 rfl rfl dX8_height_27 ?_
        refine M.iloadn (pc := 28) 2 rfl rfl dX8_height_28 ?_
        refine M.aloadn (pc := 29) 0 rfl rfl dX8_height_29 ?_
        refine M.iloadn (pc := 30) 3 rfl rfl dX8_height_30 ?_
        refine M.pV (pc := 31) (c_X8_sizeOf  (by first | assumption | omega) (by first | assumption | omega) (by first | assumption | omega)) mv_X8_201 [0, 2] rfl rfl rfl 0 rfl rfl rfl rfl (Nat.le_of_ble_eq_true rfl) rfl ⟨(Nat.le_of_ble_eq_true rfl), (Nat.le_of_ble_eq_true rfl)⟩ ⟨(Nat.le_of_ble_eq_true rfl), (Nat.le_of_ble_eq_true rfl)⟩ rfl dX8_height_31 ?_
        refine M.pV (pc := 34) (c_X8_heightOf  (by first | assumption | omega) (by first | assumption | omega) (by first | assumption | omega) (by first | assumption | omega) (by first | assumption | omega)) mv_X8_204 [0, 1] rfl rfl rfl 0 rfl rfl rfl rfl (Nat.le_of_ble_eq_true rfl) rfl ⟨(Nat.le_of_ble_eq_true rfl), (Nat.le_of_ble_eq_true rfl)⟩ ⟨(Nat.le_of_ble_eq_true rfl), (Nat.le_of_ble_eq_true rfl)⟩ rfl dX8_height_34 ?_
        refine M.goto (pc := 37) (tgt := 42) dX8_height_37 (by decide) ?_
        exact EI () _ _ _ _ dX8_height_42 (Or.inl rfl) (eqI (by unfold aHeight; (repeat' split) <;> first | omega | rfl)) rfl trivial
    · refine M.ldc (pc := 16) (-1000000001) lc_X8_173 (by decide +kernel) dX8_height_16 ?_
      exact EI () _ _ _ _ dX8_height_18 (Or.inl rfl) (eqI (by unfold aHeight; (repeat' split) <;> first | omega | rfl)) rfl trivial
set_option maxHeartbeats 4000000 in
set_option maxRecDepth 100000 in
theorem c_X8_odds {l : Launch} {G : GT} {m aBath aBather aMorn aText aRB aRN aLow aHigh aNeeds aLikes aHts aBook aImg aKept : Nat} {vb vn vo vm vs vt vf va vw vu vna vrb vrn vro vtr vbk vsd : Int} {vch : Bool} {gt : Int → Int} {S : Int} (hn : 0 ≤ vn ∧ vn ≤ 6) (hT : HVT gt vn) (hrS : InR S) : ConF l G yX8_odds cX8_odds 2 (some .int) { frames := 2, cells := 0, slots := 0, locals := 46 } [.ref m, .int (iI S)] [(m, eO 8 [.int (iI vb), .ref aBath, .int (iI vn), .ref aBather, .int (iI vo), .int (iI vm), .ref aMorn, .int (iI vs), .ref aText, .int (iI vt), .int (iI vf), .int (iI va), .long (lI vsd), .int (iI vw), .int (iI vu), .int (iI vna), .int (iI vrb), .ref aRB, .int (iI vrn), .ref aRN, .int (iI vro), .ref aLow, .ref aHigh, .int (iI (pI (vch = true))), .ref aNeeds, .ref aLikes, .ref aHts, .int (iI vtr), .int (iI vbk), .ref aBook, .ref aImg, .ref aKept]), (aBather, eI G 24 gt)] (some (.int (iI (aOdds gt vn S)))) := by
  refine Con.mk (by decide +kernel) [some (.ref m), some (.int (iI S))] rfl (Nat.le_of_ble_eq_true rfl) rfl ?_
  intro V M EI EL EV EA
  have hp2 := p2_b (by omega : vn ≤ 13)
  refine M.aloadn (pc := 0) 0 rfl rfl dX8_odds_0 ?_
  refine M.iloadn (pc := 1) 1 rfl rfl dX8_odds_1 ?_
  refine M.pV (pc := 2) (c_X8_isSet  (by first | assumption | omega) (by first | assumption | omega)) mv_X8_195 [0] rfl rfl rfl 0 rfl rfl rfl rfl (Nat.le_of_ble_eq_true rfl) rfl ⟨(Nat.le_of_ble_eq_true rfl), (Nat.le_of_ble_eq_true rfl)⟩ ⟨(Nat.le_of_ble_eq_true rfl), (Nat.le_of_ble_eq_true rfl)⟩ rfl dX8_odds_2 ?_
  refine M.if_eqP (pc := 5) (tgt := 17) dX8_odds_5 (by decide) (fun c5 => ?_) (fun c5 => ?_)
  · refine M.ldc (pc := 17) (-1000000001) lc_X8_173 (by decide +kernel) dX8_odds_17 ?_
    exact EI () _ _ _ _ dX8_odds_19 (Or.inl rfl) (eqI (by unfold aOdds; (repeat' split) <;> first | omega | rfl)) rfl trivial
  · refine M.aloadn (pc := 8) 0 rfl rfl dX8_odds_8 ?_
    refine M.iloadn (pc := 9) 1 rfl rfl dX8_odds_9 ?_
    refine M.pV (pc := 10) (c_X8_oddsOf  (by first | assumption | omega) (by first | assumption | omega) (by first | assumption | omega)) mv_X8_245 [0, 1] rfl rfl rfl 0 rfl rfl rfl rfl (Nat.le_of_ble_eq_true rfl) rfl ⟨(Nat.le_of_ble_eq_true rfl), (Nat.le_of_ble_eq_true rfl)⟩ ⟨(Nat.le_of_ble_eq_true rfl), (Nat.le_of_ble_eq_true rfl)⟩ rfl dX8_odds_10 ?_
    refine M.l2i (pc := 13) dX8_odds_13 ?_
    refine M.goto (pc := 14) (tgt := 19) dX8_odds_14 (by decide) ?_
    exact EI () _ _ _ _ dX8_odds_19 (Or.inl rfl) (eqI (by unfold aOdds; (repeat' split) <;> first | omega | rfl)) rfl trivial
set_option maxHeartbeats 4000000 in
set_option maxRecDepth 100000 in
theorem c_X8_tells {l : Launch} {G : GT} {m aBath aBather aMorn aText aRB aRN aLow aHigh aNeeds aLikes aHts aBook aImg aKept : Nat} {vb vn vo vm vs vt vf va vw vu vna vrb vrn vro vtr vbk vsd : Int} {vch : Bool} {gb : Int → Int} {gt : Int → Int} {b S c : Int} (hn : 0 ≤ vn ∧ vn ≤ 6) (hnb : 0 ≤ vb ∧ vb ≤ 2) (hV : HV gb vb) (hT : HVT gt vn) (ho : 0 ≤ vo ∧ vo ≤ 999) (hrb : InR b) (hrS : InR S) (hrc : InR c) : ConF l G yX8_tells cX8_tells 4 (some .int) { frames := 3, cells := 0, slots := 0, locals := 70 } [.ref m, .int (iI b), .int (iI S), .int (iI c)] [(m, eO 8 [.int (iI vb), .ref aBath, .int (iI vn), .ref aBather, .int (iI vo), .int (iI vm), .ref aMorn, .int (iI vs), .ref aText, .int (iI vt), .int (iI vf), .int (iI va), .long (lI vsd), .int (iI vw), .int (iI vu), .int (iI vna), .int (iI vrb), .ref aRB, .int (iI vrn), .ref aRN, .int (iI vro), .ref aLow, .ref aHigh, .int (iI (pI (vch = true))), .ref aNeeds, .ref aLikes, .ref aHts, .int (iI vtr), .int (iI vbk), .ref aBook, .ref aImg, .ref aKept]), (aBath, eI G 8 gb), (aBather, eI G 24 gt)] (some (.int (iI (aTells gb gt vb vn vo b S c)))) := by
  refine Con.mk (by decide +kernel) [some (.ref m), some (.int (iI b)), some (.int (iI S)), some (.int (iI c))] rfl (Nat.le_of_ble_eq_true rfl) rfl ?_
  intro V M EI EL EV EA
  have hp2 := p2_b (by omega : vn ≤ 13)
  refine M.aloadn (pc := 0) 0 rfl rfl dX8_tells_0 ?_
  refine M.iloadn (pc := 1) 1 rfl rfl dX8_tells_1 ?_
  refine M.pV (pc := 2) (c_X8_isBath  (by first | assumption | omega) (by first | assumption | omega)) mv_X8_170 [0] rfl rfl rfl 0 rfl rfl rfl rfl (Nat.le_of_ble_eq_true rfl) rfl ⟨(Nat.le_of_ble_eq_true rfl), (Nat.le_of_ble_eq_true rfl)⟩ ⟨(Nat.le_of_ble_eq_true rfl), (Nat.le_of_ble_eq_true rfl)⟩ rfl dX8_tells_2 ?_
  refine M.if_eqP (pc := 5) (tgt := 38) dX8_tells_5 (by decide) (fun c5 => ?_) (fun c5 => ?_)
  · refine M.ldc (pc := 38) (-1000000001) lc_X8_173 (by decide +kernel) dX8_tells_38 ?_
    exact EI () _ _ _ _ dX8_tells_40 (Or.inl rfl) (eqI (by unfold aTells; first | (rw [if_pos (by omega)]) | (rw [if_neg (by omega)]))) rfl trivial
  · refine M.aloadn (pc := 8) 0 rfl rfl dX8_tells_8 ?_
    refine M.iloadn (pc := 9) 2 rfl rfl dX8_tells_9 ?_
    refine M.pV (pc := 10) (c_X8_isSet  (by first | assumption | omega) (by first | assumption | omega)) mv_X8_195 [0] rfl rfl rfl 0 rfl rfl rfl rfl (Nat.le_of_ble_eq_true rfl) rfl ⟨(Nat.le_of_ble_eq_true rfl), (Nat.le_of_ble_eq_true rfl)⟩ ⟨(Nat.le_of_ble_eq_true rfl), (Nat.le_of_ble_eq_true rfl)⟩ rfl dX8_tells_10 ?_
    refine M.if_eqP (pc := 13) (tgt := 38) dX8_tells_13 (by decide) (fun c13 => ?_) (fun c13 => ?_)
    · refine M.ldc (pc := 38) (-1000000001) lc_X8_173 (by decide +kernel) dX8_tells_38 ?_
      exact EI () _ _ _ _ dX8_tells_40 (Or.inl rfl) (eqI (by unfold aTells; first | (rw [if_pos (by omega)]) | (rw [if_neg (by omega)]))) rfl trivial
    · refine M.iloadn (pc := 16) 2 rfl rfl dX8_tells_16 ?_
      refine M.if_eq (pc := 17) (tgt := 38) dX8_tells_17 (by decide) (by omega) (fun c17 => ?_) (fun c17 => ?_)
      · refine M.ldc (pc := 38) (-1000000001) lc_X8_173 (by decide +kernel) dX8_tells_38 ?_
        exact EI () _ _ _ _ dX8_tells_40 (Or.inl rfl) (eqI (by unfold aTells; first | (rw [if_pos (by omega)]) | (rw [if_neg (by omega)]))) rfl trivial
      · refine M.aloadn (pc := 20) 0 rfl rfl dX8_tells_20 ?_
        refine M.iloadn (pc := 21) 3 rfl rfl dX8_tells_21 ?_
        refine M.pV (pc := 22) (c_X8_isCase  (by first | assumption | omega) (by first | assumption | omega)) mv_X8_255 [0] rfl rfl rfl 0 rfl rfl rfl rfl (Nat.le_of_ble_eq_true rfl) rfl ⟨(Nat.le_of_ble_eq_true rfl), (Nat.le_of_ble_eq_true rfl)⟩ ⟨(Nat.le_of_ble_eq_true rfl), (Nat.le_of_ble_eq_true rfl)⟩ rfl dX8_tells_22 ?_
        refine M.if_eqP (pc := 25) (tgt := 38) dX8_tells_25 (by decide) (fun c25 => ?_) (fun c25 => ?_)
        · refine M.ldc (pc := 38) (-1000000001) lc_X8_173 (by decide +kernel) dX8_tells_38 ?_
          exact EI () _ _ _ _ dX8_tells_40 (Or.inl rfl) (eqI (by unfold aTells; first | (rw [if_pos (by omega)]) | (rw [if_neg (by omega)]))) rfl trivial
        · refine M.aloadn (pc := 28) 0 rfl rfl dX8_tells_28 ?_
          refine M.iloadn (pc := 29) 1 rfl rfl dX8_tells_29 ?_
          refine M.iloadn (pc := 30) 2 rfl rfl dX8_tells_30 ?_
          refine M.iloadn (pc := 31) 3 rfl rfl dX8_tells_31 ?_
          refine M.pV (pc := 32) (c_X8_tellsOf  (by first | assumption | omega) (by first | assumption | omega) (by first | assumption | omega) (by first | assumption | omega) (by first | assumption | omega) (by first | assumption | omega) (by first | assumption | omega) (by first | assumption | omega)) mv_X8_258 [0, 1, 2] rfl rfl rfl 0 rfl rfl rfl rfl (Nat.le_of_ble_eq_true rfl) rfl ⟨(Nat.le_of_ble_eq_true rfl), (Nat.le_of_ble_eq_true rfl)⟩ ⟨(Nat.le_of_ble_eq_true rfl), (Nat.le_of_ble_eq_true rfl)⟩ rfl dX8_tells_32 ?_
          refine M.goto (pc := 35) (tgt := 40) dX8_tells_35 (by decide) ?_
          exact EI () _ _ _ _ dX8_tells_40 (Or.inl rfl) (eqI (by unfold aTells; first | (rw [if_pos (by omega)]) | (rw [if_neg (by omega)]))) rfl trivial
set_option maxHeartbeats 4000000 in
set_option maxRecDepth 100000 in
theorem c_X8_alike {l : Launch} {G : GT} {m aBath aBather aMorn aText aRB aRN aLow aHigh aNeeds aLikes aHts aBook aImg aKept : Nat} {vb vn vo vm vs vt vf va vw vu vna vrb vrn vro vtr vbk vsd : Int} {vch : Bool} {gb : Int → Int} {gt : Int → Int} {c : Int} (hn : 0 ≤ vn ∧ vn ≤ 6) (hnb : 0 ≤ vb ∧ vb ≤ 2) (hV : HV gb vb) (hT : HVT gt vn) (ho : 0 ≤ vo ∧ vo ≤ 999) (hrc : InR c) : ConF l G yX8_alike cX8_alike 2 (some .int) { frames := 5, cells := 0, slots := 0, locals := 119 } [.ref m, .int (iI c)] [(m, eO 8 [.int (iI vb), .ref aBath, .int (iI vn), .ref aBather, .int (iI vo), .int (iI vm), .ref aMorn, .int (iI vs), .ref aText, .int (iI vt), .int (iI vf), .int (iI va), .long (lI vsd), .int (iI vw), .int (iI vu), .int (iI vna), .int (iI vrb), .ref aRB, .int (iI vrn), .ref aRN, .int (iI vro), .ref aLow, .ref aHigh, .int (iI (pI (vch = true))), .ref aNeeds, .ref aLikes, .ref aHts, .int (iI vtr), .int (iI vbk), .ref aBook, .ref aImg, .ref aKept]), (aBath, eI G 8 gb), (aBather, eI G 24 gt)] (some (.int (iI (aAlike gb gt vb vn vo c)))) := by
  refine Con.mk (by decide +kernel) [some (.ref m), some (.int (iI c))] rfl (Nat.le_of_ble_eq_true rfl) rfl ?_
  intro V M EI EL EV EA
  refine M.aloadn (pc := 0) 0 rfl rfl dX8_alike_0 ?_
  refine M.iloadn (pc := 1) 1 rfl rfl dX8_alike_1 ?_
  refine M.pV (pc := 2) (c_X8_isCase  (by first | assumption | omega) (by first | assumption | omega)) mv_X8_255 [0] rfl rfl rfl 0 rfl rfl rfl rfl (Nat.le_of_ble_eq_true rfl) rfl ⟨(Nat.le_of_ble_eq_true rfl), (Nat.le_of_ble_eq_true rfl)⟩ ⟨(Nat.le_of_ble_eq_true rfl), (Nat.le_of_ble_eq_true rfl)⟩ rfl dX8_alike_2 ?_
  refine M.if_eqP (pc := 5) (tgt := 16) dX8_alike_5 (by decide) (fun c5 => ?_) (fun c5 => ?_)
  · refine M.ldc (pc := 16) (-1000000001) lc_X8_173 (by decide +kernel) dX8_alike_16 ?_
    exact EI () _ _ _ _ dX8_alike_18 (Or.inl rfl) (eqI (by unfold aAlike; first | (rw [if_pos (by omega)]) | (rw [if_neg (by omega)]))) rfl trivial
  · refine M.aloadn (pc := 8) 0 rfl rfl dX8_alike_8 ?_
    refine M.iloadn (pc := 9) 1 rfl rfl dX8_alike_9 ?_
    refine M.pV (pc := 10) (c_X8_alikeOf  (by first | assumption | omega) (by first | assumption | omega) (by first | assumption | omega) (by first | assumption | omega) (by first | assumption | omega) (by exact ⟨decide_eq_true (by omega), by omega, by omega⟩)) mv_X8_265 [0, 1, 2] rfl rfl rfl 0 rfl rfl rfl rfl (Nat.le_of_ble_eq_true rfl) rfl ⟨(Nat.le_of_ble_eq_true rfl), (Nat.le_of_ble_eq_true rfl)⟩ ⟨(Nat.le_of_ble_eq_true rfl), (Nat.le_of_ble_eq_true rfl)⟩ rfl dX8_alike_10 ?_
    refine M.goto (pc := 13) (tgt := 18) dX8_alike_13 (by decide) ?_
    exact EI () _ _ _ _ dX8_alike_18 (Or.inl rfl) (eqI (by unfold aAlike; first | (rw [if_pos (by omega)]) | (rw [if_neg (by omega)]))) rfl trivial
set_option maxHeartbeats 4000000 in
set_option maxRecDepth 100000 in
theorem c_X8_span {l : Launch} {G : GT} {m aBath aBather aMorn aText aRB aRN aLow aHigh aNeeds aLikes aHts aBook aImg aKept : Nat} {vb vn vo vm vs vt vf va vw vu vna vrb vrn vro vtr vbk vsd : Int} {vch : Bool} {gb : Int → Int} {b h v w : Int} (hnb : 0 ≤ vb ∧ vb ≤ 2) (hV : HV gb vb) (hrb : InR b) (hrh : InR h) (hrv : InR v) (hrw : InR w) : ConF l G yX8_span cX8_span 6 (some .int) { frames := 2, cells := 0, slots := 0, locals := 47 } [.ref m, .int (iI b), .int (iI h), .int (iI v), .int (iI w)] [(m, eO 8 [.int (iI vb), .ref aBath, .int (iI vn), .ref aBather, .int (iI vo), .int (iI vm), .ref aMorn, .int (iI vs), .ref aText, .int (iI vt), .int (iI vf), .int (iI va), .long (lI vsd), .int (iI vw), .int (iI vu), .int (iI vna), .int (iI vrb), .ref aRB, .int (iI vrn), .ref aRN, .int (iI vro), .ref aLow, .ref aHigh, .int (iI (pI (vch = true))), .ref aNeeds, .ref aLikes, .ref aHts, .int (iI vtr), .int (iI vbk), .ref aBook, .ref aImg, .ref aKept]), (aBath, eI G 8 gb)] (some (.int (iI (aSpan gb vb b h v w)))) := by
  refine Con.mk (by decide +kernel) [some (.ref m), some (.int (iI b)), some (.int (iI h)), some (.int (iI v)), some (.int (iI w)), none] rfl (Nat.le_of_ble_eq_true rfl) rfl ?_
  intro V M EI EL EV EA
  have hm := fun (z0 : 0 ≤ b ∧ b < vb) (z1 : 0 ≤ h ∧ h < 100) (z2 : 0 ≤ v ∧ v < 100000) => (show ((1 ≤ hMea gb b ∧ hMea gb b ≤ 9801) ∧ (0 ≤ hWat gb b h ∧ hWat gb b h ≤ 9999)) ∧ (0 ≤ v * hMea gb b ∧ v * hMea gb b ≤ 980090199) from ⟨⟨(hMea_v hV z0.1 z0.2).1, hWat_v hV z0.1 z0.2 z1.1⟩, hMul_v hV z0.1 z0.2 z2.1 (by omega)⟩)
  have hmo : hMos gb b h v = v * hMea gb b + hMea gb b - 1 - hWat gb b h := rfl
  have hls : hLst gb b h v = max 0 (v * hMea gb b - hWat gb b h) := rfl
  refine M.aloadn (pc := 0) 0 rfl rfl dX8_span_0 ?_
  refine M.iloadn (pc := 1) 1 rfl rfl dX8_span_1 ?_
  refine M.pV (pc := 2) (c_X8_isBath  (by first | assumption | omega) (by first | assumption | omega)) mv_X8_170 [0] rfl rfl rfl 0 rfl rfl rfl rfl (Nat.le_of_ble_eq_true rfl) rfl ⟨(Nat.le_of_ble_eq_true rfl), (Nat.le_of_ble_eq_true rfl)⟩ ⟨(Nat.le_of_ble_eq_true rfl), (Nat.le_of_ble_eq_true rfl)⟩ rfl dX8_span_2 ?_
  refine M.if_neP (pc := 5) (tgt := 11) dX8_span_5 (by decide) (fun c5 => ?_) (fun c5 => ?_)
  · refine M.iloadn (pc := 11) 2 rfl rfl dX8_span_11 ?_
    refine M.pS (pc := 12) (c_X8_isHour  (by first | assumption | omega)) ms_X8_198 [] rfl rfl rfl rfl (Nat.le_of_ble_eq_true rfl) rfl ⟨(Nat.le_of_ble_eq_true rfl), (Nat.le_of_ble_eq_true rfl)⟩ ⟨(Nat.le_of_ble_eq_true rfl), (Nat.le_of_ble_eq_true rfl)⟩ rfl dX8_span_12 ?_
    refine M.if_eqP (pc := 15) (tgt := 36) dX8_span_15 (by decide) (fun c15 => ?_) (fun c15 => ?_)
    · refine M.ldc (pc := 36) (-1000000002) lc_X8_76 (by decide +kernel) dX8_span_36 ?_
      exact EI () _ _ _ _ dX8_span_38 (Or.inl rfl) (eqI (by unfold aSpan; (repeat' split) <;> first | omega | rfl)) rfl trivial
    · refine M.iloadn (pc := 18) 3 rfl rfl dX8_span_18 ?_
      refine M.pS (pc := 19) (c_X8_isHeight  (by first | assumption | omega)) ms_X8_208 [] rfl rfl rfl rfl (Nat.le_of_ble_eq_true rfl) rfl ⟨(Nat.le_of_ble_eq_true rfl), (Nat.le_of_ble_eq_true rfl)⟩ ⟨(Nat.le_of_ble_eq_true rfl), (Nat.le_of_ble_eq_true rfl)⟩ rfl dX8_span_19 ?_
      refine M.if_eqP (pc := 22) (tgt := 36) dX8_span_22 (by decide) (fun c22 => ?_) (fun c22 => ?_)
      · refine M.ldc (pc := 36) (-1000000002) lc_X8_76 (by decide +kernel) dX8_span_36 ?_
        exact EI () _ _ _ _ dX8_span_38 (Or.inl rfl) (eqI (by unfold aSpan; (repeat' split) <;> first | omega | rfl)) rfl trivial
      · refine M.iload (pc := 25) (i := 4) rfl dX8_span_25 ?_
        refine M.i2l (pc := 27) (by omega) dX8_span_27 ?_
        refine M.lconst (pc := 28) 0 (by decide +kernel) dX8_span_28 ?_
        refine M.lconst (pc := 29) 1 (by decide +kernel) dX8_span_29 ?_
        refine M.pS (pc := 30) (c_X8_in  (by first | assumption | omega) (by first | assumption | omega) (by first | assumption | omega)) ms_X8_63 [] rfl rfl rfl rfl (Nat.le_of_ble_eq_true rfl) rfl ⟨(Nat.le_of_ble_eq_true rfl), (Nat.le_of_ble_eq_true rfl)⟩ ⟨(Nat.le_of_ble_eq_true rfl), (Nat.le_of_ble_eq_true rfl)⟩ rfl dX8_span_30 ?_
        refine M.if_neP (pc := 33) (tgt := 39) dX8_span_33 (by decide) (fun c33 => ?_) (fun c33 => ?_)
        · refine M.aloadn (pc := 39) 0 rfl rfl dX8_span_39 ?_
          refine M.iloadn (pc := 40) 1 rfl rfl dX8_span_40 ?_
          refine M.iloadn (pc := 41) 2 rfl rfl dX8_span_41 ?_
          refine M.iloadn (pc := 42) 3 rfl rfl dX8_span_42 ?_
          refine M.pV (pc := 43) (c_X8_mostOf  (by first | assumption | omega) (by first | assumption | omega) (by first | assumption | omega) (by first | assumption | omega) (by first | assumption | omega)) mv_X8_211 [0, 1] rfl rfl rfl 0 rfl rfl rfl rfl (Nat.le_of_ble_eq_true rfl) rfl ⟨(Nat.le_of_ble_eq_true rfl), (Nat.le_of_ble_eq_true rfl)⟩ ⟨(Nat.le_of_ble_eq_true rfl), (Nat.le_of_ble_eq_true rfl)⟩ rfl dX8_span_43 ?_
          have hmb := hm (by omega) (by omega) (by omega)
          refine M.istore (pc := 46) (i := 5) (Nat.le_of_ble_eq_true rfl) rfl dX8_span_46 ?_
          dsimp only [List.set_cons_zero, List.set_cons_succ]
          refine M.iload (pc := 48) (i := 5) rfl dX8_span_48 ?_
          refine M.if_ge (pc := 50) (tgt := 57) dX8_span_50 (by decide) (by omega) (fun c50 => ?_) (fun c50 => ?_)
          · refine M.iload (pc := 57) (i := 4) rfl dX8_span_57 ?_
            refine M.if_ne (pc := 59) (tgt := 72) dX8_span_59 (by decide) (by omega) (fun c59 => ?_) (fun c59 => ?_)
            · refine M.iload (pc := 72) (i := 5) rfl dX8_span_72 ?_
              exact EI () _ _ _ _ dX8_span_74 (Or.inl rfl) (eqI (by unfold aSpan; (repeat' split) <;> first | omega | rfl)) rfl trivial
            · refine M.aloadn (pc := 62) 0 rfl rfl dX8_span_62 ?_
              refine M.iloadn (pc := 63) 1 rfl rfl dX8_span_63 ?_
              refine M.iloadn (pc := 64) 2 rfl rfl dX8_span_64 ?_
              refine M.iloadn (pc := 65) 3 rfl rfl dX8_span_65 ?_
              refine M.pV (pc := 66) (c_X8_leastOf  (by first | assumption | omega) (by first | assumption | omega) (by first | assumption | omega) (by first | assumption | omega) (by first | assumption | omega)) mv_X8_214 [0, 1] rfl rfl rfl 0 rfl rfl rfl rfl (Nat.le_of_ble_eq_true rfl) rfl ⟨(Nat.le_of_ble_eq_true rfl), (Nat.le_of_ble_eq_true rfl)⟩ ⟨(Nat.le_of_ble_eq_true rfl), (Nat.le_of_ble_eq_true rfl)⟩ rfl dX8_span_66 ?_
              refine M.goto (pc := 69) (tgt := 74) dX8_span_69 (by decide) ?_
              exact EI () _ _ _ _ dX8_span_74 (Or.inl rfl) (eqI (by unfold aSpan; (repeat' split) <;> first | omega | rfl)) rfl trivial
          · refine M.iconst (pc := 53) dX8_span_53 ?_
            refine M.goto (pc := 54) (tgt := 74) dX8_span_54 (by decide) ?_
            exact EI () _ _ _ _ dX8_span_74 (Or.inl rfl) (eqI (by unfold aSpan; (repeat' split) <;> first | omega | rfl)) rfl trivial
        · refine M.ldc (pc := 36) (-1000000002) lc_X8_76 (by decide +kernel) dX8_span_36 ?_
          exact EI () _ _ _ _ dX8_span_38 (Or.inl rfl) (eqI (by unfold aSpan; (repeat' split) <;> first | omega | rfl)) rfl trivial
  · refine M.ldc (pc := 8) (-1000000001) lc_X8_173 (by decide +kernel) dX8_span_8 ?_
    exact EI () _ _ _ _ dX8_span_10 (Or.inl rfl) (eqI (by unfold aSpan; (repeat' split) <;> first | omega | rfl)) rfl trivial
set_option maxHeartbeats 4000000 in
set_option maxRecDepth 100000 in
theorem c_X8_isMorning {l : Launch} {G : GT} {m aBath aBather aMorn aText aRB aRN aLow aHigh aNeeds aLikes aHts aBook aImg aKept : Nat} {vb vn vo vm vs vt vf va vw vu vna vrb vrn vro vtr vbk vsd : Int} {vch : Bool} {b S : Int} (hn : 0 ≤ vn ∧ vn ≤ 6) (hnb : 0 ≤ vb ∧ vb ≤ 2) (hrb : InR b) (hrS : InR S) : ConF l G yX8_isMorning cX8_isMorning 3 (some .boolean) { frames := 2, cells := 0, slots := 0, locals := 46 } [.ref m, .int (iI b), .int (iI S)] [(m, eO 8 [.int (iI vb), .ref aBath, .int (iI vn), .ref aBather, .int (iI vo), .int (iI vm), .ref aMorn, .int (iI vs), .ref aText, .int (iI vt), .int (iI vf), .int (iI va), .long (lI vsd), .int (iI vw), .int (iI vu), .int (iI vna), .int (iI vrb), .ref aRB, .int (iI vrn), .ref aRN, .int (iI vro), .ref aLow, .ref aHigh, .int (iI (pI (vch = true))), .ref aNeeds, .ref aLikes, .ref aHts, .int (iI vtr), .int (iI vbk), .ref aBook, .ref aImg, .ref aKept])] (some (.int (iI (pI ((0 ≤ b ∧ b < vb) ∧ (0 ≤ S ∧ S < p2 vn)))))) := by
  refine Con.mk (by decide +kernel) [some (.ref m), some (.int (iI b)), some (.int (iI S))] rfl (Nat.le_of_ble_eq_true rfl) rfl ?_
  intro V M EI EL EV EA
  refine M.aloadn (pc := 0) 0 rfl rfl dX8_isMorning_0 ?_
  refine M.iloadn (pc := 1) 1 rfl rfl dX8_isMorning_1 ?_
  refine M.pV (pc := 2) (c_X8_isBath  (by first | assumption | omega) (by first | assumption | omega)) mv_X8_170 [0] rfl rfl rfl 0 rfl rfl rfl rfl (Nat.le_of_ble_eq_true rfl) rfl ⟨(Nat.le_of_ble_eq_true rfl), (Nat.le_of_ble_eq_true rfl)⟩ ⟨(Nat.le_of_ble_eq_true rfl), (Nat.le_of_ble_eq_true rfl)⟩ rfl dX8_isMorning_2 ?_
  refine M.if_eqP (pc := 5) (tgt := 20) dX8_isMorning_5 (by decide) (fun c5 => ?_) (fun c5 => ?_)
  · refine M.iconst (pc := 20) dX8_isMorning_20 ?_
    exact EI () _ _ _ _ dX8_isMorning_21 (Or.inr ⟨rfl, by first | exact Or.inl rfl | exact Or.inr rfl | exact pI_01 _⟩) (eqI (by first | exact pI_eq1 (by omega) rfl | exact pI_eq0 (by omega) rfl)) rfl trivial
  · refine M.aloadn (pc := 8) 0 rfl rfl dX8_isMorning_8 ?_
    refine M.iloadn (pc := 9) 2 rfl rfl dX8_isMorning_9 ?_
    refine M.pV (pc := 10) (c_X8_isSet  (by first | assumption | omega) (by first | assumption | omega)) mv_X8_195 [0] rfl rfl rfl 0 rfl rfl rfl rfl (Nat.le_of_ble_eq_true rfl) rfl ⟨(Nat.le_of_ble_eq_true rfl), (Nat.le_of_ble_eq_true rfl)⟩ ⟨(Nat.le_of_ble_eq_true rfl), (Nat.le_of_ble_eq_true rfl)⟩ rfl dX8_isMorning_10 ?_
    refine M.if_eqP (pc := 13) (tgt := 20) dX8_isMorning_13 (by decide) (fun c13 => ?_) (fun c13 => ?_)
    · refine M.iconst (pc := 20) dX8_isMorning_20 ?_
      exact EI () _ _ _ _ dX8_isMorning_21 (Or.inr ⟨rfl, by first | exact Or.inl rfl | exact Or.inr rfl | exact pI_01 _⟩) (eqI (by first | exact pI_eq1 (by omega) rfl | exact pI_eq0 (by omega) rfl)) rfl trivial
    · refine M.iconst (pc := 16) dX8_isMorning_16 ?_
      refine M.goto (pc := 17) (tgt := 21) dX8_isMorning_17 (by decide) ?_
      exact EI () _ _ _ _ dX8_isMorning_21 (Or.inr ⟨rfl, by first | exact Or.inl rfl | exact Or.inr rfl | exact pI_01 _⟩) (eqI (by first | exact pI_eq1 (by omega) rfl | exact pI_eq0 (by omega) rfl)) rfl trivial
set_option maxHeartbeats 4000000 in
set_option maxRecDepth 100000 in
theorem c_X8_told {l : Launch} {G : GT} {m aBath aBather aMorn aText aRB aRN aLow aHigh aNeeds aLikes aHts aBook aImg aKept : Nat} {vb vn vo vm vs vt vf va vw vu vna vrb vrn vro vtr vbk vsd : Int} {vch : Bool} {gb : Int → Int} {gt : Int → Int} {gm : Int → Int} {gl : Int → Int} {gh : Int → Int} {ecl : Bool} {el eu : Int → Int} {w : Int} (hn : 0 ≤ vn ∧ vn ≤ 6) (hnb : 0 ≤ vb ∧ vb ≤ 2) (hc : 0 ≤ vm ∧ vm ≤ 12) (hV : HV gb vb) (hT : HVT gt vn) (hM : HM gm vm vb vn) (hRX : RX gl gh) (hE : EndsOf vn vm (fU gt) (fV gt) (mS gm) (mL gb gm) (mG gb gm) (p2 vm - 1) ecl el eu) (hrw : InR w) : Con l G yX8_told cX8_told 2 (some .int) { frames := 4, cells := 0, slots := 0, locals := 99 } [.ref m, .int (iI w)] [(m, eO 8 [.int (iI vb), .ref aBath, .int (iI vn), .ref aBather, .int (iI vo), .int (iI vm), .ref aMorn, .int (iI vs), .ref aText, .int (iI vt), .int (iI vf), .int (iI va), .long (lI vsd), .int (iI vw), .int (iI vu), .int (iI vna), .int (iI vrb), .ref aRB, .int (iI vrn), .ref aRN, .int (iI vro), .ref aLow, .ref aHigh, .int (iI (pI (vch = true))), .ref aNeeds, .ref aLikes, .ref aHts, .int (iI vtr), .int (iI vbk), .ref aBook, .ref aImg, .ref aKept]), (aBath, eI G 8 gb), (aBather, eI G 24 gt), (aMorn, eI G 48 gm), (aLow, eI G 6 gl), (aHigh, eI G 6 gh)] (S := Bool × (Int → Int) × (Int → Int)) (fun _ => some (.int (iI (aTold w vb vn vo vm vbk vt (pI (ecl = true)))))) (fun u => [(m, eO 8 [.int (iI vb), .ref aBath, .int (iI vn), .ref aBather, .int (iI vo), .int (iI vm), .ref aMorn, .int (iI vs), .ref aText, .int (iI vt), .int (iI vf), .int (iI va), .long (lI vsd), .int (iI vw), .int (iI vu), .int (iI vna), .int (iI vrb), .ref aRB, .int (iI vrn), .ref aRN, .int (iI vro), .ref aLow, .ref aHigh, .int (iI (pI (u.1 = true))), .ref aNeeds, .ref aLikes, .ref aHts, .int (iI vtr), .int (iI vbk), .ref aBook, .ref aImg, .ref aKept]), (aBath, eI G 8 gb), (aBather, eI G 24 gt), (aMorn, eI G 48 gm), (aLow, eI G 6 u.2.1), (aHigh, eI G 6 u.2.2)]) (fun u => RX u.2.1 u.2.2) := by
  refine Con.mk (by decide +kernel) [some (.ref m), some (.int (iI w))] rfl (Nat.le_of_ble_eq_true rfl) rfl ?_
  intro V M EI EL EV EA
  have hp2 := p2_b (by omega : vm ≤ 13)
  refine M.iloadn (pc := 0) 1 rfl rfl dX8_told_0 ?_
  by_cases h1 : w < 0 ∨ 6 < w
  · refine M.tableOut (pc := 1) (tgt := 88) dX8_told_1 (by omega) h1 (by decide) ?_
    refine M.ldc (pc := 88) (-1000000002) lc_X8_76 (by decide +kernel) dX8_told_88 ?_
    exact EI (vch, gl, gh) _ _ _ _ dX8_told_90 (Or.inl rfl) (eqI (by unfold aTold; (repeat' split) <;> omega)) (rfl) (hRX)
  · have h1b : w = 0 ∨ w = 1 ∨ w = 2 ∨ w = 3 ∨ w = 4 ∨ w = 5 ∨ w = 6 := by omega
    rcases h1b with rfl | rfl | rfl | rfl | rfl | rfl | rfl
    · refine M.tableIn (pc := 1) 0 (tgt := 44) dX8_told_1 (by omega) (by omega) (by omega) rfl (by decide) ?_
      refine M.aloadn (pc := 44) 0 rfl rfl dX8_told_44 ?_
      refine M.getf (pc := 45) fg_X8_60 0 rfl rfl dX8_told_45 ?_
      exact EI (vch, gl, gh) _ _ _ _ dX8_told_48 (Or.inl rfl) (eqI rfl) (rfl) (hRX)
    · refine M.tableIn (pc := 1) 1 (tgt := 49) dX8_told_1 (by omega) (by omega) (by omega) rfl (by decide) ?_
      refine M.aloadn (pc := 49) 0 rfl rfl dX8_told_49 ?_
      refine M.getf (pc := 50) fg_X8_67 0 rfl rfl dX8_told_50 ?_
      exact EI (vch, gl, gh) _ _ _ _ dX8_told_53 (Or.inl rfl) (eqI rfl) (rfl) (hRX)
    · refine M.tableIn (pc := 1) 2 (tgt := 54) dX8_told_1 (by omega) (by omega) (by omega) rfl (by decide) ?_
      refine M.aloadn (pc := 54) 0 rfl rfl dX8_told_54 ?_
      refine M.getf (pc := 55) fg_X8_16 0 rfl rfl dX8_told_55 ?_
      exact EI (vch, gl, gh) _ _ _ _ dX8_told_58 (Or.inl rfl) (eqI rfl) (rfl) (hRX)
    · refine M.tableIn (pc := 1) 3 (tgt := 59) dX8_told_1 (by omega) (by omega) (by omega) rfl (by decide) ?_
      refine M.aloadn (pc := 59) 0 rfl rfl dX8_told_59 ?_
      refine M.getf (pc := 60) fg_X8_160 0 rfl rfl dX8_told_60 ?_
      exact EI (vch, gl, gh) _ _ _ _ dX8_told_63 (Or.inl rfl) (eqI rfl) (rfl) (hRX)
    · refine M.tableIn (pc := 1) 4 (tgt := 64) dX8_told_1 (by omega) (by omega) (by omega) rfl (by decide) ?_
      refine M.aloadn (pc := 64) 0 rfl rfl dX8_told_64 ?_
      refine M.getf (pc := 65) fg_X8_163 0 rfl rfl dX8_told_65 ?_
      exact EI (vch, gl, gh) _ _ _ _ dX8_told_68 (Or.inl rfl) (eqI rfl) (rfl) (hRX)
    · refine M.tableIn (pc := 1) 5 (tgt := 69) dX8_told_1 (by omega) (by omega) (by omega) rfl (by decide) ?_
      refine M.aloadn (pc := 69) 0 rfl rfl dX8_told_69 ?_
      refine M.getf (pc := 70) fg_X8_77 0 rfl rfl dX8_told_70 ?_
      exact EI (vch, gl, gh) _ _ _ _ dX8_told_73 (Or.inl rfl) (eqI rfl) (rfl) (hRX)
    · refine M.tableIn (pc := 1) 6 (tgt := 74) dX8_told_1 (by omega) (by omega) (by omega) rfl (by decide) ?_
      refine M.aloadn (pc := 74) 0 rfl rfl dX8_told_74 ?_
      refine M.iconst (pc := 75) dX8_told_75 ?_
      refine M.mV (pc := 76) (c_X8_isClash  (by first | assumption | omega) (by first | assumption | omega) (by first | assumption | omega) (by first | assumption | omega) (by first | assumption | omega) (by first | assumption | omega) (by first | assumption | omega) (by omega)) mv_X8_166 [0, 1, 2, 3, 4, 5] rfl rfl rfl 0 rfl rfl rfl rfl (Nat.le_of_ble_eq_true rfl) rfl ⟨(Nat.le_of_ble_eq_true rfl), (Nat.le_of_ble_eq_true rfl)⟩ ⟨(Nat.le_of_ble_eq_true rfl), (Nat.le_of_ble_eq_true rfl)⟩ rfl (fun _ => rfl) dX8_told_76 (fun u76 hu76 => ?_)
      obtain ⟨cl76, ch76, l76, h76⟩ := u76
      dsimp only [putL, List.set_cons_zero, List.set_cons_succ, Option.toList, List.cons_append, List.nil_append] at hu76 ⊢
      rw [Int.sub_zero] at hu76
      have hcl : cl76 = true ↔ ecl = true := by
        rw [hE.cl]
        rcases hu76.2 with ⟨z1, z2⟩ | ⟨z1, z2, z3⟩
        · exact ⟨fun _ => z2, fun _ => z1⟩
        · exact ⟨fun z => by rw [z1] at z; exact absurd z (by decide), fun z => absurd ⟨l76, h76, z2⟩ z⟩
      refine M.if_eqP (pc := 79) (tgt := 86) dX8_told_79 (by decide) (fun c79 => ?_) (fun c79 => ?_)
      · refine M.iconst (pc := 86) dX8_told_86 ?_
        exact EI (ch76, l76, h76) _ _ _ _ dX8_told_87 (Or.inl rfl) (eqI (by first | exact pI_t (hcl.mp c79) | exact pI_f (fun z => c79 (hcl.mpr z)))) (rfl) (hu76.1)
      · refine M.iconst (pc := 82) dX8_told_82 ?_
        refine M.goto (pc := 83) (tgt := 87) dX8_told_83 (by decide) ?_
        exact EI (ch76, l76, h76) _ _ _ _ dX8_told_87 (Or.inl rfl) (eqI (by first | exact pI_t (hcl.mp c79) | exact pI_f (fun z => c79 (hcl.mpr z)))) (rfl) (hu76.1)
set_option maxHeartbeats 4000000 in
set_option maxRecDepth 100000 in
theorem c_X8_bather {l : Launch} {G : GT} {m aBath aBather aMorn aText aRB aRN aLow aHigh aNeeds aLikes aHts aBook aImg aKept : Nat} {vb vn vo vm vs vt vf va vw vu vna vrb vrn vro vtr vbk vsd : Int} {vch : Bool} {gb : Int → Int} {gt : Int → Int} {gm : Int → Int} {gl : Int → Int} {gh : Int → Int} {ecl : Bool} {el eu : Int → Int} {k w : Int} (hn : 0 ≤ vn ∧ vn ≤ 6) (hnb : 0 ≤ vb ∧ vb ≤ 2) (hc : 0 ≤ vm ∧ vm ≤ 12) (hV : HV gb vb) (hT : HVT gt vn) (hM : HM gm vm vb vn) (hRX : RX gl gh) (hE : EndsOf vn vm (fU gt) (fV gt) (mS gm) (mL gb gm) (mG gb gm) (p2 vm - 1) ecl el eu) (hrk : InR k) (hrw : InR w) : Con l G yX8_bather cX8_bather 3 (some .int) { frames := 5, cells := 0, slots := 0, locals := 119 } [.ref m, .int (iI k), .int (iI w)] [(m, eO 8 [.int (iI vb), .ref aBath, .int (iI vn), .ref aBather, .int (iI vo), .int (iI vm), .ref aMorn, .int (iI vs), .ref aText, .int (iI vt), .int (iI vf), .int (iI va), .long (lI vsd), .int (iI vw), .int (iI vu), .int (iI vna), .int (iI vrb), .ref aRB, .int (iI vrn), .ref aRN, .int (iI vro), .ref aLow, .ref aHigh, .int (iI (pI (vch = true))), .ref aNeeds, .ref aLikes, .ref aHts, .int (iI vtr), .int (iI vbk), .ref aBook, .ref aImg, .ref aKept]), (aBath, eI G 8 gb), (aBather, eI G 24 gt), (aMorn, eI G 48 gm), (aLow, eI G 6 gl), (aHigh, eI G 6 gh)] (S := Bool × (Int → Int) × (Int → Int)) (fun _ => some (.int (iI (nBather gt el eu vn k w)))) (fun u => [(m, eO 8 [.int (iI vb), .ref aBath, .int (iI vn), .ref aBather, .int (iI vo), .int (iI vm), .ref aMorn, .int (iI vs), .ref aText, .int (iI vt), .int (iI vf), .int (iI va), .long (lI vsd), .int (iI vw), .int (iI vu), .int (iI vna), .int (iI vrb), .ref aRB, .int (iI vrn), .ref aRN, .int (iI vro), .ref aLow, .ref aHigh, .int (iI (pI (u.1 = true))), .ref aNeeds, .ref aLikes, .ref aHts, .int (iI vtr), .int (iI vbk), .ref aBook, .ref aImg, .ref aKept]), (aBath, eI G 8 gb), (aBather, eI G 24 gt), (aMorn, eI G 48 gm), (aLow, eI G 6 u.2.1), (aHigh, eI G 6 u.2.2)]) (fun u => RX u.2.1 u.2.2) := by
  refine Con.mk (by decide +kernel) [some (.ref m), some (.int (iI k)), some (.int (iI w))] rfl (Nat.le_of_ble_eq_true rfl) rfl ?_
  intro V M EI EL EV EA
  refine M.aloadn (pc := 0) 0 rfl rfl dX8_bather_0 ?_
  refine M.iloadn (pc := 1) 1 rfl rfl dX8_bather_1 ?_
  refine M.pV (pc := 2) (c_X8_isBather  (by first | assumption | omega) (by first | assumption | omega)) mv_X8_176 [0] rfl rfl rfl 0 rfl rfl rfl rfl (Nat.le_of_ble_eq_true rfl) rfl ⟨(Nat.le_of_ble_eq_true rfl), (Nat.le_of_ble_eq_true rfl)⟩ ⟨(Nat.le_of_ble_eq_true rfl), (Nat.le_of_ble_eq_true rfl)⟩ rfl dX8_bather_2 ?_
  refine M.if_neP (pc := 5) (tgt := 11) dX8_bather_5 (by decide) (fun c5 => ?_) (fun c5 => ?_)
  · refine M.iloadn (pc := 11) 2 rfl rfl dX8_bather_11 ?_
    refine M.i2l (pc := 12) (by omega) dX8_bather_12 ?_
    refine M.lconst (pc := 13) 0 (by decide +kernel) dX8_bather_13 ?_
    refine M.ldc2 (pc := 14) (5) lc_X8_179 (by decide +kernel) dX8_bather_14 ?_
    refine M.pS (pc := 17) (c_X8_in  (by first | assumption | omega) (by first | assumption | omega) (by first | assumption | omega)) ms_X8_63 [] rfl rfl rfl rfl (Nat.le_of_ble_eq_true rfl) rfl ⟨(Nat.le_of_ble_eq_true rfl), (Nat.le_of_ble_eq_true rfl)⟩ ⟨(Nat.le_of_ble_eq_true rfl), (Nat.le_of_ble_eq_true rfl)⟩ rfl dX8_bather_17 ?_
    refine M.if_neP (pc := 20) (tgt := 26) dX8_bather_20 (by decide) (fun c20 => ?_) (fun c20 => ?_)
    · refine M.iloadn (pc := 26) 2 rfl rfl dX8_bather_26 ?_
      refine M.iconst (pc := 27) dX8_bather_27 ?_
      refine M.icmp_ge (pc := 28) (tgt := 42) dX8_bather_28 (by decide) (by omega) (by omega) (fun c28 => ?_) (fun c28 => ?_)
      · refine M.aloadn (pc := 42) 0 rfl rfl dX8_bather_42 ?_
        refine M.mV (pc := 43) (c_X8_findEnds  (by first | assumption | omega) (by first | assumption | omega) (by first | assumption | omega) (by first | assumption | omega) (by first | assumption | omega) (by first | assumption | omega) (by first | assumption | omega)) mv_X8_181 [0, 1, 2, 3, 4, 5] rfl rfl rfl 0 rfl rfl rfl rfl (Nat.le_of_ble_eq_true rfl) rfl ⟨(Nat.le_of_ble_eq_true rfl), (Nat.le_of_ble_eq_true rfl)⟩ ⟨(Nat.le_of_ble_eq_true rfl), (Nat.le_of_ble_eq_true rfl)⟩ rfl (fun _ => rfl) dX8_bather_43 (fun u43 hu43 => ?_)
        obtain ⟨cl43, ch43, l43, h43⟩ := u43
        dsimp only [putL, List.set_cons_zero, List.set_cons_succ, Option.toList, List.cons_append, List.nil_append] at hu43 ⊢
        have heq := (hu43.2.one hE).2 k (by omega) (by omega)
        refine M.iloadn (pc := 46) 2 rfl rfl dX8_bather_46 ?_
        refine M.iconst (pc := 47) dX8_bather_47 ?_
        refine M.icmp_ne (pc := 48) (tgt := 60) dX8_bather_48 (by decide) (by omega) (by omega) (fun c48 => ?_) (fun c48 => ?_)
        · refine M.aloadn (pc := 60) 0 rfl rfl dX8_bather_60 ?_
          refine M.getf (pc := 61) fg_X8_38 0 rfl rfl dX8_bather_61 ?_
          refine M.iloadn (pc := 64) 1 rfl rfl dX8_bather_64 ?_
          refine M.iald (pc := 65) 5 rfl (by omega) (by omega) dX8_bather_65 ?_
          exact EI (ch43, l43, h43) _ _ _ _ dX8_bather_66 (Or.inl rfl) (eqI (by unfold nBather; (repeat' split) <;> omega)) (rfl) (hu43.1)
        · refine M.aloadn (pc := 51) 0 rfl rfl dX8_bather_51 ?_
          refine M.getf (pc := 52) fg_X8_35 0 rfl rfl dX8_bather_52 ?_
          refine M.iloadn (pc := 55) 1 rfl rfl dX8_bather_55 ?_
          refine M.iald (pc := 56) 4 rfl (by omega) (by omega) dX8_bather_56 ?_
          refine M.goto (pc := 57) (tgt := 66) dX8_bather_57 (by decide) ?_
          exact EI (ch43, l43, h43) _ _ _ _ dX8_bather_66 (Or.inl rfl) (eqI (by unfold nBather; (repeat' split) <;> omega)) (rfl) (hu43.1)
      · refine M.aloadn (pc := 31) 0 rfl rfl dX8_bather_31 ?_
        refine M.getf (pc := 32) fg_X8_13 0 rfl rfl dX8_bather_32 ?_
        refine M.iconst (pc := 35) dX8_bather_35 ?_
        refine M.iloadn (pc := 36) 1 rfl rfl dX8_bather_36 ?_
        refine M.imul (pc := 37) dX8_bather_37 ?_
        refine M.iloadn (pc := 38) 2 rfl rfl dX8_bather_38 ?_
        refine M.iadd (pc := 39) dX8_bather_39 ?_
        refine M.ialdx (pc := 40) (k * 4 + w) (by omega) 2 rfl (by omega) (by omega) dX8_bather_40 ?_
        exact EI (vch, gl, gh) _ _ _ _ dX8_bather_41 (Or.inl rfl) (eqI (by unfold nBather; (repeat' split) <;> first | omega | rfl)) (rfl) (hRX)
    · refine M.ldc (pc := 23) (-1000000002) lc_X8_76 (by decide +kernel) dX8_bather_23 ?_
      exact EI (vch, gl, gh) _ _ _ _ dX8_bather_25 (Or.inl rfl) (eqI (by unfold nBather; (repeat' split) <;> first | omega | rfl)) (rfl) (hRX)
  · refine M.ldc (pc := 8) (-1000000001) lc_X8_173 (by decide +kernel) dX8_bather_8 ?_
    exact EI (vch, gl, gh) _ _ _ _ dX8_bather_10 (Or.inl rfl) (eqI (by unfold nBather; (repeat' split) <;> first | omega | rfl)) (rfl) (hRX)
set_option maxHeartbeats 4000000 in
set_option maxRecDepth 100000 in
theorem c_X8_addMorning {l : Launch} {G : GT} {m aBath aBather aMorn aText aRB aRN aLow aHigh aNeeds aLikes aHts aBook aImg aKept : Nat} {vb vn vo vm vs vt vf va vw vu vna vrb vrn vro vtr vbk vsd : Int} {vch : Bool} {gm : Int → Int} {b h S v : Int} (hc : 0 ≤ vm ∧ vm < 12) : Con l G yX8_addMorning cX8_addMorning 5 none { frames := 0, cells := 0, slots := 0, locals := 0 } [.ref m, .int (iI b), .int (iI h), .int (iI S), .int (iI v)] [(m, eO 8 [.int (iI vb), .ref aBath, .int (iI vn), .ref aBather, .int (iI vo), .int (iI vm), .ref aMorn, .int (iI vs), .ref aText, .int (iI vt), .int (iI vf), .int (iI va), .long (lI vsd), .int (iI vw), .int (iI vu), .int (iI vna), .int (iI vrb), .ref aRB, .int (iI vrn), .ref aRN, .int (iI vro), .ref aLow, .ref aHigh, .int (iI (pI (vch = true))), .ref aNeeds, .ref aLikes, .ref aHts, .int (iI vtr), .int (iI vbk), .ref aBook, .ref aImg, .ref aKept]), (aMorn, eI G 48 gm)] (S := Unit) (fun _ => none) (fun _ => [(m, eO 8 [.int (iI vb), .ref aBath, .int (iI vn), .ref aBather, .int (iI vo), .int (iI (vm + 1)), .ref aMorn, .int (iI vs), .ref aText, .int (iI vt), .int (iI vf), .int (iI va), .long (lI vsd), .int (iI vw), .int (iI vu), .int (iI vna), .int (iI vrb), .ref aRB, .int (iI vrn), .ref aRN, .int (iI vro), .ref aLow, .ref aHigh, .int (iI (pI (vch = true))), .ref aNeeds, .ref aLikes, .ref aHts, .int (iI vtr), .int (iI vbk), .ref aBook, .ref aImg, .ref aKept]), (aMorn, eI G 48 (up4 gm (vm * 4) b h S v))]) (fun _ => True) := by
  refine Con.mk (by decide +kernel) [some (.ref m), some (.int (iI b)), some (.int (iI h)), some (.int (iI S)), some (.int (iI v))] rfl (Nat.le_of_ble_eq_true rfl) rfl ?_
  intro V M EI EL EV EA
  refine M.aloadn (pc := 0) 0 rfl rfl dX8_addMorning_0 ?_
  refine M.getf (pc := 1) fg_X8_20 0 rfl rfl dX8_addMorning_1 ?_
  refine M.iconst (pc := 4) dX8_addMorning_4 ?_
  refine M.aloadn (pc := 5) 0 rfl rfl dX8_addMorning_5 ?_
  refine M.getf (pc := 6) fg_X8_160 0 rfl rfl dX8_addMorning_6 ?_
  refine M.imul (pc := 9) dX8_addMorning_9 ?_
  refine M.iloadn (pc := 10) 1 rfl rfl dX8_addMorning_10 ?_
  refine M.iastx (pc := 11) (vm * 4) (by omega) 1 rfl (by omega) (by omega) dX8_addMorning_11 ?_
  dsimp only [List.set_cons_zero, List.set_cons_succ]
  refine M.aloadn (pc := 12) 0 rfl rfl dX8_addMorning_12 ?_
  refine M.getf (pc := 13) fg_X8_20 0 rfl rfl dX8_addMorning_13 ?_
  refine M.iconst (pc := 16) dX8_addMorning_16 ?_
  refine M.aloadn (pc := 17) 0 rfl rfl dX8_addMorning_17 ?_
  refine M.getf (pc := 18) fg_X8_160 0 rfl rfl dX8_addMorning_18 ?_
  refine M.imul (pc := 21) dX8_addMorning_21 ?_
  refine M.iconst (pc := 22) dX8_addMorning_22 ?_
  refine M.iadd (pc := 23) dX8_addMorning_23 ?_
  refine M.iloadn (pc := 24) 2 rfl rfl dX8_addMorning_24 ?_
  refine M.iastx (pc := 25) (vm * 4 + 1) (by omega) 1 rfl (by omega) (by omega) dX8_addMorning_25 ?_
  dsimp only [List.set_cons_zero, List.set_cons_succ]
  refine M.aloadn (pc := 26) 0 rfl rfl dX8_addMorning_26 ?_
  refine M.getf (pc := 27) fg_X8_20 0 rfl rfl dX8_addMorning_27 ?_
  refine M.iconst (pc := 30) dX8_addMorning_30 ?_
  refine M.aloadn (pc := 31) 0 rfl rfl dX8_addMorning_31 ?_
  refine M.getf (pc := 32) fg_X8_160 0 rfl rfl dX8_addMorning_32 ?_
  refine M.imul (pc := 35) dX8_addMorning_35 ?_
  refine M.iconst (pc := 36) dX8_addMorning_36 ?_
  refine M.iadd (pc := 37) dX8_addMorning_37 ?_
  refine M.iloadn (pc := 38) 3 rfl rfl dX8_addMorning_38 ?_
  refine M.iastx (pc := 39) (vm * 4 + 2) (by omega) 1 rfl (by omega) (by omega) dX8_addMorning_39 ?_
  dsimp only [List.set_cons_zero, List.set_cons_succ]
  refine M.aloadn (pc := 40) 0 rfl rfl dX8_addMorning_40 ?_
  refine M.getf (pc := 41) fg_X8_20 0 rfl rfl dX8_addMorning_41 ?_
  refine M.iconst (pc := 44) dX8_addMorning_44 ?_
  refine M.aloadn (pc := 45) 0 rfl rfl dX8_addMorning_45 ?_
  refine M.getf (pc := 46) fg_X8_160 0 rfl rfl dX8_addMorning_46 ?_
  refine M.imul (pc := 49) dX8_addMorning_49 ?_
  refine M.iconst (pc := 50) dX8_addMorning_50 ?_
  refine M.iadd (pc := 51) dX8_addMorning_51 ?_
  refine M.iload (pc := 52) (i := 4) rfl dX8_addMorning_52 ?_
  refine M.iastx (pc := 54) (vm * 4 + 3) (by omega) 1 rfl (by omega) (by omega) dX8_addMorning_54 ?_
  dsimp only [List.set_cons_zero, List.set_cons_succ]
  refine M.aloadn (pc := 55) 0 rfl rfl dX8_addMorning_55 ?_
  refine M.dup (pc := 56) rfl dX8_addMorning_56 ?_
  refine M.getf (pc := 57) fg_X8_160 0 rfl rfl dX8_addMorning_57 ?_
  refine M.iconst (pc := 60) dX8_addMorning_60 ?_
  refine M.iadd (pc := 61) dX8_addMorning_61 ?_
  refine M.putf (pc := 62) fp_X8_160 0 rfl rfl rfl (Nat.le_of_ble_eq_true rfl) dX8_addMorning_62 ?_
  dsimp only [List.set_cons_zero, List.set_cons_succ]
  exact EV () _ _ _ dX8_addMorning_65 rfl (rfl) (rfl) (trivial)
set_option maxHeartbeats 4000000 in
set_option maxRecDepth 100000 in
theorem c_X8_morning {l : Launch} {G : GT} {m aBath aBather aMorn aText aRB aRN aLow aHigh aNeeds aLikes aHts aBook aImg aKept : Nat} {vb vn vo vm vs vt vf va vw vu vna vrb vrn vro vtr vbk vsd : Int} {vch : Bool} {gm : Int → Int} {b h S v : Int} (hn : 0 ≤ vn ∧ vn ≤ 6) (hnb : 0 ≤ vb ∧ vb ≤ 2) (hc : 0 ≤ vm ∧ vm ≤ 12) (hrb : InR b) (hrh : InR h) (hrS : InR S) (hrv : InR v) : Con l G yX8_morning cX8_morning 5 (some .int) { frames := 3, cells := 0, slots := 0, locals := 68 } [.ref m, .int (iI b), .int (iI h), .int (iI S), .int (iI v)] [(m, eO 8 [.int (iI vb), .ref aBath, .int (iI vn), .ref aBather, .int (iI vo), .int (iI vm), .ref aMorn, .int (iI vs), .ref aText, .int (iI vt), .int (iI vf), .int (iI va), .long (lI vsd), .int (iI vw), .int (iI vu), .int (iI vna), .int (iI vrb), .ref aRB, .int (iI vrn), .ref aRN, .int (iI vro), .ref aLow, .ref aHigh, .int (iI (pI (vch = true))), .ref aNeeds, .ref aLikes, .ref aHts, .int (iI vtr), .int (iI vbk), .ref aBook, .ref aImg, .ref aKept]), (aMorn, eI G 48 gm)] (S := Unit) (fun _ => some (.int (iI (rwA (aRef vb vn b h S v vm 12) vm)))) (fun _ => [(m, eO 8 [.int (iI vb), .ref aBath, .int (iI vn), .ref aBather, .int (iI vo), .int (iI (rwN (aRef vb vn b h S v vm 12) vm)), .ref aMorn, .int (iI vs), .ref aText, .int (iI vt), .int (iI vf), .int (iI va), .long (lI vsd), .int (iI vw), .int (iI vu), .int (iI vna), .int (iI vrb), .ref aRB, .int (iI vrn), .ref aRN, .int (iI vro), .ref aLow, .ref aHigh, .int (iI (pI (vch = true))), .ref aNeeds, .ref aLikes, .ref aHts, .int (iI vtr), .int (iI vbk), .ref aBook, .ref aImg, .ref aKept]), (aMorn, eI G 48 (rwG gm (aRef vb vn b h S v vm 12) vm b h S v))]) (fun _ => True) := by
  refine Con.mk (by decide +kernel) [some (.ref m), some (.int (iI b)), some (.int (iI h)), some (.int (iI S)), some (.int (iI v))] rfl (Nat.le_of_ble_eq_true rfl) rfl ?_
  intro V M EI EL EV EA
  refine M.aloadn (pc := 0) 0 rfl rfl dX8_morning_0 ?_
  refine M.iloadn (pc := 1) 1 rfl rfl dX8_morning_1 ?_
  refine M.iloadn (pc := 2) 3 rfl rfl dX8_morning_2 ?_
  refine M.pV (pc := 3) (c_X8_isMorning  (by first | assumption | omega) (by first | assumption | omega) (by first | assumption | omega) (by first | assumption | omega)) mv_X8_227 [0] rfl rfl rfl 0 rfl rfl rfl rfl (Nat.le_of_ble_eq_true rfl) rfl ⟨(Nat.le_of_ble_eq_true rfl), (Nat.le_of_ble_eq_true rfl)⟩ ⟨(Nat.le_of_ble_eq_true rfl), (Nat.le_of_ble_eq_true rfl)⟩ rfl dX8_morning_3 ?_
  refine M.if_neP (pc := 6) (tgt := 12) dX8_morning_6 (by decide) (fun c6 => ?_) (fun c6 => ?_)
  · refine M.iloadn (pc := 12) 2 rfl rfl dX8_morning_12 ?_
    refine M.pS (pc := 13) (c_X8_isHour  (by first | assumption | omega)) ms_X8_198 [] rfl rfl rfl rfl (Nat.le_of_ble_eq_true rfl) rfl ⟨(Nat.le_of_ble_eq_true rfl), (Nat.le_of_ble_eq_true rfl)⟩ ⟨(Nat.le_of_ble_eq_true rfl), (Nat.le_of_ble_eq_true rfl)⟩ rfl dX8_morning_13 ?_
    refine M.if_eqP (pc := 16) (tgt := 27) dX8_morning_16 (by decide) (fun c16 => ?_) (fun c16 => ?_)
    · refine M.ldc (pc := 27) (-1000000002) lc_X8_76 (by decide +kernel) dX8_morning_27 ?_
      have hr : aRef vb vn b h S v vm 12 = -1000000002 := by unfold aRef; (repeat' split) <;> first | omega | rfl
      have hr0 : aRef vb vn b h S v vm 12 ≠ 0 := by rw [hr]; decide
      exact EI () _ _ _ _ dX8_morning_29 (Or.inl rfl) (by rw [rwA_n hr0, hr]) (by rw [rwN_n hr0, rwG_n hr0]) (trivial)
    · refine M.iload (pc := 19) (i := 4) rfl dX8_morning_19 ?_
      refine M.pS (pc := 21) (c_X8_isHeight  (by first | assumption | omega)) ms_X8_208 [] rfl rfl rfl rfl (Nat.le_of_ble_eq_true rfl) rfl ⟨(Nat.le_of_ble_eq_true rfl), (Nat.le_of_ble_eq_true rfl)⟩ ⟨(Nat.le_of_ble_eq_true rfl), (Nat.le_of_ble_eq_true rfl)⟩ rfl dX8_morning_21 ?_
      refine M.if_neP (pc := 24) (tgt := 30) dX8_morning_24 (by decide) (fun c24 => ?_) (fun c24 => ?_)
      · refine M.aloadn (pc := 30) 0 rfl rfl dX8_morning_30 ?_
        refine M.getf (pc := 31) fg_X8_160 0 rfl rfl dX8_morning_31 ?_
        refine M.bipush (pc := 34) (by decide +kernel) dX8_morning_34 ?_
        refine M.icmp_ne (pc := 36) (tgt := 42) dX8_morning_36 (by decide) (by omega) (by omega) (fun c36 => ?_) (fun c36 => ?_)
        · refine M.aloadn (pc := 42) 0 rfl rfl dX8_morning_42 ?_
          refine M.iloadn (pc := 43) 1 rfl rfl dX8_morning_43 ?_
          refine M.iloadn (pc := 44) 2 rfl rfl dX8_morning_44 ?_
          refine M.iloadn (pc := 45) 3 rfl rfl dX8_morning_45 ?_
          refine M.iload (pc := 46) (i := 4) rfl dX8_morning_46 ?_
          refine M.mV (pc := 48) (c_X8_addMorning  (by first | assumption | omega)) mv_X8_230 [0, 1] rfl rfl rfl 0 rfl rfl rfl rfl (Nat.le_of_ble_eq_true rfl) rfl ⟨(Nat.le_of_ble_eq_true rfl), (Nat.le_of_ble_eq_true rfl)⟩ ⟨(Nat.le_of_ble_eq_true rfl), (Nat.le_of_ble_eq_true rfl)⟩ rfl (fun _ => rfl) dX8_morning_48 (fun u48 hu48 => ?_)
          dsimp only [putL, List.set_cons_zero, List.set_cons_succ, Option.toList, List.cons_append, List.nil_append] at hu48 ⊢
          refine M.aloadn (pc := 51) 0 rfl rfl dX8_morning_51 ?_
          refine M.getf (pc := 52) fg_X8_160 0 rfl rfl dX8_morning_52 ?_
          have hr : (aRef vb vn b h S v vm 12) = 0 := by unfold aRef; (repeat' split) <;> first | omega | rfl
          exact EI () _ _ _ _ dX8_morning_55 (Or.inl rfl) (by rw [rwA_0 hr]) (by rw [rwN_0 hr, rwG_0 hr]) (trivial)
        · refine M.ldc (pc := 39) (-1000000004) lc_X8_80 (by decide +kernel) dX8_morning_39 ?_
          have hr : aRef vb vn b h S v vm 12 = -1000000004 := by unfold aRef; (repeat' split) <;> first | omega | rfl
          have hr0 : aRef vb vn b h S v vm 12 ≠ 0 := by rw [hr]; decide
          exact EI () _ _ _ _ dX8_morning_41 (Or.inl rfl) (by rw [rwA_n hr0, hr]) (by rw [rwN_n hr0, rwG_n hr0]) (trivial)
      · refine M.ldc (pc := 27) (-1000000002) lc_X8_76 (by decide +kernel) dX8_morning_27 ?_
        have hr : aRef vb vn b h S v vm 12 = -1000000002 := by unfold aRef; (repeat' split) <;> first | omega | rfl
        have hr0 : aRef vb vn b h S v vm 12 ≠ 0 := by rw [hr]; decide
        exact EI () _ _ _ _ dX8_morning_29 (Or.inl rfl) (by rw [rwA_n hr0, hr]) (by rw [rwN_n hr0, rwG_n hr0]) (trivial)
  · refine M.ldc (pc := 9) (-1000000001) lc_X8_173 (by decide +kernel) dX8_morning_9 ?_
    have hr : aRef vb vn b h S v vm 12 = -1000000001 := by unfold aRef; (repeat' split) <;> first | omega | rfl
    have hr0 : aRef vb vn b h S v vm 12 ≠ 0 := by rw [hr]; decide
    exact EI () _ _ _ _ dX8_morning_11 (Or.inl rfl) (by rw [rwA_n hr0, hr]) (by rw [rwN_n hr0, rwG_n hr0]) (trivial)
set_option maxHeartbeats 4000000 in
set_option maxRecDepth 100000 in
theorem c_X8_write {l : Launch} {G : GT} {m aBath aBather aMorn aText aRB aRN aLow aHigh aNeeds aLikes aHts aBook aImg aKept : Nat} {vb vn vo vm vs vt vf va vw vu vna vrb vrn vro vtr vbk vsd : Int} {vch : Bool} {gbk : Int → Int} {b h S v : Int} (hn : 0 ≤ vn ∧ vn ≤ 6) (hnb : 0 ≤ vb ∧ vb ≤ 2) (hc : 0 ≤ vbk ∧ vbk ≤ 30) (hrb : InR b) (hrh : InR h) (hrS : InR S) (hrv : InR v) : Con l G yX8_write cX8_write 5 (some .int) { frames := 3, cells := 0, slots := 0, locals := 68 } [.ref m, .int (iI b), .int (iI h), .int (iI S), .int (iI v)] [(m, eO 8 [.int (iI vb), .ref aBath, .int (iI vn), .ref aBather, .int (iI vo), .int (iI vm), .ref aMorn, .int (iI vs), .ref aText, .int (iI vt), .int (iI vf), .int (iI va), .long (lI vsd), .int (iI vw), .int (iI vu), .int (iI vna), .int (iI vrb), .ref aRB, .int (iI vrn), .ref aRN, .int (iI vro), .ref aLow, .ref aHigh, .int (iI (pI (vch = true))), .ref aNeeds, .ref aLikes, .ref aHts, .int (iI vtr), .int (iI vbk), .ref aBook, .ref aImg, .ref aKept]), (aBook, eI G 120 gbk)] (S := Unit) (fun _ => some (.int (iI (rwA (aRef vb vn b h S v vbk 30) vbk)))) (fun _ => [(m, eO 8 [.int (iI vb), .ref aBath, .int (iI vn), .ref aBather, .int (iI vo), .int (iI vm), .ref aMorn, .int (iI vs), .ref aText, .int (iI vt), .int (iI vf), .int (iI va), .long (lI vsd), .int (iI vw), .int (iI vu), .int (iI vna), .int (iI vrb), .ref aRB, .int (iI vrn), .ref aRN, .int (iI vro), .ref aLow, .ref aHigh, .int (iI (pI (vch = true))), .ref aNeeds, .ref aLikes, .ref aHts, .int (iI vtr), .int (iI (rwN (aRef vb vn b h S v vbk 30) vbk)), .ref aBook, .ref aImg, .ref aKept]), (aBook, eI G 120 (rwG gbk (aRef vb vn b h S v vbk 30) vbk b h S v))]) (fun _ => True) := by
  refine Con.mk (by decide +kernel) [some (.ref m), some (.int (iI b)), some (.int (iI h)), some (.int (iI S)), some (.int (iI v))] rfl (Nat.le_of_ble_eq_true rfl) rfl ?_
  intro V M EI EL EV EA
  refine M.aloadn (pc := 0) 0 rfl rfl dX8_write_0 ?_
  refine M.iloadn (pc := 1) 1 rfl rfl dX8_write_1 ?_
  refine M.iloadn (pc := 2) 3 rfl rfl dX8_write_2 ?_
  refine M.pV (pc := 3) (c_X8_isMorning  (by first | assumption | omega) (by first | assumption | omega) (by first | assumption | omega) (by first | assumption | omega)) mv_X8_227 [0] rfl rfl rfl 0 rfl rfl rfl rfl (Nat.le_of_ble_eq_true rfl) rfl ⟨(Nat.le_of_ble_eq_true rfl), (Nat.le_of_ble_eq_true rfl)⟩ ⟨(Nat.le_of_ble_eq_true rfl), (Nat.le_of_ble_eq_true rfl)⟩ rfl dX8_write_3 ?_
  refine M.if_neP (pc := 6) (tgt := 12) dX8_write_6 (by decide) (fun c6 => ?_) (fun c6 => ?_)
  · refine M.iloadn (pc := 12) 2 rfl rfl dX8_write_12 ?_
    refine M.pS (pc := 13) (c_X8_isHour  (by first | assumption | omega)) ms_X8_198 [] rfl rfl rfl rfl (Nat.le_of_ble_eq_true rfl) rfl ⟨(Nat.le_of_ble_eq_true rfl), (Nat.le_of_ble_eq_true rfl)⟩ ⟨(Nat.le_of_ble_eq_true rfl), (Nat.le_of_ble_eq_true rfl)⟩ rfl dX8_write_13 ?_
    refine M.if_eqP (pc := 16) (tgt := 27) dX8_write_16 (by decide) (fun c16 => ?_) (fun c16 => ?_)
    · refine M.ldc (pc := 27) (-1000000002) lc_X8_76 (by decide +kernel) dX8_write_27 ?_
      have hr : aRef vb vn b h S v vbk 30 = -1000000002 := by unfold aRef; (repeat' split) <;> first | omega | rfl
      have hr0 : aRef vb vn b h S v vbk 30 ≠ 0 := by rw [hr]; decide
      exact EI () _ _ _ _ dX8_write_29 (Or.inl rfl) (by rw [rwA_n hr0, hr]) (by rw [rwN_n hr0, rwG_n hr0]) (trivial)
    · refine M.iload (pc := 19) (i := 4) rfl dX8_write_19 ?_
      refine M.pS (pc := 21) (c_X8_isHeight  (by first | assumption | omega)) ms_X8_208 [] rfl rfl rfl rfl (Nat.le_of_ble_eq_true rfl) rfl ⟨(Nat.le_of_ble_eq_true rfl), (Nat.le_of_ble_eq_true rfl)⟩ ⟨(Nat.le_of_ble_eq_true rfl), (Nat.le_of_ble_eq_true rfl)⟩ rfl dX8_write_21 ?_
      refine M.if_neP (pc := 24) (tgt := 30) dX8_write_24 (by decide) (fun c24 => ?_) (fun c24 => ?_)
      · refine M.aloadn (pc := 30) 0 rfl rfl dX8_write_30 ?_
        refine M.getf (pc := 31) fg_X8_163 0 rfl rfl dX8_write_31 ?_
        refine M.bipush (pc := 34) (by decide +kernel) dX8_write_34 ?_
        refine M.icmp_ne (pc := 36) (tgt := 42) dX8_write_36 (by decide) (by omega) (by omega) (fun c36 => ?_) (fun c36 => ?_)
        · refine M.aloadn (pc := 42) 0 rfl rfl dX8_write_42 ?_
          refine M.getf (pc := 43) fg_X8_50 0 rfl rfl dX8_write_43 ?_
          refine M.iconst (pc := 46) dX8_write_46 ?_
          refine M.aloadn (pc := 47) 0 rfl rfl dX8_write_47 ?_
          refine M.getf (pc := 48) fg_X8_163 0 rfl rfl dX8_write_48 ?_
          refine M.imul (pc := 51) dX8_write_51 ?_
          refine M.iloadn (pc := 52) 1 rfl rfl dX8_write_52 ?_
          refine M.iastx (pc := 53) (vbk * 4) (by omega) 1 rfl (by omega) (by omega) dX8_write_53 ?_
          dsimp only [List.set_cons_zero, List.set_cons_succ]
          refine M.aloadn (pc := 54) 0 rfl rfl dX8_write_54 ?_
          refine M.getf (pc := 55) fg_X8_50 0 rfl rfl dX8_write_55 ?_
          refine M.iconst (pc := 58) dX8_write_58 ?_
          refine M.aloadn (pc := 59) 0 rfl rfl dX8_write_59 ?_
          refine M.getf (pc := 60) fg_X8_163 0 rfl rfl dX8_write_60 ?_
          refine M.imul (pc := 63) dX8_write_63 ?_
          refine M.iconst (pc := 64) dX8_write_64 ?_
          refine M.iadd (pc := 65) dX8_write_65 ?_
          refine M.iloadn (pc := 66) 2 rfl rfl dX8_write_66 ?_
          refine M.iastx (pc := 67) (vbk * 4 + 1) (by omega) 1 rfl (by omega) (by omega) dX8_write_67 ?_
          dsimp only [List.set_cons_zero, List.set_cons_succ]
          refine M.aloadn (pc := 68) 0 rfl rfl dX8_write_68 ?_
          refine M.getf (pc := 69) fg_X8_50 0 rfl rfl dX8_write_69 ?_
          refine M.iconst (pc := 72) dX8_write_72 ?_
          refine M.aloadn (pc := 73) 0 rfl rfl dX8_write_73 ?_
          refine M.getf (pc := 74) fg_X8_163 0 rfl rfl dX8_write_74 ?_
          refine M.imul (pc := 77) dX8_write_77 ?_
          refine M.iconst (pc := 78) dX8_write_78 ?_
          refine M.iadd (pc := 79) dX8_write_79 ?_
          refine M.iloadn (pc := 80) 3 rfl rfl dX8_write_80 ?_
          refine M.iastx (pc := 81) (vbk * 4 + 2) (by omega) 1 rfl (by omega) (by omega) dX8_write_81 ?_
          dsimp only [List.set_cons_zero, List.set_cons_succ]
          refine M.aloadn (pc := 82) 0 rfl rfl dX8_write_82 ?_
          refine M.getf (pc := 83) fg_X8_50 0 rfl rfl dX8_write_83 ?_
          refine M.iconst (pc := 86) dX8_write_86 ?_
          refine M.aloadn (pc := 87) 0 rfl rfl dX8_write_87 ?_
          refine M.getf (pc := 88) fg_X8_163 0 rfl rfl dX8_write_88 ?_
          refine M.imul (pc := 91) dX8_write_91 ?_
          refine M.iconst (pc := 92) dX8_write_92 ?_
          refine M.iadd (pc := 93) dX8_write_93 ?_
          refine M.iload (pc := 94) (i := 4) rfl dX8_write_94 ?_
          refine M.iastx (pc := 96) (vbk * 4 + 3) (by omega) 1 rfl (by omega) (by omega) dX8_write_96 ?_
          dsimp only [List.set_cons_zero, List.set_cons_succ]
          refine M.aloadn (pc := 97) 0 rfl rfl dX8_write_97 ?_
          refine M.dup (pc := 98) rfl dX8_write_98 ?_
          refine M.getf (pc := 99) fg_X8_163 0 rfl rfl dX8_write_99 ?_
          refine M.iconst (pc := 102) dX8_write_102 ?_
          refine M.iadd (pc := 103) dX8_write_103 ?_
          refine M.putf (pc := 104) fp_X8_163 0 rfl rfl rfl (Nat.le_of_ble_eq_true rfl) dX8_write_104 ?_
          dsimp only [List.set_cons_zero, List.set_cons_succ]
          refine M.aloadn (pc := 107) 0 rfl rfl dX8_write_107 ?_
          refine M.getf (pc := 108) fg_X8_163 0 rfl rfl dX8_write_108 ?_
          have hr : (aRef vb vn b h S v vbk 30) = 0 := by unfold aRef; (repeat' split) <;> first | omega | rfl
          exact EI () _ _ _ _ dX8_write_111 (Or.inl rfl) (by rw [rwA_0 hr]) (by rw [rwN_0 hr, rwG_0 hr]; rfl) (trivial)
        · refine M.ldc (pc := 39) (-1000000004) lc_X8_80 (by decide +kernel) dX8_write_39 ?_
          have hr : aRef vb vn b h S v vbk 30 = -1000000004 := by unfold aRef; (repeat' split) <;> first | omega | rfl
          have hr0 : aRef vb vn b h S v vbk 30 ≠ 0 := by rw [hr]; decide
          exact EI () _ _ _ _ dX8_write_41 (Or.inl rfl) (by rw [rwA_n hr0, hr]) (by rw [rwN_n hr0, rwG_n hr0]) (trivial)
      · refine M.ldc (pc := 27) (-1000000002) lc_X8_76 (by decide +kernel) dX8_write_27 ?_
        have hr : aRef vb vn b h S v vbk 30 = -1000000002 := by unfold aRef; (repeat' split) <;> first | omega | rfl
        have hr0 : aRef vb vn b h S v vbk 30 ≠ 0 := by rw [hr]; decide
        exact EI () _ _ _ _ dX8_write_29 (Or.inl rfl) (by rw [rwA_n hr0, hr]) (by rw [rwN_n hr0, rwG_n hr0]) (trivial)
  · refine M.ldc (pc := 9) (-1000000001) lc_X8_173 (by decide +kernel) dX8_write_9 ?_
    have hr : aRef vb vn b h S v vbk 30 = -1000000001 := by unfold aRef; (repeat' split) <;> first | omega | rfl
    have hr0 : aRef vb vn b h S v vbk 30 ≠ 0 := by rw [hr]; decide
    exact EI () _ _ _ _ dX8_write_11 (Or.inl rfl) (by rw [rwA_n hr0, hr]) (by rw [rwN_n hr0, rwG_n hr0]) (trivial)
set_option maxHeartbeats 4000000 in
set_option maxRecDepth 100000 in
theorem c_X8_strike {l : Launch} {G : GT} {m aBath aBather aMorn aText aRB aRN aLow aHigh aNeeds aLikes aHts aBook aImg aKept : Nat} {vb vn vo vm vs vt vf va vw vu vna vrb vrn vro vtr vbk vsd : Int} {vch : Bool} {gm : Int → Int} {i : Int} (hc : 0 ≤ vm ∧ vm ≤ 12) (hri : InR i) : Con l G yX8_strike cX8_strike 3 (some .int) { frames := 1, cells := 0, slots := 0, locals := 25 } [.ref m, .int (iI i)] [(m, eO 8 [.int (iI vb), .ref aBath, .int (iI vn), .ref aBather, .int (iI vo), .int (iI vm), .ref aMorn, .int (iI vs), .ref aText, .int (iI vt), .int (iI vf), .int (iI va), .long (lI vsd), .int (iI vw), .int (iI vu), .int (iI vna), .int (iI vrb), .ref aRB, .int (iI vrn), .ref aRN, .int (iI vro), .ref aLow, .ref aHigh, .int (iI (pI (vch = true))), .ref aNeeds, .ref aLikes, .ref aHts, .int (iI vtr), .int (iI vbk), .ref aBook, .ref aImg, .ref aKept]), (aMorn, eI G 48 gm)] (S := Int → Int) (fun _ => some (.int (iI (aStrike vm i)))) (fun u => [(m, eO 8 [.int (iI vb), .ref aBath, .int (iI vn), .ref aBather, .int (iI vo), .int (iI (stN vm i)), .ref aMorn, .int (iI vs), .ref aText, .int (iI vt), .int (iI vf), .int (iI va), .long (lI vsd), .int (iI vw), .int (iI vu), .int (iI vna), .int (iI vrb), .ref aRB, .int (iI vrn), .ref aRN, .int (iI vro), .ref aLow, .ref aHigh, .int (iI (pI (vch = true))), .ref aNeeds, .ref aLikes, .ref aHts, .int (iI vtr), .int (iI vbk), .ref aBook, .ref aImg, .ref aKept]), (aMorn, eI G 48 u)]) (fun u => STG gm vm i u) := by
  refine Con.mk (by decide +kernel) [some (.ref m), some (.int (iI i)), none] rfl (Nat.le_of_ble_eq_true rfl) rfl ?_
  intro V M EI EL EV EA
  refine M.iloadn (pc := 0) 1 rfl rfl dX8_strike_0 ?_
  refine M.i2l (pc := 1) (by omega) dX8_strike_1 ?_
  refine M.lconst (pc := 2) 0 (by decide +kernel) dX8_strike_2 ?_
  refine M.aloadn (pc := 3) 0 rfl rfl dX8_strike_3 ?_
  refine M.getf (pc := 4) fg_X8_160 0 rfl rfl dX8_strike_4 ?_
  refine M.iconst (pc := 7) dX8_strike_7 ?_
  refine M.isub (pc := 8) dX8_strike_8 ?_
  refine M.i2l (pc := 9) (by omega) dX8_strike_9 ?_
  refine M.pS (pc := 10) (c_X8_in  (by first | assumption | omega) (by first | assumption | omega) (by first | assumption | omega)) ms_X8_63 [] rfl rfl rfl rfl (Nat.le_of_ble_eq_true rfl) rfl ⟨(Nat.le_of_ble_eq_true rfl), (Nat.le_of_ble_eq_true rfl)⟩ ⟨(Nat.le_of_ble_eq_true rfl), (Nat.le_of_ble_eq_true rfl)⟩ rfl dX8_strike_10 ?_
  refine M.if_neP (pc := 13) (tgt := 19) dX8_strike_13 (by decide) (fun c13 => ?_) (fun c13 => ?_)
  · refine M.aloadn (pc := 19) 0 rfl rfl dX8_strike_19 ?_
    refine M.dup (pc := 20) rfl dX8_strike_20 ?_
    refine M.getf (pc := 21) fg_X8_160 0 rfl rfl dX8_strike_21 ?_
    refine M.iconst (pc := 24) dX8_strike_24 ?_
    refine M.isub (pc := 25) dX8_strike_25 ?_
    refine M.putf (pc := 26) fp_X8_160 0 rfl rfl rfl (Nat.le_of_ble_eq_true rfl) dX8_strike_26 ?_
    dsimp only [List.set_cons_zero, List.set_cons_succ]
    have hi2 : 0 ≤ i ∧ i < vm := by omega
    refine M.iconst (pc := 29) dX8_strike_29 ?_
    refine M.iloadn (pc := 30) 1 rfl rfl dX8_strike_30 ?_
    refine M.imul (pc := 31) dX8_strike_31 ?_
    refine M.istoren (pc := 32) 2 rfl (Nat.le_of_ble_eq_true rfl) rfl dX8_strike_32 ?_
    dsimp only [List.set_cons_zero, List.set_cons_succ]
    have L33 : ∀ (fu : Nat) {x : Int} {g : Int → Int}, (i * 4 ≤ x ∧ x ≤ (vm - 1) * 4) → (∀ y, 0 ≤ y → y < i * 4 → g y = gm y) → (∀ y, i * 4 ≤ y → y < x → g y = gm (y + 4)) → (∀ y, x ≤ y → g y = gm y) → ((vm - 1) * 4 - x).toNat < fu → V 0 0 33 [(m, eO 8 [.int (iI vb), .ref aBath, .int (iI vn), .ref aBather, .int (iI vo), .int (iI (vm - 1)), .ref aMorn, .int (iI vs), .ref aText, .int (iI vt), .int (iI vf), .int (iI va), .long (lI vsd), .int (iI vw), .int (iI vu), .int (iI vna), .int (iI vrb), .ref aRB, .int (iI vrn), .ref aRN, .int (iI vro), .ref aLow, .ref aHigh, .int (iI (pI (vch = true))), .ref aNeeds, .ref aLikes, .ref aHts, .int (iI vtr), .int (iI vbk), .ref aBook, .ref aImg, .ref aKept]), (aMorn, eI G 48 g)] [some (.ref m), some (.int (iI i)), some (.int (iI x))] [] := by
      intro fu
      induction fu with
      | zero => intro x g hx hg1 hg2 hg3 hm; exact absurd hm (Nat.not_lt_zero _)
      | succ fu ih33 =>
        intro x g hx hg1 hg2 hg3 hm33
        refine M.iloadn (pc := 33) 2 rfl rfl dX8_strike_33 ?_
        refine M.iconst (pc := 34) dX8_strike_34 ?_
        refine M.aloadn (pc := 35) 0 rfl rfl dX8_strike_35 ?_
        refine M.getf (pc := 36) fg_X8_160 0 rfl rfl dX8_strike_36 ?_
        refine M.imul (pc := 39) dX8_strike_39 ?_
        refine M.icmp_ge (pc := 40) (tgt := 63) dX8_strike_40 (by decide) (by omega) (by omega) (fun c40 => ?_) (fun c40 => ?_)
        · refine M.aloadn (pc := 63) 0 rfl rfl dX8_strike_63 ?_
          refine M.getf (pc := 64) fg_X8_160 0 rfl rfl dX8_strike_64 ?_
          exact EI g _ _ _ _ dX8_strike_67 (Or.inl rfl) (eqI (by unfold aStrike; rw [if_pos hi2])) (by rw [stN_0 hi2]) (⟨fun _ => ⟨hg1, fun y h0 h1 => hg2 y h0 (by omega)⟩, fun z => absurd hi2 z⟩)
        · refine M.aloadn (pc := 43) 0 rfl rfl dX8_strike_43 ?_
          refine M.getf (pc := 44) fg_X8_20 0 rfl rfl dX8_strike_44 ?_
          refine M.iloadn (pc := 47) 2 rfl rfl dX8_strike_47 ?_
          refine M.aloadn (pc := 48) 0 rfl rfl dX8_strike_48 ?_
          refine M.getf (pc := 49) fg_X8_20 0 rfl rfl dX8_strike_49 ?_
          refine M.iloadn (pc := 52) 2 rfl rfl dX8_strike_52 ?_
          refine M.iconst (pc := 53) dX8_strike_53 ?_
          refine M.iadd (pc := 54) dX8_strike_54 ?_
          refine M.iald (pc := 55) 1 rfl (by omega) (by omega) dX8_strike_55 ?_
          refine M.iast (pc := 56) 1 rfl (by omega) (by omega) dX8_strike_56 ?_
          dsimp only [List.set_cons_zero, List.set_cons_succ]
          refine M.iinc (pc := 57) (i := 2) rfl rfl dX8_strike_57 ?_
          dsimp only [List.set_cons_zero, List.set_cons_succ]
          refine M.goto (pc := 60) (tgt := 33) dX8_strike_60 (by decide) ?_
          exact ih33  (by first | assumption | omega) (by intro y h0 h1; rw [upZ_n (by omega)]; exact hg1 y h0 h1) (by intro y h0 h1; by_cases e : y = x; rw [e, upZ_s]; exact hg3 _ (by omega); rw [upZ_n e]; exact hg2 y h0 (by omega)) (by intro y h0; rw [upZ_n (by omega)]; exact hg3 y (by omega)) (by omega)
    exact L33 _  (by first | assumption | omega) (by intro y _ _; rfl) (by intro y _ _; omega) (by intro y _; rfl) (Nat.lt_succ_self _)
  · refine M.ldc (pc := 16) (-1000000001) lc_X8_173 (by decide +kernel) dX8_strike_16 ?_
    have hi2 : ¬ (0 ≤ i ∧ i < vm) := by omega
    exact EI gm _ _ _ _ dX8_strike_18 (Or.inl rfl) (eqI (by unfold aStrike; rw [if_neg hi2])) (by rw [stN_n hi2]) (⟨fun z => absurd z hi2, fun _ => rfl⟩)
set_option maxHeartbeats 4000000 in
set_option maxRecDepth 100000 in
theorem c_X8_tear {l : Launch} {G : GT} {m aBath aBather aMorn aText aRB aRN aLow aHigh aNeeds aLikes aHts aBook aImg aKept : Nat} {vb vn vo vm vs vt vf va vw vu vna vrb vrn vro vtr vbk vsd : Int} {vch : Bool}  : Con l G yX8_tear cX8_tear 2 (some .int) { frames := 0, cells := 0, slots := 0, locals := 0 } [.ref m] [(m, eO 8 [.int (iI vb), .ref aBath, .int (iI vn), .ref aBather, .int (iI vo), .int (iI vm), .ref aMorn, .int (iI vs), .ref aText, .int (iI vt), .int (iI vf), .int (iI va), .long (lI vsd), .int (iI vw), .int (iI vu), .int (iI vna), .int (iI vrb), .ref aRB, .int (iI vrn), .ref aRN, .int (iI vro), .ref aLow, .ref aHigh, .int (iI (pI (vch = true))), .ref aNeeds, .ref aLikes, .ref aHts, .int (iI vtr), .int (iI vbk), .ref aBook, .ref aImg, .ref aKept])] (S := Unit) (fun _ => some (.int (iI (vbk)))) (fun _ => [(m, eO 8 [.int (iI vb), .ref aBath, .int (iI vn), .ref aBather, .int (iI vo), .int (iI vm), .ref aMorn, .int (iI vs), .ref aText, .int (iI vt), .int (iI vf), .int (iI va), .long (lI vsd), .int (iI vw), .int (iI vu), .int (iI vna), .int (iI vrb), .ref aRB, .int (iI vrn), .ref aRN, .int (iI vro), .ref aLow, .ref aHigh, .int (iI (pI (vch = true))), .ref aNeeds, .ref aLikes, .ref aHts, .int (iI vtr), .int (iI 0), .ref aBook, .ref aImg, .ref aKept])]) (fun _ => True) := by
  refine Con.mk (by decide +kernel) [some (.ref m), none] rfl (Nat.le_of_ble_eq_true rfl) rfl ?_
  intro V M EI EL EV EA
  refine M.aloadn (pc := 0) 0 rfl rfl dX8_tear_0 ?_
  refine M.getf (pc := 1) fg_X8_163 0 rfl rfl dX8_tear_1 ?_
  refine M.istoren (pc := 4) 1 rfl (Nat.le_of_ble_eq_true rfl) rfl dX8_tear_4 ?_
  dsimp only [List.set_cons_zero, List.set_cons_succ]
  refine M.aloadn (pc := 5) 0 rfl rfl dX8_tear_5 ?_
  refine M.iconst (pc := 6) dX8_tear_6 ?_
  refine M.putf (pc := 7) fp_X8_163 0 rfl rfl rfl (Nat.le_of_ble_eq_true rfl) dX8_tear_7 ?_
  dsimp only [List.set_cons_zero, List.set_cons_succ]
  refine M.iloadn (pc := 10) 1 rfl rfl dX8_tear_10 ?_
  exact EI () _ _ _ _ dX8_tear_11 (Or.inl rfl) (rfl) (rfl) (trivial)
set_option maxHeartbeats 4000000 in
set_option maxRecDepth 100000 in
theorem c_X8_forget {l : Launch} {G : GT} {m aBath aBather aMorn aText aRB aRN aLow aHigh aNeeds aLikes aHts aBook aImg aKept : Nat} {vb vn vo vm vs vt vf va vw vu vna vrb vrn vro vtr vbk vsd : Int} {vch : Bool}  : Con l G yX8_forget cX8_forget 2 (some .int) { frames := 0, cells := 0, slots := 0, locals := 0 } [.ref m] [(m, eO 8 [.int (iI vb), .ref aBath, .int (iI vn), .ref aBather, .int (iI vo), .int (iI vm), .ref aMorn, .int (iI vs), .ref aText, .int (iI vt), .int (iI vf), .int (iI va), .long (lI vsd), .int (iI vw), .int (iI vu), .int (iI vna), .int (iI vrb), .ref aRB, .int (iI vrn), .ref aRN, .int (iI vro), .ref aLow, .ref aHigh, .int (iI (pI (vch = true))), .ref aNeeds, .ref aLikes, .ref aHts, .int (iI vtr), .int (iI vbk), .ref aBook, .ref aImg, .ref aKept])] (S := Unit) (fun _ => some (.int (iI (vm)))) (fun _ => [(m, eO 8 [.int (iI vb), .ref aBath, .int (iI vn), .ref aBather, .int (iI vo), .int (iI 0), .ref aMorn, .int (iI vs), .ref aText, .int (iI vt), .int (iI vf), .int (iI va), .long (lI vsd), .int (iI vw), .int (iI vu), .int (iI vna), .int (iI vrb), .ref aRB, .int (iI vrn), .ref aRN, .int (iI vro), .ref aLow, .ref aHigh, .int (iI (pI (vch = true))), .ref aNeeds, .ref aLikes, .ref aHts, .int (iI vtr), .int (iI vbk), .ref aBook, .ref aImg, .ref aKept])]) (fun _ => True) := by
  refine Con.mk (by decide +kernel) [some (.ref m), none] rfl (Nat.le_of_ble_eq_true rfl) rfl ?_
  intro V M EI EL EV EA
  refine M.aloadn (pc := 0) 0 rfl rfl dX8_forget_0 ?_
  refine M.getf (pc := 1) fg_X8_160 0 rfl rfl dX8_forget_1 ?_
  refine M.istoren (pc := 4) 1 rfl (Nat.le_of_ble_eq_true rfl) rfl dX8_forget_4 ?_
  dsimp only [List.set_cons_zero, List.set_cons_succ]
  refine M.aloadn (pc := 5) 0 rfl rfl dX8_forget_5 ?_
  refine M.iconst (pc := 6) dX8_forget_6 ?_
  refine M.putf (pc := 7) fp_X8_160 0 rfl rfl rfl (Nat.le_of_ble_eq_true rfl) dX8_forget_7 ?_
  dsimp only [List.set_cons_zero, List.set_cons_succ]
  refine M.iloadn (pc := 10) 1 rfl rfl dX8_forget_10 ?_
  exact EI () _ _ _ _ dX8_forget_11 (Or.inl rfl) (rfl) (rfl) (trivial)
set_option maxHeartbeats 4000000 in
set_option maxRecDepth 100000 in
theorem c_X8_seed {l : Launch} {G : GT} {m aBath aBather aMorn aText aRB aRN aLow aHigh aNeeds aLikes aHts aBook aImg aKept : Nat} {vb vn vo vm vs vt vf va vw vu vna vrb vrn vro vtr vbk vsd : Int} {vch : Bool} {v : Int} (hrv : InR v) : Con l G yX8_seed cX8_seed 3 (some .int) { frames := 0, cells := 0, slots := 0, locals := 0 } [.ref m, .int (iI v)] [(m, eO 8 [.int (iI vb), .ref aBath, .int (iI vn), .ref aBather, .int (iI vo), .int (iI vm), .ref aMorn, .int (iI vs), .ref aText, .int (iI vt), .int (iI vf), .int (iI va), .long (lI vsd), .int (iI vw), .int (iI vu), .int (iI vna), .int (iI vrb), .ref aRB, .int (iI vrn), .ref aRN, .int (iI vro), .ref aLow, .ref aHigh, .int (iI (pI (vch = true))), .ref aNeeds, .ref aLikes, .ref aHts, .int (iI vtr), .int (iI vbk), .ref aBook, .ref aImg, .ref aKept])] (S := Unit) (fun _ => some (.int (iI (aSeed v vs)))) (fun _ => [(m, eO 8 [.int (iI vb), .ref aBath, .int (iI vn), .ref aBather, .int (iI vo), .int (iI vm), .ref aMorn, .int (iI (sdN v vs)), .ref aText, .int (iI vt), .int (iI vf), .int (iI va), .long (lI vsd), .int (iI vw), .int (iI vu), .int (iI vna), .int (iI vrb), .ref aRB, .int (iI vrn), .ref aRN, .int (iI vro), .ref aLow, .ref aHigh, .int (iI (pI (vch = true))), .ref aNeeds, .ref aLikes, .ref aHts, .int (iI vtr), .int (iI vbk), .ref aBook, .ref aImg, .ref aKept])]) (fun _ => True) := by
  refine Con.mk (by decide +kernel) [some (.ref m), some (.int (iI v)), none] rfl (Nat.le_of_ble_eq_true rfl) rfl ?_
  intro V M EI EL EV EA
  refine M.iloadn (pc := 0) 1 rfl rfl dX8_seed_0 ?_
  refine M.if_ge (pc := 1) (tgt := 7) dX8_seed_1 (by decide) (by omega) (fun c1 => ?_) (fun c1 => ?_)
  · refine M.aloadn (pc := 7) 0 rfl rfl dX8_seed_7 ?_
    refine M.getf (pc := 8) fg_X8_292 0 rfl rfl dX8_seed_8 ?_
    refine M.istoren (pc := 11) 2 rfl (Nat.le_of_ble_eq_true rfl) rfl dX8_seed_11 ?_
    dsimp only [List.set_cons_zero, List.set_cons_succ]
    refine M.aloadn (pc := 12) 0 rfl rfl dX8_seed_12 ?_
    refine M.iloadn (pc := 13) 1 rfl rfl dX8_seed_13 ?_
    refine M.putf (pc := 14) fp_X8_292 0 rfl rfl rfl (Nat.le_of_ble_eq_true rfl) dX8_seed_14 ?_
    dsimp only [List.set_cons_zero, List.set_cons_succ]
    refine M.iloadn (pc := 17) 2 rfl rfl dX8_seed_17 ?_
    exact EI () _ _ _ _ dX8_seed_18 (Or.inl rfl) (eqI (by unfold aSeed; rw [if_neg (by omega)])) (by unfold sdN; rw [if_neg (by omega)]) (trivial)
  · refine M.ldc (pc := 4) (-1000000002) lc_X8_76 (by decide +kernel) dX8_seed_4 ?_
    exact EI () _ _ _ _ dX8_seed_6 (Or.inl rfl) (eqI (by unfold aSeed; rw [if_pos (by omega)])) (by unfold sdN; rw [if_pos (by omega)]) (trivial)
