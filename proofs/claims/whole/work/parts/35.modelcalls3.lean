/-! the reference's calls, the third part -/
theorem or_0 {x : Int} (h0 : 0 ≤ x) : iI x ||| iI 0 = iI x := by
  obtain ⟨n, hn⟩ := Int.eq_ofNat_of_zero_le h0
  rw [hn, iI_nat, show iI 0 = nI 0 from iI_nat 0, nI_or, Nat.or_zero]
theorem dmS_b {gb gt : Int → Int} {vn b : Int} {q : Int × Int × (Int → Int)} (h : 0 ≤ q.2.1 ∧ q.2.1 ≤ 12) : (0 ≤ (dmS gb gt vn b q).1 ∧ (dmS gb gt vn b q).1 < 2147483648) ∧ (0 ≤ (dmS gb gt vn b q).2.1 ∧ (dmS gb gt vn b q).2.1 ≤ 12) := by
  unfold dmS
  have h1 := dr_b (dsS gt q.1 vn.toNat).1
  split
  · exact ⟨h1, by show 0 ≤ q.2.1 + 1 ∧ q.2.1 + 1 ≤ 12; omega⟩
  · exact ⟨h1, h⟩
theorem dmN_b {gb gt : Int → Int} {vn b : Int} {q : Int × Int × (Int → Int)} (h0 : 0 ≤ q.1 ∧ q.1 < 2147483648) (h : 0 ≤ q.2.1 ∧ q.2.1 ≤ 12) : ∀ k : Nat, (0 ≤ (dmN gb gt vn b q k).1 ∧ (dmN gb gt vn b q k).1 < 2147483648) ∧ (0 ≤ (dmN gb gt vn b q k).2.1 ∧ (dmN gb gt vn b q k).2.1 ≤ 12) := by
  intro k
  induction k with
  | zero => exact ⟨h0, h⟩
  | succ k ih => exact dmS_b ih.2
/-- what an image holds -/
def IMG (gi : Int → Int) (i : Int) (gm : Int → Int) (c s : Int) : Prop := (∀ x, 0 ≤ x → x < 48 → gi (50 * i + x) = gm x) ∧ gi (50 * i + 48) = c ∧ gi (50 * i + 49) = s
def KPG (gi : Int → Int) (i : Int) (gm : Int → Int) (c s : Int) (u : Int → Int) : Prop := (0 ≤ i ∧ i ≤ 1 → IMG u i gm c s ∧ ∀ j x, 0 ≤ j → j ≤ 1 → j ≠ i → 0 ≤ x → x < 50 → u (50 * j + x) = gi (50 * j + x)) ∧ (¬ (0 ≤ i ∧ i ≤ 1) → u = gi)
def kpZ (gz : Int → Int) (i : Int) : Int → Int := if 0 ≤ i ∧ i ≤ 1 then upZ gz i 1 else gz
def gbO (gz : Int → Int) (i : Int) : Prop := (0 ≤ i ∧ i ≤ 1) ∧ gz i ≠ 0
def gbN (gz gi : Int → Int) (i c : Int) : Int := if (0 ≤ i ∧ i ≤ 1) ∧ gz i ≠ 0 then gi (50 * i + 48) else c
def gbS (gz gi : Int → Int) (i s : Int) : Int := if (0 ≤ i ∧ i ≤ 1) ∧ gz i ≠ 0 then gi (50 * i + 49) else s
def GBG (gz gi : Int → Int) (i : Int) (gm u : Int → Int) : Prop := ((0 ≤ i ∧ i ≤ 1) ∧ gz i ≠ 0 → ∀ x, 0 ≤ x → x < 48 → u x = gi (50 * i + x)) ∧ (¬ ((0 ≤ i ∧ i ≤ 1) ∧ gz i ≠ 0) → u = gm)
set_option maxHeartbeats 4000000 in
set_option maxRecDepth 100000 in
theorem c_X8_judge {l : Launch} {G : GT} {m aBath aBather aMorn aText aRB aRN aLow aHigh aNeeds aLikes aHts aBook aImg aKept : Nat} {vb vn vo vm vs vt vf va vw vu vna vrb vrn vro vtr vbk vsd : Int} {vch : Bool} {gb : Int → Int} {gt : Int → Int} {gbk : Int → Int} (hn : 0 ≤ vn ∧ vn ≤ 6) (hnb : 0 ≤ vb ∧ vb ≤ 2) (hV : HV gb vb) (hT : HVT gt vn) (hbk : 0 ≤ vbk ∧ vbk ≤ 30) (hM : HM gbk vbk vb vn) : Con l G yX8_judge cX8_judge 2 (some .int) { frames := 2, cells := 0, slots := 0, locals := 46 } [.ref m] [(m, eO 8 [.int (iI vb), .ref aBath, .int (iI vn), .ref aBather, .int (iI vo), .int (iI vm), .ref aMorn, .int (iI vs), .ref aText, .int (iI vt), .int (iI vf), .int (iI va), .long (lI vsd), .int (iI vw), .int (iI vu), .int (iI vna), .int (iI vrb), .ref aRB, .int (iI vrn), .ref aRN, .int (iI vro), .ref aLow, .ref aHigh, .int (iI (pI (vch = true))), .ref aNeeds, .ref aLikes, .ref aHts, .int (iI vtr), .int (iI vbk), .ref aBook, .ref aImg, .ref aKept]), (aBath, eI G 8 gb), (aBather, eI G 24 gt), (aBook, eI G 120 gbk)] (S := Int) (fun u => some (.int (iI u))) (fun _ => [(m, eO 8 [.int (iI vb), .ref aBath, .int (iI vn), .ref aBather, .int (iI vo), .int (iI vm), .ref aMorn, .int (iI vs), .ref aText, .int (iI vt), .int (iI vf), .int (iI va), .long (lI vsd), .int (iI vw), .int (iI vu), .int (iI vna), .int (iI vrb), .ref aRB, .int (iI vrn), .ref aRN, .int (iI vro), .ref aLow, .ref aHigh, .int (iI (pI (vch = true))), .ref aNeeds, .ref aLikes, .ref aHts, .int (iI vtr), .int (iI vbk), .ref aBook, .ref aImg, .ref aKept]), (aBath, eI G 8 gb), (aBather, eI G 24 gt), (aBook, eI G 120 gbk)]) (fun u => JUD (juP gb gt gbk vn) vbk u) := by
  refine Con.mk (by decide +kernel) [some (.ref m), none] rfl (Nat.le_of_ble_eq_true rfl) rfl ?_
  intro V M EI EL EV EA
  have hp2 := p2_6 hn.2
  refine M.iconst (pc := 0) dX8_judge_0 ?_
  refine M.istoren (pc := 1) 1 rfl (Nat.le_of_ble_eq_true rfl) rfl dX8_judge_1 ?_
  dsimp only [List.set_cons_zero, List.set_cons_succ]
  have L2 : ∀ (fu : Nat) {k : Int}, (0 ≤ k ∧ k ≤ vbk) → (∀ j, 0 ≤ j → j < k → ¬ (juP gb gt gbk vn) j) → (vbk - k).toNat < fu → V 0 0 2 [(m, eO 8 [.int (iI vb), .ref aBath, .int (iI vn), .ref aBather, .int (iI vo), .int (iI vm), .ref aMorn, .int (iI vs), .ref aText, .int (iI vt), .int (iI vf), .int (iI va), .long (lI vsd), .int (iI vw), .int (iI vu), .int (iI vna), .int (iI vrb), .ref aRB, .int (iI vrn), .ref aRN, .int (iI vro), .ref aLow, .ref aHigh, .int (iI (pI (vch = true))), .ref aNeeds, .ref aLikes, .ref aHts, .int (iI vtr), .int (iI vbk), .ref aBook, .ref aImg, .ref aKept]), (aBath, eI G 8 gb), (aBather, eI G 24 gt), (aBook, eI G 120 gbk)] [some (.ref m), some (.int (iI k))] [] := by
    intro fu
    induction fu with
    | zero => intro k hk hno hm; exact absurd hm (Nat.not_lt_zero _)
    | succ fu ih2 =>
      intro k hk hno hm2
      refine M.iloadn (pc := 2) 1 rfl rfl dX8_judge_2 ?_
      refine M.aloadn (pc := 3) 0 rfl rfl dX8_judge_3 ?_
      refine M.getf (pc := 4) fg_X8_163 0 rfl rfl dX8_judge_4 ?_
      refine M.icmp_ge (pc := 7) (tgt := 67) dX8_judge_7 (by decide) (by omega) (by omega) (fun c7 => ?_) (fun c7 => ?_)
      · refine M.iconst (pc := 67) dX8_judge_67 ?_
        exact EI (-1) _ _ _ _ dX8_judge_68 (Or.inl rfl) (rfl) (rfl) (Or.inl ⟨rfl, fun j h0 h1 => hno j h0 (by omega)⟩)
      · have hmk := hM k hk.1 (by omega)
        have hsb := sizeS_b (S := gbk (k * 4 + 2)) hT hn.1 hn.2 (by omega : (vn.toNat : Int) ≤ vn)
        refine M.aloadn (pc := 10) 0 rfl rfl dX8_judge_10 ?_
        refine M.aloadn (pc := 11) 0 rfl rfl dX8_judge_11 ?_
        refine M.getf (pc := 12) fg_X8_50 0 rfl rfl dX8_judge_12 ?_
        refine M.iconst (pc := 15) dX8_judge_15 ?_
        refine M.iloadn (pc := 16) 1 rfl rfl dX8_judge_16 ?_
        refine M.imul (pc := 17) dX8_judge_17 ?_
        refine M.ialdx (pc := 18) (k * 4 + 0) (by omega) 3 rfl (by omega) (by omega) dX8_judge_18 ?_
        refine M.aloadn (pc := 19) 0 rfl rfl dX8_judge_19 ?_
        refine M.getf (pc := 20) fg_X8_50 0 rfl rfl dX8_judge_20 ?_
        refine M.iconst (pc := 23) dX8_judge_23 ?_
        refine M.iloadn (pc := 24) 1 rfl rfl dX8_judge_24 ?_
        refine M.imul (pc := 25) dX8_judge_25 ?_
        refine M.iconst (pc := 26) dX8_judge_26 ?_
        refine M.iadd (pc := 27) dX8_judge_27 ?_
        refine M.ialdx (pc := 28) (k * 4 + 1) (by omega) 3 rfl (by omega) (by omega) dX8_judge_28 ?_
        refine M.aloadn (pc := 29) 0 rfl rfl dX8_judge_29 ?_
        refine M.aloadn (pc := 30) 0 rfl rfl dX8_judge_30 ?_
        refine M.getf (pc := 31) fg_X8_50 0 rfl rfl dX8_judge_31 ?_
        refine M.iconst (pc := 34) dX8_judge_34 ?_
        refine M.iloadn (pc := 35) 1 rfl rfl dX8_judge_35 ?_
        refine M.imul (pc := 36) dX8_judge_36 ?_
        refine M.iconst (pc := 37) dX8_judge_37 ?_
        refine M.iadd (pc := 38) dX8_judge_38 ?_
        refine M.ialdx (pc := 39) (k * 4 + 2) (by omega) 3 rfl (by omega) (by omega) dX8_judge_39 ?_
        refine M.pV (pc := 40) (c_X8_sizeOf  (by first | assumption | omega) (by first | assumption | omega) (by omega)) mv_X8_201 [0, 2] rfl rfl rfl 0 rfl rfl rfl rfl (Nat.le_of_ble_eq_true rfl) rfl ⟨(Nat.le_of_ble_eq_true rfl), (Nat.le_of_ble_eq_true rfl)⟩ ⟨(Nat.le_of_ble_eq_true rfl), (Nat.le_of_ble_eq_true rfl)⟩ rfl dX8_judge_40 ?_
        refine M.pV (pc := 43) (c_X8_heightOf (gb := gb) (by first | assumption | omega) (by first | assumption | omega) (by exact hmk.1) (by exact hmk.2.1) (by omega)) mv_X8_204 [0, 1] rfl rfl rfl 0 rfl rfl rfl rfl (Nat.le_of_ble_eq_true rfl) rfl ⟨(Nat.le_of_ble_eq_true rfl), (Nat.le_of_ble_eq_true rfl)⟩ ⟨(Nat.le_of_ble_eq_true rfl), (Nat.le_of_ble_eq_true rfl)⟩ rfl dX8_judge_43 ?_
        refine M.aloadn (pc := 46) 0 rfl rfl dX8_judge_46 ?_
        refine M.getf (pc := 47) fg_X8_50 0 rfl rfl dX8_judge_47 ?_
        refine M.iconst (pc := 50) dX8_judge_50 ?_
        refine M.iloadn (pc := 51) 1 rfl rfl dX8_judge_51 ?_
        refine M.imul (pc := 52) dX8_judge_52 ?_
        refine M.iconst (pc := 53) dX8_judge_53 ?_
        refine M.iadd (pc := 54) dX8_judge_54 ?_
        refine M.ialdx (pc := 55) (k * 4 + 3) (by omega) 3 rfl (by omega) (by omega) dX8_judge_55 ?_
        refine M.icmp_eq (pc := 56) (tgt := 61) dX8_judge_56 (by decide) (by (have := hHei_v hV hmk.1.1 hmk.1.2 (hr := gbk (k * 4 + 1)) (s := sizeS gt vn.toNat (gbk (k * 4 + 2))) (B := 5994) (by omega) (by omega) (by omega); omega)) (by omega) (fun c56 => ?_) (fun c56 => ?_)
        · refine M.iinc (pc := 61) (i := 1) rfl rfl dX8_judge_61 ?_
          dsimp only [List.set_cons_zero, List.set_cons_succ]
          refine M.goto (pc := 64) (tgt := 2) dX8_judge_64 (by decide) ?_
          exact ih2  (by first | assumption | omega) (by intro j h0 h1; rcases (by omega : j < k ∨ j = k) with w | w; exact hno j h0 w; rw [w]; exact fun z => z c56) (by omega)
        · refine M.iloadn (pc := 59) 1 rfl rfl dX8_judge_59 ?_
          exact EI k _ _ _ _ dX8_judge_60 (Or.inl rfl) (rfl) (rfl) (Or.inr ⟨⟨hk.1, by omega⟩, c56, hno⟩)
  exact L2 _  (by first | assumption | omega) (by intro j _ h; omega) (Nat.lt_succ_self _)
set_option maxHeartbeats 4000000 in
set_option maxRecDepth 100000 in
theorem c_X8_draw {l : Launch} {G : GT} {m aBath aBather aMorn aText aRB aRN aLow aHigh aNeeds aLikes aHts aBook aImg aKept : Nat} {vb vn vo vm vs vt vf va vw vu vna vrb vrn vro vtr vbk vsd : Int} {vch : Bool} {n : Int} (hvs : 0 ≤ vs ∧ vs < 2147483648) (hn : 1 ≤ n ∧ n ≤ 100) : Con l G yX8_draw cX8_draw 2 (some .int) { frames := 0, cells := 0, slots := 0, locals := 0 } [.ref m, .int (iI n)] [(m, eO 8 [.int (iI vb), .ref aBath, .int (iI vn), .ref aBather, .int (iI vo), .int (iI vm), .ref aMorn, .int (iI vs), .ref aText, .int (iI vt), .int (iI vf), .int (iI va), .long (lI vsd), .int (iI vw), .int (iI vu), .int (iI vna), .int (iI vrb), .ref aRB, .int (iI vrn), .ref aRN, .int (iI vro), .ref aLow, .ref aHigh, .int (iI (pI (vch = true))), .ref aNeeds, .ref aLikes, .ref aHts, .int (iI vtr), .int (iI vbk), .ref aBook, .ref aImg, .ref aKept])] (S := Unit) (fun _ => some (.int (iI (drV vs n)))) (fun _ => [(m, eO 8 [.int (iI vb), .ref aBath, .int (iI vn), .ref aBather, .int (iI vo), .int (iI vm), .ref aMorn, .int (iI (dr vs)), .ref aText, .int (iI vt), .int (iI vf), .int (iI va), .long (lI vsd), .int (iI vw), .int (iI vu), .int (iI vna), .int (iI vrb), .ref aRB, .int (iI vrn), .ref aRN, .int (iI vro), .ref aLow, .ref aHigh, .int (iI (pI (vch = true))), .ref aNeeds, .ref aLikes, .ref aHts, .int (iI vtr), .int (iI vbk), .ref aBook, .ref aImg, .ref aKept])]) (fun _ => True) := by
  refine Con.mk (by decide +kernel) [some (.ref m), some (.int (iI n))] rfl (Nat.le_of_ble_eq_true rfl) rfl ?_
  intro V M EI EL EV EA
  have hd := dr_b vs
  have hdv : dr vs = (vs * 1103515245 + 12345) % 2147483648 := rfl
  refine M.aloadn (pc := 0) 0 rfl rfl dX8_draw_0 ?_
  refine M.aloadn (pc := 1) 0 rfl rfl dX8_draw_1 ?_
  refine M.getf (pc := 2) fg_X8_292 0 rfl rfl dX8_draw_2 ?_
  refine M.i2l (pc := 5) (by omega) dX8_draw_5 ?_
  refine M.ldc2 (pc := 6) (1103515245) lc_X8_295 (by decide +kernel) dX8_draw_6 ?_
  refine M.lmul (pc := 9) dX8_draw_9 ?_
  refine M.ldc2 (pc := 10) (12345) lc_X8_297 (by decide +kernel) dX8_draw_10 ?_
  refine M.ladd (pc := 13) dX8_draw_13 ?_
  refine M.ldc2 (pc := 14) (2147483648) lc_X8_299 (by decide +kernel) dX8_draw_14 ?_
  refine M.lrem (pc := 17) (by omega) (by omega) dX8_draw_17 ?_
  refine M.l2i (pc := 18) dX8_draw_18 ?_
  rw [← hdv]
  refine M.putf (pc := 19) fp_X8_292 0 rfl rfl rfl (Nat.le_of_ble_eq_true rfl) dX8_draw_19 ?_
  dsimp only [List.set_cons_zero, List.set_cons_succ]
  refine M.aloadn (pc := 22) 0 rfl rfl dX8_draw_22 ?_
  refine M.getf (pc := 23) fg_X8_292 0 rfl rfl dX8_draw_23 ?_
  refine M.ldcw (pc := 26) (65536) lc_X8_301 (by decide +kernel) dX8_draw_26 ?_
  refine M.idiv (pc := 29) (by omega) (by omega) dX8_draw_29 ?_
  refine M.iloadn (pc := 30) 1 rfl rfl dX8_draw_30 ?_
  refine M.irem (pc := 31) (by omega) (by omega) dX8_draw_31 ?_
  exact EI () _ _ _ _ dX8_draw_32 (Or.inl rfl) (rfl) (rfl) (trivial)
set_option maxHeartbeats 4000000 in
set_option maxRecDepth 100000 in
theorem c_X8_drift {l : Launch} {G : GT} {m aBath aBather aMorn aText aRB aRN aLow aHigh aNeeds aLikes aHts aBook aImg aKept : Nat} {vb vn vo vm vs vt vf va vw vu vna vrb vrn vro vtr vbk vsd : Int} {vch : Bool} {gb : Int → Int} {gt : Int → Int} {gm : Int → Int} {b n : Int} (hn : 0 ≤ vn ∧ vn ≤ 6) (hnb : 0 ≤ vb ∧ vb ≤ 2) (hc : 0 ≤ vm ∧ vm ≤ 12) (hV : HV gb vb) (hT : HVT gt vn) (hvs : 0 ≤ vs ∧ vs < 2147483648) (hrb : InR b) (hrn : InR n) : Con l G yX8_drift cX8_drift 6 (some .int) { frames := 2, cells := 0, slots := 0, locals := 46 } [.ref m, .int (iI b), .int (iI n)] [(m, eO 8 [.int (iI vb), .ref aBath, .int (iI vn), .ref aBather, .int (iI vo), .int (iI vm), .ref aMorn, .int (iI vs), .ref aText, .int (iI vt), .int (iI vf), .int (iI va), .long (lI vsd), .int (iI vw), .int (iI vu), .int (iI vna), .int (iI vrb), .ref aRB, .int (iI vrn), .ref aRN, .int (iI vro), .ref aLow, .ref aHigh, .int (iI (pI (vch = true))), .ref aNeeds, .ref aLikes, .ref aHts, .int (iI vtr), .int (iI vbk), .ref aBook, .ref aImg, .ref aKept]), (aBath, eI G 8 gb), (aBather, eI G 24 gt), (aMorn, eI G 48 gm)] (S := Unit) (fun _ => some (.int (iI (aDrift gb gt gm vb vn vm vs b n)))) (fun _ => [(m, eO 8 [.int (iI vb), .ref aBath, .int (iI vn), .ref aBather, .int (iI vo), .int (iI (dfQ gb gt gm vb vn vm vs b n).2.1), .ref aMorn, .int (iI (dfQ gb gt gm vb vn vm vs b n).1), .ref aText, .int (iI vt), .int (iI vf), .int (iI va), .long (lI vsd), .int (iI vw), .int (iI vu), .int (iI vna), .int (iI vrb), .ref aRB, .int (iI vrn), .ref aRN, .int (iI vro), .ref aLow, .ref aHigh, .int (iI (pI (vch = true))), .ref aNeeds, .ref aLikes, .ref aHts, .int (iI vtr), .int (iI vbk), .ref aBook, .ref aImg, .ref aKept]), (aBath, eI G 8 gb), (aBather, eI G 24 gt), (aMorn, eI G 48 (dfQ gb gt gm vb vn vm vs b n).2.2)]) (fun _ => True) := by
  refine Con.mk (by decide +kernel) [some (.ref m), some (.int (iI b)), some (.int (iI n)), none, none, none] rfl (Nat.le_of_ble_eq_true rfl) rfl ?_
  intro V M EI EL EV EA
  have hp2 := p2_6 hn.2
  refine M.aloadn (pc := 0) 0 rfl rfl dX8_drift_0 ?_
  refine M.iloadn (pc := 1) 1 rfl rfl dX8_drift_1 ?_
  refine M.pV (pc := 2) (c_X8_isBath  (by first | assumption | omega) (by first | assumption | omega)) mv_X8_170 [0] rfl rfl rfl 0 rfl rfl rfl rfl (Nat.le_of_ble_eq_true rfl) rfl ⟨(Nat.le_of_ble_eq_true rfl), (Nat.le_of_ble_eq_true rfl)⟩ ⟨(Nat.le_of_ble_eq_true rfl), (Nat.le_of_ble_eq_true rfl)⟩ rfl dX8_drift_2 ?_
  refine M.if_neP (pc := 5) (tgt := 11) dX8_drift_5 (by decide) (fun c5 => ?_) (fun c5 => ?_)
  · refine M.iloadn (pc := 11) 2 rfl rfl dX8_drift_11 ?_
    refine M.i2l (pc := 12) (by omega) dX8_drift_12 ?_
    refine M.lconst (pc := 13) 1 (by decide +kernel) dX8_drift_13 ?_
    refine M.ldc2 (pc := 14) (30) lc_X8_302 (by decide +kernel) dX8_drift_14 ?_
    refine M.pS (pc := 17) (c_X8_in  (by first | assumption | omega) (by first | assumption | omega) (by first | assumption | omega)) ms_X8_63 [] rfl rfl rfl rfl (Nat.le_of_ble_eq_true rfl) rfl ⟨(Nat.le_of_ble_eq_true rfl), (Nat.le_of_ble_eq_true rfl)⟩ ⟨(Nat.le_of_ble_eq_true rfl), (Nat.le_of_ble_eq_true rfl)⟩ rfl dX8_drift_17 ?_
    refine M.if_neP (pc := 20) (tgt := 26) dX8_drift_20 (by decide) (fun c20 => ?_) (fun c20 => ?_)
    · refine M.iconst (pc := 26) dX8_drift_26 ?_
      refine M.istoren (pc := 27) 3 rfl (Nat.le_of_ble_eq_true rfl) rfl dX8_drift_27 ?_
      dsimp only [List.set_cons_zero, List.set_cons_succ]
      have L28 : ∀ (fu : Nat) {i s1 c1 : Int} {g1 : Int → Int}, (0 ≤ i ∧ i ≤ n) → ((s1, c1, g1) = (dmN gb gt vn b (vs, vm, gm) i.toNat)) → (n - i).toNat < fu → V 0 0 28 [(m, eO 8 [.int (iI vb), .ref aBath, .int (iI vn), .ref aBather, .int (iI vo), .int (iI c1), .ref aMorn, .int (iI s1), .ref aText, .int (iI vt), .int (iI vf), .int (iI va), .long (lI vsd), .int (iI vw), .int (iI vu), .int (iI vna), .int (iI vrb), .ref aRB, .int (iI vrn), .ref aRN, .int (iI vro), .ref aLow, .ref aHigh, .int (iI (pI (vch = true))), .ref aNeeds, .ref aLikes, .ref aHts, .int (iI vtr), .int (iI vbk), .ref aBook, .ref aImg, .ref aKept]), (aBath, eI G 8 gb), (aBather, eI G 24 gt), (aMorn, eI G 48 g1)] [some (.ref m), some (.int (iI b)), some (.int (iI n)), some (.int (iI i)), none, none] [] := by
        intro fu
        induction fu with
        | zero => intro i s1 c1 g1 hi hq hm; exact absurd hm (Nat.not_lt_zero _)
        | succ fu ih28 =>
          intro i s1 c1 g1 hi hq hm28
          refine M.iloadn (pc := 28) 3 rfl rfl dX8_drift_28 ?_
          refine M.iloadn (pc := 29) 2 rfl rfl dX8_drift_29 ?_
          refine M.icmp_ge (pc := 30) (tgt := 131) dX8_drift_30 (by decide) (by omega) (by omega) (fun c30 => ?_) (fun c30 => ?_)
          · refine M.aloadn (pc := 131) 0 rfl rfl dX8_drift_131 ?_
            refine M.getf (pc := 132) fg_X8_160 0 rfl rfl dX8_drift_132 ?_
            have hin : i = n := by omega
            subst hin
            have hD : dfQ gb gt gm vb vn vm vs b i = (s1, c1, g1) := (if_pos (by omega)).trans hq.symm
            exact EI () _ _ _ _ dX8_drift_135 (Or.inl rfl) (eqI (by unfold aDrift; rw [if_neg (by omega), if_neg (by omega), ← hq])) (by rw [hD]) (trivial)
          · have hqb := dmN_b (gb := gb) (gt := gt) (vn := vn) (b := b) (q := (vs, vm, gm)) hvs hc i.toNat
            rw [← hq] at hqb
            have hst := dmN_s gb gt vn b (vs, vm, gm) hi.1
            rw [← hq] at hst
            obtain ⟨hqb1, hqb2⟩ := hqb
            have hqb1 : 0 ≤ s1 ∧ s1 < 2147483648 := hqb1
            have hqb2 : 0 ≤ c1 ∧ c1 ≤ 12 := hqb2
            refine M.iconst (pc := 33) dX8_drift_33 ?_
            refine M.istore (pc := 34) (i := 4) (Nat.le_of_ble_eq_true rfl) rfl dX8_drift_34 ?_
            dsimp only [List.set_cons_zero, List.set_cons_succ]
            refine M.iconst (pc := 36) dX8_drift_36 ?_
            refine M.istore (pc := 37) (i := 5) (Nat.le_of_ble_eq_true rfl) rfl dX8_drift_37 ?_
            dsimp only [List.set_cons_zero, List.set_cons_succ]
            have L39 : ∀ (fu : Nat) {k s2 S : Int}, (0 ≤ k ∧ k ≤ vn) → ((s2, S) = dsS gt s1 k.toNat) → (vn - k).toNat < fu → V 0 0 39 [(m, eO 8 [.int (iI vb), .ref aBath, .int (iI vn), .ref aBather, .int (iI vo), .int (iI c1), .ref aMorn, .int (iI s2), .ref aText, .int (iI vt), .int (iI vf), .int (iI va), .long (lI vsd), .int (iI vw), .int (iI vu), .int (iI vna), .int (iI vrb), .ref aRB, .int (iI vrn), .ref aRN, .int (iI vro), .ref aLow, .ref aHigh, .int (iI (pI (vch = true))), .ref aNeeds, .ref aLikes, .ref aHts, .int (iI vtr), .int (iI vbk), .ref aBook, .ref aImg, .ref aKept]), (aBath, eI G 8 gb), (aBather, eI G 24 gt), (aMorn, eI G 48 g1)] [some (.ref m), some (.int (iI b)), some (.int (iI n)), some (.int (iI i)), some (.int (iI S)), some (.int (iI k))] [] := by
              intro fu
              induction fu with
              | zero => intro k s2 S hk hd hm; exact absurd hm (Nat.not_lt_zero _)
              | succ fu ih39 =>
                intro k s2 S hk hd hm39
                refine M.iload (pc := 39) (i := 5) rfl dX8_drift_39 ?_
                refine M.aloadn (pc := 41) 0 rfl rfl dX8_drift_41 ?_
                refine M.getf (pc := 42) fg_X8_67 0 rfl rfl dX8_drift_42 ?_
                refine M.icmp_ge (pc := 45) (tgt := 87) dX8_drift_45 (by decide) (by omega) (by omega) (fun c45 => ?_) (fun c45 => ?_)
                · have hkn : vn = k := by omega
                  subst hkn
                  have hds := dsS_b (gt := gt) (s := s1) hqb1 vn.toNat
                  rw [← hd, show ((vn.toNat : Nat) : Int) = vn by omega] at hds
                  obtain ⟨hds1, hds2⟩ := hds
                  have hds1 : 0 ≤ s2 ∧ s2 < 2147483648 := hds1
                  have hds2 : 0 ≤ S ∧ S < p2 vn := hds2
                  have hdb := dr_b s2
                  have hdv : 0 ≤ drV s2 4 ∧ drV s2 4 < 4 := ⟨Int.emod_nonneg _ (by decide), Int.emod_lt_of_pos _ (by decide)⟩
                  have hsb := sizeS_b (S := S) hT hn.1 hn.2 (by omega : (vn.toNat : Int) ≤ vn)
                  have e1 : (dsS gt s1 vn.toNat).1 = s2 := by rw [← hd]
                  have e2 : (dsS gt s1 vn.toNat).2 = S := by rw [← hd]
                  have hdm : dmS gb gt vn b (s1, c1, g1) = if c1 < 12 then (dr s2, c1 + 1, up4 g1 (c1 * 4) b (drV s2 4) S (hHei gb b (drV s2 4) (sizeS gt vn.toNat S))) else (dr s2, c1, g1) := by
                    unfold dmS
                    show (if c1 < 12 then (_, _, _) else (_, _, _)) = _
                    rw [e1, e2]
                  refine M.aloadn (pc := 87) 0 rfl rfl dX8_drift_87 ?_
                  refine M.iconst (pc := 88) dX8_drift_88 ?_
                  refine M.mV (pc := 89) (c_X8_draw  (by first | assumption | omega) (by first | assumption | omega)) mv_X8_304 [0] rfl rfl rfl 0 rfl rfl rfl rfl (Nat.le_of_ble_eq_true rfl) rfl ⟨(Nat.le_of_ble_eq_true rfl), (Nat.le_of_ble_eq_true rfl)⟩ ⟨(Nat.le_of_ble_eq_true rfl), (Nat.le_of_ble_eq_true rfl)⟩ rfl (fun _ => rfl) dX8_drift_89 (fun u89 hu89 => ?_)
                  dsimp only [putL, List.set_cons_zero, List.set_cons_succ, Option.toList, List.cons_append, List.nil_append] at hu89 ⊢
                  refine M.istore (pc := 92) (i := 5) (Nat.le_of_ble_eq_true rfl) rfl dX8_drift_92 ?_
                  dsimp only [List.set_cons_zero, List.set_cons_succ]
                  have L125 : ∀ {c3 : Int} {g3 : Int → Int}, ((dr s2, c3, g3) = dmS gb gt vn b (s1, c1, g1)) → V 0 0 125 [(m, eO 8 [.int (iI vb), .ref aBath, .int (iI vn), .ref aBather, .int (iI vo), .int (iI c3), .ref aMorn, .int (iI (dr s2)), .ref aText, .int (iI vt), .int (iI vf), .int (iI va), .long (lI vsd), .int (iI vw), .int (iI vu), .int (iI vna), .int (iI vrb), .ref aRB, .int (iI vrn), .ref aRN, .int (iI vro), .ref aLow, .ref aHigh, .int (iI (pI (vch = true))), .ref aNeeds, .ref aLikes, .ref aHts, .int (iI vtr), .int (iI vbk), .ref aBook, .ref aImg, .ref aKept]), (aBath, eI G 8 gb), (aBather, eI G 24 gt), (aMorn, eI G 48 g3)] [some (.ref m), some (.int (iI b)), some (.int (iI n)), some (.int (iI i)), none, none] [] := by
                    intro c3 g3 hq3
                    refine M.iinc (pc := 125) (i := 3) rfl rfl dX8_drift_125 ?_
                    dsimp only [List.set_cons_zero, List.set_cons_succ]
                    refine M.goto (pc := 128) (tgt := 28) dX8_drift_128 (by decide) ?_
                    exact ih28  (by first | assumption | omega) (by rw [hst]; exact hq3) (by omega)
                  refine M.aloadn (pc := 94) 0 rfl rfl dX8_drift_94 ?_
                  refine M.getf (pc := 95) fg_X8_160 0 rfl rfl dX8_drift_95 ?_
                  refine M.bipush (pc := 98) (by decide +kernel) dX8_drift_98 ?_
                  refine M.icmp_ge (pc := 100) (tgt := 125) dX8_drift_100 (by decide) (by omega) (by omega) (fun c100 => ?_) (fun c100 => ?_)
                  · refine M.forget 4 ?_
                    dsimp only [List.set_cons_zero, List.set_cons_succ]
                    refine M.forget 5 ?_
                    dsimp only [List.set_cons_zero, List.set_cons_succ]
                    exact L125  (by rw [hdm, if_neg (by omega)])
                  · refine M.aloadn (pc := 103) 0 rfl rfl dX8_drift_103 ?_
                    refine M.iloadn (pc := 104) 1 rfl rfl dX8_drift_104 ?_
                    refine M.iload (pc := 105) (i := 5) rfl dX8_drift_105 ?_
                    refine M.iload (pc := 107) (i := 4) rfl dX8_drift_107 ?_
                    refine M.aloadn (pc := 109) 0 rfl rfl dX8_drift_109 ?_
                    refine M.iloadn (pc := 110) 1 rfl rfl dX8_drift_110 ?_
                    refine M.iload (pc := 111) (i := 5) rfl dX8_drift_111 ?_
                    refine M.aloadn (pc := 113) 0 rfl rfl dX8_drift_113 ?_
                    refine M.iload (pc := 114) (i := 4) rfl dX8_drift_114 ?_
                    refine M.pV (pc := 116) (c_X8_sizeOf  (by first | assumption | omega) (by first | assumption | omega) (by omega)) mv_X8_201 [0, 2] rfl rfl rfl 0 rfl rfl rfl rfl (Nat.le_of_ble_eq_true rfl) rfl ⟨(Nat.le_of_ble_eq_true rfl), (Nat.le_of_ble_eq_true rfl)⟩ ⟨(Nat.le_of_ble_eq_true rfl), (Nat.le_of_ble_eq_true rfl)⟩ rfl dX8_drift_116 ?_
                    refine M.pV (pc := 119) (c_X8_heightOf (gb := gb) (by first | assumption | omega) (by first | assumption | omega) (by omega) (by omega) (by omega)) mv_X8_204 [0, 1] rfl rfl rfl 0 rfl rfl rfl rfl (Nat.le_of_ble_eq_true rfl) rfl ⟨(Nat.le_of_ble_eq_true rfl), (Nat.le_of_ble_eq_true rfl)⟩ ⟨(Nat.le_of_ble_eq_true rfl), (Nat.le_of_ble_eq_true rfl)⟩ rfl dX8_drift_119 ?_
                    refine M.mV (pc := 122) (c_X8_addMorning  (by first | assumption | omega)) mv_X8_230 [0, 3] rfl rfl rfl 0 rfl rfl rfl rfl (Nat.le_of_ble_eq_true rfl) rfl ⟨(Nat.le_of_ble_eq_true rfl), (Nat.le_of_ble_eq_true rfl)⟩ ⟨(Nat.le_of_ble_eq_true rfl), (Nat.le_of_ble_eq_true rfl)⟩ rfl (fun _ => rfl) dX8_drift_122 (fun u122 hu122 => ?_)
                    dsimp only [putL, List.set_cons_zero, List.set_cons_succ, Option.toList, List.cons_append, List.nil_append] at hu122 ⊢
                    refine M.forget 4 ?_
                    dsimp only [List.set_cons_zero, List.set_cons_succ]
                    refine M.forget 5 ?_
                    dsimp only [List.set_cons_zero, List.set_cons_succ]
                    exact L125  (by rw [hdm, if_pos c100])
                · have hds := dsS_b (gt := gt) (s := s1) hqb1 k.toNat
                  rw [← hd, show ((k.toNat : Nat) : Int) = k by omega] at hds
                  obtain ⟨hds1, hds2⟩ := hds
                  have hds1 : 0 ≤ s2 ∧ s2 < 2147483648 := hds1
                  have hds2 : 0 ≤ S ∧ S < p2 k := hds2
                  have hdn := dsS_s gt s1 hk.1
                  rw [← hd] at hdn
                  have hTk := (hT k hk.1 (by omega)).2.2.2.1
                  have hpk := p2_b (k := k) (by omega)
                  refine M.iload (pc := 48) (i := 4) rfl dX8_drift_48 ?_
                  refine M.aloadn (pc := 50) 0 rfl rfl dX8_drift_50 ?_
                  refine M.bipush (pc := 51) (by decide +kernel) dX8_drift_51 ?_
                  refine M.mV (pc := 53) (c_X8_draw  (by first | assumption | omega) (by first | assumption | omega)) mv_X8_304 [0] rfl rfl rfl 0 rfl rfl rfl rfl (Nat.le_of_ble_eq_true rfl) rfl ⟨(Nat.le_of_ble_eq_true rfl), (Nat.le_of_ble_eq_true rfl)⟩ ⟨(Nat.le_of_ble_eq_true rfl), (Nat.le_of_ble_eq_true rfl)⟩ rfl (fun _ => rfl) dX8_drift_53 (fun u53 hu53 => ?_)
                  dsimp only [putL, List.set_cons_zero, List.set_cons_succ, Option.toList, List.cons_append, List.nil_append] at hu53 ⊢
                  have hdb := dr_b s2
                  have hdv : 0 ≤ drV s2 100 ∧ drV s2 100 < 100 := ⟨Int.emod_nonneg _ (by decide), Int.emod_lt_of_pos _ (by decide)⟩
                  refine M.aloadn (pc := 56) 0 rfl rfl dX8_drift_56 ?_
                  refine M.getf (pc := 57) fg_X8_13 0 rfl rfl dX8_drift_57 ?_
                  refine M.iconst (pc := 60) dX8_drift_60 ?_
                  refine M.iload (pc := 61) (i := 5) rfl dX8_drift_61 ?_
                  refine M.imul (pc := 63) dX8_drift_63 ?_
                  refine M.iconst (pc := 64) dX8_drift_64 ?_
                  refine M.iadd (pc := 65) dX8_drift_65 ?_
                  refine M.ialdx (pc := 66) (k * 4 + 3) (by omega) 2 rfl (by omega) (by omega) dX8_drift_66 ?_
                  have L78 : ∀ {z : Int}, ((z = p2 k ∧ drV s2 100 < gt (k * 4 + 3)) ∨ (z = 0 ∧ ¬ drV s2 100 < gt (k * 4 + 3))) → V 0 0 78 [(m, eO 8 [.int (iI vb), .ref aBath, .int (iI vn), .ref aBather, .int (iI vo), .int (iI c1), .ref aMorn, .int (iI (dr s2)), .ref aText, .int (iI vt), .int (iI vf), .int (iI va), .long (lI vsd), .int (iI vw), .int (iI vu), .int (iI vna), .int (iI vrb), .ref aRB, .int (iI vrn), .ref aRN, .int (iI vro), .ref aLow, .ref aHigh, .int (iI (pI (vch = true))), .ref aNeeds, .ref aLikes, .ref aHts, .int (iI vtr), .int (iI vbk), .ref aBook, .ref aImg, .ref aKept]), (aBath, eI G 8 gb), (aBather, eI G 24 gt), (aMorn, eI G 48 g1)] [some (.ref m), some (.int (iI b)), some (.int (iI n)), some (.int (iI i)), some (.int (iI S)), some (.int (iI k))] [.int (iI z), .int (iI S)] := by
                    intro z hz
                    refine M.ior (pc := 78) (show iI S ||| iI z = iI (S + z) from by rcases hz with ⟨z1, z2⟩ | ⟨z1, z2⟩ <;> rw [z1] <;> first | exact or_p2 hds2.1 hds2.2 | (rw [Int.add_zero]; exact or_0 hds2.1)) dX8_drift_78 ?_
                    refine M.istore (pc := 79) (i := 4) (Nat.le_of_ble_eq_true rfl) rfl dX8_drift_79 ?_
                    dsimp only [List.set_cons_zero, List.set_cons_succ]
                    refine M.iinc (pc := 81) (i := 5) rfl rfl dX8_drift_81 ?_
                    dsimp only [List.set_cons_zero, List.set_cons_succ]
                    refine M.goto (pc := 84) (tgt := 39) dX8_drift_84 (by decide) ?_
                    exact ih39  (by first | assumption | omega) (by rw [hdn]; rcases hz with ⟨z1, z2⟩ | ⟨z1, z2⟩; rw [if_pos z2, z1]; rw [if_neg z2, z1]) (by omega)
                  refine M.icmp_ge (pc := 67) (tgt := 77) dX8_drift_67 (by decide) (by omega) (by omega) (fun c67 => ?_) (fun c67 => ?_)
                  · refine M.iconst (pc := 77) dX8_drift_77 ?_
                    exact L78  (by exact Or.inr ⟨rfl, by omega⟩)
                  · refine M.iconst (pc := 70) dX8_drift_70 ?_
                    refine M.iload (pc := 71) (i := 5) rfl dX8_drift_71 ?_
                    refine M.ishl (pc := 73) (bit_shl1 hk.1 (by omega)) dX8_drift_73 ?_
                    refine M.goto (pc := 74) (tgt := 78) dX8_drift_74 (by decide) ?_
                    exact L78  (by exact Or.inl ⟨rfl, c67⟩)
            exact L39 _  (by first | assumption | omega) (by rfl) (Nat.lt_succ_self _)
      exact L28 _  (by first | assumption | omega) (by rfl) (Nat.lt_succ_self _)
    · refine M.ldc (pc := 23) (-1000000002) lc_X8_76 (by decide +kernel) dX8_drift_23 ?_
      have hD : dfQ gb gt gm vb vn vm vs b n = (vs, vm, gm) := if_neg (by omega)
      exact EI () _ _ _ _ dX8_drift_25 (Or.inl rfl) (eqI (by unfold aDrift; rw [if_neg (by omega), if_pos (by omega)])) (by rw [hD]) (trivial)
  · refine M.ldc (pc := 8) (-1000000001) lc_X8_173 (by decide +kernel) dX8_drift_8 ?_
    have hD : dfQ gb gt gm vb vn vm vs b n = (vs, vm, gm) := if_neg (by omega)
    exact EI () _ _ _ _ dX8_drift_10 (Or.inl rfl) (eqI (by unfold aDrift; rw [if_pos (by omega)])) (by rw [hD]) (trivial)
set_option maxHeartbeats 4000000 in
set_option maxRecDepth 100000 in
theorem c_X8_keep {l : Launch} {G : GT} {m aBath aBather aMorn aText aRB aRN aLow aHigh aNeeds aLikes aHts aBook aImg aKept : Nat} {vb vn vo vm vs vt vf va vw vu vna vrb vrn vro vtr vbk vsd : Int} {vch : Bool} {gm : Int → Int} {gi : Int → Int} {gz : Int → Int} {i : Int} (hri : InR i) : Con l G yX8_keep cX8_keep 4 (some .int) { frames := 1, cells := 0, slots := 0, locals := 25 } [.ref m, .int (iI i)] [(m, eO 8 [.int (iI vb), .ref aBath, .int (iI vn), .ref aBather, .int (iI vo), .int (iI vm), .ref aMorn, .int (iI vs), .ref aText, .int (iI vt), .int (iI vf), .int (iI va), .long (lI vsd), .int (iI vw), .int (iI vu), .int (iI vna), .int (iI vrb), .ref aRB, .int (iI vrn), .ref aRN, .int (iI vro), .ref aLow, .ref aHigh, .int (iI (pI (vch = true))), .ref aNeeds, .ref aLikes, .ref aHts, .int (iI vtr), .int (iI vbk), .ref aBook, .ref aImg, .ref aKept]), (aMorn, eI G 48 gm), (aImg, eI G 100 gi), (aKept, eZ G 2 gz)] (S := Int → Int) (fun _ => some (.int (iI (aKeep i)))) (fun u => [(m, eO 8 [.int (iI vb), .ref aBath, .int (iI vn), .ref aBather, .int (iI vo), .int (iI vm), .ref aMorn, .int (iI vs), .ref aText, .int (iI vt), .int (iI vf), .int (iI va), .long (lI vsd), .int (iI vw), .int (iI vu), .int (iI vna), .int (iI vrb), .ref aRB, .int (iI vrn), .ref aRN, .int (iI vro), .ref aLow, .ref aHigh, .int (iI (pI (vch = true))), .ref aNeeds, .ref aLikes, .ref aHts, .int (iI vtr), .int (iI vbk), .ref aBook, .ref aImg, .ref aKept]), (aMorn, eI G 48 gm), (aImg, eI G 100 u), (aKept, eZ G 2 (kpZ gz i))]) (fun u => KPG gi i gm vm vs u) := by
  refine Con.mk (by decide +kernel) [some (.ref m), some (.int (iI i)), none, none] rfl (Nat.le_of_ble_eq_true rfl) rfl ?_
  intro V M EI EL EV EA
  refine M.iloadn (pc := 0) 1 rfl rfl dX8_keep_0 ?_
  refine M.i2l (pc := 1) (by omega) dX8_keep_1 ?_
  refine M.lconst (pc := 2) 0 (by decide +kernel) dX8_keep_2 ?_
  refine M.lconst (pc := 3) 1 (by decide +kernel) dX8_keep_3 ?_
  refine M.pS (pc := 4) (c_X8_in  (by first | assumption | omega) (by first | assumption | omega) (by first | assumption | omega)) ms_X8_63 [] rfl rfl rfl rfl (Nat.le_of_ble_eq_true rfl) rfl ⟨(Nat.le_of_ble_eq_true rfl), (Nat.le_of_ble_eq_true rfl)⟩ ⟨(Nat.le_of_ble_eq_true rfl), (Nat.le_of_ble_eq_true rfl)⟩ rfl dX8_keep_4 ?_
  refine M.if_neP (pc := 7) (tgt := 13) dX8_keep_7 (by decide) (fun c7 => ?_) (fun c7 => ?_)
  · have hi2 : 0 ≤ i ∧ i ≤ 1 := by omega
    refine M.bipush (pc := 13) (by decide +kernel) dX8_keep_13 ?_
    refine M.iloadn (pc := 15) 1 rfl rfl dX8_keep_15 ?_
    refine M.imul (pc := 16) dX8_keep_16 ?_
    refine M.istoren (pc := 17) 2 rfl (Nat.le_of_ble_eq_true rfl) rfl dX8_keep_17 ?_
    dsimp only [List.set_cons_zero, List.set_cons_succ]
    refine M.iconst (pc := 18) dX8_keep_18 ?_
    refine M.istoren (pc := 19) 3 rfl (Nat.le_of_ble_eq_true rfl) rfl dX8_keep_19 ?_
    dsimp only [List.set_cons_zero, List.set_cons_succ]
    have L20 : ∀ (fu : Nat) {k : Int} {g : Int → Int}, (0 ≤ k ∧ k ≤ 48) → (∀ x, 0 ≤ x → x < k → g (50 * i + x) = gm x) → (∀ j x, 0 ≤ j → j ≤ 1 → j ≠ i → 0 ≤ x → x < 50 → g (50 * j + x) = gi (50 * j + x)) → (48 - k).toNat < fu → V 0 0 20 [(m, eO 8 [.int (iI vb), .ref aBath, .int (iI vn), .ref aBather, .int (iI vo), .int (iI vm), .ref aMorn, .int (iI vs), .ref aText, .int (iI vt), .int (iI vf), .int (iI va), .long (lI vsd), .int (iI vw), .int (iI vu), .int (iI vna), .int (iI vrb), .ref aRB, .int (iI vrn), .ref aRN, .int (iI vro), .ref aLow, .ref aHigh, .int (iI (pI (vch = true))), .ref aNeeds, .ref aLikes, .ref aHts, .int (iI vtr), .int (iI vbk), .ref aBook, .ref aImg, .ref aKept]), (aMorn, eI G 48 gm), (aImg, eI G 100 g), (aKept, eZ G 2 gz)] [some (.ref m), some (.int (iI i)), some (.int (iI (50 * i))), some (.int (iI k))] [] := by
      intro fu
      induction fu with
      | zero => intro k g hk hg1 hg2 hm; exact absurd hm (Nat.not_lt_zero _)
      | succ fu ih20 =>
        intro k g hk hg1 hg2 hm20
        refine M.iloadn (pc := 20) 3 rfl rfl dX8_keep_20 ?_
        refine M.bipush (pc := 21) (by decide +kernel) dX8_keep_21 ?_
        refine M.icmp_ge (pc := 23) (tgt := 46) dX8_keep_23 (by decide) (by omega) (by omega) (fun c23 => ?_) (fun c23 => ?_)
        · refine M.aloadn (pc := 46) 0 rfl rfl dX8_keep_46 ?_
          refine M.getf (pc := 47) fg_X8_53 0 rfl rfl dX8_keep_47 ?_
          refine M.iloadn (pc := 50) 2 rfl rfl dX8_keep_50 ?_
          refine M.bipush (pc := 51) (by decide +kernel) dX8_keep_51 ?_
          refine M.iadd (pc := 53) dX8_keep_53 ?_
          refine M.aloadn (pc := 54) 0 rfl rfl dX8_keep_54 ?_
          refine M.getf (pc := 55) fg_X8_160 0 rfl rfl dX8_keep_55 ?_
          refine M.iastx (pc := 58) (50 * i + 48) (by omega) 2 rfl (by omega) (by omega) dX8_keep_58 ?_
          dsimp only [List.set_cons_zero, List.set_cons_succ]
          refine M.aloadn (pc := 59) 0 rfl rfl dX8_keep_59 ?_
          refine M.getf (pc := 60) fg_X8_53 0 rfl rfl dX8_keep_60 ?_
          refine M.iloadn (pc := 63) 2 rfl rfl dX8_keep_63 ?_
          refine M.bipush (pc := 64) (by decide +kernel) dX8_keep_64 ?_
          refine M.iadd (pc := 66) dX8_keep_66 ?_
          refine M.aloadn (pc := 67) 0 rfl rfl dX8_keep_67 ?_
          refine M.getf (pc := 68) fg_X8_292 0 rfl rfl dX8_keep_68 ?_
          refine M.iastx (pc := 71) (50 * i + 49) (by omega) 2 rfl (by omega) (by omega) dX8_keep_71 ?_
          dsimp only [List.set_cons_zero, List.set_cons_succ]
          refine M.aloadn (pc := 72) 0 rfl rfl dX8_keep_72 ?_
          refine M.getf (pc := 73) fg_X8_56 0 rfl rfl dX8_keep_73 ?_
          refine M.iloadn (pc := 76) 1 rfl rfl dX8_keep_76 ?_
          refine M.iconst (pc := 77) dX8_keep_77 ?_
          refine M.zast (pc := 78) 3 rfl (by omega) (by omega) (by decide +kernel) dX8_keep_78 ?_
          dsimp only [List.set_cons_zero, List.set_cons_succ]
          refine M.iconst (pc := 79) dX8_keep_79 ?_
          exact EI (upZ (upZ g (50 * i + 48) vm) (50 * i + 49) vs) _ _ _ _ dX8_keep_80 (Or.inl rfl) (eqI (by unfold aKeep; rw [if_pos hi2])) (by unfold kpZ; rw [if_pos hi2]) (⟨fun _ => ⟨⟨fun x h0 h1 => by rw [upZ_n (by omega), upZ_n (by omega)]; exact hg1 x h0 (by omega), by rw [upZ_n (by omega), upZ_s], upZ_s _ _ _⟩, fun j x a1 a2 a3 a4 a5 => by rw [upZ_n (by omega), upZ_n (by omega)]; exact hg2 j x a1 a2 a3 a4 a5⟩, fun z => absurd hi2 z⟩)
        · refine M.aloadn (pc := 26) 0 rfl rfl dX8_keep_26 ?_
          refine M.getf (pc := 27) fg_X8_53 0 rfl rfl dX8_keep_27 ?_
          refine M.iloadn (pc := 30) 2 rfl rfl dX8_keep_30 ?_
          refine M.iloadn (pc := 31) 3 rfl rfl dX8_keep_31 ?_
          refine M.iadd (pc := 32) dX8_keep_32 ?_
          refine M.aloadn (pc := 33) 0 rfl rfl dX8_keep_33 ?_
          refine M.getf (pc := 34) fg_X8_20 0 rfl rfl dX8_keep_34 ?_
          refine M.iloadn (pc := 37) 3 rfl rfl dX8_keep_37 ?_
          refine M.iald (pc := 38) 1 rfl (by omega) (by omega) dX8_keep_38 ?_
          refine M.iastx (pc := 39) (50 * i + k) (by omega) 2 rfl (by omega) (by omega) dX8_keep_39 ?_
          dsimp only [List.set_cons_zero, List.set_cons_succ]
          refine M.iinc (pc := 40) (i := 3) rfl rfl dX8_keep_40 ?_
          dsimp only [List.set_cons_zero, List.set_cons_succ]
          refine M.goto (pc := 43) (tgt := 20) dX8_keep_43 (by decide) ?_
          exact ih20  (by first | assumption | omega) (by intro x h0 h1; by_cases e : x = k; rw [e, upZ_s]; rw [upZ_n (by omega)]; exact hg1 x h0 (by omega)) (by intro j x a1 a2 a3 a4 a5; rw [upZ_n (by omega)]; exact hg2 j x a1 a2 a3 a4 a5) (by omega)
    exact L20 _  (by first | assumption | omega) (by intro x _ h; omega) (by intro j x _ _ _ _ _; rfl) (Nat.lt_succ_self _)
  · refine M.ldc (pc := 10) (-1000000001) lc_X8_173 (by decide +kernel) dX8_keep_10 ?_
    have hi2 : ¬ (0 ≤ i ∧ i ≤ 1) := by omega
    exact EI gi _ _ _ _ dX8_keep_12 (Or.inl rfl) (eqI (by unfold aKeep; rw [if_neg hi2])) (by unfold kpZ; rw [if_neg hi2]) (⟨fun z => absurd z hi2, fun _ => rfl⟩)
set_option maxHeartbeats 4000000 in
set_option maxRecDepth 100000 in
theorem c_X8_goBack {l : Launch} {G : GT} {m aBath aBather aMorn aText aRB aRN aLow aHigh aNeeds aLikes aHts aBook aImg aKept : Nat} {vb vn vo vm vs vt vf va vw vu vna vrb vrn vro vtr vbk vsd : Int} {vch : Bool} {gm : Int → Int} {gi : Int → Int} {gz : Int → Int} {i : Int} (hz : ∀ j, 0 ≤ j → j ≤ 1 → gz j = 0 ∨ gz j = 1) (hri : InR i) : Con l G yX8_goBack cX8_goBack 4 (some .int) { frames := 1, cells := 0, slots := 0, locals := 25 } [.ref m, .int (iI i)] [(m, eO 8 [.int (iI vb), .ref aBath, .int (iI vn), .ref aBather, .int (iI vo), .int (iI vm), .ref aMorn, .int (iI vs), .ref aText, .int (iI vt), .int (iI vf), .int (iI va), .long (lI vsd), .int (iI vw), .int (iI vu), .int (iI vna), .int (iI vrb), .ref aRB, .int (iI vrn), .ref aRN, .int (iI vro), .ref aLow, .ref aHigh, .int (iI (pI (vch = true))), .ref aNeeds, .ref aLikes, .ref aHts, .int (iI vtr), .int (iI vbk), .ref aBook, .ref aImg, .ref aKept]), (aMorn, eI G 48 gm), (aImg, eI G 100 gi), (aKept, eZ G 2 gz)] (S := Int → Int) (fun _ => some (.int (iI (aGoBack i (gz i))))) (fun u => [(m, eO 8 [.int (iI vb), .ref aBath, .int (iI vn), .ref aBather, .int (iI vo), .int (iI (gbN gz gi i vm)), .ref aMorn, .int (iI (gbS gz gi i vs)), .ref aText, .int (iI vt), .int (iI vf), .int (iI va), .long (lI vsd), .int (iI vw), .int (iI vu), .int (iI vna), .int (iI vrb), .ref aRB, .int (iI vrn), .ref aRN, .int (iI vro), .ref aLow, .ref aHigh, .int (iI (pI (vch = true))), .ref aNeeds, .ref aLikes, .ref aHts, .int (iI vtr), .int (iI vbk), .ref aBook, .ref aImg, .ref aKept]), (aMorn, eI G 48 u), (aImg, eI G 100 gi), (aKept, eZ G 2 gz)]) (fun u => GBG gz gi i gm u) := by
  refine Con.mk (by decide +kernel) [some (.ref m), some (.int (iI i)), none, none] rfl (Nat.le_of_ble_eq_true rfl) rfl ?_
  intro V M EI EL EV EA
  refine M.iloadn (pc := 0) 1 rfl rfl dX8_goBack_0 ?_
  refine M.i2l (pc := 1) (by omega) dX8_goBack_1 ?_
  refine M.lconst (pc := 2) 0 (by decide +kernel) dX8_goBack_2 ?_
  refine M.lconst (pc := 3) 1 (by decide +kernel) dX8_goBack_3 ?_
  refine M.pS (pc := 4) (c_X8_in  (by first | assumption | omega) (by first | assumption | omega) (by first | assumption | omega)) ms_X8_63 [] rfl rfl rfl rfl (Nat.le_of_ble_eq_true rfl) rfl ⟨(Nat.le_of_ble_eq_true rfl), (Nat.le_of_ble_eq_true rfl)⟩ ⟨(Nat.le_of_ble_eq_true rfl), (Nat.le_of_ble_eq_true rfl)⟩ rfl dX8_goBack_4 ?_
  refine M.if_neP (pc := 7) (tgt := 13) dX8_goBack_7 (by decide) (fun c7 => ?_) (fun c7 => ?_)
  · have hi2 : 0 ≤ i ∧ i ≤ 1 := by omega
    have hzi := hz i hi2.1 hi2.2
    refine M.aloadn (pc := 13) 0 rfl rfl dX8_goBack_13 ?_
    refine M.getf (pc := 14) fg_X8_56 0 rfl rfl dX8_goBack_14 ?_
    refine M.iloadn (pc := 17) 1 rfl rfl dX8_goBack_17 ?_
    refine M.zald (pc := 18) 3 rfl (by omega) (by omega) dX8_goBack_18 ?_
    refine M.if_ne (pc := 19) (tgt := 26) dX8_goBack_19 (by decide) (by omega) (fun c19 => ?_) (fun c19 => ?_)
    · have hko : ((0 ≤ i ∧ i ≤ 1) ∧ gz i ≠ 0) := ⟨hi2, c19⟩
      refine M.bipush (pc := 26) (by decide +kernel) dX8_goBack_26 ?_
      refine M.iloadn (pc := 28) 1 rfl rfl dX8_goBack_28 ?_
      refine M.imul (pc := 29) dX8_goBack_29 ?_
      refine M.istoren (pc := 30) 2 rfl (Nat.le_of_ble_eq_true rfl) rfl dX8_goBack_30 ?_
      dsimp only [List.set_cons_zero, List.set_cons_succ]
      refine M.iconst (pc := 31) dX8_goBack_31 ?_
      refine M.istoren (pc := 32) 3 rfl (Nat.le_of_ble_eq_true rfl) rfl dX8_goBack_32 ?_
      dsimp only [List.set_cons_zero, List.set_cons_succ]
      have L33 : ∀ (fu : Nat) {k : Int} {g : Int → Int}, (0 ≤ k ∧ k ≤ 48) → (∀ x, 0 ≤ x → x < k → g x = gi (50 * i + x)) → (48 - k).toNat < fu → V 0 0 33 [(m, eO 8 [.int (iI vb), .ref aBath, .int (iI vn), .ref aBather, .int (iI vo), .int (iI vm), .ref aMorn, .int (iI vs), .ref aText, .int (iI vt), .int (iI vf), .int (iI va), .long (lI vsd), .int (iI vw), .int (iI vu), .int (iI vna), .int (iI vrb), .ref aRB, .int (iI vrn), .ref aRN, .int (iI vro), .ref aLow, .ref aHigh, .int (iI (pI (vch = true))), .ref aNeeds, .ref aLikes, .ref aHts, .int (iI vtr), .int (iI vbk), .ref aBook, .ref aImg, .ref aKept]), (aMorn, eI G 48 g), (aImg, eI G 100 gi), (aKept, eZ G 2 gz)] [some (.ref m), some (.int (iI i)), some (.int (iI (50 * i))), some (.int (iI k))] [] := by
        intro fu
        induction fu with
        | zero => intro k g hk hg1 hm; exact absurd hm (Nat.not_lt_zero _)
        | succ fu ih33 =>
          intro k g hk hg1 hm33
          refine M.iloadn (pc := 33) 3 rfl rfl dX8_goBack_33 ?_
          refine M.bipush (pc := 34) (by decide +kernel) dX8_goBack_34 ?_
          refine M.icmp_ge (pc := 36) (tgt := 59) dX8_goBack_36 (by decide) (by omega) (by omega) (fun c36 => ?_) (fun c36 => ?_)
          · refine M.aloadn (pc := 59) 0 rfl rfl dX8_goBack_59 ?_
            refine M.aloadn (pc := 60) 0 rfl rfl dX8_goBack_60 ?_
            refine M.getf (pc := 61) fg_X8_53 0 rfl rfl dX8_goBack_61 ?_
            refine M.iloadn (pc := 64) 2 rfl rfl dX8_goBack_64 ?_
            refine M.bipush (pc := 65) (by decide +kernel) dX8_goBack_65 ?_
            refine M.iadd (pc := 67) dX8_goBack_67 ?_
            refine M.ialdx (pc := 68) (50 * i + 48) (by omega) 2 rfl (by omega) (by omega) dX8_goBack_68 ?_
            refine M.putf (pc := 69) fp_X8_160 0 rfl rfl rfl (Nat.le_of_ble_eq_true rfl) dX8_goBack_69 ?_
            dsimp only [List.set_cons_zero, List.set_cons_succ]
            refine M.aloadn (pc := 72) 0 rfl rfl dX8_goBack_72 ?_
            refine M.aloadn (pc := 73) 0 rfl rfl dX8_goBack_73 ?_
            refine M.getf (pc := 74) fg_X8_53 0 rfl rfl dX8_goBack_74 ?_
            refine M.iloadn (pc := 77) 2 rfl rfl dX8_goBack_77 ?_
            refine M.bipush (pc := 78) (by decide +kernel) dX8_goBack_78 ?_
            refine M.iadd (pc := 80) dX8_goBack_80 ?_
            refine M.ialdx (pc := 81) (50 * i + 49) (by omega) 2 rfl (by omega) (by omega) dX8_goBack_81 ?_
            refine M.putf (pc := 82) fp_X8_292 0 rfl rfl rfl (Nat.le_of_ble_eq_true rfl) dX8_goBack_82 ?_
            dsimp only [List.set_cons_zero, List.set_cons_succ]
            refine M.iconst (pc := 85) dX8_goBack_85 ?_
            exact EI g _ _ _ _ dX8_goBack_86 (Or.inl rfl) (eqI (by unfold aGoBack; rw [if_neg (by omega), if_neg (by omega)])) (by unfold gbN gbS; rw [if_pos hko, if_pos hko]) (⟨fun _ x h0 h1 => hg1 x h0 (by omega), fun z => absurd hko z⟩)
          · refine M.aloadn (pc := 39) 0 rfl rfl dX8_goBack_39 ?_
            refine M.getf (pc := 40) fg_X8_20 0 rfl rfl dX8_goBack_40 ?_
            refine M.iloadn (pc := 43) 3 rfl rfl dX8_goBack_43 ?_
            refine M.aloadn (pc := 44) 0 rfl rfl dX8_goBack_44 ?_
            refine M.getf (pc := 45) fg_X8_53 0 rfl rfl dX8_goBack_45 ?_
            refine M.iloadn (pc := 48) 2 rfl rfl dX8_goBack_48 ?_
            refine M.iloadn (pc := 49) 3 rfl rfl dX8_goBack_49 ?_
            refine M.iadd (pc := 50) dX8_goBack_50 ?_
            refine M.ialdx (pc := 51) (50 * i + k) (by omega) 2 rfl (by omega) (by omega) dX8_goBack_51 ?_
            refine M.iast (pc := 52) 1 rfl (by omega) (by omega) dX8_goBack_52 ?_
            dsimp only [List.set_cons_zero, List.set_cons_succ]
            refine M.iinc (pc := 53) (i := 3) rfl rfl dX8_goBack_53 ?_
            dsimp only [List.set_cons_zero, List.set_cons_succ]
            refine M.goto (pc := 56) (tgt := 33) dX8_goBack_56 (by decide) ?_
            exact ih33  (by first | assumption | omega) (by intro x h0 h1; by_cases e : x = k; rw [e, upZ_s]; rw [upZ_n e]; exact hg1 x h0 (by omega)) (by omega)
      exact L33 _  (by first | assumption | omega) (by intro x _ h; omega) (Nat.lt_succ_self _)
    · refine M.ldcw (pc := 22) (-1000000003) lc_X8_291 (by decide +kernel) dX8_goBack_22 ?_
      have hko : ¬ ((0 ≤ i ∧ i ≤ 1) ∧ gz i ≠ 0) := fun z => z.2 (by omega)
      exact EI gm _ _ _ _ dX8_goBack_25 (Or.inl rfl) (eqI (by unfold aGoBack; rw [if_neg (by omega), if_pos (by omega)])) (by unfold gbN gbS; rw [if_neg hko, if_neg hko]) (⟨fun z => absurd z hko, fun _ => rfl⟩)
  · refine M.ldc (pc := 10) (-1000000001) lc_X8_173 (by decide +kernel) dX8_goBack_10 ?_
    have hko : ¬ ((0 ≤ i ∧ i ≤ 1) ∧ gz i ≠ 0) := fun z => by omega
    exact EI gm _ _ _ _ dX8_goBack_12 (Or.inl rfl) (eqI (by unfold aGoBack; rw [if_pos (by omega)])) (by unfold gbN gbS; rw [if_neg hko, if_neg hko]) (⟨fun z => absurd z hko, fun _ => rfl⟩)
set_option maxHeartbeats 4000000 in
set_option maxRecDepth 100000 in
theorem c_X8_feed {l : Launch} {G : GT} {m aBath aBather aMorn aText aRB aRN aLow aHigh aNeeds aLikes aHts aBook aImg aKept : Nat} {vb vn vo vm vs vt vf va vw vu vna vrb vrn vro vtr vbk vsd : Int} {vch : Bool} {gx : Int → Int} {n x : Int} (hvt : 0 ≤ vt ∧ vt ≤ 400) (hrn : InR n) (hrx : InL x) : Con l G yX8_feed cX8_feed 5 (some .int) { frames := 1, cells := 0, slots := 0, locals := 25 } [.ref m, .int (iI n), .long (lI x)] [(m, eO 8 [.int (iI vb), .ref aBath, .int (iI vn), .ref aBather, .int (iI vo), .int (iI vm), .ref aMorn, .int (iI vs), .ref aText, .int (iI vt), .int (iI vf), .int (iI va), .long (lI vsd), .int (iI vw), .int (iI vu), .int (iI vna), .int (iI vrb), .ref aRB, .int (iI vrn), .ref aRN, .int (iI vro), .ref aLow, .ref aHigh, .int (iI (pI (vch = true))), .ref aNeeds, .ref aLikes, .ref aHts, .int (iI vtr), .int (iI vbk), .ref aBook, .ref aImg, .ref aKept]), (aText, eI G 400 gx)] (S := Unit) (fun _ => some (.int (iI (aFeed n vt)))) (fun _ => [(m, eO 8 [.int (iI vb), .ref aBath, .int (iI vn), .ref aBather, .int (iI vo), .int (iI vm), .ref aMorn, .int (iI vs), .ref aText, .int (iI (fdN n vt)), .int (iI vf), .int (iI va), .long (lI vsd), .int (iI vw), .int (iI vu), .int (iI vna), .int (iI vrb), .ref aRB, .int (iI vrn), .ref aRN, .int (iI vro), .ref aLow, .ref aHigh, .int (iI (pI (vch = true))), .ref aNeeds, .ref aLikes, .ref aHts, .int (iI vtr), .int (iI vbk), .ref aBook, .ref aImg, .ref aKept]), (aText, eI G 400 (fdG x n vt gx))]) (fun _ => True) := by
  refine Con.mk (by decide +kernel) [some (.ref m), some (.int (iI n)), some (.long (lI x)), none, none] rfl (Nat.le_of_ble_eq_true rfl) rfl ?_
  intro V M EI EL EV EA
  refine M.iloadn (pc := 0) 1 rfl rfl dX8_feed_0 ?_
  refine M.i2l (pc := 1) (by omega) dX8_feed_1 ?_
  refine M.lconst (pc := 2) 1 (by decide +kernel) dX8_feed_2 ?_
  refine M.ldc2 (pc := 3) (8) lc_X8_74 (by decide +kernel) dX8_feed_3 ?_
  refine M.pS (pc := 6) (c_X8_in  (by first | assumption | omega) (by first | assumption | omega) (by first | assumption | omega)) ms_X8_63 [] rfl rfl rfl rfl (Nat.le_of_ble_eq_true rfl) rfl ⟨(Nat.le_of_ble_eq_true rfl), (Nat.le_of_ble_eq_true rfl)⟩ ⟨(Nat.le_of_ble_eq_true rfl), (Nat.le_of_ble_eq_true rfl)⟩ rfl dX8_feed_6 ?_
  refine M.if_neP (pc := 9) (tgt := 15) dX8_feed_9 (by decide) (fun c9 => ?_) (fun c9 => ?_)
  · refine M.aloadn (pc := 15) 0 rfl rfl dX8_feed_15 ?_
    refine M.getf (pc := 16) fg_X8_77 0 rfl rfl dX8_feed_16 ?_
    refine M.iloadn (pc := 19) 1 rfl rfl dX8_feed_19 ?_
    refine M.iadd (pc := 20) dX8_feed_20 ?_
    refine M.sipush (pc := 21) (by decide +kernel) dX8_feed_21 ?_
    refine M.icmp_le (pc := 24) (tgt := 30) dX8_feed_24 (by decide) (by omega) (by omega) (fun c24 => ?_) (fun c24 => ?_)
    · have hok : (1 ≤ n ∧ n ≤ 8) ∧ vt + n ≤ 400 := by omega
      refine M.iloadn (pc := 30) 1 rfl rfl dX8_feed_30 ?_
      refine M.iconst (pc := 31) dX8_feed_31 ?_
      refine M.isub (pc := 32) dX8_feed_32 ?_
      refine M.istore (pc := 33) (i := 4) (Nat.le_of_ble_eq_true rfl) rfl dX8_feed_33 ?_
      dsimp only [List.set_cons_zero, List.set_cons_succ]
      have L35 : ∀ (fu : Nat) {k t : Int} {g : Int → Int}, (-1 ≤ k ∧ k < n) → (t = vt + n - 1 - k) → (∀ j, g j = if vt ≤ j ∧ j < t then byt x (vt + n - 1 - j) else gx j) → (k + 1).toNat < fu → V 0 0 35 [(m, eO 8 [.int (iI vb), .ref aBath, .int (iI vn), .ref aBather, .int (iI vo), .int (iI vm), .ref aMorn, .int (iI vs), .ref aText, .int (iI t), .int (iI vf), .int (iI va), .long (lI vsd), .int (iI vw), .int (iI vu), .int (iI vna), .int (iI vrb), .ref aRB, .int (iI vrn), .ref aRN, .int (iI vro), .ref aLow, .ref aHigh, .int (iI (pI (vch = true))), .ref aNeeds, .ref aLikes, .ref aHts, .int (iI vtr), .int (iI vbk), .ref aBook, .ref aImg, .ref aKept]), (aText, eI G 400 g)] [some (.ref m), some (.int (iI n)), some (.long (lI x)), none, some (.int (iI k))] [] := by
        intro fu
        induction fu with
        | zero => intro k t g hk0 ht hg hm; exact absurd hm (Nat.not_lt_zero _)
        | succ fu ih35 =>
          intro k t g hk0 ht hg hm35
          refine M.iload (pc := 35) (i := 4) rfl dX8_feed_35 ?_
          refine M.if_lt (pc := 37) (tgt := 77) dX8_feed_37 (by decide) (by omega) (fun c37 => ?_) (fun c37 => ?_)
          · refine M.aloadn (pc := 77) 0 rfl rfl dX8_feed_77 ?_
            refine M.getf (pc := 78) fg_X8_77 0 rfl rfl dX8_feed_78 ?_
            have hkm : k = -1 := by omega
            have htn : t = vt + n := by omega
            subst htn
            have hgE : g = txF x n vt gx := by
              funext j
              rw [hg j]
              rfl
            exact EI () _ _ _ _ dX8_feed_81 (Or.inl rfl) (eqI (by unfold aFeed; rw [if_neg (by omega), if_neg (by omega)])) (by unfold fdN fdG; rw [if_pos hok, if_pos hok, hgE]) (trivial)
          · refine M.aloadn (pc := 40) 0 rfl rfl dX8_feed_40 ?_
            refine M.getf (pc := 41) fg_X8_23 0 rfl rfl dX8_feed_41 ?_
            refine M.aloadn (pc := 44) 0 rfl rfl dX8_feed_44 ?_
            refine M.getf (pc := 45) fg_X8_77 0 rfl rfl dX8_feed_45 ?_
            refine M.lloadn (pc := 48) 2 rfl rfl dX8_feed_48 ?_
            refine M.bipush (pc := 49) (by decide +kernel) dX8_feed_49 ?_
            refine M.iload (pc := 51) (i := 4) rfl dX8_feed_51 ?_
            refine M.imul (pc := 53) dX8_feed_53 ?_
            refine M.lshr (pc := 54) (lshr_ok hrx (by omega) (by omega)) dX8_feed_54 ?_
            refine M.ldc2 (pc := 55) (255) lc_X8_81 (by decide +kernel) dX8_feed_55 ?_
            refine M.land (pc := 58) (land_ok255 _) dX8_feed_58 ?_
            have hbt := byt_b x k
            rw [show x / ((2 ^ (8 * k).toNat : Nat) : Int) % 256 = byt x k from rfl]
            refine M.l2i (pc := 59) dX8_feed_59 ?_
            refine M.iast (pc := 60) 1 rfl (by omega) (by omega) dX8_feed_60 ?_
            dsimp only [List.set_cons_zero, List.set_cons_succ]
            refine M.aloadn (pc := 61) 0 rfl rfl dX8_feed_61 ?_
            refine M.dup (pc := 62) rfl dX8_feed_62 ?_
            refine M.getf (pc := 63) fg_X8_77 0 rfl rfl dX8_feed_63 ?_
            refine M.iconst (pc := 66) dX8_feed_66 ?_
            refine M.iadd (pc := 67) dX8_feed_67 ?_
            refine M.putf (pc := 68) fp_X8_77 0 rfl rfl rfl (Nat.le_of_ble_eq_true rfl) dX8_feed_68 ?_
            dsimp only [List.set_cons_zero, List.set_cons_succ]
            refine M.iinc (pc := 71) (i := 4) rfl rfl dX8_feed_71 ?_
            dsimp only [List.set_cons_zero, List.set_cons_succ]
            refine M.goto (pc := 74) (tgt := 35) dX8_feed_74 (by decide) ?_
            have hgn : ∀ j, upZ g t (byt x k) j = if vt ≤ j ∧ j < t + 1 then byt x (vt + n - 1 - j) else gx j := by
              intro j
              by_cases e : j = t
              · rw [e, upZ_s, if_pos (by omega), show vt + n - 1 - t = k by omega]
              · rw [upZ_n e, hg j]
                exact ifOr (by omega) _ _
            exact ih35  (by first | assumption | omega) (by first | assumption | omega) (by exact hgn) (by omega)
      exact L35 _  (by first | assumption | omega) (by first | assumption | omega) (by intro j; rw [if_neg (by omega)]) (Nat.lt_succ_self _)
    · refine M.ldc (pc := 27) (-1000000004) lc_X8_80 (by decide +kernel) dX8_feed_27 ?_
      have hno : ¬ ((1 ≤ n ∧ n ≤ 8) ∧ vt + n ≤ 400) := by omega
      exact EI () _ _ _ _ dX8_feed_29 (Or.inl rfl) (eqI (by unfold aFeed; rw [if_neg (by omega), if_pos (by omega)])) (by unfold fdN fdG; rw [if_neg hno, if_neg hno]) (trivial)
  · refine M.ldc (pc := 12) (-1000000002) lc_X8_76 (by decide +kernel) dX8_feed_12 ?_
    have hno : ¬ ((1 ≤ n ∧ n ≤ 8) ∧ vt + n ≤ 400) := by omega
    exact EI () _ _ _ _ dX8_feed_14 (Or.inl rfl) (eqI (by unfold aFeed; rw [if_pos (by omega)])) (by unfold fdN fdG; rw [if_neg hno, if_neg hno]) (trivial)
