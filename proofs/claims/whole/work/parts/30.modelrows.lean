/-! the reference's reader: a bath, a bather -/
def bthN (s : Int → Int) (q : Int × Int) (e : Int) : Int × Int := fl (fl (fl (fl q (nF s 1 99 e) (nS s e)) (nF s 1 99 (nE s e)) (nS s (nE s e))) (nF s 0 9999 (nE s (nE s e))) (nS s (nE s (nE s e)))) (nF s 0 99 (nE s (nE s (nE s e)))) (nS s (nE s (nE s (nE s e))))
theorem bthQ_e (s : Int → Int) (q : Int × Int) (e : Int) : bthQ s q e = edQ s (bthN s q e) (nE s (nE s (nE s (nE s e)))) := rfl
def brN (s : Int → Int) (q : Int × Int) (e : Int) : Int × Int :=
  fl (fl (fl (fl (fl (fl q (nF s 1 999 e) (nS s e)) (nF s 1 999 (nE s e)) (nS s (nE s e))) (if nV s (nE s e) < nV s e then 4 else 0) (nS s (nE s e)))
    (nF s 1 999 (nE s (nE s e))) (nS s (nE s (nE s e)))) (if nV s (nE s (nE s e)) < nV s e ∨ nV s (nE s e) < nV s (nE s (nE s e)) then 4 else 0) (nS s (nE s (nE s e))))
    (nF s 0 100 (nE s (nE s (nE s e)))) (nS s (nE s (nE s (nE s e))))
theorem brQ_e (s : Int → Int) (q : Int × Int) (e : Int) : brQ s q e = edQ s (brN s q e) (nE s (nE s (nE s (nE s e)))) := rfl
set_option maxHeartbeats 4000000 in
set_option maxRecDepth 100000 in
theorem c_X8_takeBath {l : Launch} {G : GT} {m aBath aBather aMorn aText aRB aRN aLow aHigh aNeeds aLikes aHts aBook aImg aKept : Nat} {vb vn vo vm vs vt vf va vw vu vna vrb vrn vro vtr vbk vsd : Int} {vch : Bool} {gx : Int → Int} {grb : Int → Int} {s : Int → Int} (hT : TXT s vt) (hsg : ∀ i, 0 ≤ i → i < vt → s i = gx i) (ha : 0 ≤ va ∧ va ≤ vt) (hrb : 0 ≤ vrb ∧ vrb < 2) : Con l G yX8_takeBath cX8_takeBath 3 (some .int) { frames := 3, cells := 0, slots := 0, locals := 73 } [.ref m] [(m, eO 8 [.int (iI vb), .ref aBath, .int (iI vn), .ref aBather, .int (iI vo), .int (iI vm), .ref aMorn, .int (iI vs), .ref aText, .int (iI vt), .int (iI (-1)), .int (iI va), .long (lI vsd), .int (iI vw), .int (iI vu), .int (iI vna), .int (iI vrb), .ref aRB, .int (iI vrn), .ref aRN, .int (iI vro), .ref aLow, .ref aHigh, .int (iI (pI (vch = true))), .ref aNeeds, .ref aLikes, .ref aHts, .int (iI vtr), .int (iI vbk), .ref aBook, .ref aImg, .ref aKept]), (aText, eI G 400 gx), (aRB, eI G 8 grb)] (S := Int × Int × Int × (Int → Int)) (fun _ => some (.int (iI (bthN s q0 va).1))) (fun u => [(m, eO 8 [.int (iI vb), .ref aBath, .int (iI vn), .ref aBather, .int (iI vo), .int (iI vm), .ref aMorn, .int (iI vs), .ref aText, .int (iI vt), .int (iI (bthN s q0 va).2), .int (iI u.1), .long (lI vsd), .int (iI vw), .int (iI u.2.1), .int (iI u.2.2.1), .int (iI (vrb + 1)), .ref aRB, .int (iI vrn), .ref aRN, .int (iI vro), .ref aLow, .ref aHigh, .int (iI (pI (vch = true))), .ref aNeeds, .ref aLikes, .ref aHts, .int (iI vtr), .int (iI vbk), .ref aBook, .ref aImg, .ref aKept]), (aText, eI G 400 gx), (aRB, eI G 8 u.2.2.2)]) (fun u => (bthN s q0 va).1 = 0 → u.1 = (nE s (nE s (nE s (nE s va)))) ∧ u.2.2.2 = ad4 grb vrb (nV s va) (nV s (nE s va)) (nV s (nE s (nE s va))) (nV s (nE s (nE s (nE s va))))) := by
  refine Con.mk (by decide +kernel) [some (.ref m), none, none] rfl (Nat.le_of_ble_eq_true rfl) rfl ?_
  intro V M EI EL EV EA
  have hL := hT.1
  have s1 := nS_ok (i := va) hT (by omega) (by omega)
  have e1 := nE_ok (i := va) hT (by omega) (by omega)
  have s2 := nS_ok (i := (nE s va)) hT (by omega) (by omega)
  have e2 := nE_ok (i := (nE s va)) hT (by omega) (by omega)
  have s3 := nS_ok (i := (nE s (nE s va))) hT (by omega) (by omega)
  have e3 := nE_ok (i := (nE s (nE s va))) hT (by omega) (by omega)
  have s4 := nS_ok (i := (nE s (nE s (nE s va)))) hT (by omega) (by omega)
  have e4 := nE_ok (i := (nE s (nE s (nE s va)))) hT (by omega) (by omega)
  have g1 : FOK (fl q0 (nF s 1 99 va) (nS s va)) := nfl_ok hT q0_ok (by omega) (by omega)
  have g1b := g1.1
  have g2 : FOK (fl (fl q0 (nF s 1 99 va) (nS s va)) (nF s 1 99 (nE s va)) (nS s (nE s va))) := nfl_ok hT g1 (by omega) (by omega)
  have g2b := g2.1
  have g3 : FOK (fl (fl (fl q0 (nF s 1 99 va) (nS s va)) (nF s 1 99 (nE s va)) (nS s (nE s va))) (nF s 0 9999 (nE s (nE s va))) (nS s (nE s (nE s va)))) := nfl_ok hT g2 (by omega) (by omega)
  have g3b := g3.1
  have g4 : FOK (fl (fl (fl (fl q0 (nF s 1 99 va) (nS s va)) (nF s 1 99 (nE s va)) (nS s (nE s va))) (nF s 0 9999 (nE s (nE s va))) (nS s (nE s (nE s va)))) (nF s 0 99 (nE s (nE s (nE s va)))) (nS s (nE s (nE s (nE s va))))) := nfl_ok hT g3 (by omega) (by omega)
  have g4b := g4.1
  refine M.iconst (pc := 0) dX8_takeBath_0 ?_
  refine M.aloadn (pc := 1) 0 rfl rfl dX8_takeBath_1 ?_
  refine M.getf (pc := 2) fg_X8_127 0 rfl rfl dX8_takeBath_2 ?_
  refine M.imul (pc := 5) dX8_takeBath_5 ?_
  rw [show (4 : Int) * vrb = vrb * 4 from Int.mul_comm _ _]
  refine M.istoren (pc := 6) 1 rfl (Nat.le_of_ble_eq_true rfl) rfl dX8_takeBath_6 ?_
  dsimp only [List.set_cons_zero, List.set_cons_succ]
  refine M.aloadn (pc := 7) 0 rfl rfl dX8_takeBath_7 ?_
  refine M.dup (pc := 8) rfl dX8_takeBath_8 ?_
  refine M.getf (pc := 9) fg_X8_127 0 rfl rfl dX8_takeBath_9 ?_
  refine M.iconst (pc := 12) dX8_takeBath_12 ?_
  refine M.iadd (pc := 13) dX8_takeBath_13 ?_
  refine M.putf (pc := 14) fp_X8_127 0 rfl rfl rfl (Nat.le_of_ble_eq_true rfl) dX8_takeBath_14 ?_
  dsimp only [List.set_cons_zero, List.set_cons_succ]
  refine M.aloadn (pc := 17) 0 rfl rfl dX8_takeBath_17 ?_
  refine M.aloadn (pc := 18) 0 rfl rfl dX8_takeBath_18 ?_
  refine M.getf (pc := 19) fg_X8_29 0 rfl rfl dX8_takeBath_19 ?_
  refine M.iloadn (pc := 22) 1 rfl rfl dX8_takeBath_22 ?_
  refine M.iconst (pc := 23) dX8_takeBath_23 ?_
  refine M.bipush (pc := 24) (by decide +kernel) dX8_takeBath_24 ?_
  refine M.mV (pc := 26) (c_X8_into (q := q0) (N := 8) (vf := 0) (by first | assumption | omega) (by first | assumption | omega) (by first | assumption | omega) (by rfl) (by first | assumption | omega) (by first | assumption | omega) (by omega) (by omega)) mv_X8_130 [0, 1, 2] rfl rfl rfl 0 rfl rfl rfl rfl (Nat.le_of_ble_eq_true rfl) rfl ⟨(Nat.le_of_ble_eq_true rfl), (Nat.le_of_ble_eq_true rfl)⟩ ⟨(Nat.le_of_ble_eq_true rfl), (Nat.le_of_ble_eq_true rfl)⟩ rfl (fun _ => rfl) dX8_takeBath_26 (fun u26 hu26 => ?_)
  obtain ⟨n26, p26⟩ := u26
  dsimp only [putL, List.set_cons_zero, List.set_cons_succ, Option.toList, List.cons_append, List.nil_append] at hu26 ⊢
  refine M.istoren (pc := 29) 2 rfl (Nat.le_of_ble_eq_true rfl) rfl dX8_takeBath_29 ?_
  dsimp only [List.set_cons_zero, List.set_cons_succ]
  have L52 : ∀ {z y a2 n2 p2 : Int} {g2 : Int → Int}, (z = ((fl (fl q0 (nF s 1 99 va) (nS s va)) (nF s 1 99 (nE s va)) (nS s (nE s va)))).1) → (y = ((fl (fl q0 (nF s 1 99 va) (nS s va)) (nF s 1 99 (nE s va)) (nS s (nE s va)))).2) → (((fl (fl q0 (nF s 1 99 va) (nS s va)) (nF s 1 99 (nE s va)) (nS s (nE s va)))).1 = 0 → a2 = (nE s (nE s va)) ∧ g2 = (upZ (upZ grb (vrb * 4) (nV s va)) (vrb * 4 + 1) (nV s (nE s va)))) → V 0 0 52 [(m, eO 8 [.int (iI vb), .ref aBath, .int (iI vn), .ref aBather, .int (iI vo), .int (iI vm), .ref aMorn, .int (iI vs), .ref aText, .int (iI vt), .int (iI y), .int (iI a2), .long (lI vsd), .int (iI vw), .int (iI n2), .int (iI p2), .int (iI (vrb + 1)), .ref aRB, .int (iI vrn), .ref aRN, .int (iI vro), .ref aLow, .ref aHigh, .int (iI (pI (vch = true))), .ref aNeeds, .ref aLikes, .ref aHts, .int (iI vtr), .int (iI vbk), .ref aBook, .ref aImg, .ref aKept]), (aText, eI G 400 gx), (aRB, eI G 8 g2)] [some (.ref m), some (.int (iI (vrb * 4))), none] [.int (iI z)] := by
    intro z y a2 n2 p2 g2 hz hy hk
    subst hz hy
    refine M.istoren (pc := 52) 2 rfl (Nat.le_of_ble_eq_true rfl) rfl dX8_takeBath_52 ?_
    dsimp only [List.set_cons_zero, List.set_cons_succ]
    have L76 : ∀ {z y a2 n2 p2 : Int} {g2 : Int → Int}, (z = ((fl (fl (fl q0 (nF s 1 99 va) (nS s va)) (nF s 1 99 (nE s va)) (nS s (nE s va))) (nF s 0 9999 (nE s (nE s va))) (nS s (nE s (nE s va))))).1) → (y = ((fl (fl (fl q0 (nF s 1 99 va) (nS s va)) (nF s 1 99 (nE s va)) (nS s (nE s va))) (nF s 0 9999 (nE s (nE s va))) (nS s (nE s (nE s va))))).2) → (((fl (fl (fl q0 (nF s 1 99 va) (nS s va)) (nF s 1 99 (nE s va)) (nS s (nE s va))) (nF s 0 9999 (nE s (nE s va))) (nS s (nE s (nE s va))))).1 = 0 → a2 = (nE s (nE s (nE s va))) ∧ g2 = (upZ (upZ (upZ grb (vrb * 4) (nV s va)) (vrb * 4 + 1) (nV s (nE s va))) (vrb * 4 + 2) (nV s (nE s (nE s va))))) → V 0 0 76 [(m, eO 8 [.int (iI vb), .ref aBath, .int (iI vn), .ref aBather, .int (iI vo), .int (iI vm), .ref aMorn, .int (iI vs), .ref aText, .int (iI vt), .int (iI y), .int (iI a2), .long (lI vsd), .int (iI vw), .int (iI n2), .int (iI p2), .int (iI (vrb + 1)), .ref aRB, .int (iI vrn), .ref aRN, .int (iI vro), .ref aLow, .ref aHigh, .int (iI (pI (vch = true))), .ref aNeeds, .ref aLikes, .ref aHts, .int (iI vtr), .int (iI vbk), .ref aBook, .ref aImg, .ref aKept]), (aText, eI G 400 gx), (aRB, eI G 8 g2)] [some (.ref m), some (.int (iI (vrb * 4))), none] [.int (iI z)] := by
      intro z y a2 n2 p2 g2 hz hy hk
      subst hz hy
      refine M.istoren (pc := 76) 2 rfl (Nat.le_of_ble_eq_true rfl) rfl dX8_takeBath_76 ?_
      dsimp only [List.set_cons_zero, List.set_cons_succ]
      have L99 : ∀ {z y a2 n2 p2 : Int} {g2 : Int → Int}, (z = ((fl (fl (fl (fl q0 (nF s 1 99 va) (nS s va)) (nF s 1 99 (nE s va)) (nS s (nE s va))) (nF s 0 9999 (nE s (nE s va))) (nS s (nE s (nE s va)))) (nF s 0 99 (nE s (nE s (nE s va)))) (nS s (nE s (nE s (nE s va)))))).1) → (y = ((fl (fl (fl (fl q0 (nF s 1 99 va) (nS s va)) (nF s 1 99 (nE s va)) (nS s (nE s va))) (nF s 0 9999 (nE s (nE s va))) (nS s (nE s (nE s va)))) (nF s 0 99 (nE s (nE s (nE s va)))) (nS s (nE s (nE s (nE s va)))))).2) → (((fl (fl (fl (fl q0 (nF s 1 99 va) (nS s va)) (nF s 1 99 (nE s va)) (nS s (nE s va))) (nF s 0 9999 (nE s (nE s va))) (nS s (nE s (nE s va)))) (nF s 0 99 (nE s (nE s (nE s va)))) (nS s (nE s (nE s (nE s va)))))).1 = 0 → a2 = (nE s (nE s (nE s (nE s va)))) ∧ g2 = (upZ (upZ (upZ (upZ grb (vrb * 4) (nV s va)) (vrb * 4 + 1) (nV s (nE s va))) (vrb * 4 + 2) (nV s (nE s (nE s va)))) (vrb * 4 + 3) (nV s (nE s (nE s (nE s va)))))) → V 0 0 99 [(m, eO 8 [.int (iI vb), .ref aBath, .int (iI vn), .ref aBather, .int (iI vo), .int (iI vm), .ref aMorn, .int (iI vs), .ref aText, .int (iI vt), .int (iI y), .int (iI a2), .long (lI vsd), .int (iI vw), .int (iI n2), .int (iI p2), .int (iI (vrb + 1)), .ref aRB, .int (iI vrn), .ref aRN, .int (iI vro), .ref aLow, .ref aHigh, .int (iI (pI (vch = true))), .ref aNeeds, .ref aLikes, .ref aHts, .int (iI vtr), .int (iI vbk), .ref aBook, .ref aImg, .ref aKept]), (aText, eI G 400 gx), (aRB, eI G 8 g2)] [some (.ref m), none, none] [.int (iI z)] := by
        intro z y a2 n2 p2 g2 hz hy hk
        subst hz hy
        exact EI (a2, n2, p2, g2) _ _ _ _ dX8_takeBath_99 (Or.inl rfl) (rfl) (rfl) (hk)
      refine M.iloadn (pc := 77) 2 rfl rfl dX8_takeBath_77 ?_
      refine M.if_le (pc := 78) (tgt := 85) dX8_takeBath_78 (by decide) (by omega) (fun c78 => ?_) (fun c78 => ?_)
      · have hq1 : ((fl (fl (fl q0 (nF s 1 99 va) (nS s va)) (nF s 1 99 (nE s va)) (nS s (nE s va))) (nF s 0 9999 (nE s (nE s va))) (nS s (nE s (nE s va))))).1 = 0 := by omega
        obtain ⟨ea, eg⟩ := hk hq1
        subst ea eg
        refine M.aloadn (pc := 85) 0 rfl rfl dX8_takeBath_85 ?_
        refine M.aloadn (pc := 86) 0 rfl rfl dX8_takeBath_86 ?_
        refine M.getf (pc := 87) fg_X8_29 0 rfl rfl dX8_takeBath_87 ?_
        refine M.iloadn (pc := 90) 1 rfl rfl dX8_takeBath_90 ?_
        refine M.iconst (pc := 91) dX8_takeBath_91 ?_
        refine M.iadd (pc := 92) dX8_takeBath_92 ?_
        refine M.iconst (pc := 93) dX8_takeBath_93 ?_
        refine M.bipush (pc := 94) (by decide +kernel) dX8_takeBath_94 ?_
        refine M.mV (pc := 96) (c_X8_into (q := (fl (fl (fl q0 (nF s 1 99 va) (nS s va)) (nF s 1 99 (nE s va)) (nS s (nE s va))) (nF s 0 9999 (nE s (nE s va))) (nS s (nE s (nE s va))))) (N := 8) (vf := 0) (by first | assumption | omega) (by first | assumption | omega) (by omega) (by exact hq1) (by first | assumption | omega) (by first | assumption | omega) (by omega) (by omega)) mv_X8_130 [0, 1, 2] rfl rfl rfl 0 rfl rfl rfl rfl (Nat.le_of_ble_eq_true rfl) rfl ⟨(Nat.le_of_ble_eq_true rfl), (Nat.le_of_ble_eq_true rfl)⟩ ⟨(Nat.le_of_ble_eq_true rfl), (Nat.le_of_ble_eq_true rfl)⟩ rfl (fun _ => rfl) dX8_takeBath_96 (fun u96 hu96 => ?_)
        obtain ⟨n96, p96⟩ := u96
        dsimp only [putL, List.set_cons_zero, List.set_cons_succ, Option.toList, List.cons_append, List.nil_append] at hu96 ⊢
        refine M.forget 1 ?_
        dsimp only [List.set_cons_zero, List.set_cons_succ]
        refine M.forget 2 ?_
        dsimp only [List.set_cons_zero, List.set_cons_succ]
        exact L99  (by rfl) (by rfl) (by intro w; exact ⟨rfl, by rw [(hu96 w).1]⟩)
      · refine M.iloadn (pc := 81) 2 rfl rfl dX8_takeBath_81 ?_
        refine M.goto (pc := 82) (tgt := 99) dX8_takeBath_82 (by decide) ?_
        refine M.forget 1 ?_
        dsimp only [List.set_cons_zero, List.set_cons_succ]
        refine M.forget 2 ?_
        dsimp only [List.set_cons_zero, List.set_cons_succ]
        have e : (fl (fl (fl (fl q0 (nF s 1 99 va) (nS s va)) (nF s 1 99 (nE s va)) (nS s (nE s va))) (nF s 0 9999 (nE s (nE s va))) (nS s (nE s (nE s va)))) (nF s 0 99 (nE s (nE s (nE s va)))) (nS s (nE s (nE s (nE s va))))) = (fl (fl (fl q0 (nF s 1 99 va) (nS s va)) (nF s 1 99 (nE s va)) (nS s (nE s va))) (nF s 0 9999 (nE s (nE s va))) (nS s (nE s (nE s va)))) := fl_n (by omega)
        exact L99  (by rw [e]) (by rw [e]) (by intro w; rw [e] at w; omega)
    refine M.iloadn (pc := 53) 2 rfl rfl dX8_takeBath_53 ?_
    refine M.if_le (pc := 54) (tgt := 61) dX8_takeBath_54 (by decide) (by omega) (fun c54 => ?_) (fun c54 => ?_)
    · have hq1 : ((fl (fl q0 (nF s 1 99 va) (nS s va)) (nF s 1 99 (nE s va)) (nS s (nE s va)))).1 = 0 := by omega
      obtain ⟨ea, eg⟩ := hk hq1
      subst ea eg
      refine M.aloadn (pc := 61) 0 rfl rfl dX8_takeBath_61 ?_
      refine M.aloadn (pc := 62) 0 rfl rfl dX8_takeBath_62 ?_
      refine M.getf (pc := 63) fg_X8_29 0 rfl rfl dX8_takeBath_63 ?_
      refine M.iloadn (pc := 66) 1 rfl rfl dX8_takeBath_66 ?_
      refine M.iconst (pc := 67) dX8_takeBath_67 ?_
      refine M.iadd (pc := 68) dX8_takeBath_68 ?_
      refine M.iconst (pc := 69) dX8_takeBath_69 ?_
      refine M.sipush (pc := 70) (by decide +kernel) dX8_takeBath_70 ?_
      refine M.mV (pc := 73) (c_X8_into (q := (fl (fl q0 (nF s 1 99 va) (nS s va)) (nF s 1 99 (nE s va)) (nS s (nE s va)))) (N := 8) (vf := 0) (by first | assumption | omega) (by first | assumption | omega) (by omega) (by exact hq1) (by first | assumption | omega) (by first | assumption | omega) (by omega) (by omega)) mv_X8_130 [0, 1, 2] rfl rfl rfl 0 rfl rfl rfl rfl (Nat.le_of_ble_eq_true rfl) rfl ⟨(Nat.le_of_ble_eq_true rfl), (Nat.le_of_ble_eq_true rfl)⟩ ⟨(Nat.le_of_ble_eq_true rfl), (Nat.le_of_ble_eq_true rfl)⟩ rfl (fun _ => rfl) dX8_takeBath_73 (fun u73 hu73 => ?_)
      obtain ⟨n73, p73⟩ := u73
      dsimp only [putL, List.set_cons_zero, List.set_cons_succ, Option.toList, List.cons_append, List.nil_append] at hu73 ⊢
      refine M.forget 2 ?_
      dsimp only [List.set_cons_zero, List.set_cons_succ]
      exact L76  (by rfl) (by rfl) (by intro w; exact ⟨rfl, by rw [(hu73 w).1]⟩)
    · refine M.iloadn (pc := 57) 2 rfl rfl dX8_takeBath_57 ?_
      refine M.goto (pc := 58) (tgt := 76) dX8_takeBath_58 (by decide) ?_
      refine M.forget 2 ?_
      dsimp only [List.set_cons_zero, List.set_cons_succ]
      have e : (fl (fl (fl q0 (nF s 1 99 va) (nS s va)) (nF s 1 99 (nE s va)) (nS s (nE s va))) (nF s 0 9999 (nE s (nE s va))) (nS s (nE s (nE s va)))) = (fl (fl q0 (nF s 1 99 va) (nS s va)) (nF s 1 99 (nE s va)) (nS s (nE s va))) := fl_n (by omega)
      exact L76  (by rw [e]) (by rw [e]) (by intro w; rw [e] at w; omega)
  refine M.iloadn (pc := 30) 2 rfl rfl dX8_takeBath_30 ?_
  refine M.if_le (pc := 31) (tgt := 38) dX8_takeBath_31 (by decide) (by omega) (fun c31 => ?_) (fun c31 => ?_)
  · have hq1 : ((fl q0 (nF s 1 99 va) (nS s va))).1 = 0 := by omega
    refine M.aloadn (pc := 38) 0 rfl rfl dX8_takeBath_38 ?_
    refine M.aloadn (pc := 39) 0 rfl rfl dX8_takeBath_39 ?_
    refine M.getf (pc := 40) fg_X8_29 0 rfl rfl dX8_takeBath_40 ?_
    refine M.iloadn (pc := 43) 1 rfl rfl dX8_takeBath_43 ?_
    refine M.iconst (pc := 44) dX8_takeBath_44 ?_
    refine M.iadd (pc := 45) dX8_takeBath_45 ?_
    refine M.iconst (pc := 46) dX8_takeBath_46 ?_
    refine M.bipush (pc := 47) (by decide +kernel) dX8_takeBath_47 ?_
    refine M.mV (pc := 49) (c_X8_into (q := (fl q0 (nF s 1 99 va) (nS s va))) (N := 8) (vf := 0) (by first | assumption | omega) (by first | assumption | omega) (by omega) (by exact hq1) (by first | assumption | omega) (by first | assumption | omega) (by omega) (by omega)) mv_X8_130 [0, 1, 2] rfl rfl rfl 0 rfl rfl rfl rfl (Nat.le_of_ble_eq_true rfl) rfl ⟨(Nat.le_of_ble_eq_true rfl), (Nat.le_of_ble_eq_true rfl)⟩ ⟨(Nat.le_of_ble_eq_true rfl), (Nat.le_of_ble_eq_true rfl)⟩ rfl (fun _ => rfl) dX8_takeBath_49 (fun u49 hu49 => ?_)
    obtain ⟨n49, p49⟩ := u49
    dsimp only [putL, List.set_cons_zero, List.set_cons_succ, Option.toList, List.cons_append, List.nil_append] at hu49 ⊢
    refine M.forget 2 ?_
    dsimp only [List.set_cons_zero, List.set_cons_succ]
    exact L52  (by rfl) (by rfl) (by intro w; exact ⟨rfl, by rw [(hu26 hq1).1, (hu49 w).1]⟩)
  · refine M.iloadn (pc := 34) 2 rfl rfl dX8_takeBath_34 ?_
    refine M.goto (pc := 35) (tgt := 52) dX8_takeBath_35 (by decide) ?_
    refine M.forget 2 ?_
    dsimp only [List.set_cons_zero, List.set_cons_succ]
    have e : (fl (fl q0 (nF s 1 99 va) (nS s va)) (nF s 1 99 (nE s va)) (nS s (nE s va))) = (fl q0 (nF s 1 99 va) (nS s va)) := fl_n (by omega)
    exact L52  (by rw [e]) (by rw [e]) (by intro w; rw [e] at w; omega)
set_option maxHeartbeats 4000000 in
set_option maxRecDepth 100000 in
theorem c_X8_takeBather {l : Launch} {G : GT} {m aBath aBather aMorn aText aRB aRN aLow aHigh aNeeds aLikes aHts aBook aImg aKept : Nat} {vb vn vo vm vs vt vf va vw vu vna vrb vrn vro vtr vbk vsd : Int} {vch : Bool} {gx : Int → Int} {grn : Int → Int} {s : Int → Int} (hT : TXT s vt) (hsg : ∀ i, 0 ≤ i → i < vt → s i = gx i) (ha : 0 ≤ va ∧ va ≤ vt) (hrn : 0 ≤ vrn ∧ vrn < 6) : Con l G yX8_takeBather cX8_takeBather 3 (some .int) { frames := 3, cells := 0, slots := 0, locals := 73 } [.ref m] [(m, eO 8 [.int (iI vb), .ref aBath, .int (iI vn), .ref aBather, .int (iI vo), .int (iI vm), .ref aMorn, .int (iI vs), .ref aText, .int (iI vt), .int (iI (-1)), .int (iI va), .long (lI vsd), .int (iI vw), .int (iI vu), .int (iI vna), .int (iI vrb), .ref aRB, .int (iI vrn), .ref aRN, .int (iI vro), .ref aLow, .ref aHigh, .int (iI (pI (vch = true))), .ref aNeeds, .ref aLikes, .ref aHts, .int (iI vtr), .int (iI vbk), .ref aBook, .ref aImg, .ref aKept]), (aText, eI G 400 gx), (aRN, eI G 24 grn)] (S := Int × Int × Int × (Int → Int)) (fun _ => some (.int (iI (brN s q0 va).1))) (fun u => [(m, eO 8 [.int (iI vb), .ref aBath, .int (iI vn), .ref aBather, .int (iI vo), .int (iI vm), .ref aMorn, .int (iI vs), .ref aText, .int (iI vt), .int (iI (brN s q0 va).2), .int (iI u.1), .long (lI vsd), .int (iI vw), .int (iI u.2.1), .int (iI u.2.2.1), .int (iI vrb), .ref aRB, .int (iI (vrn + 1)), .ref aRN, .int (iI vro), .ref aLow, .ref aHigh, .int (iI (pI (vch = true))), .ref aNeeds, .ref aLikes, .ref aHts, .int (iI vtr), .int (iI vbk), .ref aBook, .ref aImg, .ref aKept]), (aText, eI G 400 gx), (aRN, eI G 24 u.2.2.2)]) (fun u => (brN s q0 va).1 = 0 → u.1 = (nE s (nE s (nE s (nE s va)))) ∧ u.2.2.2 = ad4 grn vrn (nV s va) (nV s (nE s va)) (nV s (nE s (nE s va))) (nV s (nE s (nE s (nE s va))))) := by
  refine Con.mk (by decide +kernel) [some (.ref m), none, none] rfl (Nat.le_of_ble_eq_true rfl) rfl ?_
  intro V M EI EL EV EA
  have hL := hT.1
  have s1 := nS_ok (i := va) hT (by omega) (by omega)
  have e1 := nE_ok (i := va) hT (by omega) (by omega)
  have s2 := nS_ok (i := (nE s va)) hT (by omega) (by omega)
  have e2 := nE_ok (i := (nE s va)) hT (by omega) (by omega)
  have s3 := nS_ok (i := (nE s (nE s va))) hT (by omega) (by omega)
  have e3 := nE_ok (i := (nE s (nE s va))) hT (by omega) (by omega)
  have s4 := nS_ok (i := (nE s (nE s (nE s va)))) hT (by omega) (by omega)
  have e4 := nE_ok (i := (nE s (nE s (nE s va)))) hT (by omega) (by omega)
  have g1 : FOK (fl q0 (nF s 1 999 va) (nS s va)) := nfl_ok hT q0_ok (by omega) (by omega)
  have g1b := g1.1
  have g2 : FOK (fl (fl q0 (nF s 1 999 va) (nS s va)) (nF s 1 999 (nE s va)) (nS s (nE s va))) := nfl_ok hT g1 (by omega) (by omega)
  have g2b := g2.1
  have g3 : FOK (fl (fl (fl q0 (nF s 1 999 va) (nS s va)) (nF s 1 999 (nE s va)) (nS s (nE s va))) (if (nV s (nE s va)) < (nV s va) then 4 else 0) (nS s (nE s va))) := fl_ok g2 (by split <;> omega) (by omega)
  have g3b := g3.1
  have g4 : FOK (fl (fl (fl (fl q0 (nF s 1 999 va) (nS s va)) (nF s 1 999 (nE s va)) (nS s (nE s va))) (if (nV s (nE s va)) < (nV s va) then 4 else 0) (nS s (nE s va))) (nF s 1 999 (nE s (nE s va))) (nS s (nE s (nE s va)))) := nfl_ok hT g3 (by omega) (by omega)
  have g4b := g4.1
  have g5 : FOK (fl (fl (fl (fl (fl q0 (nF s 1 999 va) (nS s va)) (nF s 1 999 (nE s va)) (nS s (nE s va))) (if (nV s (nE s va)) < (nV s va) then 4 else 0) (nS s (nE s va))) (nF s 1 999 (nE s (nE s va))) (nS s (nE s (nE s va)))) (if (nV s (nE s (nE s va))) < (nV s va) ∨ (nV s (nE s va)) < (nV s (nE s (nE s va))) then 4 else 0) (nS s (nE s (nE s va)))) := fl_ok g4 (by split <;> omega) (by omega)
  have g5b := g5.1
  have g6 : FOK (fl (fl (fl (fl (fl (fl q0 (nF s 1 999 va) (nS s va)) (nF s 1 999 (nE s va)) (nS s (nE s va))) (if (nV s (nE s va)) < (nV s va) then 4 else 0) (nS s (nE s va))) (nF s 1 999 (nE s (nE s va))) (nS s (nE s (nE s va)))) (if (nV s (nE s (nE s va))) < (nV s va) ∨ (nV s (nE s va)) < (nV s (nE s (nE s va))) then 4 else 0) (nS s (nE s (nE s va)))) (nF s 0 100 (nE s (nE s (nE s va)))) (nS s (nE s (nE s (nE s va))))) := nfl_ok hT g5 (by omega) (by omega)
  have g6b := g6.1
  refine M.iconst (pc := 0) dX8_takeBather_0 ?_
  refine M.aloadn (pc := 1) 0 rfl rfl dX8_takeBather_1 ?_
  refine M.getf (pc := 2) fg_X8_134 0 rfl rfl dX8_takeBather_2 ?_
  refine M.imul (pc := 5) dX8_takeBather_5 ?_
  rw [show (4 : Int) * vrn = vrn * 4 from Int.mul_comm _ _]
  refine M.istoren (pc := 6) 1 rfl (Nat.le_of_ble_eq_true rfl) rfl dX8_takeBather_6 ?_
  dsimp only [List.set_cons_zero, List.set_cons_succ]
  refine M.aloadn (pc := 7) 0 rfl rfl dX8_takeBather_7 ?_
  refine M.dup (pc := 8) rfl dX8_takeBather_8 ?_
  refine M.getf (pc := 9) fg_X8_134 0 rfl rfl dX8_takeBather_9 ?_
  refine M.iconst (pc := 12) dX8_takeBather_12 ?_
  refine M.iadd (pc := 13) dX8_takeBather_13 ?_
  refine M.putf (pc := 14) fp_X8_134 0 rfl rfl rfl (Nat.le_of_ble_eq_true rfl) dX8_takeBather_14 ?_
  dsimp only [List.set_cons_zero, List.set_cons_succ]
  refine M.aloadn (pc := 17) 0 rfl rfl dX8_takeBather_17 ?_
  refine M.aloadn (pc := 18) 0 rfl rfl dX8_takeBather_18 ?_
  refine M.getf (pc := 19) fg_X8_32 0 rfl rfl dX8_takeBather_19 ?_
  refine M.iloadn (pc := 22) 1 rfl rfl dX8_takeBather_22 ?_
  refine M.iconst (pc := 23) dX8_takeBather_23 ?_
  refine M.sipush (pc := 24) (by decide +kernel) dX8_takeBather_24 ?_
  refine M.mV (pc := 27) (c_X8_into (N := 24) (vf := 0) (q := q0) (by first | assumption | omega) (by first | assumption | omega) (by first | assumption | omega) (by rfl) (by first | assumption | omega) (by first | assumption | omega) (by omega) (by omega)) mv_X8_130 [0, 1, 2] rfl rfl rfl 0 rfl rfl rfl rfl (Nat.le_of_ble_eq_true rfl) rfl ⟨(Nat.le_of_ble_eq_true rfl), (Nat.le_of_ble_eq_true rfl)⟩ ⟨(Nat.le_of_ble_eq_true rfl), (Nat.le_of_ble_eq_true rfl)⟩ rfl (fun _ => rfl) dX8_takeBather_27 (fun u27 hu27 => ?_)
  obtain ⟨n27, p27⟩ := u27
  dsimp only [putL, List.set_cons_zero, List.set_cons_succ, Option.toList, List.cons_append, List.nil_append] at hu27 ⊢
  refine M.istoren (pc := 30) 2 rfl (Nat.le_of_ble_eq_true rfl) rfl dX8_takeBather_30 ?_
  dsimp only [List.set_cons_zero, List.set_cons_succ]
  have L54 : ∀ {z y a2 n2 p2 : Int} {g2 : Int → Int}, (z = ((fl (fl q0 (nF s 1 999 va) (nS s va)) (nF s 1 999 (nE s va)) (nS s (nE s va)))).1) → (y = ((fl (fl q0 (nF s 1 999 va) (nS s va)) (nF s 1 999 (nE s va)) (nS s (nE s va)))).2) → (((fl (fl q0 (nF s 1 999 va) (nS s va)) (nF s 1 999 (nE s va)) (nS s (nE s va)))).1 = 0 → (a2 = (nE s (nE s va)) ∧ g2 = (upZ (upZ grn (vrn * 4) (nV s va)) (vrn * 4 + 1) (nV s (nE s va)))) ∧ n2 = (nV s (nE s va)) ∧ p2 = (nS s (nE s va))) → V 0 0 54 [(m, eO 8 [.int (iI vb), .ref aBath, .int (iI vn), .ref aBather, .int (iI vo), .int (iI vm), .ref aMorn, .int (iI vs), .ref aText, .int (iI vt), .int (iI y), .int (iI a2), .long (lI vsd), .int (iI vw), .int (iI n2), .int (iI p2), .int (iI vrb), .ref aRB, .int (iI (vrn + 1)), .ref aRN, .int (iI vro), .ref aLow, .ref aHigh, .int (iI (pI (vch = true))), .ref aNeeds, .ref aLikes, .ref aHts, .int (iI vtr), .int (iI vbk), .ref aBook, .ref aImg, .ref aKept]), (aText, eI G 400 gx), (aRN, eI G 24 g2)] [some (.ref m), some (.int (iI (vrn * 4))), none] [.int (iI z)] := by
    intro z y a2 n2 p2 g2 hz hy hk
    subst hz hy
    refine M.istoren (pc := 54) 2 rfl (Nat.le_of_ble_eq_true rfl) rfl dX8_takeBather_54 ?_
    dsimp only [List.set_cons_zero, List.set_cons_succ]
    have L85 : ∀ {z y : Int}, (z = ((fl (fl (fl q0 (nF s 1 999 va) (nS s va)) (nF s 1 999 (nE s va)) (nS s (nE s va))) (if (nV s (nE s va)) < (nV s va) then 4 else 0) (nS s (nE s va)))).1) → (y = ((fl (fl (fl q0 (nF s 1 999 va) (nS s va)) (nF s 1 999 (nE s va)) (nS s (nE s va))) (if (nV s (nE s va)) < (nV s va) then 4 else 0) (nS s (nE s va)))).2) → (((fl (fl (fl q0 (nF s 1 999 va) (nS s va)) (nF s 1 999 (nE s va)) (nS s (nE s va))) (if (nV s (nE s va)) < (nV s va) then 4 else 0) (nS s (nE s va)))).1 = 0 → a2 = (nE s (nE s va)) ∧ g2 = (upZ (upZ grn (vrn * 4) (nV s va)) (vrn * 4 + 1) (nV s (nE s va)))) → V 0 0 85 [(m, eO 8 [.int (iI vb), .ref aBath, .int (iI vn), .ref aBather, .int (iI vo), .int (iI vm), .ref aMorn, .int (iI vs), .ref aText, .int (iI vt), .int (iI y), .int (iI a2), .long (lI vsd), .int (iI vw), .int (iI n2), .int (iI p2), .int (iI vrb), .ref aRB, .int (iI (vrn + 1)), .ref aRN, .int (iI vro), .ref aLow, .ref aHigh, .int (iI (pI (vch = true))), .ref aNeeds, .ref aLikes, .ref aHts, .int (iI vtr), .int (iI vbk), .ref aBook, .ref aImg, .ref aKept]), (aText, eI G 400 gx), (aRN, eI G 24 g2)] [some (.ref m), some (.int (iI (vrn * 4))), none] [.int (iI z)] := by
      intro z y hz hy hk2
      subst hz hy
      refine M.istoren (pc := 85) 2 rfl (Nat.le_of_ble_eq_true rfl) rfl dX8_takeBather_85 ?_
      dsimp only [List.set_cons_zero, List.set_cons_succ]
      have L109 : ∀ {z y a2 n2 p2 : Int} {g2 : Int → Int}, (z = ((fl (fl (fl (fl q0 (nF s 1 999 va) (nS s va)) (nF s 1 999 (nE s va)) (nS s (nE s va))) (if (nV s (nE s va)) < (nV s va) then 4 else 0) (nS s (nE s va))) (nF s 1 999 (nE s (nE s va))) (nS s (nE s (nE s va))))).1) → (y = ((fl (fl (fl (fl q0 (nF s 1 999 va) (nS s va)) (nF s 1 999 (nE s va)) (nS s (nE s va))) (if (nV s (nE s va)) < (nV s va) then 4 else 0) (nS s (nE s va))) (nF s 1 999 (nE s (nE s va))) (nS s (nE s (nE s va))))).2) → (((fl (fl (fl (fl q0 (nF s 1 999 va) (nS s va)) (nF s 1 999 (nE s va)) (nS s (nE s va))) (if (nV s (nE s va)) < (nV s va) then 4 else 0) (nS s (nE s va))) (nF s 1 999 (nE s (nE s va))) (nS s (nE s (nE s va))))).1 = 0 → (a2 = (nE s (nE s (nE s va))) ∧ g2 = (upZ (upZ (upZ grn (vrn * 4) (nV s va)) (vrn * 4 + 1) (nV s (nE s va))) (vrn * 4 + 2) (nV s (nE s (nE s va))))) ∧ n2 = (nV s (nE s (nE s va))) ∧ p2 = (nS s (nE s (nE s va)))) → V 0 0 109 [(m, eO 8 [.int (iI vb), .ref aBath, .int (iI vn), .ref aBather, .int (iI vo), .int (iI vm), .ref aMorn, .int (iI vs), .ref aText, .int (iI vt), .int (iI y), .int (iI a2), .long (lI vsd), .int (iI vw), .int (iI n2), .int (iI p2), .int (iI vrb), .ref aRB, .int (iI (vrn + 1)), .ref aRN, .int (iI vro), .ref aLow, .ref aHigh, .int (iI (pI (vch = true))), .ref aNeeds, .ref aLikes, .ref aHts, .int (iI vtr), .int (iI vbk), .ref aBook, .ref aImg, .ref aKept]), (aText, eI G 400 gx), (aRN, eI G 24 g2)] [some (.ref m), some (.int (iI (vrn * 4))), none] [.int (iI z)] := by
        intro z y a2 n2 p2 g2 hz hy hk
        subst hz hy
        refine M.istoren (pc := 109) 2 rfl (Nat.le_of_ble_eq_true rfl) rfl dX8_takeBather_109 ?_
        dsimp only [List.set_cons_zero, List.set_cons_succ]
        have L154 : ∀ {z y : Int}, (z = ((fl (fl (fl (fl (fl q0 (nF s 1 999 va) (nS s va)) (nF s 1 999 (nE s va)) (nS s (nE s va))) (if (nV s (nE s va)) < (nV s va) then 4 else 0) (nS s (nE s va))) (nF s 1 999 (nE s (nE s va))) (nS s (nE s (nE s va)))) (if (nV s (nE s (nE s va))) < (nV s va) ∨ (nV s (nE s va)) < (nV s (nE s (nE s va))) then 4 else 0) (nS s (nE s (nE s va))))).1) → (y = ((fl (fl (fl (fl (fl q0 (nF s 1 999 va) (nS s va)) (nF s 1 999 (nE s va)) (nS s (nE s va))) (if (nV s (nE s va)) < (nV s va) then 4 else 0) (nS s (nE s va))) (nF s 1 999 (nE s (nE s va))) (nS s (nE s (nE s va)))) (if (nV s (nE s (nE s va))) < (nV s va) ∨ (nV s (nE s va)) < (nV s (nE s (nE s va))) then 4 else 0) (nS s (nE s (nE s va))))).2) → (((fl (fl (fl (fl (fl q0 (nF s 1 999 va) (nS s va)) (nF s 1 999 (nE s va)) (nS s (nE s va))) (if (nV s (nE s va)) < (nV s va) then 4 else 0) (nS s (nE s va))) (nF s 1 999 (nE s (nE s va))) (nS s (nE s (nE s va)))) (if (nV s (nE s (nE s va))) < (nV s va) ∨ (nV s (nE s va)) < (nV s (nE s (nE s va))) then 4 else 0) (nS s (nE s (nE s va))))).1 = 0 → a2 = (nE s (nE s (nE s va))) ∧ g2 = (upZ (upZ (upZ grn (vrn * 4) (nV s va)) (vrn * 4 + 1) (nV s (nE s va))) (vrn * 4 + 2) (nV s (nE s (nE s va))))) → V 0 0 154 [(m, eO 8 [.int (iI vb), .ref aBath, .int (iI vn), .ref aBather, .int (iI vo), .int (iI vm), .ref aMorn, .int (iI vs), .ref aText, .int (iI vt), .int (iI y), .int (iI a2), .long (lI vsd), .int (iI vw), .int (iI n2), .int (iI p2), .int (iI vrb), .ref aRB, .int (iI (vrn + 1)), .ref aRN, .int (iI vro), .ref aLow, .ref aHigh, .int (iI (pI (vch = true))), .ref aNeeds, .ref aLikes, .ref aHts, .int (iI vtr), .int (iI vbk), .ref aBook, .ref aImg, .ref aKept]), (aText, eI G 400 gx), (aRN, eI G 24 g2)] [some (.ref m), some (.int (iI (vrn * 4))), none] [.int (iI z)] := by
          intro z y hz hy hk2
          subst hz hy
          refine M.istoren (pc := 154) 2 rfl (Nat.le_of_ble_eq_true rfl) rfl dX8_takeBather_154 ?_
          dsimp only [List.set_cons_zero, List.set_cons_succ]
          have L177 : ∀ {z y a2 n2 p2 : Int} {g2 : Int → Int}, (z = ((fl (fl (fl (fl (fl (fl q0 (nF s 1 999 va) (nS s va)) (nF s 1 999 (nE s va)) (nS s (nE s va))) (if (nV s (nE s va)) < (nV s va) then 4 else 0) (nS s (nE s va))) (nF s 1 999 (nE s (nE s va))) (nS s (nE s (nE s va)))) (if (nV s (nE s (nE s va))) < (nV s va) ∨ (nV s (nE s va)) < (nV s (nE s (nE s va))) then 4 else 0) (nS s (nE s (nE s va)))) (nF s 0 100 (nE s (nE s (nE s va)))) (nS s (nE s (nE s (nE s va)))))).1) → (y = ((fl (fl (fl (fl (fl (fl q0 (nF s 1 999 va) (nS s va)) (nF s 1 999 (nE s va)) (nS s (nE s va))) (if (nV s (nE s va)) < (nV s va) then 4 else 0) (nS s (nE s va))) (nF s 1 999 (nE s (nE s va))) (nS s (nE s (nE s va)))) (if (nV s (nE s (nE s va))) < (nV s va) ∨ (nV s (nE s va)) < (nV s (nE s (nE s va))) then 4 else 0) (nS s (nE s (nE s va)))) (nF s 0 100 (nE s (nE s (nE s va)))) (nS s (nE s (nE s (nE s va)))))).2) → (((fl (fl (fl (fl (fl (fl q0 (nF s 1 999 va) (nS s va)) (nF s 1 999 (nE s va)) (nS s (nE s va))) (if (nV s (nE s va)) < (nV s va) then 4 else 0) (nS s (nE s va))) (nF s 1 999 (nE s (nE s va))) (nS s (nE s (nE s va)))) (if (nV s (nE s (nE s va))) < (nV s va) ∨ (nV s (nE s va)) < (nV s (nE s (nE s va))) then 4 else 0) (nS s (nE s (nE s va)))) (nF s 0 100 (nE s (nE s (nE s va)))) (nS s (nE s (nE s (nE s va)))))).1 = 0 → a2 = (nE s (nE s (nE s (nE s va)))) ∧ g2 = (upZ (upZ (upZ (upZ grn (vrn * 4) (nV s va)) (vrn * 4 + 1) (nV s (nE s va))) (vrn * 4 + 2) (nV s (nE s (nE s va)))) (vrn * 4 + 3) (nV s (nE s (nE s (nE s va)))))) → V 0 0 177 [(m, eO 8 [.int (iI vb), .ref aBath, .int (iI vn), .ref aBather, .int (iI vo), .int (iI vm), .ref aMorn, .int (iI vs), .ref aText, .int (iI vt), .int (iI y), .int (iI a2), .long (lI vsd), .int (iI vw), .int (iI n2), .int (iI p2), .int (iI vrb), .ref aRB, .int (iI (vrn + 1)), .ref aRN, .int (iI vro), .ref aLow, .ref aHigh, .int (iI (pI (vch = true))), .ref aNeeds, .ref aLikes, .ref aHts, .int (iI vtr), .int (iI vbk), .ref aBook, .ref aImg, .ref aKept]), (aText, eI G 400 gx), (aRN, eI G 24 g2)] [some (.ref m), none, none] [.int (iI z)] := by
            intro z y a2 n2 p2 g2 hz hy hk
            subst hz hy
            exact EI (a2, n2, p2, g2) _ _ _ _ dX8_takeBather_177 (Or.inl rfl) (rfl) (rfl) (hk)
          refine M.iloadn (pc := 155) 2 rfl rfl dX8_takeBather_155 ?_
          refine M.if_le (pc := 156) (tgt := 163) dX8_takeBather_156 (by decide) (by omega) (fun c156 => ?_) (fun c156 => ?_)
          · have hq5 : ((fl (fl (fl (fl (fl q0 (nF s 1 999 va) (nS s va)) (nF s 1 999 (nE s va)) (nS s (nE s va))) (if (nV s (nE s va)) < (nV s va) then 4 else 0) (nS s (nE s va))) (nF s 1 999 (nE s (nE s va))) (nS s (nE s (nE s va)))) (if (nV s (nE s (nE s va))) < (nV s va) ∨ (nV s (nE s va)) < (nV s (nE s (nE s va))) then 4 else 0) (nS s (nE s (nE s va))))).1 = 0 := by omega
            obtain ⟨ea, eg⟩ := hk2 hq5
            subst ea eg
            refine M.aloadn (pc := 163) 0 rfl rfl dX8_takeBather_163 ?_
            refine M.aloadn (pc := 164) 0 rfl rfl dX8_takeBather_164 ?_
            refine M.getf (pc := 165) fg_X8_32 0 rfl rfl dX8_takeBather_165 ?_
            refine M.iloadn (pc := 168) 1 rfl rfl dX8_takeBather_168 ?_
            refine M.iconst (pc := 169) dX8_takeBather_169 ?_
            refine M.iadd (pc := 170) dX8_takeBather_170 ?_
            refine M.iconst (pc := 171) dX8_takeBather_171 ?_
            refine M.bipush (pc := 172) (by decide +kernel) dX8_takeBather_172 ?_
            refine M.mV (pc := 174) (c_X8_into (N := 24) (vf := 0) (q := (fl (fl (fl (fl (fl q0 (nF s 1 999 va) (nS s va)) (nF s 1 999 (nE s va)) (nS s (nE s va))) (if (nV s (nE s va)) < (nV s va) then 4 else 0) (nS s (nE s va))) (nF s 1 999 (nE s (nE s va))) (nS s (nE s (nE s va)))) (if (nV s (nE s (nE s va))) < (nV s va) ∨ (nV s (nE s va)) < (nV s (nE s (nE s va))) then 4 else 0) (nS s (nE s (nE s va))))) (by first | assumption | omega) (by first | assumption | omega) (by omega) (by exact hq5) (by first | assumption | omega) (by first | assumption | omega) (by omega) (by omega)) mv_X8_130 [0, 1, 2] rfl rfl rfl 0 rfl rfl rfl rfl (Nat.le_of_ble_eq_true rfl) rfl ⟨(Nat.le_of_ble_eq_true rfl), (Nat.le_of_ble_eq_true rfl)⟩ ⟨(Nat.le_of_ble_eq_true rfl), (Nat.le_of_ble_eq_true rfl)⟩ rfl (fun _ => rfl) dX8_takeBather_174 (fun u174 hu174 => ?_)
            obtain ⟨n174, p174⟩ := u174
            dsimp only [putL, List.set_cons_zero, List.set_cons_succ, Option.toList, List.cons_append, List.nil_append] at hu174 ⊢
            refine M.forget 1 ?_
            dsimp only [List.set_cons_zero, List.set_cons_succ]
            refine M.forget 2 ?_
            dsimp only [List.set_cons_zero, List.set_cons_succ]
            exact L177  (by rfl) (by rfl) (by intro w; exact ⟨rfl, by rw [(hu174 w).1]⟩)
          · refine M.iloadn (pc := 159) 2 rfl rfl dX8_takeBather_159 ?_
            refine M.goto (pc := 160) (tgt := 177) dX8_takeBather_160 (by decide) ?_
            refine M.forget 1 ?_
            dsimp only [List.set_cons_zero, List.set_cons_succ]
            refine M.forget 2 ?_
            dsimp only [List.set_cons_zero, List.set_cons_succ]
            have e : (fl (fl (fl (fl (fl (fl q0 (nF s 1 999 va) (nS s va)) (nF s 1 999 (nE s va)) (nS s (nE s va))) (if (nV s (nE s va)) < (nV s va) then 4 else 0) (nS s (nE s va))) (nF s 1 999 (nE s (nE s va))) (nS s (nE s (nE s va)))) (if (nV s (nE s (nE s va))) < (nV s va) ∨ (nV s (nE s va)) < (nV s (nE s (nE s va))) then 4 else 0) (nS s (nE s (nE s va)))) (nF s 0 100 (nE s (nE s (nE s va)))) (nS s (nE s (nE s (nE s va))))) = (fl (fl (fl (fl (fl q0 (nF s 1 999 va) (nS s va)) (nF s 1 999 (nE s va)) (nS s (nE s va))) (if (nV s (nE s va)) < (nV s va) then 4 else 0) (nS s (nE s va))) (nF s 1 999 (nE s (nE s va))) (nS s (nE s (nE s va)))) (if (nV s (nE s (nE s va))) < (nV s va) ∨ (nV s (nE s va)) < (nV s (nE s (nE s va))) then 4 else 0) (nS s (nE s (nE s va)))) := fl_n (by omega)
            exact L177  (by rw [e]) (by rw [e]) (by intro w; rw [e] at w; omega)
        refine M.iloadn (pc := 110) 2 rfl rfl dX8_takeBather_110 ?_
        refine M.if_ne (pc := 111) (tgt := 153) dX8_takeBather_111 (by decide) (by omega) (fun c111 => ?_) (fun c111 => ?_)
        · refine M.iloadn (pc := 153) 2 rfl rfl dX8_takeBather_153 ?_
          refine M.forget 2 ?_
          dsimp only [List.set_cons_zero, List.set_cons_succ]
          have e : (fl (fl (fl (fl (fl q0 (nF s 1 999 va) (nS s va)) (nF s 1 999 (nE s va)) (nS s (nE s va))) (if (nV s (nE s va)) < (nV s va) then 4 else 0) (nS s (nE s va))) (nF s 1 999 (nE s (nE s va))) (nS s (nE s (nE s va)))) (if (nV s (nE s (nE s va))) < (nV s va) ∨ (nV s (nE s va)) < (nV s (nE s (nE s va))) then 4 else 0) (nS s (nE s (nE s va)))) = (fl (fl (fl (fl q0 (nF s 1 999 va) (nS s va)) (nF s 1 999 (nE s va)) (nS s (nE s va))) (if (nV s (nE s va)) < (nV s va) then 4 else 0) (nS s (nE s va))) (nF s 1 999 (nE s (nE s va))) (nS s (nE s (nE s va)))) := by first | exact fl_n (by omega) | exact fl_z (by omega) (if_neg (by omega))
          exact L154  (by rw [e]) (by rw [e]) (by intro w; rw [e] at w; exact (hk w).1)
        · have hq4 : ((fl (fl (fl (fl q0 (nF s 1 999 va) (nS s va)) (nF s 1 999 (nE s va)) (nS s (nE s va))) (if (nV s (nE s va)) < (nV s va) then 4 else 0) (nS s (nE s va))) (nF s 1 999 (nE s (nE s va))) (nS s (nE s (nE s va))))).1 = 0 := by omega
          obtain ⟨⟨ea, eg⟩, en, ep⟩ := hk hq4
          have x4 := fl_0 hq4
          have x3 := fl_0 x4.1
          have x2 := fl_0 x3.1
          have v3b := nV_ok x4.2.1
          have v2b := nV_ok x2.2.1
          have v1b := nV_ok (fl_0 x2.1).2.1
          have er0 : g2 (vrn * 4) = (nV s va) := by rw [eg, upZ_n (by omega), upZ_n (by omega), upZ_s]
          have er1 : g2 (vrn * 4 + 1) = (nV s (nE s va)) := by rw [eg, upZ_n (by omega), upZ_s]
          rw [← en] at v3b
          rw [← er0] at v1b
          rw [← er1] at v2b
          refine M.aloadn (pc := 114) 0 rfl rfl dX8_takeBather_114 ?_
          refine M.getf (pc := 115) fg_X8_120 0 rfl rfl dX8_takeBather_115 ?_
          refine M.i2l (pc := 118) (by omega) dX8_takeBather_118 ?_
          refine M.aloadn (pc := 119) 0 rfl rfl dX8_takeBather_119 ?_
          refine M.getf (pc := 120) fg_X8_32 0 rfl rfl dX8_takeBather_120 ?_
          refine M.iloadn (pc := 123) 1 rfl rfl dX8_takeBather_123 ?_
          refine M.iald (pc := 124) 2 rfl (by omega) (by omega) dX8_takeBather_124 ?_
          refine M.i2l (pc := 125) (by omega) dX8_takeBather_125 ?_
          refine M.aloadn (pc := 126) 0 rfl rfl dX8_takeBather_126 ?_
          refine M.getf (pc := 127) fg_X8_32 0 rfl rfl dX8_takeBather_127 ?_
          refine M.iloadn (pc := 130) 1 rfl rfl dX8_takeBather_130 ?_
          refine M.iconst (pc := 131) dX8_takeBather_131 ?_
          refine M.iadd (pc := 132) dX8_takeBather_132 ?_
          refine M.iald (pc := 133) 2 rfl (by omega) (by omega) dX8_takeBather_133 ?_
          refine M.i2l (pc := 134) (by omega) dX8_takeBather_134 ?_
          refine M.pS (pc := 135) (c_X8_in  (by first | assumption | omega) (by first | assumption | omega) (by first | assumption | omega)) ms_X8_63 [] rfl rfl rfl rfl (Nat.le_of_ble_eq_true rfl) rfl ⟨(Nat.le_of_ble_eq_true rfl), (Nat.le_of_ble_eq_true rfl)⟩ ⟨(Nat.le_of_ble_eq_true rfl), (Nat.le_of_ble_eq_true rfl)⟩ rfl dX8_takeBather_135 ?_
          refine M.if_neP (pc := 138) (tgt := 153) dX8_takeBather_138 (by decide) (fun c138 => ?_) (fun c138 => ?_)
          · refine M.iloadn (pc := 153) 2 rfl rfl dX8_takeBather_153 ?_
            refine M.forget 2 ?_
            dsimp only [List.set_cons_zero, List.set_cons_succ]
            have e : (fl (fl (fl (fl (fl q0 (nF s 1 999 va) (nS s va)) (nF s 1 999 (nE s va)) (nS s (nE s va))) (if (nV s (nE s va)) < (nV s va) then 4 else 0) (nS s (nE s va))) (nF s 1 999 (nE s (nE s va))) (nS s (nE s (nE s va)))) (if (nV s (nE s (nE s va))) < (nV s va) ∨ (nV s (nE s va)) < (nV s (nE s (nE s va))) then 4 else 0) (nS s (nE s (nE s va)))) = (fl (fl (fl (fl q0 (nF s 1 999 va) (nS s va)) (nF s 1 999 (nE s va)) (nS s (nE s va))) (if (nV s (nE s va)) < (nV s va) then 4 else 0) (nS s (nE s va))) (nF s 1 999 (nE s (nE s va))) (nS s (nE s (nE s va)))) := by first | exact fl_n (by omega) | exact fl_z (by omega) (if_neg (by omega))
            exact L154  (by rw [e]) (by rw [e]) (by intro w; rw [e] at w; exact (hk w).1)
          · refine M.aloadn (pc := 141) 0 rfl rfl dX8_takeBather_141 ?_
            refine M.iconst (pc := 142) dX8_takeBather_142 ?_
            refine M.aloadn (pc := 143) 0 rfl rfl dX8_takeBather_143 ?_
            refine M.getf (pc := 144) fg_X8_117 0 rfl rfl dX8_takeBather_144 ?_
            refine M.mV (pc := 147) (c_X8_fails  ) mv_X8_113 [0] rfl rfl rfl 0 rfl rfl rfl rfl (Nat.le_of_ble_eq_true rfl) rfl ⟨(Nat.le_of_ble_eq_true rfl), (Nat.le_of_ble_eq_true rfl)⟩ ⟨(Nat.le_of_ble_eq_true rfl), (Nat.le_of_ble_eq_true rfl)⟩ rfl (fun _ => rfl) dX8_takeBather_147 (fun u147 hu147 => ?_)
            dsimp only [putL, List.set_cons_zero, List.set_cons_succ, Option.toList, List.cons_append, List.nil_append] at hu147 ⊢
            refine M.goto (pc := 150) (tgt := 154) dX8_takeBather_150 (by decide) ?_
            refine M.forget 2 ?_
            dsimp only [List.set_cons_zero, List.set_cons_succ]
            have e : (fl (fl (fl (fl (fl q0 (nF s 1 999 va) (nS s va)) (nF s 1 999 (nE s va)) (nS s (nE s va))) (if (nV s (nE s va)) < (nV s va) then 4 else 0) (nS s (nE s va))) (nF s 1 999 (nE s (nE s va))) (nS s (nE s (nE s va)))) (if (nV s (nE s (nE s va))) < (nV s va) ∨ (nV s (nE s va)) < (nV s (nE s (nE s va))) then 4 else 0) (nS s (nE s (nE s va)))) = (4, nS s (nE s (nE s va))) := by
              rw [if_pos (show (nV s (nE s (nE s va))) < (nV s va) ∨ (nV s (nE s va)) < (nV s (nE s (nE s va))) by omega)]
              exact fl_f hq4 (by decide)
            exact L154  (by rw [e]) (by rw [e]; exact ep) (by intro w; rw [e] at w; exact absurd (show (4 : Int) = 0 from w) (by decide))
      refine M.iloadn (pc := 86) 2 rfl rfl dX8_takeBather_86 ?_
      refine M.if_le (pc := 87) (tgt := 94) dX8_takeBather_87 (by decide) (by omega) (fun c87 => ?_) (fun c87 => ?_)
      · have hq3 : ((fl (fl (fl q0 (nF s 1 999 va) (nS s va)) (nF s 1 999 (nE s va)) (nS s (nE s va))) (if (nV s (nE s va)) < (nV s va) then 4 else 0) (nS s (nE s va)))).1 = 0 := by omega
        obtain ⟨ea, eg⟩ := hk2 hq3
        subst ea eg
        refine M.aloadn (pc := 94) 0 rfl rfl dX8_takeBather_94 ?_
        refine M.aloadn (pc := 95) 0 rfl rfl dX8_takeBather_95 ?_
        refine M.getf (pc := 96) fg_X8_32 0 rfl rfl dX8_takeBather_96 ?_
        refine M.iloadn (pc := 99) 1 rfl rfl dX8_takeBather_99 ?_
        refine M.iconst (pc := 100) dX8_takeBather_100 ?_
        refine M.iadd (pc := 101) dX8_takeBather_101 ?_
        refine M.iconst (pc := 102) dX8_takeBather_102 ?_
        refine M.sipush (pc := 103) (by decide +kernel) dX8_takeBather_103 ?_
        refine M.mV (pc := 106) (c_X8_into (N := 24) (vf := 0) (q := (fl (fl (fl q0 (nF s 1 999 va) (nS s va)) (nF s 1 999 (nE s va)) (nS s (nE s va))) (if (nV s (nE s va)) < (nV s va) then 4 else 0) (nS s (nE s va)))) (by first | assumption | omega) (by first | assumption | omega) (by omega) (by exact hq3) (by first | assumption | omega) (by first | assumption | omega) (by omega) (by omega)) mv_X8_130 [0, 1, 2] rfl rfl rfl 0 rfl rfl rfl rfl (Nat.le_of_ble_eq_true rfl) rfl ⟨(Nat.le_of_ble_eq_true rfl), (Nat.le_of_ble_eq_true rfl)⟩ ⟨(Nat.le_of_ble_eq_true rfl), (Nat.le_of_ble_eq_true rfl)⟩ rfl (fun _ => rfl) dX8_takeBather_106 (fun u106 hu106 => ?_)
        obtain ⟨n106, p106⟩ := u106
        dsimp only [putL, List.set_cons_zero, List.set_cons_succ, Option.toList, List.cons_append, List.nil_append] at hu106 ⊢
        refine M.forget 2 ?_
        dsimp only [List.set_cons_zero, List.set_cons_succ]
        exact L109  (by rfl) (by rfl) (by intro w; exact ⟨⟨rfl, by rw [(hu106 w).1]⟩, (hu106 w).1, (hu106 w).2⟩)
      · refine M.iloadn (pc := 90) 2 rfl rfl dX8_takeBather_90 ?_
        refine M.goto (pc := 91) (tgt := 109) dX8_takeBather_91 (by decide) ?_
        refine M.forget 2 ?_
        dsimp only [List.set_cons_zero, List.set_cons_succ]
        have e : (fl (fl (fl (fl q0 (nF s 1 999 va) (nS s va)) (nF s 1 999 (nE s va)) (nS s (nE s va))) (if (nV s (nE s va)) < (nV s va) then 4 else 0) (nS s (nE s va))) (nF s 1 999 (nE s (nE s va))) (nS s (nE s (nE s va)))) = (fl (fl (fl q0 (nF s 1 999 va) (nS s va)) (nF s 1 999 (nE s va)) (nS s (nE s va))) (if (nV s (nE s va)) < (nV s va) then 4 else 0) (nS s (nE s va))) := fl_n (by omega)
        exact L109  (by rw [e]) (by rw [e]) (by intro w; rw [e] at w; omega)
    refine M.iloadn (pc := 55) 2 rfl rfl dX8_takeBather_55 ?_
    refine M.if_ne (pc := 56) (tgt := 84) dX8_takeBather_56 (by decide) (by omega) (fun c56 => ?_) (fun c56 => ?_)
    · refine M.iloadn (pc := 84) 2 rfl rfl dX8_takeBather_84 ?_
      refine M.forget 2 ?_
      dsimp only [List.set_cons_zero, List.set_cons_succ]
      have e : (fl (fl (fl q0 (nF s 1 999 va) (nS s va)) (nF s 1 999 (nE s va)) (nS s (nE s va))) (if (nV s (nE s va)) < (nV s va) then 4 else 0) (nS s (nE s va))) = (fl (fl q0 (nF s 1 999 va) (nS s va)) (nF s 1 999 (nE s va)) (nS s (nE s va))) := by first | exact fl_n (by omega) | exact fl_z (by omega) (if_neg (by omega))
      exact L85  (by rw [e]) (by rw [e]) (by intro w; rw [e] at w; exact (hk w).1)
    · have hq2 : ((fl (fl q0 (nF s 1 999 va) (nS s va)) (nF s 1 999 (nE s va)) (nS s (nE s va)))).1 = 0 := by omega
      obtain ⟨⟨ea, eg⟩, en, ep⟩ := hk hq2
      have x2 := fl_0 hq2
      have v2b := nV_ok x2.2.1
      have v1b := nV_ok (fl_0 x2.1).2.1
      have er : g2 (vrn * 4) = (nV s va) := by rw [eg, upZ_n (by omega), upZ_s]
      rw [← en] at v2b
      rw [← er] at v1b
      refine M.aloadn (pc := 59) 0 rfl rfl dX8_takeBather_59 ?_
      refine M.getf (pc := 60) fg_X8_120 0 rfl rfl dX8_takeBather_60 ?_
      refine M.aloadn (pc := 63) 0 rfl rfl dX8_takeBather_63 ?_
      refine M.getf (pc := 64) fg_X8_32 0 rfl rfl dX8_takeBather_64 ?_
      refine M.iloadn (pc := 67) 1 rfl rfl dX8_takeBather_67 ?_
      refine M.iald (pc := 68) 2 rfl (by omega) (by omega) dX8_takeBather_68 ?_
      refine M.icmp_ge (pc := 69) (tgt := 84) dX8_takeBather_69 (by decide) (by omega) (by omega) (fun c69 => ?_) (fun c69 => ?_)
      · refine M.iloadn (pc := 84) 2 rfl rfl dX8_takeBather_84 ?_
        refine M.forget 2 ?_
        dsimp only [List.set_cons_zero, List.set_cons_succ]
        have e : (fl (fl (fl q0 (nF s 1 999 va) (nS s va)) (nF s 1 999 (nE s va)) (nS s (nE s va))) (if (nV s (nE s va)) < (nV s va) then 4 else 0) (nS s (nE s va))) = (fl (fl q0 (nF s 1 999 va) (nS s va)) (nF s 1 999 (nE s va)) (nS s (nE s va))) := by first | exact fl_n (by omega) | exact fl_z (by omega) (if_neg (by omega))
        exact L85  (by rw [e]) (by rw [e]) (by intro w; rw [e] at w; exact (hk w).1)
      · refine M.aloadn (pc := 72) 0 rfl rfl dX8_takeBather_72 ?_
        refine M.iconst (pc := 73) dX8_takeBather_73 ?_
        refine M.aloadn (pc := 74) 0 rfl rfl dX8_takeBather_74 ?_
        refine M.getf (pc := 75) fg_X8_117 0 rfl rfl dX8_takeBather_75 ?_
        refine M.mV (pc := 78) (c_X8_fails  ) mv_X8_113 [0] rfl rfl rfl 0 rfl rfl rfl rfl (Nat.le_of_ble_eq_true rfl) rfl ⟨(Nat.le_of_ble_eq_true rfl), (Nat.le_of_ble_eq_true rfl)⟩ ⟨(Nat.le_of_ble_eq_true rfl), (Nat.le_of_ble_eq_true rfl)⟩ rfl (fun _ => rfl) dX8_takeBather_78 (fun u78 hu78 => ?_)
        dsimp only [putL, List.set_cons_zero, List.set_cons_succ, Option.toList, List.cons_append, List.nil_append] at hu78 ⊢
        refine M.goto (pc := 81) (tgt := 85) dX8_takeBather_81 (by decide) ?_
        refine M.forget 2 ?_
        dsimp only [List.set_cons_zero, List.set_cons_succ]
        have e : (fl (fl (fl q0 (nF s 1 999 va) (nS s va)) (nF s 1 999 (nE s va)) (nS s (nE s va))) (if (nV s (nE s va)) < (nV s va) then 4 else 0) (nS s (nE s va))) = (4, nS s (nE s va)) := by
          rw [if_pos (by omega)]
          exact fl_f hq2 (by decide)
        exact L85  (by rw [e]) (by rw [e]; exact ep) (by intro w; rw [e] at w; exact absurd (show (4 : Int) = 0 from w) (by decide))
  refine M.iloadn (pc := 31) 2 rfl rfl dX8_takeBather_31 ?_
  refine M.if_le (pc := 32) (tgt := 39) dX8_takeBather_32 (by decide) (by omega) (fun c32 => ?_) (fun c32 => ?_)
  · have hq1 : ((fl q0 (nF s 1 999 va) (nS s va))).1 = 0 := by omega
    refine M.aloadn (pc := 39) 0 rfl rfl dX8_takeBather_39 ?_
    refine M.aloadn (pc := 40) 0 rfl rfl dX8_takeBather_40 ?_
    refine M.getf (pc := 41) fg_X8_32 0 rfl rfl dX8_takeBather_41 ?_
    refine M.iloadn (pc := 44) 1 rfl rfl dX8_takeBather_44 ?_
    refine M.iconst (pc := 45) dX8_takeBather_45 ?_
    refine M.iadd (pc := 46) dX8_takeBather_46 ?_
    refine M.iconst (pc := 47) dX8_takeBather_47 ?_
    refine M.sipush (pc := 48) (by decide +kernel) dX8_takeBather_48 ?_
    refine M.mV (pc := 51) (c_X8_into (N := 24) (vf := 0) (q := (fl q0 (nF s 1 999 va) (nS s va))) (by first | assumption | omega) (by first | assumption | omega) (by omega) (by exact hq1) (by first | assumption | omega) (by first | assumption | omega) (by omega) (by omega)) mv_X8_130 [0, 1, 2] rfl rfl rfl 0 rfl rfl rfl rfl (Nat.le_of_ble_eq_true rfl) rfl ⟨(Nat.le_of_ble_eq_true rfl), (Nat.le_of_ble_eq_true rfl)⟩ ⟨(Nat.le_of_ble_eq_true rfl), (Nat.le_of_ble_eq_true rfl)⟩ rfl (fun _ => rfl) dX8_takeBather_51 (fun u51 hu51 => ?_)
    obtain ⟨n51, p51⟩ := u51
    dsimp only [putL, List.set_cons_zero, List.set_cons_succ, Option.toList, List.cons_append, List.nil_append] at hu51 ⊢
    refine M.forget 2 ?_
    dsimp only [List.set_cons_zero, List.set_cons_succ]
    exact L54  (by rfl) (by rfl) (by intro w; exact ⟨⟨rfl, by rw [(hu27 hq1).1, (hu51 w).1]⟩, (hu51 w).1, (hu51 w).2⟩)
  · refine M.iloadn (pc := 35) 2 rfl rfl dX8_takeBather_35 ?_
    refine M.goto (pc := 36) (tgt := 54) dX8_takeBather_36 (by decide) ?_
    refine M.forget 2 ?_
    dsimp only [List.set_cons_zero, List.set_cons_succ]
    have e : (fl (fl q0 (nF s 1 999 va) (nS s va)) (nF s 1 999 (nE s va)) (nS s (nE s va))) = (fl q0 (nF s 1 999 va) (nS s va)) := fl_n (by omega)
    exact L54  (by rw [e]) (by rw [e]) (by intro w; rw [e] at w; omega)
