/-! the class's calls: mornings -/
theorem aRef_r (vb vn b h S v c M : Int) : -1000000004 ≤ aRef vb vn b h S v c M ∧ aRef vb vn b h S v c M ≤ 0 := by
  unfold aRef
  (repeat' split) <;> omega
/-- can be in, by the class's ends -/
theorem alw_cb {fb el eu : Int → Int} {n b h v S : Int} (hn : 0 ≤ n ∧ n ≤ 6) (hR : RG el eu) (h0 : 0 ≤ S) (h1 : S < p2 n) : (hGre fb b h v ≠ -1 ∧ sumT el S 6 ≤ hGre fb b h v ∧ hLea fb b h v ≤ sumT eu S 6) ↔ cbP fb el eu n b h v S = true := by
  have e1 := sumT_6 (f := el) h0 h1 hn.1 hn.2
  have e2 := sumT_6 (f := eu) h0 h1 hn.1 hn.2
  have b1 := sumT_b (f := el) (S := S) (A := 0) (B := 999) (by omega) (by omega) 6 (fun k hk _ => (hR k (by omega) (by omega)).1)
  have hgr := hGre_eq fb b h v
  have hle := hLea_eq fb b h v
  unfold cbP
  rw [decide_eq_true_iff, ← e1, ← e2]
  by_cases q : hMos fb b h v < 0
  · have : hGre fb b h v = -1 := by omega
    constructor
    · intro z; exact absurd this z.1
    · intro z; omega
  · rw [if_neg (by omega)] at hle
    omega
theorem lcg {a b : Int} (h : 0 < (if a < b then (-1 : Int) else if a = b then 0 else 1)) : ¬ a = b := by
  intro e
  rw [if_neg (by omega), if_pos e] at h
  exact absurd h (by decide)
theorem lcl {a b : Int} (h : (if a < b then (-1 : Int) else if a = b then 0 else 1) ≤ 0) : a ≤ b := by
  by_cases h1 : a < b
  · omega
  · by_cases h2 : a = b
    · omega
    · rw [if_neg h1, if_neg h2] at h
      exact absurd h (by decide)
set_option maxHeartbeats 4000000 in
set_option maxRecDepth 100000 in
theorem c_X7_learn {l : Launch} {G : GT} {x r mo en i0 i1 e f t h h2 : Nat} {vs : Int} {hb ht : Nat} {fb ft : Int → Int} {vb vn vo : Int} {moc : Nat} {vm : Int} {gmC : Int → Int} {eLo eUp eSe eLe eGr : Nat} {el eu gs gL gG : Int → Int} {ecl : Bool} {te fcr : Nat} {fcc ffo : Int} {ffd : Bool} (hn : 0 ≤ vn ∧ vn ≤ 6) (hnb : 0 ≤ vb ∧ vb ≤ 2) (hB : HB fb) (hT : HT ft) (hV : HV fb vb) (hVT : HVT ft vn) (ho : 0 ≤ vo ∧ vo ≤ 999) (hc : 0 ≤ vm ∧ vm ≤ 12) (hM : HM gmC vm vb vn) : Con l G yX7_learn cX7_learn 1 none { frames := 5, cells := 0, slots := 0, locals := 117 } [.ref x] [(x, eO 7 [.ref r, .ref mo, .ref en, .ref i0, .ref i1, .ref e, .ref f, .ref t, .ref h, .ref h2, .int (iI vs)]), (mo, eO 6 [.ref moc, .int (iI vm)]), (moc, eI G 48 gmC), (e, eO 1 [.ref eLo, .ref eUp, .ref eSe, .ref eLe, .ref eGr, .int (iI (pI (ecl = true)))]), (eLo, eI G 6 el), (eUp, eI G 6 eu), (eSe, eI G 12 gs), (eLe, eI G 12 gL), (eGr, eI G 12 gG), (f, eO 2 [.ref te, .ref fcr, .int (iI fcc), .int (iI (pI (ffd = true))), .int (iI ffo)]), (h, eO 3 [.ref hb, .ref ht, .int (iI vb), .int (iI vn), .int (iI vo)]), (hb, eI G 8 fb), (ht, eI G 24 ft)] (S := Bool × (Int → Int) × (Int → Int) × (Int → Int) × (Int → Int) × (Int → Int)) (fun _ => none) (fun u => [(x, eO 7 [.ref r, .ref mo, .ref en, .ref i0, .ref i1, .ref e, .ref f, .ref t, .ref h, .ref h2, .int (iI vs)]), (mo, eO 6 [.ref moc, .int (iI vm)]), (moc, eI G 48 gmC), (e, eO 1 [.ref eLo, .ref eUp, .ref eSe, .ref eLe, .ref eGr, .int (iI (pI (u.1 = true)))]), (eLo, eI G 6 u.2.1), (eUp, eI G 6 u.2.2.1), (eSe, eI G 12 u.2.2.2.1), (eLe, eI G 12 u.2.2.2.2.1), (eGr, eI G 12 u.2.2.2.2.2), (f, eO 2 [.ref te, .ref fcr, .int (iI fcc), .int (iI (pI (false = true))), .int (iI ffo)]), (h, eO 3 [.ref hb, .ref ht, .int (iI vb), .int (iI vn), .int (iI vo)]), (hb, eI G 8 fb), (ht, eI G 24 ft)]) (fun u => LRN vn vm fb ft gmC u.1 u.2.1 u.2.2.1) := by
  refine Con.mk (by decide +kernel) [some (.ref x)] rfl (Nat.le_of_ble_eq_true rfl) rfl ?_
  intro V M EI EL EV EA
  refine M.aloadn (pc := 0) 0 rfl rfl dX7_learn_0 ?_
  refine M.getf (pc := 1) fg_X7_41 0 rfl rfl dX7_learn_1 ?_
  refine M.aloadn (pc := 4) 0 rfl rfl dX7_learn_4 ?_
  refine M.getf (pc := 5) fg_X7_62 0 rfl rfl dX7_learn_5 ?_
  refine M.aloadn (pc := 8) 0 rfl rfl dX7_learn_8 ?_
  refine M.getf (pc := 9) fg_X7_21 0 rfl rfl dX7_learn_9 ?_
  refine M.mV (pc := 12) (c_X1_learn  (by first | assumption | omega) (by first | assumption | omega) (by first | assumption | omega) (by first | assumption | omega) (by first | assumption | omega) (by first | assumption | omega) (by exact hVT.le)) mv_X7_270 [3, 4, 5, 6, 7, 8, 10, 11, 12, 1, 2] rfl rfl rfl 3 rfl rfl rfl rfl (Nat.le_of_ble_eq_true rfl) rfl ⟨(Nat.le_of_ble_eq_true rfl), (Nat.le_of_ble_eq_true rfl)⟩ ⟨(Nat.le_of_ble_eq_true rfl), (Nat.le_of_ble_eq_true rfl)⟩ rfl (fun _ => rfl) dX7_learn_12 (fun u12 hu12 => ?_)
  obtain ⟨cl12, l12, w12, s12, y12, z12⟩ := u12
  dsimp only [putL, List.set_cons_zero, List.set_cons_succ, Option.toList, List.cons_append, List.nil_append] at hu12 ⊢
  refine M.aloadn (pc := 15) 0 rfl rfl dX7_learn_15 ?_
  refine M.getf (pc := 16) fg_X7_48 0 rfl rfl dX7_learn_16 ?_
  refine M.iconst (pc := 19) dX7_learn_19 ?_
  refine M.putfZ (pc := 20) (false) (by rfl) fp_X7_273 9 rfl (Nat.le_of_ble_eq_true rfl) dX7_learn_20 ?_
  dsimp only [List.set_cons_zero, List.set_cons_succ]
  exact EV (cl12, l12, w12, s12, y12, z12) _ _ _ dX7_learn_23 rfl (rfl) (rfl) (hu12)
set_option maxHeartbeats 4000000 in
set_option maxRecDepth 100000 in
theorem c_X7_told {l : Launch} {G : GT} {x r mo en i0 i1 e f t h h2 : Nat} {vs : Int} {aT : Nat} {vt fa vf pa pn : Int} {ot : Bool} {hb ht : Nat} {vb vn vo : Int} {moc enc eLo eUp eSe eLe eGr : Nat} {vm vbk : Int} {ecl : Bool} {w : Int} (hrw : InR w) : ConF l G yX7_told cX7_told 2 (some .int) { frames := 0, cells := 0, slots := 0, locals := 0 } [.ref x, .int (iI w)] [(x, eO 7 [.ref r, .ref mo, .ref en, .ref i0, .ref i1, .ref e, .ref f, .ref t, .ref h, .ref h2, .int (iI vs)]), (r, eO 5 [.ref aT, .int (iI vt), .int (iI fa), .int (iI vf), .int (iI pa), .int (iI pn), .int (iI (pI (ot = true)))]), (mo, eO 6 [.ref moc, .int (iI vm)]), (en, eO 6 [.ref enc, .int (iI vbk)]), (e, eO 1 [.ref eLo, .ref eUp, .ref eSe, .ref eLe, .ref eGr, .int (iI (pI (ecl = true)))]), (h, eO 3 [.ref hb, .ref ht, .int (iI vb), .int (iI vn), .int (iI vo)])] (some (.int (iI (aTold w vb vn vo vm vbk vt (pI (ecl = true)))))) := by
  refine Con.mk (by decide +kernel) [some (.ref x), some (.int (iI w))] rfl (Nat.le_of_ble_eq_true rfl) rfl ?_
  intro V M EI EL EV EA
  refine M.iloadn (pc := 0) 1 rfl rfl dX7_told_0 ?_
  by_cases h1 : w < 0 ∨ 6 < w
  · refine M.tableOut (pc := 1) (tgt := 108) dX7_told_1 (by omega) h1 (by decide) ?_
    refine M.ldc (pc := 108) (-1000000002) lc_X7_69 (by decide +kernel) dX7_told_108 ?_
    exact EI () _ _ _ _ dX7_told_110 (Or.inl rfl) (eqI (by unfold aTold; (repeat' split) <;> omega)) rfl trivial
  · have h1b : w = 0 ∨ w = 1 ∨ w = 2 ∨ w = 3 ∨ w = 4 ∨ w = 5 ∨ w = 6 := by omega
    rcases h1b with rfl | rfl | rfl | rfl | rfl | rfl | rfl
    · refine M.tableIn (pc := 1) 0 (tgt := 44) dX7_told_1 (by omega) (by omega) (by omega) rfl (by decide) ?_
      refine M.aloadn (pc := 44) 0 rfl rfl dX7_told_44 ?_
      refine M.getf (pc := 45) fg_X7_62 0 rfl rfl dX7_told_45 ?_
      refine M.getf (pc := 48) fg_X7_105 5 rfl rfl dX7_told_48 ?_
      exact EI () _ _ _ _ dX7_told_51 (Or.inl rfl) (eqI (by rfl)) rfl trivial
    · refine M.tableIn (pc := 1) 1 (tgt := 52) dX7_told_1 (by omega) (by omega) (by omega) rfl (by decide) ?_
      refine M.aloadn (pc := 52) 0 rfl rfl dX7_told_52 ?_
      refine M.getf (pc := 53) fg_X7_62 0 rfl rfl dX7_told_53 ?_
      refine M.getf (pc := 56) fg_X7_99 5 rfl rfl dX7_told_56 ?_
      exact EI () _ _ _ _ dX7_told_59 (Or.inl rfl) (eqI (by rfl)) rfl trivial
    · refine M.tableIn (pc := 1) 2 (tgt := 60) dX7_told_1 (by omega) (by omega) (by omega) rfl (by decide) ?_
      refine M.aloadn (pc := 60) 0 rfl rfl dX7_told_60 ?_
      refine M.getf (pc := 61) fg_X7_62 0 rfl rfl dX7_told_61 ?_
      refine M.getf (pc := 64) fg_X7_108 5 rfl rfl dX7_told_64 ?_
      exact EI () _ _ _ _ dX7_told_67 (Or.inl rfl) (eqI (by rfl)) rfl trivial
    · refine M.tableIn (pc := 1) 3 (tgt := 68) dX7_told_1 (by omega) (by omega) (by omega) rfl (by decide) ?_
      refine M.aloadn (pc := 68) 0 rfl rfl dX7_told_68 ?_
      refine M.getf (pc := 69) fg_X7_21 0 rfl rfl dX7_told_69 ?_
      refine M.getf (pc := 72) fg_X7_86 2 rfl rfl dX7_told_72 ?_
      exact EI () _ _ _ _ dX7_told_75 (Or.inl rfl) (eqI (by rfl)) rfl trivial
    · refine M.tableIn (pc := 1) 4 (tgt := 76) dX7_told_1 (by omega) (by omega) (by omega) rfl (by decide) ?_
      refine M.aloadn (pc := 76) 0 rfl rfl dX7_told_76 ?_
      refine M.getf (pc := 77) fg_X7_25 0 rfl rfl dX7_told_77 ?_
      refine M.getf (pc := 80) fg_X7_86 3 rfl rfl dX7_told_80 ?_
      exact EI () _ _ _ _ dX7_told_83 (Or.inl rfl) (eqI (by rfl)) rfl trivial
    · refine M.tableIn (pc := 1) 5 (tgt := 84) dX7_told_1 (by omega) (by omega) (by omega) rfl (by decide) ?_
      refine M.aloadn (pc := 84) 0 rfl rfl dX7_told_84 ?_
      refine M.getf (pc := 85) fg_X7_10 0 rfl rfl dX7_told_85 ?_
      refine M.getf (pc := 88) fg_X7_74 1 rfl rfl dX7_told_88 ?_
      exact EI () _ _ _ _ dX7_told_91 (Or.inl rfl) (eqI (by rfl)) rfl trivial
    · refine M.tableIn (pc := 1) 6 (tgt := 92) dX7_told_1 (by omega) (by omega) (by omega) rfl (by decide) ?_
      refine M.aloadn (pc := 92) 0 rfl rfl dX7_told_92 ?_
      refine M.getf (pc := 93) fg_X7_41 0 rfl rfl dX7_told_93 ?_
      refine M.getf (pc := 96) fg_X7_111 4 rfl rfl dX7_told_96 ?_
      refine M.if_eqP (pc := 99) (tgt := 106) dX7_told_99 (by decide) (fun c99 => ?_) (fun c99 => ?_)
      · refine M.iconst (pc := 106) dX7_told_106 ?_
        exact EI () _ _ _ _ dX7_told_107 (Or.inl rfl) (eqI (by first | exact pI_t c99 | exact pI_f c99)) rfl trivial
      · refine M.iconst (pc := 102) dX7_told_102 ?_
        refine M.goto (pc := 103) (tgt := 107) dX7_told_103 (by decide) ?_
        exact EI () _ _ _ _ dX7_told_107 (Or.inl rfl) (eqI (by first | exact pI_t c99 | exact pI_f c99)) rfl trivial
set_option maxHeartbeats 4000000 in
set_option maxRecDepth 100000 in
theorem c_X7_refusalOfRow {l : Launch} {G : GT} {x r mo en i0 i1 e f t h h2 : Nat} {vs : Int} {hb ht : Nat} {vb vn vo : Int} {q qc N : Nat} {c M : Int} {g : Int → Int} {b hh S v : Int} (hn : 0 ≤ vn ∧ vn ≤ 6) (hnb : 0 ≤ vb ∧ vb ≤ 2) (hN : (N : Int) = 4 * M) (hN4 : N ≤ 400) (hc : 0 ≤ c ∧ c ≤ M) (hrb : InR b) (hrhh : InR hh) (hrS : InR S) (hrv : InR v) : ConF l G yX7_refusalOfRow cX7_refusalOfRow 6 (some .int) { frames := 2, cells := 0, slots := 0, locals := 41 } [.ref x, .int (iI b), .int (iI hh), .int (iI S), .int (iI v), .ref q] [(x, eO 7 [.ref r, .ref mo, .ref en, .ref i0, .ref i1, .ref e, .ref f, .ref t, .ref h, .ref h2, .int (iI vs)]), (h, eO 3 [.ref hb, .ref ht, .int (iI vb), .int (iI vn), .int (iI vo)]), (q, eO 6 [.ref qc, .int (iI c)]), (qc, eI G N g)] (some (.int (iI (aRef vb vn b hh S v c M)))) := by
  refine Con.mk (by decide +kernel) [some (.ref x), some (.int (iI b)), some (.int (iI hh)), some (.int (iI S)), some (.int (iI v)), some (.ref q)] rfl (Nat.le_of_ble_eq_true rfl) rfl ?_
  intro V M EI EL EV EA
  refine M.aloadn (pc := 0) 0 rfl rfl dX7_refusalOfRow_0 ?_
  refine M.getf (pc := 1) fg_X7_62 0 rfl rfl dX7_refusalOfRow_1 ?_
  refine M.iloadn (pc := 4) 1 rfl rfl dX7_refusalOfRow_4 ?_
  refine M.pV (pc := 5) (c_X3_hasBath  (by first | assumption | omega) (by first | assumption | omega)) mv_X7_114 [1] rfl rfl rfl 1 rfl rfl rfl rfl (Nat.le_of_ble_eq_true rfl) rfl ⟨(Nat.le_of_ble_eq_true rfl), (Nat.le_of_ble_eq_true rfl)⟩ ⟨(Nat.le_of_ble_eq_true rfl), (Nat.le_of_ble_eq_true rfl)⟩ rfl dX7_refusalOfRow_5 ?_
  refine M.if_eqP (pc := 8) (tgt := 22) dX7_refusalOfRow_8 (by decide) (fun c8 => ?_) (fun c8 => ?_)
  · refine M.ldc (pc := 22) (-1000000001) lc_X7_118 (by decide +kernel) dX7_refusalOfRow_22 ?_
    exact EI () _ _ _ _ dX7_refusalOfRow_24 (Or.inl rfl) (eqI (by unfold aRef; (repeat' split) <;> first | omega | rfl)) rfl trivial
  · refine M.aloadn (pc := 11) 0 rfl rfl dX7_refusalOfRow_11 ?_
    refine M.getf (pc := 12) fg_X7_62 0 rfl rfl dX7_refusalOfRow_12 ?_
    refine M.iloadn (pc := 15) 3 rfl rfl dX7_refusalOfRow_15 ?_
    refine M.pV (pc := 16) (c_X3_hasSet  (by first | assumption | omega) (by first | assumption | omega)) mv_X7_136 [1] rfl rfl rfl 1 rfl rfl rfl rfl (Nat.le_of_ble_eq_true rfl) rfl ⟨(Nat.le_of_ble_eq_true rfl), (Nat.le_of_ble_eq_true rfl)⟩ ⟨(Nat.le_of_ble_eq_true rfl), (Nat.le_of_ble_eq_true rfl)⟩ rfl dX7_refusalOfRow_16 ?_
    refine M.if_neP (pc := 19) (tgt := 25) dX7_refusalOfRow_19 (by decide) (fun c19 => ?_) (fun c19 => ?_)
    · refine M.iloadn (pc := 25) 2 rfl rfl dX7_refusalOfRow_25 ?_
      refine M.pS (pc := 26) (c_X7_isHour  (by first | assumption | omega)) ms_X7_139 [] rfl rfl rfl rfl (Nat.le_of_ble_eq_true rfl) rfl ⟨(Nat.le_of_ble_eq_true rfl), (Nat.le_of_ble_eq_true rfl)⟩ ⟨(Nat.le_of_ble_eq_true rfl), (Nat.le_of_ble_eq_true rfl)⟩ rfl dX7_refusalOfRow_26 ?_
      refine M.if_eqP (pc := 29) (tgt := 40) dX7_refusalOfRow_29 (by decide) (fun c29 => ?_) (fun c29 => ?_)
      · refine M.ldc (pc := 40) (-1000000002) lc_X7_69 (by decide +kernel) dX7_refusalOfRow_40 ?_
        exact EI () _ _ _ _ dX7_refusalOfRow_42 (Or.inl rfl) (eqI (by unfold aRef; (repeat' split) <;> first | omega | rfl)) rfl trivial
      · refine M.iload (pc := 32) (i := 4) rfl dX7_refusalOfRow_32 ?_
        refine M.pS (pc := 34) (c_X7_isHeight  (by first | assumption | omega)) ms_X7_149 [] rfl rfl rfl rfl (Nat.le_of_ble_eq_true rfl) rfl ⟨(Nat.le_of_ble_eq_true rfl), (Nat.le_of_ble_eq_true rfl)⟩ ⟨(Nat.le_of_ble_eq_true rfl), (Nat.le_of_ble_eq_true rfl)⟩ rfl dX7_refusalOfRow_34 ?_
        refine M.if_neP (pc := 37) (tgt := 43) dX7_refusalOfRow_37 (by decide) (fun c37 => ?_) (fun c37 => ?_)
        · refine M.aload (pc := 43) (i := 5) rfl dX7_refusalOfRow_43 ?_
          refine M.pV (pc := 45) (c_X6_hasRoom  (by first | assumption | omega) (by first | assumption | omega)) mv_X7_276 [2, 3] rfl rfl rfl 2 rfl rfl rfl rfl (Nat.le_of_ble_eq_true rfl) rfl ⟨(Nat.le_of_ble_eq_true rfl), (Nat.le_of_ble_eq_true rfl)⟩ ⟨(Nat.le_of_ble_eq_true rfl), (Nat.le_of_ble_eq_true rfl)⟩ rfl dX7_refusalOfRow_45 ?_
          refine M.if_eqP (pc := 48) (tgt := 55) dX7_refusalOfRow_48 (by decide) (fun c48 => ?_) (fun c48 => ?_)
          · refine M.ldc (pc := 55) (-1000000004) lc_X7_78 (by decide +kernel) dX7_refusalOfRow_55 ?_
            exact EI () _ _ _ _ dX7_refusalOfRow_57 (Or.inl rfl) (eqI (by unfold aRef; (repeat' split) <;> first | omega | rfl)) rfl trivial
          · refine M.iconst (pc := 51) dX7_refusalOfRow_51 ?_
            refine M.goto (pc := 52) (tgt := 57) dX7_refusalOfRow_52 (by decide) ?_
            exact EI () _ _ _ _ dX7_refusalOfRow_57 (Or.inl rfl) (eqI (by unfold aRef; (repeat' split) <;> first | omega | rfl)) rfl trivial
        · refine M.ldc (pc := 40) (-1000000002) lc_X7_69 (by decide +kernel) dX7_refusalOfRow_40 ?_
          exact EI () _ _ _ _ dX7_refusalOfRow_42 (Or.inl rfl) (eqI (by unfold aRef; (repeat' split) <;> first | omega | rfl)) rfl trivial
    · refine M.ldc (pc := 22) (-1000000001) lc_X7_118 (by decide +kernel) dX7_refusalOfRow_22 ?_
      exact EI () _ _ _ _ dX7_refusalOfRow_24 (Or.inl rfl) (eqI (by unfold aRef; (repeat' split) <;> first | omega | rfl)) rfl trivial
set_option maxHeartbeats 4000000 in
set_option maxRecDepth 100000 in
theorem c_X7_morning {l : Launch} {G : GT} {x r mo en i0 i1 e f t h h2 : Nat} {vs : Int} {hb ht : Nat} {fb ft : Int → Int} {vb vn vo : Int} {moc : Nat} {vm : Int} {gmC : Int → Int} {eLo eUp eSe eLe eGr : Nat} {el eu gs gL gG : Int → Int} {ecl : Bool} {te fcr : Nat} {fcc ffo : Int} {ffd : Bool} {b hh S v : Int} (hn : 0 ≤ vn ∧ vn ≤ 6) (hnb : 0 ≤ vb ∧ vb ≤ 2) (hB : HB fb) (hT : HT ft) (hV : HV fb vb) (hVT : HVT ft vn) (ho : 0 ≤ vo ∧ vo ≤ 999) (hc : 0 ≤ vm ∧ vm ≤ 12) (hM : HM gmC vm vb vn) (hL : LRN vn vm fb ft gmC ecl el eu) (hF : FLS vn vm fb ft gmC ffd ffo) (hrb : InR b) (hrhh : InR hh) (hrS : InR S) (hrv : InR v) : Con l G yX7_morning cX7_morning 6 (some .int) { frames := 6, cells := 0, slots := 0, locals := 137 } [.ref x, .int (iI b), .int (iI hh), .int (iI S), .int (iI v)] [(x, eO 7 [.ref r, .ref mo, .ref en, .ref i0, .ref i1, .ref e, .ref f, .ref t, .ref h, .ref h2, .int (iI vs)]), (mo, eO 6 [.ref moc, .int (iI vm)]), (moc, eI G 48 gmC), (e, eO 1 [.ref eLo, .ref eUp, .ref eSe, .ref eLe, .ref eGr, .int (iI (pI (ecl = true)))]), (eLo, eI G 6 el), (eUp, eI G 6 eu), (eSe, eI G 12 gs), (eLe, eI G 12 gL), (eGr, eI G 12 gG), (f, eO 2 [.ref te, .ref fcr, .int (iI fcc), .int (iI (pI (ffd = true))), .int (iI ffo)]), (h, eO 3 [.ref hb, .ref ht, .int (iI vb), .int (iI vn), .int (iI vo)]), (hb, eI G 8 fb), (ht, eI G 24 ft)] (S := Bool × (Int → Int) × (Int → Int) × (Int → Int) × (Int → Int) × (Int → Int) × Bool) (fun _ => some (.int (iI (rwA (aRef vb vn b hh S v vm 12) vm)))) (fun u => [(x, eO 7 [.ref r, .ref mo, .ref en, .ref i0, .ref i1, .ref e, .ref f, .ref t, .ref h, .ref h2, .int (iI vs)]), (mo, eO 6 [.ref moc, .int (iI (rwN (aRef vb vn b hh S v vm 12) vm))]), (moc, eI G 48 (rwG gmC (aRef vb vn b hh S v vm 12) vm b hh S v)), (e, eO 1 [.ref eLo, .ref eUp, .ref eSe, .ref eLe, .ref eGr, .int (iI (pI (u.1 = true)))]), (eLo, eI G 6 u.2.1), (eUp, eI G 6 u.2.2.1), (eSe, eI G 12 u.2.2.2.1), (eLe, eI G 12 u.2.2.2.2.1), (eGr, eI G 12 u.2.2.2.2.2.1), (f, eO 2 [.ref te, .ref fcr, .int (iI fcc), .int (iI (pI (u.2.2.2.2.2.2 = true))), .int (iI ffo)]), (h, eO 3 [.ref hb, .ref ht, .int (iI vb), .int (iI vn), .int (iI vo)]), (hb, eI G 8 fb), (ht, eI G 24 ft)]) (fun u => LRN vn (rwN (aRef vb vn b hh S v vm 12) vm) fb ft (rwG gmC (aRef vb vn b hh S v vm 12) vm b hh S v) u.1 u.2.1 u.2.2.1 ∧ FLS vn (rwN (aRef vb vn b hh S v vm 12) vm) fb ft (rwG gmC (aRef vb vn b hh S v vm 12) vm b hh S v) u.2.2.2.2.2.2 ffo) := by
  refine Con.mk (by decide +kernel) [some (.ref x), some (.int (iI b)), some (.int (iI hh)), some (.int (iI S)), some (.int (iI v)), none] rfl (Nat.le_of_ble_eq_true rfl) rfl ?_
  intro V M EI EL EV EA
  have hrr := aRef_r vb vn b hh S v vm 12
  refine M.aloadn (pc := 0) 0 rfl rfl dX7_morning_0 ?_
  refine M.iloadn (pc := 1) 1 rfl rfl dX7_morning_1 ?_
  refine M.iloadn (pc := 2) 2 rfl rfl dX7_morning_2 ?_
  refine M.iloadn (pc := 3) 3 rfl rfl dX7_morning_3 ?_
  refine M.iload (pc := 4) (i := 4) rfl dX7_morning_4 ?_
  refine M.aloadn (pc := 6) 0 rfl rfl dX7_morning_6 ?_
  refine M.getf (pc := 7) fg_X7_21 0 rfl rfl dX7_morning_7 ?_
  refine M.pV (pc := 10) (c_X7_refusalOfRow (M := 12) (by first | assumption | omega) (by first | assumption | omega) (by omega) (by first | assumption | omega) (by first | assumption | omega) (by first | assumption | omega) (by first | assumption | omega) (by first | assumption | omega) (by first | assumption | omega)) mv_X7_158 [0, 10, 1, 2] rfl rfl rfl 0 rfl rfl rfl rfl (Nat.le_of_ble_eq_true rfl) rfl ⟨(Nat.le_of_ble_eq_true rfl), (Nat.le_of_ble_eq_true rfl)⟩ ⟨(Nat.le_of_ble_eq_true rfl), (Nat.le_of_ble_eq_true rfl)⟩ rfl dX7_morning_10 ?_
  refine M.istore (pc := 13) (i := 5) (Nat.le_of_ble_eq_true rfl) rfl dX7_morning_13 ?_
  dsimp only [List.set_cons_zero, List.set_cons_succ]
  refine M.iload (pc := 15) (i := 5) rfl dX7_morning_15 ?_
  refine M.if_eq (pc := 17) (tgt := 23) dX7_morning_17 (by decide) (by omega) (fun c17 => ?_) (fun c17 => ?_)
  · have hq := (aRef_0 hc.2).mp c17
    have hM2 := hM.rwG (M := 12) (b := b) (h := hh) (S := S) (v := v) hc.1 hc.2
    rw [rwN_0 c17, rwG_0 c17] at hM2
    refine M.aloadn (pc := 23) 0 rfl rfl dX7_morning_23 ?_
    refine M.getf (pc := 24) fg_X7_21 0 rfl rfl dX7_morning_24 ?_
    refine M.iloadn (pc := 27) 1 rfl rfl dX7_morning_27 ?_
    refine M.iloadn (pc := 28) 2 rfl rfl dX7_morning_28 ?_
    refine M.iloadn (pc := 29) 3 rfl rfl dX7_morning_29 ?_
    refine M.iload (pc := 30) (i := 4) rfl dX7_morning_30 ?_
    refine M.mV (pc := 32) (c_X6_add  (by omega) (by omega)) mv_X7_162 [1, 2] rfl rfl rfl 1 rfl rfl rfl rfl (Nat.le_of_ble_eq_true rfl) rfl ⟨(Nat.le_of_ble_eq_true rfl), (Nat.le_of_ble_eq_true rfl)⟩ ⟨(Nat.le_of_ble_eq_true rfl), (Nat.le_of_ble_eq_true rfl)⟩ rfl (fun _ => rfl) dX7_morning_32 (fun u32 hu32 => ?_)
    obtain ⟨c32, g32⟩ := u32
    dsimp only [putL, List.set_cons_zero, List.set_cons_succ, Option.toList, List.cons_append, List.nil_append] at hu32 ⊢
    obtain ⟨e1, e2⟩ := hu32.1 ⟨by omega, by decide⟩
    subst e1 e2
    refine M.aloadn (pc := 35) 0 rfl rfl dX7_morning_35 ?_
    refine M.mV (pc := 36) (c_X7_learn  (by first | assumption | omega) (by first | assumption | omega) (by first | assumption | omega) (by first | assumption | omega) (by first | assumption | omega) (by first | assumption | omega) (by first | assumption | omega) (by omega) (by exact hM2)) mv_X7_96 [0, 1, 2, 3, 4, 5, 6, 7, 8, 9, 10, 11, 12] rfl rfl rfl 0 rfl rfl rfl rfl (Nat.le_of_ble_eq_true rfl) rfl ⟨(Nat.le_of_ble_eq_true rfl), (Nat.le_of_ble_eq_true rfl)⟩ ⟨(Nat.le_of_ble_eq_true rfl), (Nat.le_of_ble_eq_true rfl)⟩ rfl (fun _ => rfl) dX7_morning_36 (fun u36 hu36 => ?_)
    obtain ⟨cl36, l36, w36, s36, y36, z36⟩ := u36
    dsimp only [putL, List.set_cons_zero, List.set_cons_succ, Option.toList, List.cons_append, List.nil_append] at hu36 ⊢
    refine M.aloadn (pc := 39) 0 rfl rfl dX7_morning_39 ?_
    refine M.getf (pc := 40) fg_X7_21 0 rfl rfl dX7_morning_40 ?_
    refine M.getf (pc := 43) fg_X7_86 1 rfl rfl dX7_morning_43 ?_
    exact EI (cl36, l36, w36, s36, y36, z36, false) _ _ _ _ dX7_morning_46 (Or.inl rfl) (by rw [rwA_0 c17]) (by rw [rwN_0 c17, rwG_0 c17]) (by rw [rwN_0 c17, rwG_0 c17]; exact ⟨hu36, fun z => absurd (show false = true from z) (by decide)⟩)
  · refine M.iload (pc := 20) (i := 5) rfl dX7_morning_20 ?_
    exact EI (ecl, el, eu, gs, gL, gG, ffd) _ _ _ _ dX7_morning_22 (Or.inl rfl) (by rw [rwA_n c17]) (by rw [rwN_n c17, rwG_n c17]) (by rw [rwN_n c17, rwG_n c17]; exact ⟨hL, hF⟩)
set_option maxHeartbeats 4000000 in
set_option maxRecDepth 100000 in
theorem c_X7_write {l : Launch} {G : GT} {x r mo en i0 i1 e f t h h2 : Nat} {vs : Int} {hb ht : Nat} {vb vn vo : Int} {enc : Nat} {vbk : Int} {geC : Int → Int} {b hh S v : Int} (hn : 0 ≤ vn ∧ vn ≤ 6) (hnb : 0 ≤ vb ∧ vb ≤ 2) (hc : 0 ≤ vbk ∧ vbk ≤ 30) (hrb : InR b) (hrhh : InR hh) (hrS : InR S) (hrv : InR v) : Con l G yX7_write cX7_write 6 (some .int) { frames := 3, cells := 0, slots := 0, locals := 66 } [.ref x, .int (iI b), .int (iI hh), .int (iI S), .int (iI v)] [(x, eO 7 [.ref r, .ref mo, .ref en, .ref i0, .ref i1, .ref e, .ref f, .ref t, .ref h, .ref h2, .int (iI vs)]), (en, eO 6 [.ref enc, .int (iI vbk)]), (enc, eI G 120 geC), (h, eO 3 [.ref hb, .ref ht, .int (iI vb), .int (iI vn), .int (iI vo)])] (S := Unit) (fun _ => some (.int (iI (rwA (aRef vb vn b hh S v vbk 30) vbk)))) (fun _ => [(x, eO 7 [.ref r, .ref mo, .ref en, .ref i0, .ref i1, .ref e, .ref f, .ref t, .ref h, .ref h2, .int (iI vs)]), (en, eO 6 [.ref enc, .int (iI (rwN (aRef vb vn b hh S v vbk 30) vbk))]), (enc, eI G 120 (rwG geC (aRef vb vn b hh S v vbk 30) vbk b hh S v)), (h, eO 3 [.ref hb, .ref ht, .int (iI vb), .int (iI vn), .int (iI vo)])]) (fun _ => True) := by
  refine Con.mk (by decide +kernel) [some (.ref x), some (.int (iI b)), some (.int (iI hh)), some (.int (iI S)), some (.int (iI v)), none] rfl (Nat.le_of_ble_eq_true rfl) rfl ?_
  intro V M EI EL EV EA
  have hrr := aRef_r vb vn b hh S v vbk 30
  refine M.aloadn (pc := 0) 0 rfl rfl dX7_write_0 ?_
  refine M.iloadn (pc := 1) 1 rfl rfl dX7_write_1 ?_
  refine M.iloadn (pc := 2) 2 rfl rfl dX7_write_2 ?_
  refine M.iloadn (pc := 3) 3 rfl rfl dX7_write_3 ?_
  refine M.iload (pc := 4) (i := 4) rfl dX7_write_4 ?_
  refine M.aloadn (pc := 6) 0 rfl rfl dX7_write_6 ?_
  refine M.getf (pc := 7) fg_X7_25 0 rfl rfl dX7_write_7 ?_
  refine M.pV (pc := 10) (c_X7_refusalOfRow (M := 30) (by first | assumption | omega) (by first | assumption | omega) (by omega) (by first | assumption | omega) (by first | assumption | omega) (by first | assumption | omega) (by first | assumption | omega) (by first | assumption | omega) (by first | assumption | omega)) mv_X7_158 [0, 3, 1, 2] rfl rfl rfl 0 rfl rfl rfl rfl (Nat.le_of_ble_eq_true rfl) rfl ⟨(Nat.le_of_ble_eq_true rfl), (Nat.le_of_ble_eq_true rfl)⟩ ⟨(Nat.le_of_ble_eq_true rfl), (Nat.le_of_ble_eq_true rfl)⟩ rfl dX7_write_10 ?_
  refine M.istore (pc := 13) (i := 5) (Nat.le_of_ble_eq_true rfl) rfl dX7_write_13 ?_
  dsimp only [List.set_cons_zero, List.set_cons_succ]
  refine M.iload (pc := 15) (i := 5) rfl dX7_write_15 ?_
  refine M.if_eq (pc := 17) (tgt := 23) dX7_write_17 (by decide) (by omega) (fun c17 => ?_) (fun c17 => ?_)
  · have hq := (aRef_0 hc.2).mp c17
    refine M.aloadn (pc := 23) 0 rfl rfl dX7_write_23 ?_
    refine M.getf (pc := 24) fg_X7_25 0 rfl rfl dX7_write_24 ?_
    refine M.iloadn (pc := 27) 1 rfl rfl dX7_write_27 ?_
    refine M.iloadn (pc := 28) 2 rfl rfl dX7_write_28 ?_
    refine M.iloadn (pc := 29) 3 rfl rfl dX7_write_29 ?_
    refine M.iload (pc := 30) (i := 4) rfl dX7_write_30 ?_
    refine M.mV (pc := 32) (c_X6_add  (by omega) (by omega)) mv_X7_162 [1, 2] rfl rfl rfl 1 rfl rfl rfl rfl (Nat.le_of_ble_eq_true rfl) rfl ⟨(Nat.le_of_ble_eq_true rfl), (Nat.le_of_ble_eq_true rfl)⟩ ⟨(Nat.le_of_ble_eq_true rfl), (Nat.le_of_ble_eq_true rfl)⟩ rfl (fun _ => rfl) dX7_write_32 (fun u32 hu32 => ?_)
    obtain ⟨c32, g32⟩ := u32
    dsimp only [putL, List.set_cons_zero, List.set_cons_succ, Option.toList, List.cons_append, List.nil_append] at hu32 ⊢
    obtain ⟨e1, e2⟩ := hu32.1 ⟨by omega, by decide⟩
    subst e1 e2
    refine M.aloadn (pc := 35) 0 rfl rfl dX7_write_35 ?_
    refine M.getf (pc := 36) fg_X7_25 0 rfl rfl dX7_write_36 ?_
    refine M.getf (pc := 39) fg_X7_86 1 rfl rfl dX7_write_39 ?_
    exact EI () _ _ _ _ dX7_write_42 (Or.inl rfl) (by rw [rwA_0 c17]) (by rw [rwN_0 c17, rwG_0 c17]) (trivial)
  · refine M.iload (pc := 20) (i := 5) rfl dX7_write_20 ?_
    exact EI () _ _ _ _ dX7_write_22 (Or.inl rfl) (by rw [rwA_n c17]) (by rw [rwN_n c17, rwG_n c17]) (trivial)
set_option maxHeartbeats 4000000 in
set_option maxRecDepth 100000 in
theorem c_X7_strike {l : Launch} {G : GT} {x r mo en i0 i1 e f t h h2 : Nat} {vs : Int} {hb ht : Nat} {fb ft : Int → Int} {vb vn vo : Int} {moc : Nat} {vm : Int} {gmC : Int → Int} {eLo eUp eSe eLe eGr : Nat} {el eu gs gL gG : Int → Int} {ecl : Bool} {te fcr : Nat} {fcc ffo : Int} {ffd : Bool} {i : Int} (hn : 0 ≤ vn ∧ vn ≤ 6) (hnb : 0 ≤ vb ∧ vb ≤ 2) (hB : HB fb) (hT : HT ft) (hV : HV fb vb) (hVT : HVT ft vn) (ho : 0 ≤ vo ∧ vo ≤ 999) (hc : 0 ≤ vm ∧ vm ≤ 12) (hM : HM gmC vm vb vn) (hL : LRN vn vm fb ft gmC ecl el eu) (hF : FLS vn vm fb ft gmC ffd ffo) (hri : InR i) : Con l G yX7_strike cX7_strike 2 (some .int) { frames := 6, cells := 0, slots := 0, locals := 137 } [.ref x, .int (iI i)] [(x, eO 7 [.ref r, .ref mo, .ref en, .ref i0, .ref i1, .ref e, .ref f, .ref t, .ref h, .ref h2, .int (iI vs)]), (mo, eO 6 [.ref moc, .int (iI vm)]), (moc, eI G 48 gmC), (e, eO 1 [.ref eLo, .ref eUp, .ref eSe, .ref eLe, .ref eGr, .int (iI (pI (ecl = true)))]), (eLo, eI G 6 el), (eUp, eI G 6 eu), (eSe, eI G 12 gs), (eLe, eI G 12 gL), (eGr, eI G 12 gG), (f, eO 2 [.ref te, .ref fcr, .int (iI fcc), .int (iI (pI (ffd = true))), .int (iI ffo)]), (h, eO 3 [.ref hb, .ref ht, .int (iI vb), .int (iI vn), .int (iI vo)]), (hb, eI G 8 fb), (ht, eI G 24 ft)] (S := (Int → Int) × Bool × (Int → Int) × (Int → Int) × (Int → Int) × (Int → Int) × (Int → Int) × Bool) (fun _ => some (.int (iI (aStrike vm i)))) (fun u => [(x, eO 7 [.ref r, .ref mo, .ref en, .ref i0, .ref i1, .ref e, .ref f, .ref t, .ref h, .ref h2, .int (iI vs)]), (mo, eO 6 [.ref moc, .int (iI (stN vm i))]), (moc, eI G 48 u.1), (e, eO 1 [.ref eLo, .ref eUp, .ref eSe, .ref eLe, .ref eGr, .int (iI (pI (u.2.1 = true)))]), (eLo, eI G 6 u.2.2.1), (eUp, eI G 6 u.2.2.2.1), (eSe, eI G 12 u.2.2.2.2.1), (eLe, eI G 12 u.2.2.2.2.2.1), (eGr, eI G 12 u.2.2.2.2.2.2.1), (f, eO 2 [.ref te, .ref fcr, .int (iI fcc), .int (iI (pI (u.2.2.2.2.2.2.2 = true))), .int (iI ffo)]), (h, eO 3 [.ref hb, .ref ht, .int (iI vb), .int (iI vn), .int (iI vo)]), (hb, eI G 8 fb), (ht, eI G 24 ft)]) (fun u => STG gmC vm i u.1 ∧ LRN vn (stN vm i) fb ft u.1 u.2.1 u.2.2.1 u.2.2.2.1 ∧ FLS vn (stN vm i) fb ft u.1 u.2.2.2.2.2.2.2 ffo) := by
  refine Con.mk (by decide +kernel) [some (.ref x), some (.int (iI i))] rfl (Nat.le_of_ble_eq_true rfl) rfl ?_
  intro V M EI EL EV EA
  refine M.iloadn (pc := 0) 1 rfl rfl dX7_strike_0 ?_
  refine M.if_lt (pc := 1) (tgt := 15) dX7_strike_1 (by decide) (by omega) (fun c1 => ?_) (fun c1 => ?_)
  · refine M.ldc (pc := 15) (-1000000001) lc_X7_118 (by decide +kernel) dX7_strike_15 ?_
    have hi2 : ¬ (0 ≤ i ∧ i < vm) := by omega
    exact EI (gmC, ecl, el, eu, gs, gL, gG, ffd) _ _ _ _ dX7_strike_17 (Or.inl rfl) (eqI (by unfold aStrike; rw [if_neg hi2])) (by rw [stN_n hi2]) (⟨⟨fun z => absurd z hi2, fun _ => rfl⟩, by rw [stN_n hi2]; exact ⟨hL, hF⟩⟩)
  · refine M.iloadn (pc := 4) 1 rfl rfl dX7_strike_4 ?_
    refine M.aloadn (pc := 5) 0 rfl rfl dX7_strike_5 ?_
    refine M.getf (pc := 6) fg_X7_21 0 rfl rfl dX7_strike_6 ?_
    refine M.getf (pc := 9) fg_X7_86 1 rfl rfl dX7_strike_9 ?_
    refine M.icmp_lt (pc := 12) (tgt := 18) dX7_strike_12 (by decide) (by omega) (by omega) (fun c12 => ?_) (fun c12 => ?_)
    · have hi2 : 0 ≤ i ∧ i < vm := by omega
      refine M.aloadn (pc := 18) 0 rfl rfl dX7_strike_18 ?_
      refine M.getf (pc := 19) fg_X7_21 0 rfl rfl dX7_strike_19 ?_
      refine M.iloadn (pc := 22) 1 rfl rfl dX7_strike_22 ?_
      refine M.mV (pc := 23) (c_X6_drop  (by omega) (by omega) (by omega)) mv_X7_166 [1, 2] rfl rfl rfl 1 rfl rfl rfl rfl (Nat.le_of_ble_eq_true rfl) rfl ⟨(Nat.le_of_ble_eq_true rfl), (Nat.le_of_ble_eq_true rfl)⟩ ⟨(Nat.le_of_ble_eq_true rfl), (Nat.le_of_ble_eq_true rfl)⟩ rfl (fun _ => rfl) dX7_strike_23 (fun u23 hu23 => ?_)
      obtain ⟨c23, g23⟩ := u23
      dsimp only [putL, List.set_cons_zero, List.set_cons_succ, Option.toList, List.cons_append, List.nil_append] at hu23 ⊢
      obtain ⟨e1, e2, e3⟩ := hu23
      subst e1
      have hst : STG gmC vm i g23 := ⟨fun _ => ⟨e2, fun y y0 y1 => e3 y y0 (by omega)⟩, fun z => absurd hi2 z⟩
      have hM2 := hst.hm hM
      rw [stN_0 hi2] at hM2
      refine M.aloadn (pc := 26) 0 rfl rfl dX7_strike_26 ?_
      refine M.mV (pc := 27) (c_X7_learn  (by first | assumption | omega) (by first | assumption | omega) (by first | assumption | omega) (by first | assumption | omega) (by first | assumption | omega) (by first | assumption | omega) (by first | assumption | omega) (by omega) (by exact hM2)) mv_X7_96 [0, 1, 2, 3, 4, 5, 6, 7, 8, 9, 10, 11, 12] rfl rfl rfl 0 rfl rfl rfl rfl (Nat.le_of_ble_eq_true rfl) rfl ⟨(Nat.le_of_ble_eq_true rfl), (Nat.le_of_ble_eq_true rfl)⟩ ⟨(Nat.le_of_ble_eq_true rfl), (Nat.le_of_ble_eq_true rfl)⟩ rfl (fun _ => rfl) dX7_strike_27 (fun u27 hu27 => ?_)
      obtain ⟨cl27, l27, w27, s27, y27, z27⟩ := u27
      dsimp only [putL, List.set_cons_zero, List.set_cons_succ, Option.toList, List.cons_append, List.nil_append] at hu27 ⊢
      refine M.aloadn (pc := 30) 0 rfl rfl dX7_strike_30 ?_
      refine M.getf (pc := 31) fg_X7_21 0 rfl rfl dX7_strike_31 ?_
      refine M.getf (pc := 34) fg_X7_86 1 rfl rfl dX7_strike_34 ?_
      exact EI (g23, cl27, l27, w27, s27, y27, z27, false) _ _ _ _ dX7_strike_37 (Or.inl rfl) (eqI (by unfold aStrike; rw [if_pos hi2])) (by rw [stN_0 hi2]) (⟨hst, by rw [stN_0 hi2]; exact ⟨hu27, fun z => absurd (show false = true from z) (by decide)⟩⟩)
    · refine M.ldc (pc := 15) (-1000000001) lc_X7_118 (by decide +kernel) dX7_strike_15 ?_
      have hi2 : ¬ (0 ≤ i ∧ i < vm) := by omega
      exact EI (gmC, ecl, el, eu, gs, gL, gG, ffd) _ _ _ _ dX7_strike_17 (Or.inl rfl) (eqI (by unfold aStrike; rw [if_neg hi2])) (by rw [stN_n hi2]) (⟨⟨fun z => absurd z hi2, fun _ => rfl⟩, by rw [stN_n hi2]; exact ⟨hL, hF⟩⟩)
set_option maxHeartbeats 4000000 in
set_option maxRecDepth 100000 in
theorem c_X7_forget {l : Launch} {G : GT} {x r mo en i0 i1 e f t h h2 : Nat} {vs : Int} {hb ht : Nat} {fb ft : Int → Int} {vb vn vo : Int} {moc : Nat} {vm : Int} {gmC : Int → Int} {eLo eUp eSe eLe eGr : Nat} {el eu gs gL gG : Int → Int} {ecl : Bool} {te fcr : Nat} {fcc ffo : Int} {ffd : Bool} (hn : 0 ≤ vn ∧ vn ≤ 6) (hnb : 0 ≤ vb ∧ vb ≤ 2) (hB : HB fb) (hT : HT ft) (hV : HV fb vb) (hVT : HVT ft vn) (ho : 0 ≤ vo ∧ vo ≤ 999) (hc : 0 ≤ vm ∧ vm ≤ 12) (hM : HM gmC vm vb vn) : Con l G yX7_forget cX7_forget 2 (some .int) { frames := 6, cells := 0, slots := 0, locals := 137 } [.ref x] [(x, eO 7 [.ref r, .ref mo, .ref en, .ref i0, .ref i1, .ref e, .ref f, .ref t, .ref h, .ref h2, .int (iI vs)]), (mo, eO 6 [.ref moc, .int (iI vm)]), (moc, eI G 48 gmC), (e, eO 1 [.ref eLo, .ref eUp, .ref eSe, .ref eLe, .ref eGr, .int (iI (pI (ecl = true)))]), (eLo, eI G 6 el), (eUp, eI G 6 eu), (eSe, eI G 12 gs), (eLe, eI G 12 gL), (eGr, eI G 12 gG), (f, eO 2 [.ref te, .ref fcr, .int (iI fcc), .int (iI (pI (ffd = true))), .int (iI ffo)]), (h, eO 3 [.ref hb, .ref ht, .int (iI vb), .int (iI vn), .int (iI vo)]), (hb, eI G 8 fb), (ht, eI G 24 ft)] (S := Bool × (Int → Int) × (Int → Int) × (Int → Int) × (Int → Int) × (Int → Int)) (fun _ => some (.int (iI (vm)))) (fun u => [(x, eO 7 [.ref r, .ref mo, .ref en, .ref i0, .ref i1, .ref e, .ref f, .ref t, .ref h, .ref h2, .int (iI vs)]), (mo, eO 6 [.ref moc, .int (iI 0)]), (moc, eI G 48 gmC), (e, eO 1 [.ref eLo, .ref eUp, .ref eSe, .ref eLe, .ref eGr, .int (iI (pI (u.1 = true)))]), (eLo, eI G 6 u.2.1), (eUp, eI G 6 u.2.2.1), (eSe, eI G 12 u.2.2.2.1), (eLe, eI G 12 u.2.2.2.2.1), (eGr, eI G 12 u.2.2.2.2.2), (f, eO 2 [.ref te, .ref fcr, .int (iI fcc), .int (iI (pI (false = true))), .int (iI ffo)]), (h, eO 3 [.ref hb, .ref ht, .int (iI vb), .int (iI vn), .int (iI vo)]), (hb, eI G 8 fb), (ht, eI G 24 ft)]) (fun u => LRN vn 0 fb ft gmC u.1 u.2.1 u.2.2.1) := by
  refine Con.mk (by decide +kernel) [some (.ref x), none] rfl (Nat.le_of_ble_eq_true rfl) rfl ?_
  intro V M EI EL EV EA
  refine M.aloadn (pc := 0) 0 rfl rfl dX7_forget_0 ?_
  refine M.getf (pc := 1) fg_X7_21 0 rfl rfl dX7_forget_1 ?_
  refine M.getf (pc := 4) fg_X7_86 1 rfl rfl dX7_forget_4 ?_
  refine M.istoren (pc := 7) 1 rfl (Nat.le_of_ble_eq_true rfl) rfl dX7_forget_7 ?_
  dsimp only [List.set_cons_zero, List.set_cons_succ]
  refine M.aloadn (pc := 8) 0 rfl rfl dX7_forget_8 ?_
  refine M.getf (pc := 9) fg_X7_21 0 rfl rfl dX7_forget_9 ?_
  refine M.iconst (pc := 12) dX7_forget_12 ?_
  refine M.putf (pc := 13) fp_X7_86 1 rfl rfl rfl (Nat.le_of_ble_eq_true rfl) dX7_forget_13 ?_
  dsimp only [List.set_cons_zero, List.set_cons_succ]
  refine M.aloadn (pc := 16) 0 rfl rfl dX7_forget_16 ?_
  refine M.mV (pc := 17) (c_X7_learn  (by first | assumption | omega) (by first | assumption | omega) (by first | assumption | omega) (by first | assumption | omega) (by first | assumption | omega) (by first | assumption | omega) (by first | assumption | omega) (by omega) (by exact fun m h0 h1 => by omega)) mv_X7_96 [0, 1, 2, 3, 4, 5, 6, 7, 8, 9, 10, 11, 12] rfl rfl rfl 0 rfl rfl rfl rfl (Nat.le_of_ble_eq_true rfl) rfl ⟨(Nat.le_of_ble_eq_true rfl), (Nat.le_of_ble_eq_true rfl)⟩ ⟨(Nat.le_of_ble_eq_true rfl), (Nat.le_of_ble_eq_true rfl)⟩ rfl (fun _ => rfl) dX7_forget_17 (fun u17 hu17 => ?_)
  obtain ⟨cl17, l17, w17, s17, y17, z17⟩ := u17
  dsimp only [putL, List.set_cons_zero, List.set_cons_succ, Option.toList, List.cons_append, List.nil_append] at hu17 ⊢
  refine M.iloadn (pc := 20) 1 rfl rfl dX7_forget_20 ?_
  exact EI (cl17, l17, w17, s17, y17, z17) _ _ _ _ dX7_forget_21 (Or.inl rfl) (rfl) (rfl) (hu17)
set_option maxHeartbeats 4000000 in
set_option maxRecDepth 100000 in
theorem c_X7_tear {l : Launch} {G : GT} {x r mo en i0 i1 e f t h h2 : Nat} {vs : Int} {enc : Nat} {vbk : Int}  : Con l G yX7_tear cX7_tear 2 (some .int) { frames := 0, cells := 0, slots := 0, locals := 0 } [.ref x] [(x, eO 7 [.ref r, .ref mo, .ref en, .ref i0, .ref i1, .ref e, .ref f, .ref t, .ref h, .ref h2, .int (iI vs)]), (en, eO 6 [.ref enc, .int (iI vbk)])] (S := Unit) (fun _ => some (.int (iI (vbk)))) (fun _ => [(x, eO 7 [.ref r, .ref mo, .ref en, .ref i0, .ref i1, .ref e, .ref f, .ref t, .ref h, .ref h2, .int (iI vs)]), (en, eO 6 [.ref enc, .int (iI 0)])]) (fun _ => True) := by
  refine Con.mk (by decide +kernel) [some (.ref x), none] rfl (Nat.le_of_ble_eq_true rfl) rfl ?_
  intro V M EI EL EV EA
  refine M.aloadn (pc := 0) 0 rfl rfl dX7_tear_0 ?_
  refine M.getf (pc := 1) fg_X7_25 0 rfl rfl dX7_tear_1 ?_
  refine M.getf (pc := 4) fg_X7_86 1 rfl rfl dX7_tear_4 ?_
  refine M.istoren (pc := 7) 1 rfl (Nat.le_of_ble_eq_true rfl) rfl dX7_tear_7 ?_
  dsimp only [List.set_cons_zero, List.set_cons_succ]
  refine M.aloadn (pc := 8) 0 rfl rfl dX7_tear_8 ?_
  refine M.getf (pc := 9) fg_X7_25 0 rfl rfl dX7_tear_9 ?_
  refine M.iconst (pc := 12) dX7_tear_12 ?_
  refine M.putf (pc := 13) fp_X7_86 1 rfl rfl rfl (Nat.le_of_ble_eq_true rfl) dX7_tear_13 ?_
  dsimp only [List.set_cons_zero, List.set_cons_succ]
  refine M.iloadn (pc := 16) 1 rfl rfl dX7_tear_16 ?_
  exact EI () _ _ _ _ dX7_tear_17 (Or.inl rfl) (rfl) (rfl) (trivial)
set_option maxHeartbeats 4000000 in
set_option maxRecDepth 100000 in
theorem c_X7_seed {l : Launch} {G : GT} {x r mo en i0 i1 e f t h h2 : Nat} {vs : Int} {v : Int} (hrv : InR v) : Con l G yX7_seed cX7_seed 3 (some .int) { frames := 0, cells := 0, slots := 0, locals := 0 } [.ref x, .int (iI v)] [(x, eO 7 [.ref r, .ref mo, .ref en, .ref i0, .ref i1, .ref e, .ref f, .ref t, .ref h, .ref h2, .int (iI vs)])] (S := Unit) (fun _ => some (.int (iI (aSeed v vs)))) (fun _ => [(x, eO 7 [.ref r, .ref mo, .ref en, .ref i0, .ref i1, .ref e, .ref f, .ref t, .ref h, .ref h2, .int (iI (sdN v vs))])]) (fun _ => True) := by
  refine Con.mk (by decide +kernel) [some (.ref x), some (.int (iI v)), none] rfl (Nat.le_of_ble_eq_true rfl) rfl ?_
  intro V M EI EL EV EA
  refine M.iloadn (pc := 0) 1 rfl rfl dX7_seed_0 ?_
  refine M.if_ge (pc := 1) (tgt := 7) dX7_seed_1 (by decide) (by omega) (fun c1 => ?_) (fun c1 => ?_)
  · refine M.aloadn (pc := 7) 0 rfl rfl dX7_seed_7 ?_
    refine M.getf (pc := 8) fg_X7_257 0 rfl rfl dX7_seed_8 ?_
    refine M.istoren (pc := 11) 2 rfl (Nat.le_of_ble_eq_true rfl) rfl dX7_seed_11 ?_
    dsimp only [List.set_cons_zero, List.set_cons_succ]
    refine M.aloadn (pc := 12) 0 rfl rfl dX7_seed_12 ?_
    refine M.iloadn (pc := 13) 1 rfl rfl dX7_seed_13 ?_
    refine M.putf (pc := 14) fp_X7_257 0 rfl rfl rfl (Nat.le_of_ble_eq_true rfl) dX7_seed_14 ?_
    dsimp only [List.set_cons_zero, List.set_cons_succ]
    refine M.iloadn (pc := 17) 2 rfl rfl dX7_seed_17 ?_
    exact EI () _ _ _ _ dX7_seed_18 (Or.inl rfl) (eqI (by unfold aSeed; rw [if_neg (by omega)])) (by unfold sdN; rw [if_neg (by omega)]) (trivial)
  · refine M.ldc (pc := 4) (-1000000002) lc_X7_69 (by decide +kernel) dX7_seed_4 ?_
    exact EI () _ _ _ _ dX7_seed_6 (Or.inl rfl) (eqI (by unfold aSeed; rw [if_pos (by omega)])) (by unfold sdN; rw [if_pos (by omega)]) (trivial)
set_option maxHeartbeats 4000000 in
set_option maxRecDepth 100000 in
theorem c_X7_judge {l : Launch} {G : GT} {x r mo en i0 i1 e f t h h2 : Nat} {vs : Int} {hb ht : Nat} {fb ft : Int → Int} {vb vn vo : Int} {enc : Nat} {vbk : Int} {geC : Int → Int} (hn : 0 ≤ vn ∧ vn ≤ 6) (hnb : 0 ≤ vb ∧ vb ≤ 2) (hB : HB fb) (hT : HT ft) (hV : HV fb vb) (hVT : HVT ft vn) (ho : 0 ≤ vo ∧ vo ≤ 999) (hbk : 0 ≤ vbk ∧ vbk ≤ 30) (hM : HM geC vbk vb vn) : Con l G yX7_judge cX7_judge 3 (some .int) { frames := 3, cells := 0, slots := 0, locals := 68 } [.ref x] [(x, eO 7 [.ref r, .ref mo, .ref en, .ref i0, .ref i1, .ref e, .ref f, .ref t, .ref h, .ref h2, .int (iI vs)]), (en, eO 6 [.ref enc, .int (iI vbk)]), (enc, eI G 120 geC), (h, eO 3 [.ref hb, .ref ht, .int (iI vb), .int (iI vn), .int (iI vo)]), (hb, eI G 8 fb), (ht, eI G 24 ft)] (S := Int) (fun u => some (.int (iI u))) (fun _ => [(x, eO 7 [.ref r, .ref mo, .ref en, .ref i0, .ref i1, .ref e, .ref f, .ref t, .ref h, .ref h2, .int (iI vs)]), (en, eO 6 [.ref enc, .int (iI vbk)]), (enc, eI G 120 geC), (h, eO 3 [.ref hb, .ref ht, .int (iI vb), .int (iI vn), .int (iI vo)]), (hb, eI G 8 fb), (ht, eI G 24 ft)]) (fun u => JUD (juP fb ft geC vn) vbk u) := by
  refine Con.mk (by decide +kernel) [some (.ref x), none, none] rfl (Nat.le_of_ble_eq_true rfl) rfl ?_
  intro V M EI EL EV EA
  have hp2 := p2_6 hn.2
  refine M.iconst (pc := 0) dX7_judge_0 ?_
  refine M.istoren (pc := 1) 1 rfl (Nat.le_of_ble_eq_true rfl) rfl dX7_judge_1 ?_
  dsimp only [List.set_cons_zero, List.set_cons_succ]
  have L2 : ∀ (fu : Nat) {k : Int}, (0 ≤ k ∧ k ≤ vbk) → (∀ j, 0 ≤ j → j < k → ¬ (juP fb ft geC vn) j) → (vbk - k).toNat < fu → V 0 0 2 [(x, eO 7 [.ref r, .ref mo, .ref en, .ref i0, .ref i1, .ref e, .ref f, .ref t, .ref h, .ref h2, .int (iI vs)]), (en, eO 6 [.ref enc, .int (iI vbk)]), (enc, eI G 120 geC), (h, eO 3 [.ref hb, .ref ht, .int (iI vb), .int (iI vn), .int (iI vo)]), (hb, eI G 8 fb), (ht, eI G 24 ft)] [some (.ref x), some (.int (iI k)), none] [] := by
    intro fu
    induction fu with
    | zero => intro k hk hno hm; exact absurd hm (Nat.not_lt_zero _)
    | succ fu ih2 =>
      intro k hk hno hm2
      refine M.iloadn (pc := 2) 1 rfl rfl dX7_judge_2 ?_
      refine M.aloadn (pc := 3) 0 rfl rfl dX7_judge_3 ?_
      refine M.getf (pc := 4) fg_X7_25 0 rfl rfl dX7_judge_4 ?_
      refine M.getf (pc := 7) fg_X7_86 1 rfl rfl dX7_judge_7 ?_
      refine M.icmp_ge (pc := 10) (tgt := 72) dX7_judge_10 (by decide) (by omega) (by omega) (fun c10 => ?_) (fun c10 => ?_)
      · refine M.iconst (pc := 72) dX7_judge_72 ?_
        exact EI (-1) _ _ _ _ dX7_judge_73 (Or.inl rfl) (rfl) (rfl) (Or.inl ⟨rfl, fun j h0 h1 => hno j h0 (by omega)⟩)
      · have hmk := hM k hk.1 (by omega)
        have hsb := sizeS_b (S := geC (k * 4 + 2)) hVT hn.1 hn.2 (by omega : (vn.toNat : Int) ≤ vn)
        have hc0 := caseS_0 (gt := ft) (od := vo) (S := geC (k * 4 + 2)) hn
        have hce : ∀ w, cel geC vbk k w = geC (k * 4 + w) := fun w => if_pos (by omega)
        refine M.aloadn (pc := 13) 0 rfl rfl dX7_judge_13 ?_
        refine M.getf (pc := 14) fg_X7_62 0 rfl rfl dX7_judge_14 ?_
        refine M.aloadn (pc := 17) 0 rfl rfl dX7_judge_17 ?_
        refine M.getf (pc := 18) fg_X7_25 0 rfl rfl dX7_judge_18 ?_
        refine M.iloadn (pc := 21) 1 rfl rfl dX7_judge_21 ?_
        refine M.pV (pc := 22) (c_X6_setAt  (by omega) (by omega) (by omega)) mv_X7_239 [1, 2] rfl rfl rfl 1 rfl rfl rfl rfl (Nat.le_of_ble_eq_true rfl) rfl ⟨(Nat.le_of_ble_eq_true rfl), (Nat.le_of_ble_eq_true rfl)⟩ ⟨(Nat.le_of_ble_eq_true rfl), (Nat.le_of_ble_eq_true rfl)⟩ rfl dX7_judge_22 ?_
        rw [hce]
        refine M.pV (pc := 25) (c_X3_inTruth  (by first | assumption | omega) (by first | assumption | omega) (by first | assumption | omega) (by omega)) mv_X7_142 [3, 4, 5] rfl rfl rfl 3 rfl rfl rfl rfl (Nat.le_of_ble_eq_true rfl) rfl ⟨(Nat.le_of_ble_eq_true rfl), (Nat.le_of_ble_eq_true rfl)⟩ ⟨(Nat.le_of_ble_eq_true rfl), (Nat.le_of_ble_eq_true rfl)⟩ rfl dX7_judge_25 ?_
        rw [hc0]
        refine M.istoren (pc := 28) 2 rfl (Nat.le_of_ble_eq_true rfl) rfl dX7_judge_28 ?_
        dsimp only [List.set_cons_zero, List.set_cons_succ]
        refine M.aloadn (pc := 29) 0 rfl rfl dX7_judge_29 ?_
        refine M.getf (pc := 30) fg_X7_25 0 rfl rfl dX7_judge_30 ?_
        refine M.iloadn (pc := 33) 1 rfl rfl dX7_judge_33 ?_
        refine M.pV (pc := 34) (c_X6_heightAt  (by omega) (by omega) (by omega)) mv_X7_242 [1, 2] rfl rfl rfl 1 rfl rfl rfl rfl (Nat.le_of_ble_eq_true rfl) rfl ⟨(Nat.le_of_ble_eq_true rfl), (Nat.le_of_ble_eq_true rfl)⟩ ⟨(Nat.le_of_ble_eq_true rfl), (Nat.le_of_ble_eq_true rfl)⟩ rfl dX7_judge_34 ?_
        rw [hce]
        refine M.aloadn (pc := 37) 0 rfl rfl dX7_judge_37 ?_
        refine M.getf (pc := 38) fg_X7_62 0 rfl rfl dX7_judge_38 ?_
        refine M.aloadn (pc := 41) 0 rfl rfl dX7_judge_41 ?_
        refine M.getf (pc := 42) fg_X7_25 0 rfl rfl dX7_judge_42 ?_
        refine M.iloadn (pc := 45) 1 rfl rfl dX7_judge_45 ?_
        refine M.pV (pc := 46) (c_X6_bathAt  (by omega) (by omega) (by omega)) mv_X7_245 [1, 2] rfl rfl rfl 1 rfl rfl rfl rfl (Nat.le_of_ble_eq_true rfl) rfl ⟨(Nat.le_of_ble_eq_true rfl), (Nat.le_of_ble_eq_true rfl)⟩ ⟨(Nat.le_of_ble_eq_true rfl), (Nat.le_of_ble_eq_true rfl)⟩ rfl dX7_judge_46 ?_
        rw [hce]
        refine M.aloadn (pc := 49) 0 rfl rfl dX7_judge_49 ?_
        refine M.getf (pc := 50) fg_X7_25 0 rfl rfl dX7_judge_50 ?_
        refine M.iloadn (pc := 53) 1 rfl rfl dX7_judge_53 ?_
        refine M.pV (pc := 54) (c_X6_hourAt  (by omega) (by omega) (by omega)) mv_X7_248 [1, 2] rfl rfl rfl 1 rfl rfl rfl rfl (Nat.le_of_ble_eq_true rfl) rfl ⟨(Nat.le_of_ble_eq_true rfl), (Nat.le_of_ble_eq_true rfl)⟩ ⟨(Nat.le_of_ble_eq_true rfl), (Nat.le_of_ble_eq_true rfl)⟩ rfl dX7_judge_54 ?_
        rw [hce]
        refine M.iloadn (pc := 57) 2 rfl rfl dX7_judge_57 ?_
        refine M.pV (pc := 58) (c_X3_heightOf  (by first | assumption | omega) (by omega) (by exact hmk.2.1) (by omega)) mv_X7_145 [3, 4, 5] rfl rfl rfl 3 rfl rfl rfl rfl (Nat.le_of_ble_eq_true rfl) rfl ⟨(Nat.le_of_ble_eq_true rfl), (Nat.le_of_ble_eq_true rfl)⟩ ⟨(Nat.le_of_ble_eq_true rfl), (Nat.le_of_ble_eq_true rfl)⟩ rfl dX7_judge_58 ?_
        have hhb := hHei_v hV hmk.1.1 hmk.1.2 (hr := geC (k * 4 + 1)) (s := sizeS ft vn.toNat (geC (k * 4 + 2))) (B := 5994) (by omega) (by omega) (by omega)
        refine M.icmp_eq (pc := 61) (tgt := 66) dX7_judge_61 (by decide) (by omega) (by omega) (fun c61 => ?_) (fun c61 => ?_)
        · refine M.iinc (pc := 66) (i := 1) rfl rfl dX7_judge_66 ?_
          dsimp only [List.set_cons_zero, List.set_cons_succ]
          refine M.goto (pc := 69) (tgt := 2) dX7_judge_69 (by decide) ?_
          refine M.forget 2 ?_
          dsimp only [List.set_cons_zero, List.set_cons_succ]
          exact ih2  (by first | assumption | omega) (by intro j h0 h1; rcases (by omega : j < k ∨ j = k) with w | w; exact hno j h0 w; rw [w]; exact fun z => z c61.symm) (by omega)
        · refine M.iloadn (pc := 64) 1 rfl rfl dX7_judge_64 ?_
          exact EI k _ _ _ _ dX7_judge_65 (Or.inl rfl) (rfl) (rfl) (Or.inr ⟨⟨hk.1, by omega⟩, fun z => c61 z.symm, hno⟩)
  exact L2 _  (by first | assumption | omega) (by intro j _ h; omega) (Nat.lt_succ_self _)
set_option maxHeartbeats 4000000 in
set_option maxRecDepth 100000 in
theorem c_X7_wrong {l : Launch} {G : GT} {x r mo en i0 i1 e f t h h2 : Nat} {vs : Int} {hb ht : Nat} {fb ft : Int → Int} {vb vn vo : Int} {moc : Nat} {vm : Int} {gmC : Int → Int} {eLo eUp eSe eLe eGr : Nat} {el eu gs gL gG : Int → Int} {ecl : Bool} {te fcr : Nat} {fcc ffo : Int} {ffd : Bool} {tLo tUp tSe tLe tGr : Nat} {tl tu ts tL tG gc : Int → Int} {tcl : Bool} (hn : 0 ≤ vn ∧ vn ≤ 6) (hnb : 0 ≤ vb ∧ vb ≤ 2) (hB : HB fb) (hT : HT ft) (hV : HV fb vb) (hVT : HVT ft vn) (ho : 0 ≤ vo ∧ vo ≤ 999) (hc : 0 ≤ vm ∧ vm ≤ 12) (hM : HM gmC vm vb vn) (hL : LRN vn vm fb ft gmC ecl el eu) (hF : FLS vn vm fb ft gmC ffd ffo) : Con l G yX7_wrong cX7_wrong 1 (some .int) { frames := 6, cells := 0, slots := 0, locals := 151 } [.ref x] [(x, eO 7 [.ref r, .ref mo, .ref en, .ref i0, .ref i1, .ref e, .ref f, .ref t, .ref h, .ref h2, .int (iI vs)]), (mo, eO 6 [.ref moc, .int (iI vm)]), (moc, eI G 48 gmC), (e, eO 1 [.ref eLo, .ref eUp, .ref eSe, .ref eLe, .ref eGr, .int (iI (pI (ecl = true)))]), (f, eO 2 [.ref te, .ref fcr, .int (iI fcc), .int (iI (pI (ffd = true))), .int (iI ffo)]), (te, eO 1 [.ref tLo, .ref tUp, .ref tSe, .ref tLe, .ref tGr, .int (iI (pI (tcl = true)))]), (tLo, eI G 6 tl), (tUp, eI G 6 tu), (tSe, eI G 12 ts), (tLe, eI G 12 tL), (tGr, eI G 12 tG), (fcr, eI G 924 gc), (h, eO 3 [.ref hb, .ref ht, .int (iI vb), .int (iI vn), .int (iI vo)]), (hb, eI G 8 fb), (ht, eI G 24 ft)] (S := Int × Int × Bool × Int × (Int → Int) × (Int → Int) × (Int → Int) × (Int → Int) × (Int → Int) × (Int → Int)) (fun u => some (.int (iI u.1))) (fun u => [(x, eO 7 [.ref r, .ref mo, .ref en, .ref i0, .ref i1, .ref e, .ref f, .ref t, .ref h, .ref h2, .int (iI vs)]), (mo, eO 6 [.ref moc, .int (iI vm)]), (moc, eI G 48 gmC), (e, eO 1 [.ref eLo, .ref eUp, .ref eSe, .ref eLe, .ref eGr, .int (iI (pI (ecl = true)))]), (f, eO 2 [.ref te, .ref fcr, .int (iI u.2.1), .int (iI (pI (u.2.2.1 = true))), .int (iI u.2.2.2.1)]), (te, eO 1 [.ref tLo, .ref tUp, .ref tSe, .ref tLe, .ref tGr, .int (iI (pI (tcl = true)))]), (tLo, eI G 6 u.2.2.2.2.2.1), (tUp, eI G 6 u.2.2.2.2.2.2.1), (tSe, eI G 12 u.2.2.2.2.2.2.2.1), (tLe, eI G 12 u.2.2.2.2.2.2.2.2.1), (tGr, eI G 12 u.2.2.2.2.2.2.2.2.2), (fcr, eI G 924 u.2.2.2.2.1), (h, eO 3 [.ref hb, .ref ht, .int (iI vb), .int (iI vn), .int (iI vo)]), (hb, eI G 8 fb), (ht, eI G 24 ft)]) (fun u => IsF vm (fun s => Cl vn vm (fU ft) (fV ft) (mS gmC) (mL fb gmC) (mG fb gmC) (p2 vm - 1 - s)) u.1 ∧ FLS vn vm fb ft gmC u.2.2.1 u.2.2.2.1) := by
  refine Con.mk (by decide +kernel) [some (.ref x)] rfl (Nat.le_of_ble_eq_true rfl) rfl ?_
  intro V M EI EL EV EA
  have L29 : ∀ {a cc fo : Int} {fd : Bool} {gc2 l2 w2 s2 y2 z2 : Int → Int}, (IsF vm (fun s => Cl vn vm (fU ft) (fV ft) (mS gmC) (mL fb gmC) (mG fb gmC) (p2 vm - 1 - s)) a ∧ FLS vn vm fb ft gmC fd fo) → V 0 0 29 [(x, eO 7 [.ref r, .ref mo, .ref en, .ref i0, .ref i1, .ref e, .ref f, .ref t, .ref h, .ref h2, .int (iI vs)]), (mo, eO 6 [.ref moc, .int (iI vm)]), (moc, eI G 48 gmC), (e, eO 1 [.ref eLo, .ref eUp, .ref eSe, .ref eLe, .ref eGr, .int (iI (pI (ecl = true)))]), (f, eO 2 [.ref te, .ref fcr, .int (iI cc), .int (iI (pI (fd = true))), .int (iI fo)]), (te, eO 1 [.ref tLo, .ref tUp, .ref tSe, .ref tLe, .ref tGr, .int (iI (pI (tcl = true)))]), (tLo, eI G 6 l2), (tUp, eI G 6 w2), (tSe, eI G 12 s2), (tLe, eI G 12 y2), (tGr, eI G 12 z2), (fcr, eI G 924 gc2), (h, eO 3 [.ref hb, .ref ht, .int (iI vb), .int (iI vn), .int (iI vo)]), (hb, eI G 8 fb), (ht, eI G 24 ft)] [some (.ref x)] [.int (iI a)] := by
    intro a cc fo fd gc2 l2 w2 s2 y2 z2 hr
    exact EI (a, cc, fd, fo, gc2, l2, w2, s2, y2, z2) _ _ _ _ dX7_wrong_29 (Or.inl rfl) (rfl) (rfl) (hr)
  refine M.aloadn (pc := 0) 0 rfl rfl dX7_wrong_0 ?_
  refine M.getf (pc := 1) fg_X7_41 0 rfl rfl dX7_wrong_1 ?_
  refine M.getf (pc := 4) fg_X7_111 3 rfl rfl dX7_wrong_4 ?_
  refine M.if_eqP (pc := 7) (tgt := 28) dX7_wrong_7 (by decide) (fun c7 => ?_) (fun c7 => ?_)
  · refine M.iconst (pc := 28) dX7_wrong_28 ?_
    exact L29  (by exact ⟨IsF.zero (fun z => c7 (hL.1.cl.mpr (by rw [Int.sub_zero] at z; exact z))), hF⟩)
  · refine M.aloadn (pc := 10) 0 rfl rfl dX7_wrong_10 ?_
    refine M.getf (pc := 11) fg_X7_48 0 rfl rfl dX7_wrong_11 ?_
    refine M.aloadn (pc := 14) 0 rfl rfl dX7_wrong_14 ?_
    refine M.getf (pc := 15) fg_X7_62 0 rfl rfl dX7_wrong_15 ?_
    refine M.aloadn (pc := 18) 0 rfl rfl dX7_wrong_18 ?_
    refine M.getf (pc := 19) fg_X7_21 0 rfl rfl dX7_wrong_19 ?_
    refine M.mV (pc := 22) (c_X2_fewest  (by first | assumption | omega) (by first | assumption | omega) (by first | assumption | omega) (by first | assumption | omega) (by first | assumption | omega) (by first | assumption | omega) (by exact hVT.le) (by exact hF)) mv_X7_169 [4, 5, 6, 7, 8, 9, 10, 11, 12, 13, 14, 1, 2] rfl rfl rfl 4 rfl rfl rfl rfl (Nat.le_of_ble_eq_true rfl) rfl ⟨(Nat.le_of_ble_eq_true rfl), (Nat.le_of_ble_eq_true rfl)⟩ ⟨(Nat.le_of_ble_eq_true rfl), (Nat.le_of_ble_eq_true rfl)⟩ rfl (fun _ => rfl) dX7_wrong_22 (fun u22 hu22 => ?_)
    obtain ⟨a22, cc22, fd22, gc22, l22, w22, s22, y22, z22⟩ := u22
    dsimp only [putL, List.set_cons_zero, List.set_cons_succ, Option.toList, List.cons_append, List.nil_append] at hu22 ⊢
    refine M.goto (pc := 25) (tgt := 29) dX7_wrong_25 (by decide) ?_
    exact L29  (by exact ⟨hu22.2, fun _ => hu22.2⟩)
set_option maxHeartbeats 4000000 in
set_option maxRecDepth 100000 in
theorem c_X7_canBe {l : Launch} {G : GT} {x r mo en i0 i1 e f t h h2 : Nat} {vs : Int} {hb ht : Nat} {fb ft : Int → Int} {vb vn vo : Int} {eLo eUp eSe eLe eGr : Nat} {el eu gs gL gG : Int → Int} {ecl : Bool} {b hh v i : Int} (hn : 0 ≤ vn ∧ vn ≤ 6) (hnb : 0 ≤ vb ∧ vb ≤ 2) (hB : HB fb) (hT : HT ft) (hV : HV fb vb) (hVT : HVT ft vn) (ho : 0 ≤ vo ∧ vo ≤ 999) (hrg : RG el eu) (hrb : InR b) (hrhh : InR hh) (hrv : InR v) (hri : InR i) : ConF l G yX7_canBe cX7_canBe 9 (some .int) { frames := 3, cells := 0, slots := 0, locals := 69 } [.ref x, .int (iI b), .int (iI hh), .int (iI v), .int (iI i)] [(x, eO 7 [.ref r, .ref mo, .ref en, .ref i0, .ref i1, .ref e, .ref f, .ref t, .ref h, .ref h2, .int (iI vs)]), (h, eO 3 [.ref hb, .ref ht, .int (iI vb), .int (iI vn), .int (iI vo)]), (hb, eI G 8 fb), (ht, eI G 24 ft), (e, eO 1 [.ref eLo, .ref eUp, .ref eSe, .ref eLe, .ref eGr, .int (iI (pI (ecl = true)))]), (eLo, eI G 6 el), (eUp, eI G 6 eu), (eSe, eI G 12 gs), (eLe, eI G 12 gL), (eGr, eI G 12 gG)] (some (.int (iI (aCanBe fb el eu vb vn b hh v i)))) := by
  refine Con.mk (by decide +kernel) [some (.ref x), some (.int (iI b)), some (.int (iI hh)), some (.int (iI v)), some (.int (iI i)), none, none, none, none] rfl (Nat.le_of_ble_eq_true rfl) rfl ?_
  intro V M EI EL EV EA
  have hmo : hMos fb b hh v = v * hMea fb b + hMea fb b - 1 - hWat fb b hh := rfl
  have hgr := hGre_eq fb b hh v
  have hle := hLea_eq fb b hh v
  have hp2 := p2_6 hn.2
  have hmb := fun (z0 : 0 ≤ b ∧ b < vb) (z1 : 0 ≤ hh ∧ hh < 100) (z2 : 0 ≤ v ∧ v < 100000) => (show ((1 ≤ hMea fb b ∧ hMea fb b ≤ 9801) ∧ (0 ≤ hWat fb b hh ∧ hWat fb b hh ≤ 9999)) ∧ (0 ≤ v * hMea fb b ∧ v * hMea fb b ≤ 980090199) from ⟨⟨(hMea_v hV z0.1 z0.2).1, hWat_v hV z0.1 z0.2 z1.1⟩, hMul_v hV z0.1 z0.2 z2.1 (by omega)⟩)
  have hls : hLst fb b hh v = max 0 (v * hMea fb b - hWat fb b hh) := rfl
  have hle2 : (hGre fb b hh v = -1 ∧ hLea fb b hh v = -1) ∨ (hLea fb b hh v = hLst fb b hh v) := by
    rw [hle]
    split
    · exact Or.inl ⟨by omega, rfl⟩
    · exact Or.inr rfl
  refine M.aloadn (pc := 0) 0 rfl rfl dX7_canBe_0 ?_
  refine M.getf (pc := 1) fg_X7_62 0 rfl rfl dX7_canBe_1 ?_
  refine M.iloadn (pc := 4) 1 rfl rfl dX7_canBe_4 ?_
  refine M.pV (pc := 5) (c_X3_hasBath  (by first | assumption | omega) (by first | assumption | omega)) mv_X7_114 [1] rfl rfl rfl 1 rfl rfl rfl rfl (Nat.le_of_ble_eq_true rfl) rfl ⟨(Nat.le_of_ble_eq_true rfl), (Nat.le_of_ble_eq_true rfl)⟩ ⟨(Nat.le_of_ble_eq_true rfl), (Nat.le_of_ble_eq_true rfl)⟩ rfl dX7_canBe_5 ?_
  refine M.if_neP (pc := 8) (tgt := 14) dX7_canBe_8 (by decide) (fun c8 => ?_) (fun c8 => ?_)
  · refine M.iloadn (pc := 14) 2 rfl rfl dX7_canBe_14 ?_
    refine M.pS (pc := 15) (c_X7_isHour  (by first | assumption | omega)) ms_X7_139 [] rfl rfl rfl rfl (Nat.le_of_ble_eq_true rfl) rfl ⟨(Nat.le_of_ble_eq_true rfl), (Nat.le_of_ble_eq_true rfl)⟩ ⟨(Nat.le_of_ble_eq_true rfl), (Nat.le_of_ble_eq_true rfl)⟩ rfl dX7_canBe_15 ?_
    refine M.if_eqP (pc := 18) (tgt := 28) dX7_canBe_18 (by decide) (fun c18 => ?_) (fun c18 => ?_)
    · refine M.ldc (pc := 28) (-1000000002) lc_X7_69 (by decide +kernel) dX7_canBe_28 ?_
      exact EI () _ _ _ _ dX7_canBe_30 (Or.inl rfl) (eqI (by unfold aCanBe; (repeat' split) <;> first | omega | rfl)) rfl trivial
    · refine M.iloadn (pc := 21) 3 rfl rfl dX7_canBe_21 ?_
      refine M.pS (pc := 22) (c_X7_isHeight  (by first | assumption | omega)) ms_X7_149 [] rfl rfl rfl rfl (Nat.le_of_ble_eq_true rfl) rfl ⟨(Nat.le_of_ble_eq_true rfl), (Nat.le_of_ble_eq_true rfl)⟩ ⟨(Nat.le_of_ble_eq_true rfl), (Nat.le_of_ble_eq_true rfl)⟩ rfl dX7_canBe_22 ?_
      refine M.if_neP (pc := 25) (tgt := 31) dX7_canBe_25 (by decide) (fun c25 => ?_) (fun c25 => ?_)
      · have hmb2 := hmb (by omega) (by omega) (by omega)
        refine M.aloadn (pc := 31) 0 rfl rfl dX7_canBe_31 ?_
        refine M.getf (pc := 32) fg_X7_62 0 rfl rfl dX7_canBe_32 ?_
        refine M.iloadn (pc := 35) 1 rfl rfl dX7_canBe_35 ?_
        refine M.iloadn (pc := 36) 2 rfl rfl dX7_canBe_36 ?_
        refine M.iloadn (pc := 37) 3 rfl rfl dX7_canBe_37 ?_
        refine M.pV (pc := 38) (c_X3_leastOf  (by first | assumption | omega) (by first | assumption | omega) (by first | assumption | omega) (by first | assumption | omega)) mv_X7_152 [1, 2, 3] rfl rfl rfl 1 rfl rfl rfl rfl (Nat.le_of_ble_eq_true rfl) rfl ⟨(Nat.le_of_ble_eq_true rfl), (Nat.le_of_ble_eq_true rfl)⟩ ⟨(Nat.le_of_ble_eq_true rfl), (Nat.le_of_ble_eq_true rfl)⟩ rfl dX7_canBe_38 ?_
        refine M.istore (pc := 41) (i := 5) (Nat.le_of_ble_eq_true rfl) rfl dX7_canBe_41 ?_
        dsimp only [List.set_cons_zero, List.set_cons_succ]
        refine M.aloadn (pc := 43) 0 rfl rfl dX7_canBe_43 ?_
        refine M.getf (pc := 44) fg_X7_62 0 rfl rfl dX7_canBe_44 ?_
        refine M.iloadn (pc := 47) 1 rfl rfl dX7_canBe_47 ?_
        refine M.iloadn (pc := 48) 2 rfl rfl dX7_canBe_48 ?_
        refine M.iloadn (pc := 49) 3 rfl rfl dX7_canBe_49 ?_
        refine M.pV (pc := 50) (c_X3_greatestOf  (by first | assumption | omega) (by first | assumption | omega) (by first | assumption | omega) (by first | assumption | omega)) mv_X7_155 [1, 2, 3] rfl rfl rfl 1 rfl rfl rfl rfl (Nat.le_of_ble_eq_true rfl) rfl ⟨(Nat.le_of_ble_eq_true rfl), (Nat.le_of_ble_eq_true rfl)⟩ ⟨(Nat.le_of_ble_eq_true rfl), (Nat.le_of_ble_eq_true rfl)⟩ rfl dX7_canBe_50 ?_
        refine M.istore (pc := 53) (i := 6) (Nat.le_of_ble_eq_true rfl) rfl dX7_canBe_53 ?_
        dsimp only [List.set_cons_zero, List.set_cons_succ]
        refine M.iconst (pc := 55) dX7_canBe_55 ?_
        refine M.istore (pc := 56) (i := 7) (Nat.le_of_ble_eq_true rfl) rfl dX7_canBe_56 ?_
        dsimp only [List.set_cons_zero, List.set_cons_succ]
        refine M.iconst (pc := 58) dX7_canBe_58 ?_
        refine M.istore (pc := 59) (i := 8) (Nat.le_of_ble_eq_true rfl) rfl dX7_canBe_59 ?_
        dsimp only [List.set_cons_zero, List.set_cons_succ]
        have L61 : ∀ (fu : Nat) {S m : Int}, (0 ≤ S ∧ S ≤ p2 vn) → (0 ≤ m ∧ m ≤ S) → (cbF (cbP fb el eu vn b hh v) i (p2 vn).toNat 0 0 = cbF (cbP fb el eu vn b hh v) i (p2 vn - S).toNat S m) → (p2 vn - S).toNat < fu → V 0 0 61 [(x, eO 7 [.ref r, .ref mo, .ref en, .ref i0, .ref i1, .ref e, .ref f, .ref t, .ref h, .ref h2, .int (iI vs)]), (h, eO 3 [.ref hb, .ref ht, .int (iI vb), .int (iI vn), .int (iI vo)]), (hb, eI G 8 fb), (ht, eI G 24 ft), (e, eO 1 [.ref eLo, .ref eUp, .ref eSe, .ref eLe, .ref eGr, .int (iI (pI (ecl = true)))]), (eLo, eI G 6 el), (eUp, eI G 6 eu), (eSe, eI G 12 gs), (eLe, eI G 12 gL), (eGr, eI G 12 gG)] [some (.ref x), some (.int (iI b)), some (.int (iI hh)), some (.int (iI v)), some (.int (iI i)), some (.int (iI (hLea fb b hh v))), some (.int (iI (hGre fb b hh v))), some (.int (iI m)), some (.int (iI S))] [] := by
          intro fu
          induction fu with
          | zero => intro S m hS hn2 hI hm; exact absurd hm (Nat.not_lt_zero _)
          | succ fu ih61 =>
            intro S m hS hn2 hI hm61
            refine M.iload (pc := 61) (i := 8) rfl dX7_canBe_61 ?_
            refine M.aloadn (pc := 63) 0 rfl rfl dX7_canBe_63 ?_
            refine M.getf (pc := 64) fg_X7_62 0 rfl rfl dX7_canBe_64 ?_
            refine M.pV (pc := 67) (c_X3_sets  (by first | assumption | omega)) mv_X7_173 [1] rfl rfl rfl 1 rfl rfl rfl rfl (Nat.le_of_ble_eq_true rfl) rfl ⟨(Nat.le_of_ble_eq_true rfl), (Nat.le_of_ble_eq_true rfl)⟩ ⟨(Nat.le_of_ble_eq_true rfl), (Nat.le_of_ble_eq_true rfl)⟩ rfl dX7_canBe_67 ?_
            refine M.icmp_ge (pc := 70) (tgt := 108) dX7_canBe_70 (by decide) (by omega) (by omega) (fun c70 => ?_) (fun c70 => ?_)
            · have hSe : S = p2 vn := by omega
              have hst := cbF_0 (P := cbP fb el eu vn b hh v) (i := i) (S := S) (m := m) (k := p2 vn - S) (by omega)
              refine M.iload (pc := 108) (i := 4) rfl dX7_canBe_108 ?_
              refine M.iconst (pc := 110) dX7_canBe_110 ?_
              refine M.icmp_ne (pc := 111) (tgt := 119) dX7_canBe_111 (by decide) (by omega) (by omega) (fun c111 => ?_) (fun c111 => ?_)
              · refine M.iconst (pc := 119) dX7_canBe_119 ?_
                exact EI () _ _ _ _ dX7_canBe_120 (Or.inl rfl) (eqI (by unfold aCanBe; rw [if_neg (by omega), if_neg (by omega), hI, hst]; split <;> first | rfl | omega)) rfl trivial
              · refine M.iload (pc := 114) (i := 7) rfl dX7_canBe_114 ?_
                refine M.goto (pc := 116) (tgt := 120) dX7_canBe_116 (by decide) ?_
                exact EI () _ _ _ _ dX7_canBe_120 (Or.inl rfl) (eqI (by unfold aCanBe; rw [if_neg (by omega), if_neg (by omega), hI, hst]; split <;> first | rfl | omega)) rfl trivial
            · refine M.aloadn (pc := 73) 0 rfl rfl dX7_canBe_73 ?_
              refine M.getf (pc := 74) fg_X7_41 0 rfl rfl dX7_canBe_74 ?_
              refine M.iload (pc := 77) (i := 8) rfl dX7_canBe_77 ?_
              refine M.iload (pc := 79) (i := 5) rfl dX7_canBe_79 ?_
              refine M.iload (pc := 81) (i := 6) rfl dX7_canBe_81 ?_
              refine M.pV (pc := 83) (c_X1_allow  (by first | assumption | omega) (by first | assumption | omega) (by first | assumption | omega) (by first | assumption | omega)) mv_X7_177 [4, 5, 6, 7, 8, 9] rfl rfl rfl 4 rfl rfl rfl rfl (Nat.le_of_ble_eq_true rfl) rfl ⟨(Nat.le_of_ble_eq_true rfl), (Nat.le_of_ble_eq_true rfl)⟩ ⟨(Nat.le_of_ble_eq_true rfl), (Nat.le_of_ble_eq_true rfl)⟩ rfl dX7_canBe_83 ?_
              have L102 : ∀ {m2 : Int}, (0 ≤ m2 ∧ m2 ≤ S + 1) → (cbF (cbP fb el eu vn b hh v) i (p2 vn - S).toNat S m = cbF (cbP fb el eu vn b hh v) i (p2 vn - S - 1).toNat (S + 1) m2) → V 0 0 102 [(x, eO 7 [.ref r, .ref mo, .ref en, .ref i0, .ref i1, .ref e, .ref f, .ref t, .ref h, .ref h2, .int (iI vs)]), (h, eO 3 [.ref hb, .ref ht, .int (iI vb), .int (iI vn), .int (iI vo)]), (hb, eI G 8 fb), (ht, eI G 24 ft), (e, eO 1 [.ref eLo, .ref eUp, .ref eSe, .ref eLe, .ref eGr, .int (iI (pI (ecl = true)))]), (eLo, eI G 6 el), (eUp, eI G 6 eu), (eSe, eI G 12 gs), (eLe, eI G 12 gL), (eGr, eI G 12 gG)] [some (.ref x), some (.int (iI b)), some (.int (iI hh)), some (.int (iI v)), some (.int (iI i)), some (.int (iI (hLea fb b hh v))), some (.int (iI (hGre fb b hh v))), some (.int (iI m2)), some (.int (iI S))] [] := by
                intro m2 hn3 hI2
                refine M.iinc (pc := 102) (i := 8) rfl rfl dX7_canBe_102 ?_
                dsimp only [List.set_cons_zero, List.set_cons_succ]
                refine M.goto (pc := 105) (tgt := 61) dX7_canBe_105 (by decide) ?_
                exact ih61  (by first | assumption | omega) (by first | assumption | omega) (by rw [hI, hI2, show p2 vn - S - 1 = p2 vn - (S + 1) by omega]) (by omega)
              have hst := cbF_s (P := cbP fb el eu vn b hh v) (i := i) (S := S) (m := m) (k := p2 vn - S) (by omega)
              have hcg := alw_cb (fb := fb) (b := b) (h := hh) (v := v) hn hrg hS.1 (by omega : S < p2 vn)
              rw [pI_congr hcg]
              refine M.if_eqP (pc := 86) (tgt := 102) dX7_canBe_86 (by decide) (fun c86 => ?_) (fun c86 => ?_)
              · exact L102  (by first | assumption | omega) (by rw [hst, if_neg c86])
              · refine M.iload (pc := 89) (i := 7) rfl dX7_canBe_89 ?_
                refine M.iload (pc := 91) (i := 4) rfl dX7_canBe_91 ?_
                refine M.icmp_ne (pc := 93) (tgt := 99) dX7_canBe_93 (by decide) (by omega) (by omega) (fun c93 => ?_) (fun c93 => ?_)
                · refine M.iinc (pc := 99) (i := 7) rfl rfl dX7_canBe_99 ?_
                  dsimp only [List.set_cons_zero, List.set_cons_succ]
                  exact L102  (by first | assumption | omega) (by rw [hst, if_pos c86, if_neg c93])
                · refine M.iload (pc := 96) (i := 8) rfl dX7_canBe_96 ?_
                  exact EI () _ _ _ _ dX7_canBe_98 (Or.inl rfl) (eqI (by unfold aCanBe; rw [if_neg (by omega), if_neg (by omega), hI, hst, if_pos c86, if_pos c93])) rfl trivial
        exact L61 _  (by first | assumption | omega) (by first | assumption | omega) (by rw [Int.sub_zero]) (Nat.lt_succ_self _)
      · refine M.ldc (pc := 28) (-1000000002) lc_X7_69 (by decide +kernel) dX7_canBe_28 ?_
        exact EI () _ _ _ _ dX7_canBe_30 (Or.inl rfl) (eqI (by unfold aCanBe; (repeat' split) <;> first | omega | rfl)) rfl trivial
  · refine M.ldc (pc := 11) (-1000000001) lc_X7_118 (by decide +kernel) dX7_canBe_11 ?_
    exact EI () _ _ _ _ dX7_canBe_13 (Or.inl rfl) (eqI (by unfold aCanBe; (repeat' split) <;> first | omega | rfl)) rfl trivial
set_option maxHeartbeats 4000000 in
set_option maxRecDepth 100000 in
theorem c_X7_likely {l : Launch} {G : GT} {x r mo en i0 i1 e f t h h2 : Nat} {vs : Int} {hb ht : Nat} {fb ft : Int → Int} {vb vn vo : Int} {eLo eUp eSe eLe eGr : Nat} {el eu gs gL gG : Int → Int} {ecl : Bool} {b hh v k : Int} (hn : 0 ≤ vn ∧ vn ≤ 6) (hnb : 0 ≤ vb ∧ vb ≤ 2) (hB : HB fb) (hT : HT ft) (hV : HV fb vb) (hVT : HVT ft vn) (ho : 0 ≤ vo ∧ vo ≤ 999) (hrg : RG el eu) (hrb : InR b) (hrhh : InR hh) (hrv : InR v) (hrk : InR k) : ConF l G yX7_likely cX7_likely 13 (some .int) { frames := 3, cells := 0, slots := 0, locals := 69 } [.ref x, .int (iI b), .int (iI hh), .int (iI v), .int (iI k)] [(x, eO 7 [.ref r, .ref mo, .ref en, .ref i0, .ref i1, .ref e, .ref f, .ref t, .ref h, .ref h2, .int (iI vs)]), (h, eO 3 [.ref hb, .ref ht, .int (iI vb), .int (iI vn), .int (iI vo)]), (hb, eI G 8 fb), (ht, eI G 24 ft), (e, eO 1 [.ref eLo, .ref eUp, .ref eSe, .ref eLe, .ref eGr, .int (iI (pI (ecl = true)))]), (eLo, eI G 6 el), (eUp, eI G 6 eu), (eSe, eI G 12 gs), (eLe, eI G 12 gL), (eGr, eI G 12 gG)] (some (.int (iI (aLikely fb ft el eu vb vn b hh v k)))) := by
  refine Con.mk (by decide +kernel) [some (.ref x), some (.int (iI b)), some (.int (iI hh)), some (.int (iI v)), some (.int (iI k)), none, none, none, none, none, none, none, none] rfl (Nat.le_of_ble_eq_true rfl) rfl ?_
  intro V M EI EL EV EA
  have hmo : hMos fb b hh v = v * hMea fb b + hMea fb b - 1 - hWat fb b hh := rfl
  have hgr := hGre_eq fb b hh v
  have hle := hLea_eq fb b hh v
  have hp2 := p2_6 hn.2
  have hmb := fun (z0 : 0 ≤ b ∧ b < vb) (z1 : 0 ≤ hh ∧ hh < 100) (z2 : 0 ≤ v ∧ v < 100000) => (show ((1 ≤ hMea fb b ∧ hMea fb b ≤ 9801) ∧ (0 ≤ hWat fb b hh ∧ hWat fb b hh ≤ 9999)) ∧ (0 ≤ v * hMea fb b ∧ v * hMea fb b ≤ 980090199) from ⟨⟨(hMea_v hV z0.1 z0.2).1, hWat_v hV z0.1 z0.2 z1.1⟩, hMul_v hV z0.1 z0.2 z2.1 (by omega)⟩)
  have hls : hLst fb b hh v = max 0 (v * hMea fb b - hWat fb b hh) := rfl
  have hle2 : (hGre fb b hh v = -1 ∧ hLea fb b hh v = -1) ∨ (hLea fb b hh v = hLst fb b hh v) := by
    rw [hle]
    split
    · exact Or.inl ⟨by omega, rfl⟩
    · exact Or.inr rfl
  have hob : ∀ y, 0 ≤ oddsN ft y vn.toNat ∧ oddsN ft y vn.toNat ≤ 1000000000 := fun y => oddsN_b hT vn.toNat (by omega)
  have hAb : ∀ y, 0 ≤ (lkA fb ft el eu vn b hh v) y ∧ (lkA fb ft el eu vn b hh v) y ≤ 1000000000 := fun y => by
    have := hob y
    unfold lkA
    split <;> omega
  have hWb : ∀ y, 0 ≤ (lkW fb ft el eu vn b hh v k) y ∧ (lkW fb ft el eu vn b hh v k) y ≤ 1000000000 := fun y => by
    have := hob y
    unfold lkW
    split <;> omega
  refine M.aloadn (pc := 0) 0 rfl rfl dX7_likely_0 ?_
  refine M.getf (pc := 1) fg_X7_62 0 rfl rfl dX7_likely_1 ?_
  refine M.iloadn (pc := 4) 1 rfl rfl dX7_likely_4 ?_
  refine M.pV (pc := 5) (c_X3_hasBath  (by first | assumption | omega) (by first | assumption | omega)) mv_X7_114 [1] rfl rfl rfl 1 rfl rfl rfl rfl (Nat.le_of_ble_eq_true rfl) rfl ⟨(Nat.le_of_ble_eq_true rfl), (Nat.le_of_ble_eq_true rfl)⟩ ⟨(Nat.le_of_ble_eq_true rfl), (Nat.le_of_ble_eq_true rfl)⟩ rfl dX7_likely_5 ?_
  refine M.if_eqP (pc := 8) (tgt := 23) dX7_likely_8 (by decide) (fun c8 => ?_) (fun c8 => ?_)
  · refine M.ldc (pc := 23) (-1000000001) lc_X7_118 (by decide +kernel) dX7_likely_23 ?_
    exact EI () _ _ _ _ dX7_likely_25 (Or.inl rfl) (eqI (by unfold aLikely; (repeat' split) <;> first | omega | rfl)) rfl trivial
  · refine M.aloadn (pc := 11) 0 rfl rfl dX7_likely_11 ?_
    refine M.getf (pc := 12) fg_X7_62 0 rfl rfl dX7_likely_12 ?_
    refine M.iload (pc := 15) (i := 4) rfl dX7_likely_15 ?_
    refine M.pV (pc := 17) (c_X3_hasBather  (by first | assumption | omega) (by first | assumption | omega)) mv_X7_123 [1] rfl rfl rfl 1 rfl rfl rfl rfl (Nat.le_of_ble_eq_true rfl) rfl ⟨(Nat.le_of_ble_eq_true rfl), (Nat.le_of_ble_eq_true rfl)⟩ ⟨(Nat.le_of_ble_eq_true rfl), (Nat.le_of_ble_eq_true rfl)⟩ rfl dX7_likely_17 ?_
    refine M.if_neP (pc := 20) (tgt := 26) dX7_likely_20 (by decide) (fun c20 => ?_) (fun c20 => ?_)
    · refine M.iloadn (pc := 26) 2 rfl rfl dX7_likely_26 ?_
      refine M.pS (pc := 27) (c_X7_isHour  (by first | assumption | omega)) ms_X7_139 [] rfl rfl rfl rfl (Nat.le_of_ble_eq_true rfl) rfl ⟨(Nat.le_of_ble_eq_true rfl), (Nat.le_of_ble_eq_true rfl)⟩ ⟨(Nat.le_of_ble_eq_true rfl), (Nat.le_of_ble_eq_true rfl)⟩ rfl dX7_likely_27 ?_
      refine M.if_eqP (pc := 30) (tgt := 40) dX7_likely_30 (by decide) (fun c30 => ?_) (fun c30 => ?_)
      · refine M.ldc (pc := 40) (-1000000002) lc_X7_69 (by decide +kernel) dX7_likely_40 ?_
        exact EI () _ _ _ _ dX7_likely_42 (Or.inl rfl) (eqI (by unfold aLikely; (repeat' split) <;> first | omega | rfl)) rfl trivial
      · refine M.iloadn (pc := 33) 3 rfl rfl dX7_likely_33 ?_
        refine M.pS (pc := 34) (c_X7_isHeight  (by first | assumption | omega)) ms_X7_149 [] rfl rfl rfl rfl (Nat.le_of_ble_eq_true rfl) rfl ⟨(Nat.le_of_ble_eq_true rfl), (Nat.le_of_ble_eq_true rfl)⟩ ⟨(Nat.le_of_ble_eq_true rfl), (Nat.le_of_ble_eq_true rfl)⟩ rfl dX7_likely_34 ?_
        refine M.if_neP (pc := 37) (tgt := 43) dX7_likely_37 (by decide) (fun c37 => ?_) (fun c37 => ?_)
        · have hmb2 := hmb (by omega) (by omega) (by omega)
          refine M.aloadn (pc := 43) 0 rfl rfl dX7_likely_43 ?_
          refine M.getf (pc := 44) fg_X7_62 0 rfl rfl dX7_likely_44 ?_
          refine M.iloadn (pc := 47) 1 rfl rfl dX7_likely_47 ?_
          refine M.iloadn (pc := 48) 2 rfl rfl dX7_likely_48 ?_
          refine M.iloadn (pc := 49) 3 rfl rfl dX7_likely_49 ?_
          refine M.pV (pc := 50) (c_X3_leastOf  (by first | assumption | omega) (by first | assumption | omega) (by first | assumption | omega) (by first | assumption | omega)) mv_X7_152 [1, 2, 3] rfl rfl rfl 1 rfl rfl rfl rfl (Nat.le_of_ble_eq_true rfl) rfl ⟨(Nat.le_of_ble_eq_true rfl), (Nat.le_of_ble_eq_true rfl)⟩ ⟨(Nat.le_of_ble_eq_true rfl), (Nat.le_of_ble_eq_true rfl)⟩ rfl dX7_likely_50 ?_
          refine M.istore (pc := 53) (i := 5) (Nat.le_of_ble_eq_true rfl) rfl dX7_likely_53 ?_
          dsimp only [List.set_cons_zero, List.set_cons_succ]
          refine M.aloadn (pc := 55) 0 rfl rfl dX7_likely_55 ?_
          refine M.getf (pc := 56) fg_X7_62 0 rfl rfl dX7_likely_56 ?_
          refine M.iloadn (pc := 59) 1 rfl rfl dX7_likely_59 ?_
          refine M.iloadn (pc := 60) 2 rfl rfl dX7_likely_60 ?_
          refine M.iloadn (pc := 61) 3 rfl rfl dX7_likely_61 ?_
          refine M.pV (pc := 62) (c_X3_greatestOf  (by first | assumption | omega) (by first | assumption | omega) (by first | assumption | omega) (by first | assumption | omega)) mv_X7_155 [1, 2, 3] rfl rfl rfl 1 rfl rfl rfl rfl (Nat.le_of_ble_eq_true rfl) rfl ⟨(Nat.le_of_ble_eq_true rfl), (Nat.le_of_ble_eq_true rfl)⟩ ⟨(Nat.le_of_ble_eq_true rfl), (Nat.le_of_ble_eq_true rfl)⟩ rfl dX7_likely_62 ?_
          refine M.istore (pc := 65) (i := 6) (Nat.le_of_ble_eq_true rfl) rfl dX7_likely_65 ?_
          dsimp only [List.set_cons_zero, List.set_cons_succ]
          refine M.lconst (pc := 67) 0 (by decide +kernel) dX7_likely_67 ?_
          refine M.lstore (pc := 68) (i := 7) (Nat.le_of_ble_eq_true rfl) rfl dX7_likely_68 ?_
          dsimp only [List.set_cons_zero, List.set_cons_succ]
          refine M.lconst (pc := 70) 0 (by decide +kernel) dX7_likely_70 ?_
          refine M.lstore (pc := 71) (i := 9) (Nat.le_of_ble_eq_true rfl) rfl dX7_likely_71 ?_
          dsimp only [List.set_cons_zero, List.set_cons_succ]
          refine M.iconst (pc := 73) dX7_likely_73 ?_
          refine M.istore (pc := 74) (i := 11) (Nat.le_of_ble_eq_true rfl) rfl dX7_likely_74 ?_
          dsimp only [List.set_cons_zero, List.set_cons_succ]
          have L76 : ∀ (fu : Nat) {S al wi : Int}, (0 ≤ S ∧ S ≤ p2 vn) → (al = sumU (lkA fb ft el eu vn b hh v) S.toNat) → (wi = sumU (lkW fb ft el eu vn b hh v k) S.toNat) → (p2 vn - S).toNat < fu → V 0 0 76 [(x, eO 7 [.ref r, .ref mo, .ref en, .ref i0, .ref i1, .ref e, .ref f, .ref t, .ref h, .ref h2, .int (iI vs)]), (h, eO 3 [.ref hb, .ref ht, .int (iI vb), .int (iI vn), .int (iI vo)]), (hb, eI G 8 fb), (ht, eI G 24 ft), (e, eO 1 [.ref eLo, .ref eUp, .ref eSe, .ref eLe, .ref eGr, .int (iI (pI (ecl = true)))]), (eLo, eI G 6 el), (eUp, eI G 6 eu), (eSe, eI G 12 gs), (eLe, eI G 12 gL), (eGr, eI G 12 gG)] [some (.ref x), some (.int (iI b)), some (.int (iI hh)), some (.int (iI v)), some (.int (iI k)), some (.int (iI (hLea fb b hh v))), some (.int (iI (hGre fb b hh v))), some (.long (lI al)), none, some (.long (lI wi)), none, some (.int (iI S)), none] [] := by
            intro fu
            induction fu with
            | zero => intro S al wi hS hal hwi hm; exact absurd hm (Nat.not_lt_zero _)
            | succ fu ih76 =>
              intro S al wi hS hal hwi hm76
              have hal2 := sumU_b (f := (lkA fb ft el eu vn b hh v)) S.toNat (fun j _ => hAb j)
              have hwi2 := sumU_b (f := (lkW fb ft el eu vn b hh v k)) S.toNat (fun j _ => hWb j)
              rw [← hal] at hal2
              rw [← hwi] at hwi2
              refine M.iload (pc := 76) (i := 11) rfl dX7_likely_76 ?_
              refine M.aloadn (pc := 78) 0 rfl rfl dX7_likely_78 ?_
              refine M.getf (pc := 79) fg_X7_62 0 rfl rfl dX7_likely_79 ?_
              refine M.pV (pc := 82) (c_X3_sets  (by first | assumption | omega)) mv_X7_173 [1] rfl rfl rfl 1 rfl rfl rfl rfl (Nat.le_of_ble_eq_true rfl) rfl ⟨(Nat.le_of_ble_eq_true rfl), (Nat.le_of_ble_eq_true rfl)⟩ ⟨(Nat.le_of_ble_eq_true rfl), (Nat.le_of_ble_eq_true rfl)⟩ rfl dX7_likely_82 ?_
              refine M.icmp_ge (pc := 85) (tgt := 151) dX7_likely_85 (by decide) (by omega) (by omega) (fun c85 => ?_) (fun c85 => ?_)
              · have hSe : S = p2 vn := by omega
                subst hSe
                refine M.lload (pc := 151) (i := 7) rfl dX7_likely_151 ?_
                refine M.lconst (pc := 153) 0 (by decide +kernel) dX7_likely_153 ?_
                refine M.lcmp (pc := 154) (by omega) (by omega) dX7_likely_154 ?_
                refine M.if_le (pc := 155) (tgt := 171) dX7_likely_155 (by decide) (by exact lcR _ _) (fun c155 => ?_) (fun c155 => ?_)
                · refine M.iconst (pc := 171) dX7_likely_171 ?_
                  exact EI () _ _ _ _ dX7_likely_172 (Or.inl rfl) (eqI (by unfold aLikely; rw [if_neg (by omega), if_neg (by omega), ← hal, ← hwi]; unfold lkV; first | rw [if_neg (lcg c155)] | rw [if_pos (by have := lcl c155; omega)])) rfl trivial
                · refine M.lload (pc := 158) (i := 9) rfl dX7_likely_158 ?_
                  refine M.ldc2 (pc := 160) (1000000) lc_X7_188 (by decide +kernel) dX7_likely_160 ?_
                  refine M.lmul (pc := 163) dX7_likely_163 ?_
                  refine M.lload (pc := 164) (i := 7) rfl dX7_likely_164 ?_
                  refine M.ldiv (pc := 166) (by omega) (by omega) dX7_likely_166 ?_
                  refine M.l2i (pc := 167) dX7_likely_167 ?_
                  refine M.goto (pc := 168) (tgt := 172) dX7_likely_168 (by decide) ?_
                  exact EI () _ _ _ _ dX7_likely_172 (Or.inl rfl) (eqI (by unfold aLikely; rw [if_neg (by omega), if_neg (by omega), ← hal, ← hwi]; unfold lkV; first | rw [if_neg (lcg c155)] | rw [if_pos (by have := lcl c155; omega)])) rfl trivial
              · have hcg := alw_cb (fb := fb) (b := b) (h := hh) (v := v) hn hrg hS.1 (by omega : S < p2 vn)
                have hsa := sumU_s (lkA fb ft el eu vn b hh v) hS.1
                have hsw := sumU_s (lkW fb ft el eu vn b hh v k) hS.1
                have hos := hob S
                rw [← hal] at hsa
                rw [← hwi] at hsw
                refine M.aloadn (pc := 88) 0 rfl rfl dX7_likely_88 ?_
                refine M.getf (pc := 89) fg_X7_41 0 rfl rfl dX7_likely_89 ?_
                refine M.iload (pc := 92) (i := 11) rfl dX7_likely_92 ?_
                refine M.iload (pc := 94) (i := 5) rfl dX7_likely_94 ?_
                refine M.iload (pc := 96) (i := 6) rfl dX7_likely_96 ?_
                refine M.pV (pc := 98) (c_X1_allow  (by first | assumption | omega) (by first | assumption | omega) (by first | assumption | omega) (by first | assumption | omega)) mv_X7_177 [4, 5, 6, 7, 8, 9] rfl rfl rfl 4 rfl rfl rfl rfl (Nat.le_of_ble_eq_true rfl) rfl ⟨(Nat.le_of_ble_eq_true rfl), (Nat.le_of_ble_eq_true rfl)⟩ ⟨(Nat.le_of_ble_eq_true rfl), (Nat.le_of_ble_eq_true rfl)⟩ rfl dX7_likely_98 ?_
                have L145 : ∀ {a3 w3 : Int}, (a3 = al + (lkA fb ft el eu vn b hh v) S) → (w3 = wi + (lkW fb ft el eu vn b hh v k) S) → V 0 0 145 [(x, eO 7 [.ref r, .ref mo, .ref en, .ref i0, .ref i1, .ref e, .ref f, .ref t, .ref h, .ref h2, .int (iI vs)]), (h, eO 3 [.ref hb, .ref ht, .int (iI vb), .int (iI vn), .int (iI vo)]), (hb, eI G 8 fb), (ht, eI G 24 ft), (e, eO 1 [.ref eLo, .ref eUp, .ref eSe, .ref eLe, .ref eGr, .int (iI (pI (ecl = true)))]), (eLo, eI G 6 el), (eUp, eI G 6 eu), (eSe, eI G 12 gs), (eLe, eI G 12 gL), (eGr, eI G 12 gG)] [some (.ref x), some (.int (iI b)), some (.int (iI hh)), some (.int (iI v)), some (.int (iI k)), some (.int (iI (hLea fb b hh v))), some (.int (iI (hGre fb b hh v))), some (.long (lI a3)), none, some (.long (lI w3)), none, some (.int (iI S)), none] [] := by
                  intro a3 w3 ha3 hw3
                  refine M.iinc (pc := 145) (i := 11) rfl rfl dX7_likely_145 ?_
                  dsimp only [List.set_cons_zero, List.set_cons_succ]
                  refine M.goto (pc := 148) (tgt := 76) dX7_likely_148 (by decide) ?_
                  exact ih76  (by first | assumption | omega) (by rw [hsa]; exact ha3) (by rw [hsw]; exact hw3) (by omega)
                rw [pI_congr hcg]
                refine M.if_eqP (pc := 101) (tgt := 145) dX7_likely_101 (by decide) (fun c101 => ?_) (fun c101 => ?_)
                · exact L145  (by unfold lkA; rw [if_neg c101, Int.add_zero]) (by unfold lkW; rw [if_neg (fun z => c101 z.1), Int.add_zero])
                · refine M.aloadn (pc := 104) 0 rfl rfl dX7_likely_104 ?_
                  refine M.getf (pc := 105) fg_X7_62 0 rfl rfl dX7_likely_105 ?_
                  refine M.iload (pc := 108) (i := 11) rfl dX7_likely_108 ?_
                  refine M.pV (pc := 110) (c_X3_oddsOf  (by first | assumption | omega) (by first | assumption | omega) (by omega)) mv_X7_181 [1, 2, 3] rfl rfl rfl 1 rfl rfl rfl rfl (Nat.le_of_ble_eq_true rfl) rfl ⟨(Nat.le_of_ble_eq_true rfl), (Nat.le_of_ble_eq_true rfl)⟩ ⟨(Nat.le_of_ble_eq_true rfl), (Nat.le_of_ble_eq_true rfl)⟩ rfl dX7_likely_110 ?_
                  refine M.istore (pc := 113) (i := 12) (Nat.le_of_ble_eq_true rfl) rfl dX7_likely_113 ?_
                  dsimp only [List.set_cons_zero, List.set_cons_succ]
                  refine M.lload (pc := 115) (i := 7) rfl dX7_likely_115 ?_
                  refine M.iload (pc := 117) (i := 12) rfl dX7_likely_117 ?_
                  refine M.i2l (pc := 119) (by omega) dX7_likely_119 ?_
                  refine M.ladd (pc := 120) dX7_likely_120 ?_
                  refine M.lstore (pc := 121) (i := 7) (Nat.le_of_ble_eq_true rfl) rfl dX7_likely_121 ?_
                  dsimp only [List.set_cons_zero, List.set_cons_succ]
                  refine M.lload (pc := 123) (i := 9) rfl dX7_likely_123 ?_
                  refine M.iload (pc := 125) (i := 11) rfl dX7_likely_125 ?_
                  refine M.iload (pc := 127) (i := 4) rfl dX7_likely_127 ?_
                  have L142 : ∀ {z : Int}, (z = (lkW fb ft el eu vn b hh v k) S) → V 0 0 142 [(x, eO 7 [.ref r, .ref mo, .ref en, .ref i0, .ref i1, .ref e, .ref f, .ref t, .ref h, .ref h2, .int (iI vs)]), (h, eO 3 [.ref hb, .ref ht, .int (iI vb), .int (iI vn), .int (iI vo)]), (hb, eI G 8 fb), (ht, eI G 24 ft), (e, eO 1 [.ref eLo, .ref eUp, .ref eSe, .ref eLe, .ref eGr, .int (iI (pI (ecl = true)))]), (eLo, eI G 6 el), (eUp, eI G 6 eu), (eSe, eI G 12 gs), (eLe, eI G 12 gL), (eGr, eI G 12 gG)] [some (.ref x), some (.int (iI b)), some (.int (iI hh)), some (.int (iI v)), some (.int (iI k)), some (.int (iI (hLea fb b hh v))), some (.int (iI (hGre fb b hh v))), some (.long (lI (al + oddsN ft S vn.toNat))), none, some (.long (lI wi)), none, some (.int (iI S)), none] [.long (lI z), .long (lI wi)] := by
                    intro z hz
                    refine M.ladd (pc := 142) dX7_likely_142 ?_
                    refine M.lstore (pc := 143) (i := 9) (Nat.le_of_ble_eq_true rfl) rfl dX7_likely_143 ?_
                    dsimp only [List.set_cons_zero, List.set_cons_succ]
                    exact L145  (by unfold lkA; rw [if_pos c101]) (by rw [hz])
                  refine M.pS (pc := 129) (c_X7_has  (by first | assumption | omega) (by first | assumption | omega) (by first | assumption | omega) (by first | assumption | omega)) ms_X7_184 [] rfl rfl rfl rfl (Nat.le_of_ble_eq_true rfl) rfl ⟨(Nat.le_of_ble_eq_true rfl), (Nat.le_of_ble_eq_true rfl)⟩ ⟨(Nat.le_of_ble_eq_true rfl), (Nat.le_of_ble_eq_true rfl)⟩ rfl dX7_likely_129 ?_
                  refine M.if_eqP (pc := 132) (tgt := 141) dX7_likely_132 (by decide) (fun c132 => ?_) (fun c132 => ?_)
                  · refine M.lconst (pc := 141) 0 (by decide +kernel) dX7_likely_141 ?_
                    refine M.forget 12 ?_
                    dsimp only [List.set_cons_zero, List.set_cons_succ]
                    exact L142  (by unfold lkW; rw [if_neg (fun z => c132 z.2)])
                  · refine M.iload (pc := 135) (i := 12) rfl dX7_likely_135 ?_
                    refine M.i2l (pc := 137) (by omega) dX7_likely_137 ?_
                    refine M.goto (pc := 138) (tgt := 142) dX7_likely_138 (by decide) ?_
                    refine M.forget 12 ?_
                    dsimp only [List.set_cons_zero, List.set_cons_succ]
                    exact L142  (by unfold lkW; rw [if_pos ⟨c101, c132⟩])
          exact L76 _  (by first | assumption | omega) (by rfl) (by rfl) (Nat.lt_succ_self _)
        · refine M.ldc (pc := 40) (-1000000002) lc_X7_69 (by decide +kernel) dX7_likely_40 ?_
          exact EI () _ _ _ _ dX7_likely_42 (Or.inl rfl) (eqI (by unfold aLikely; (repeat' split) <;> first | omega | rfl)) rfl trivial
    · refine M.ldc (pc := 23) (-1000000001) lc_X7_118 (by decide +kernel) dX7_likely_23 ?_
      exact EI () _ _ _ _ dX7_likely_25 (Or.inl rfl) (eqI (by unfold aLikely; (repeat' split) <;> first | omega | rfl)) rfl trivial
