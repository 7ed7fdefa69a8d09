/-! the class's calls: cases, called in -/
theorem toInt_and_neg {a b : Int32} (ha : a.toInt < 0) (hb : b.toInt < 0) : (a &&& b).toInt < 0 := by
  have e : (a &&& b).toBitVec.msb = (a.toBitVec.msb && b.toBitVec.msb) := by
    rw [Int32.toBitVec_and, BitVec.msb_and]
  have h1 : a.toBitVec.msb = true := by rw [BitVec.msb_eq_toInt]; exact decide_eq_true ha
  have h2 : b.toBitVec.msb = true := by rw [BitVec.msb_eq_toInt]; exact decide_eq_true hb
  rw [h1, h2, BitVec.msb_eq_toInt] at e
  exact of_decide_eq_true e
theorem xorm1_neg {b : Int} (h0 : 0 ≤ b) (h1 : b < 2147483648) : (iI b ^^^ iI (-1)).toInt < 0 := by
  have hb := iI_t (z := b) ⟨by omega, h1⟩
  have e : (iI b ^^^ iI (-1)).toBitVec.msb = ((iI b).toBitVec.msb ^^ (iI (-1)).toBitVec.msb) := by
    rw [Int32.toBitVec_xor, BitVec.msb_xor]
  have h2 : (iI b).toBitVec.msb = false := by
    rw [BitVec.msb_eq_toInt]
    exact decide_eq_false (fun z => by have z : (iI b).toInt < 0 := z; omega)
  have h3 : (iI (-1)).toBitVec.msb = true := by decide +kernel
  rw [h2, h3, BitVec.msb_eq_toInt] at e
  exact of_decide_eq_true e
theorem ndz {S c : Int} (hc : 0 ≤ c ∧ c < 8192) (hS : InR S) : (iI S &&& iI ((iI c ^^^ iI (-1)).toInt)).toInt = 0 ↔ ¬ (S < 0 ∨ ¬ andn S c = 0) := by
  by_cases q : S < 0
  · have h1 : (iI S).toInt < 0 := by rw [iI_t hS]; exact q
    have h2 : (iI ((iI c ^^^ iI (-1)).toInt)).toInt < 0 := by rw [← iI_of]; exact xorm1_neg hc.1 (by omega)
    have := toInt_and_neg h1 h2
    constructor
    · intro z; omega
    · intro z; exact absurd (Or.inl q) z
  · have h := andn_ok (a := S) (b := c) (by omega) hc.1
    have hb := andn_b (a := S) (b := c) (by omega)
    rw [h, iI_t ⟨by omega, by omega⟩]
    constructor
    · intro z w
      rcases w with w | w
      · exact q w
      · exact w z
    · intro z
      exact Classical.byContradiction (fun w => z (Or.inr w))
/-- the tables, as far as they are made -/
def CASI (nb n : Int) (H : Int → Int → Int) (cb : Bool) (cu cp : Int) (l U P K N w : Int → Int) : Prop := (∀ x, 0 ≤ l x ∧ l x < 4503599627370496) ∧ (∀ d, 0 ≤ K d ∧ K d < 8192) ∧ (∀ d, InR (w d)) ∧ (cb = true → TBL nb n H cu cp l U P K N w)
theorem TBL.casi {nb n : Int} {H : Int → Int → Int} {cu cp : Int} {l U P K N w : Int → Int} (h : TBL nb n H cu cp l U P K N w) : CASI nb n H true cu cp l U P K N w := ⟨h.2.2.1, h.2.1.2.2.2.2.2.1, h.2.2.2.1, fun _ => h⟩
theorem VTt.b {nb n : Int} : ∀ t, VTt nb n t → 0 ≤ t ∧ t < 128 := fun _ h => h.1
theorem hHei_mos {fb : Int → Int} {nb b s : Int} (hV : HV fb nb) (h0 : 0 ≤ b) (h1 : b < nb) (hs : 0 ≤ s) : 0 ≤ hMos fb b 0 (hHei fb b 0 s) := by
  have hm := (hMea_v hV h0 h1).1
  have hw := hWat_v hV h0 h1 (hr := 0) (by omega)
  unfold hMos hHei
  have h2 := Int.mul_ediv_add_emod (hWat fb b 0 + s) (hMea fb b)
  have h3 := Int.emod_lt_of_pos (hWat fb b 0 + s) (show 0 < hMea fb b by omega)
  rw [Int.mul_comm (hMea fb b)] at h2
  omega
set_option maxHeartbeats 4000000 in
set_option maxRecDepth 100000 in
theorem c_X7_alike {l : Launch} {G : GT} {x r mo en i0 i1 e f t h h2 : Nat} {vs : Int} {hb ht : Nat} {fb ft : Int → Int} {vb vn vo : Int} {aL aU aP aK aN aH : Nat} {cu cp : Int} {cb : Bool} {wL wU wP wK wN wH : Int → Int} {c : Int} (hn : 0 ≤ vn ∧ vn ≤ 6) (hnb : 0 ≤ vb ∧ vb ≤ 2) (hB : HB fb) (hT : HT ft) (hV : HV fb vb) (hVT : HVT ft vn) (ho : 0 ≤ vo ∧ vo ≤ 999) (hci : CASI vb vn (hC fb ft vo vn) cb cu cp wL wU wP wK wN wH) (hrc : InR c) : Con l G yX7_alike cX7_alike 2 (some .int) { frames := 5, cells := 0, slots := 0, locals := 115 } [.ref x, .int (iI c)] [(x, eO 7 [.ref r, .ref mo, .ref en, .ref i0, .ref i1, .ref e, .ref f, .ref t, .ref h, .ref h2, .int (iI vs)]), (t, eO 0 [.ref aL, .ref aU, .ref aP, .ref aK, .ref aN, .ref aH, .int (iI cu), .int (iI cp), .int (iI (pI (cb = true)))]), (aL, eL G 128 wL), (aU, eI G 128 wU), (aP, eI G 1664 wP), (aK, eI G 13 wK), (aN, eI G 8192 wN), (aH, eI G 13 wH), (h, eO 3 [.ref hb, .ref ht, .int (iI vb), .int (iI vn), .int (iI vo)]), (hb, eI G 8 fb), (ht, eI G 24 ft)] (S := Bool × Int × Int × (Int → Int) × (Int → Int) × (Int → Int) × (Int → Int) × (Int → Int) × (Int → Int)) (fun _ => some (.int (iI (aAlike fb ft vb vn vo c)))) (fun u => [(x, eO 7 [.ref r, .ref mo, .ref en, .ref i0, .ref i1, .ref e, .ref f, .ref t, .ref h, .ref h2, .int (iI vs)]), (t, eO 0 [.ref aL, .ref aU, .ref aP, .ref aK, .ref aN, .ref aH, .int (iI u.2.1), .int (iI u.2.2.1), .int (iI (pI (u.1 = true)))]), (aL, eL G 128 u.2.2.2.1), (aU, eI G 128 u.2.2.2.2.1), (aP, eI G 1664 u.2.2.2.2.2.1), (aK, eI G 13 u.2.2.2.2.2.2.1), (aN, eI G 8192 u.2.2.2.2.2.2.2.1), (aH, eI G 13 u.2.2.2.2.2.2.2.2), (h, eO 3 [.ref hb, .ref ht, .int (iI vb), .int (iI vn), .int (iI vo)]), (hb, eI G 8 fb), (ht, eI G 24 ft)]) (fun u => CASI vb vn (hC fb ft vo vn) u.1 u.2.1 u.2.2.1 u.2.2.2.1 u.2.2.2.2.1 u.2.2.2.2.2.1 u.2.2.2.2.2.2.1 u.2.2.2.2.2.2.2.1 u.2.2.2.2.2.2.2.2) := by
  refine Con.mk (by decide +kernel) [some (.ref x), some (.int (iI c))] rfl (Nat.le_of_ble_eq_true rfl) rfl ?_
  intro V M EI EL EV EA
  refine M.aloadn (pc := 0) 0 rfl rfl dX7_alike_0 ?_
  refine M.getf (pc := 1) fg_X7_62 0 rfl rfl dX7_alike_1 ?_
  refine M.iloadn (pc := 4) 1 rfl rfl dX7_alike_4 ?_
  refine M.pV (pc := 5) (c_X3_hasCaseA  (by first | assumption | omega) (by first | assumption | omega)) mv_X7_190 [8] rfl rfl rfl 8 rfl rfl rfl rfl (Nat.le_of_ble_eq_true rfl) rfl ⟨(Nat.le_of_ble_eq_true rfl), (Nat.le_of_ble_eq_true rfl)⟩ ⟨(Nat.le_of_ble_eq_true rfl), (Nat.le_of_ble_eq_true rfl)⟩ rfl dX7_alike_5 ?_
  refine M.if_neP (pc := 8) (tgt := 14) dX7_alike_8 (by decide) (fun c8 => ?_) (fun c8 => ?_)
  · refine M.aloadn (pc := 14) 0 rfl rfl dX7_alike_14 ?_
    refine M.getf (pc := 15) fg_X7_55 0 rfl rfl dX7_alike_15 ?_
    refine M.aloadn (pc := 18) 0 rfl rfl dX7_alike_18 ?_
    refine M.getf (pc := 19) fg_X7_62 0 rfl rfl dX7_alike_19 ?_
    refine M.mV (pc := 22) (c_X0_build  (by first | assumption | omega) (by first | assumption | omega) (by first | assumption | omega) (by first | assumption | omega) (by first | assumption | omega) (by exact hci.1) (by exact hci.2.1) (by exact hci.2.2.1) (by exact hci.2.2.2)) mv_X7_196 [1, 2, 3, 4, 5, 6, 7, 8, 9, 10] rfl rfl rfl 1 rfl rfl rfl rfl (Nat.le_of_ble_eq_true rfl) rfl ⟨(Nat.le_of_ble_eq_true rfl), (Nat.le_of_ble_eq_true rfl)⟩ ⟨(Nat.le_of_ble_eq_true rfl), (Nat.le_of_ble_eq_true rfl)⟩ rfl (fun _ => rfl) dX7_alike_22 (fun u22 hu22 => ?_)
    obtain ⟨cu22, cp22, l22, w22, p22, k22, n22, y22⟩ := u22
    dsimp only [putL, List.set_cons_zero, List.set_cons_succ, Option.toList, List.cons_append, List.nil_append] at hu22 ⊢
    refine M.aloadn (pc := 25) 0 rfl rfl dX7_alike_25 ?_
    have hpr : prB vn c = true := decide_eq_true (by omega)
    have hak := hu22.2.1.alk c hpr
    refine M.getf (pc := 26) fg_X7_55 0 rfl rfl dX7_alike_26 ?_
    refine M.iloadn (pc := 29) 1 rfl rfl dX7_alike_29 ?_
    refine M.pV (pc := 30) (c_X0_alikeTo  (by omega)) mv_X7_199 [1, 5] rfl rfl rfl 1 rfl rfl rfl rfl (Nat.le_of_ble_eq_true rfl) rfl ⟨(Nat.le_of_ble_eq_true rfl), (Nat.le_of_ble_eq_true rfl)⟩ ⟨(Nat.le_of_ble_eq_true rfl), (Nat.le_of_ble_eq_true rfl)⟩ rfl dX7_alike_30 ?_
    exact EI (true, cu22, cp22, l22, w22, p22, k22, n22, y22) _ _ _ _ dX7_alike_33 (Or.inl rfl) (eqI (by unfold aAlike; rw [if_pos (by omega), hak])) (rfl) (hu22.casi)
  · refine M.ldc (pc := 11) (-1000000001) lc_X7_118 (by decide +kernel) dX7_alike_11 ?_
    exact EI (cb, cu, cp, wL, wU, wP, wK, wN, wH) _ _ _ _ dX7_alike_13 (Or.inl rfl) (eqI (by unfold aAlike; rw [if_neg (by omega)])) (rfl) (hci)
set_option maxHeartbeats 4000000 in
set_option maxRecDepth 100000 in
theorem c_X7_needed {l : Launch} {G : GT} {x r mo en i0 i1 e f t h h2 : Nat} {vs : Int} {hb ht : Nat} {fb ft : Int → Int} {vb vn vo : Int} {aL aU aP aK aN aH : Nat} {cu cp : Int} {cb : Bool} {wL wU wP wK wN wH : Int → Int} {S w : Int} (hn : 0 ≤ vn ∧ vn ≤ 6) (hnb : 0 ≤ vb ∧ vb ≤ 2) (hB : HB fb) (hT : HT ft) (hV : HV fb vb) (hVT : HVT ft vn) (ho : 0 ≤ vo ∧ vo ≤ 999) (hci : CASI vb vn (hC fb ft vo vn) cb cu cp wL wU wP wK wN wH) (hrS : InR S) (hrw : InR w) : Con l G yX7_needed cX7_needed 6 (some .int) { frames := 28, cells := 0, slots := 0, locals := 724 } [.ref x, .int (iI S), .int (iI w)] [(x, eO 7 [.ref r, .ref mo, .ref en, .ref i0, .ref i1, .ref e, .ref f, .ref t, .ref h, .ref h2, .int (iI vs)]), (t, eO 0 [.ref aL, .ref aU, .ref aP, .ref aK, .ref aN, .ref aH, .int (iI cu), .int (iI cp), .int (iI (pI (cb = true)))]), (aL, eL G 128 wL), (aU, eI G 128 wU), (aP, eI G 1664 wP), (aK, eI G 13 wK), (aN, eI G 8192 wN), (aH, eI G 13 wH), (h, eO 3 [.ref hb, .ref ht, .int (iI vb), .int (iI vn), .int (iI vo)]), (hb, eI G 8 fb), (ht, eI G 24 ft)] (S := Int × Bool × Int × Int × (Int → Int) × (Int → Int) × (Int → Int) × (Int → Int) × (Int → Int) × (Int → Int)) (fun u => some (.int (iI u.1))) (fun u => [(x, eO 7 [.ref r, .ref mo, .ref en, .ref i0, .ref i1, .ref e, .ref f, .ref t, .ref h, .ref h2, .int (iI vs)]), (t, eO 0 [.ref aL, .ref aU, .ref aP, .ref aK, .ref aN, .ref aH, .int (iI u.2.2.1), .int (iI u.2.2.2.1), .int (iI (pI (u.2.1 = true)))]), (aL, eL G 128 u.2.2.2.2.1), (aU, eI G 128 u.2.2.2.2.2.1), (aP, eI G 1664 u.2.2.2.2.2.2.1), (aK, eI G 13 u.2.2.2.2.2.2.2.1), (aN, eI G 8192 u.2.2.2.2.2.2.2.2.1), (aH, eI G 13 u.2.2.2.2.2.2.2.2.2), (h, eO 3 [.ref hb, .ref ht, .int (iI vb), .int (iI vn), .int (iI vo)]), (hb, eI G 8 fb), (ht, eI G 24 ft)]) (fun u => NEED (VTt vb vn) (hC fb ft vo vn) (prB vn) S w u.1 ∧ CASI vb vn (hC fb ft vo vn) u.2.1 u.2.2.1 u.2.2.2.1 u.2.2.2.2.1 u.2.2.2.2.2.1 u.2.2.2.2.2.2.1 u.2.2.2.2.2.2.2.1 u.2.2.2.2.2.2.2.2.1 u.2.2.2.2.2.2.2.2.2) := by
  refine Con.mk (by decide +kernel) [some (.ref x), some (.int (iI S)), some (.int (iI w)), none, none, none] rfl (Nat.le_of_ble_eq_true rfl) rfl ?_
  intro V M EI EL EV EA
  refine M.aloadn (pc := 0) 0 rfl rfl dX7_needed_0 ?_
  refine M.getf (pc := 1) fg_X7_55 0 rfl rfl dX7_needed_1 ?_
  refine M.aloadn (pc := 4) 0 rfl rfl dX7_needed_4 ?_
  refine M.getf (pc := 5) fg_X7_62 0 rfl rfl dX7_needed_5 ?_
  refine M.mV (pc := 8) (c_X0_build  (by first | assumption | omega) (by first | assumption | omega) (by first | assumption | omega) (by first | assumption | omega) (by first | assumption | omega) (by exact hci.1) (by exact hci.2.1) (by exact hci.2.2.1) (by exact hci.2.2.2)) mv_X7_196 [1, 2, 3, 4, 5, 6, 7, 8, 9, 10] rfl rfl rfl 1 rfl rfl rfl rfl (Nat.le_of_ble_eq_true rfl) rfl ⟨(Nat.le_of_ble_eq_true rfl), (Nat.le_of_ble_eq_true rfl)⟩ ⟨(Nat.le_of_ble_eq_true rfl), (Nat.le_of_ble_eq_true rfl)⟩ rfl (fun _ => rfl) dX7_needed_8 (fun u8 hu8 => ?_)
  obtain ⟨cu8, cp8, l8, w8, p8, k8, n8, y8⟩ := u8
  dsimp only [putL, List.set_cons_zero, List.set_cons_succ, Option.toList, List.cons_append, List.nil_append] at hu8 ⊢
  obtain ⟨hcp, htb, hlb, hyb, hkn⟩ := id hu8
  subst hcp
  have hcb := cm_13b (prB vn)
  have hdz := ndz hcb hrS
  refine M.iloadn (pc := 11) 1 rfl rfl dX7_needed_11 ?_
  refine M.aloadn (pc := 12) 0 rfl rfl dX7_needed_12 ?_
  refine M.getf (pc := 13) fg_X7_55 0 rfl rfl dX7_needed_13 ?_
  refine M.getf (pc := 16) fg_X7_202 1 rfl rfl dX7_needed_16 ?_
  refine M.iconst (pc := 19) dX7_needed_19 ?_
  refine M.ixor (pc := 20) (iI_of _) dX7_needed_20 ?_
  refine M.iand (pc := 21) (iI_of _) dX7_needed_21 ?_
  refine M.if_eq (pc := 22) (tgt := 28) dX7_needed_22 (by decide) (by exact iI_r _) (fun c22 => ?_) (fun c22 => ?_)
  · have hpos := hdz.mp c22
    have hS0 : 0 ≤ S := by
      rcases (by omega : S < 0 ∨ 0 ≤ S) with z | z
      · exact absurd (Or.inl z) hpos
      · exact z
    have hAn : andn S (cm (prB vn) 13) = 0 := Classical.byContradiction (fun z => hpos (Or.inr z))
    have hSS : SET (prB vn) S := ⟨⟨hS0, andn_lt hS0 hcb hAn⟩, fun d hd => by have := andn_me hAn d hd; rw [← cm_13 (prB vn) hd.1.1 hd.1.2]; exact this.2⟩
    have hSb := hSS.1
    refine M.iloadn (pc := 28) 2 rfl rfl dX7_needed_28 ?_
    refine M.if_lt (pc := 29) (tgt := 37) dX7_needed_29 (by decide) (by omega) (fun c29 => ?_) (fun c29 => ?_)
    · refine M.ldc (pc := 37) (-1000000002) lc_X7_69 (by decide +kernel) dX7_needed_37 ?_
      exact EI (-1000000002, true, cu8, cm (prB vn) 13, l8, w8, p8, k8, n8, y8) _ _ _ _ dX7_needed_39 (Or.inl rfl) (rfl) (rfl) (⟨⟨fun z => absurd z hpos, fun _ => ⟨fun _ => rfl, fun z => absurd z (by omega)⟩⟩, hu8.casi⟩)
    · refine M.iloadn (pc := 32) 2 rfl rfl dX7_needed_32 ?_
      refine M.iconst (pc := 33) dX7_needed_33 ?_
      refine M.icmp_le (pc := 34) (tgt := 40) dX7_needed_34 (by decide) (by omega) (by omega) (fun c34 => ?_) (fun c34 => ?_)
      · refine M.aloadn (pc := 40) 0 rfl rfl dX7_needed_40 ?_
        refine M.getf (pc := 41) fg_X7_55 0 rfl rfl dX7_needed_41 ?_
        refine M.iloadn (pc := 44) 1 rfl rfl dX7_needed_44 ?_
        refine M.mV (pc := 45) (c_X0_merged (vt := (VTt vb vn)) (H := (hC fb ft vo vn)) (n := vn) (by first | assumption | omega) (by exact hSS) (by exact htb.alk)) mv_X7_205 [1, 5] rfl rfl rfl 1 rfl rfl rfl rfl (Nat.le_of_ble_eq_true rfl) rfl ⟨(Nat.le_of_ble_eq_true rfl), (Nat.le_of_ble_eq_true rfl)⟩ ⟨(Nat.le_of_ble_eq_true rfl), (Nat.le_of_ble_eq_true rfl)⟩ rfl (fun _ => rfl) dX7_needed_45 (fun u45 hu45 => ?_)
        dsimp only [putL, List.set_cons_zero, List.set_cons_succ, Option.toList, List.cons_append, List.nil_append] at hu45 ⊢
        refine M.istoren (pc := 48) 3 rfl (Nat.le_of_ble_eq_true rfl) rfl dX7_needed_48 ?_
        dsimp only [List.set_cons_zero, List.set_cons_succ]
        refine M.aloadn (pc := 49) 0 rfl rfl dX7_needed_49 ?_
        refine M.getf (pc := 50) fg_X7_55 0 rfl rfl dX7_needed_50 ?_
        refine M.iloadn (pc := 53) 3 rfl rfl dX7_needed_53 ?_
        refine M.mV (pc := 54) (c_X0_fewest (vt := (VTt vb vn)) (H := (hC fb ft vo vn)) (U := w8) (n := vn) (by first | assumption | omega) (by exact htb.tbe) (by exact hu45.1) (by exact hu45.2.1) (by exact hkn)) mv_X7_208 [1, 4, 6] rfl rfl rfl 1 rfl rfl rfl rfl (Nat.le_of_ble_eq_true rfl) rfl ⟨(Nat.le_of_ble_eq_true rfl), (Nat.le_of_ble_eq_true rfl)⟩ ⟨(Nat.le_of_ble_eq_true rfl), (Nat.le_of_ble_eq_true rfl)⟩ rfl (fun _ => rfl) dX7_needed_54 (fun u54 hu54 => ?_)
        obtain ⟨v54, N54⟩ := u54
        dsimp only [putL, List.set_cons_zero, List.set_cons_succ, Option.toList, List.cons_append, List.nil_append] at hu54 ⊢
        have hnS : ND (VTt vb vn) (hC fb ft vo vn) S v54 := hu54.1.eqv hu45.2.2.symm
        have hvb := hu54.1.1
        refine M.istore (pc := 57) (i := 4) (Nat.le_of_ble_eq_true rfl) rfl dX7_needed_57 ?_
        dsimp only [List.set_cons_zero, List.set_cons_succ]
        refine M.iloadn (pc := 59) 2 rfl rfl dX7_needed_59 ?_
        refine M.if_ne (pc := 60) (tgt := 66) dX7_needed_60 (by decide) (by omega) (fun c60 => ?_) (fun c60 => ?_)
        · refine M.aloadn (pc := 66) 0 rfl rfl dX7_needed_66 ?_
          refine M.getf (pc := 67) fg_X7_55 0 rfl rfl dX7_needed_67 ?_
          refine M.iloadn (pc := 70) 3 rfl rfl dX7_needed_70 ?_
          refine M.iload (pc := 71) (i := 4) rfl dX7_needed_71 ?_
          refine M.mV (pc := 73) (c_X0_first (vt := (VTt vb vn)) (H := (hC fb ft vo vn)) (n := vn) (by first | assumption | omega) (by exact htb.tbe) (by exact hu45.1) (by exact hu45.2.1) (by exact hu54.2) (by exact VTt.b) (by exact hu54.1)) mv_X7_210 [1, 3, 4, 6] rfl rfl rfl 1 rfl rfl rfl rfl (Nat.le_of_ble_eq_true rfl) rfl ⟨(Nat.le_of_ble_eq_true rfl), (Nat.le_of_ble_eq_true rfl)⟩ ⟨(Nat.le_of_ble_eq_true rfl), (Nat.le_of_ble_eq_true rfl)⟩ rfl (fun _ => rfl) dX7_needed_73 (fun u73 hu73 => ?_)
          obtain ⟨t73, N73⟩ := u73
          dsimp only [putL, List.set_cons_zero, List.set_cons_succ, Option.toList, List.cons_append, List.nil_append] at hu73 ⊢
          have htr : (v54 = 0 → t73 = -1) ∧ (v54 ≠ 0 → (0 ≤ t73 ∧ t73 < 128) ∧ FST (VTt vb vn) (hC fb ft vo vn) S v54 t73) := ⟨hu73.1, fun z => ⟨(hu73.2.1 z).1.1.1, (hu73.2.1 z).eqv hu45.2.2.symm⟩⟩
          have htR : InR t73 := by
            by_cases z : v54 = 0
            · rw [htr.1 z]; exact ⟨by omega, by omega⟩
            · have := (htr.2 z).1; exact ⟨by omega, by omega⟩
          have hCT : TBL vb vn (hC fb ft vo vn) cu8 (cm (prB vn) 13) l8 w8 p8 k8 N73 y8 := ⟨rfl, htb, hlb, hyb, hu73.2.2⟩
          refine M.istore (pc := 76) (i := 5) (Nat.le_of_ble_eq_true rfl) rfl dX7_needed_76 ?_
          dsimp only [List.set_cons_zero, List.set_cons_succ]
          refine M.iload (pc := 78) (i := 5) rfl dX7_needed_78 ?_
          refine M.iconst (pc := 80) dX7_needed_80 ?_
          refine M.icmp_ne (pc := 81) (tgt := 86) dX7_needed_81 (by decide) (by omega) (by omega) (fun c81 => ?_) (fun c81 => ?_)
          · have hv0 : v54 ≠ 0 := fun z => c81 (htr.1 z)
            have htt := (htr.2 hv0).1
            refine M.iloadn (pc := 86) 2 rfl rfl dX7_needed_86 ?_
            have L104 : ∀ {z : Int}, (z = if w = 1 then t73 / 64 else t73 % 64) → V 0 0 104 [(x, eO 7 [.ref r, .ref mo, .ref en, .ref i0, .ref i1, .ref e, .ref f, .ref t, .ref h, .ref h2, .int (iI vs)]), (t, eO 0 [.ref aL, .ref aU, .ref aP, .ref aK, .ref aN, .ref aH, .int (iI cu8), .int (iI (cm (prB vn) 13)), .int (iI (pI (true = true)))]), (aL, eL G 128 l8), (aU, eI G 128 w8), (aP, eI G 1664 p8), (aK, eI G 13 k8), (aN, eI G 8192 N73), (aH, eI G 13 y8), (h, eO 3 [.ref hb, .ref ht, .int (iI vb), .int (iI vn), .int (iI vo)]), (hb, eI G 8 fb), (ht, eI G 24 ft)] [some (.ref x), none, none, none, none, none] [.int (iI z)] := by
              intro z hz
              exact EI (z, true, cu8, cm (prB vn) 13, l8, w8, p8, k8, N73, y8) _ _ _ _ dX7_needed_104 (Or.inl rfl) (rfl) (rfl) (⟨⟨fun y => absurd y hpos, fun _ => ⟨fun y => absurd (by omega) y, fun _ => ⟨v54, hnS, fun y => absurd y c60, fun _ y => absurd y hv0, fun _ _ => ⟨t73, (htr.2 hv0).2, hz⟩⟩⟩⟩, hCT.casi⟩)
            refine M.iconst (pc := 87) dX7_needed_87 ?_
            refine M.icmp_ne (pc := 88) (tgt := 99) dX7_needed_88 (by decide) (by omega) (by omega) (fun c88 => ?_) (fun c88 => ?_)
            · refine M.iload (pc := 99) (i := 5) rfl dX7_needed_99 ?_
              refine M.pS (pc := 101) (c_X0_setOf  (by first | assumption | omega)) ms_X7_216 [] rfl rfl rfl rfl (Nat.le_of_ble_eq_true rfl) rfl ⟨(Nat.le_of_ble_eq_true rfl), (Nat.le_of_ble_eq_true rfl)⟩ ⟨(Nat.le_of_ble_eq_true rfl), (Nat.le_of_ble_eq_true rfl)⟩ rfl dX7_needed_101 ?_
              refine M.forget 1 ?_
              dsimp only [List.set_cons_zero, List.set_cons_succ]
              refine M.forget 2 ?_
              dsimp only [List.set_cons_zero, List.set_cons_succ]
              refine M.forget 3 ?_
              dsimp only [List.set_cons_zero, List.set_cons_succ]
              refine M.forget 4 ?_
              dsimp only [List.set_cons_zero, List.set_cons_succ]
              refine M.forget 5 ?_
              dsimp only [List.set_cons_zero, List.set_cons_succ]
              exact L104  (by rw [if_neg (by omega)])
            · refine M.iload (pc := 91) (i := 5) rfl dX7_needed_91 ?_
              refine M.pS (pc := 93) (c_X0_bathOf  (by first | assumption | omega)) ms_X7_213 [] rfl rfl rfl rfl (Nat.le_of_ble_eq_true rfl) rfl ⟨(Nat.le_of_ble_eq_true rfl), (Nat.le_of_ble_eq_true rfl)⟩ ⟨(Nat.le_of_ble_eq_true rfl), (Nat.le_of_ble_eq_true rfl)⟩ rfl dX7_needed_93 ?_
              refine M.goto (pc := 96) (tgt := 104) dX7_needed_96 (by decide) ?_
              refine M.forget 1 ?_
              dsimp only [List.set_cons_zero, List.set_cons_succ]
              refine M.forget 2 ?_
              dsimp only [List.set_cons_zero, List.set_cons_succ]
              refine M.forget 3 ?_
              dsimp only [List.set_cons_zero, List.set_cons_succ]
              refine M.forget 4 ?_
              dsimp only [List.set_cons_zero, List.set_cons_succ]
              refine M.forget 5 ?_
              dsimp only [List.set_cons_zero, List.set_cons_succ]
              exact L104  (by rw [if_pos (by omega)])
          · refine M.iconst (pc := 84) dX7_needed_84 ?_
            have hv0 : v54 = 0 := Classical.byContradiction (fun z => by have := (htr.2 z).1; omega)
            exact EI (-1, true, cu8, cm (prB vn) 13, l8, w8, p8, k8, N73, y8) _ _ _ _ dX7_needed_85 (Or.inl rfl) (rfl) (rfl) (⟨⟨fun z => absurd z hpos, fun _ => ⟨fun z => absurd (by omega) z, fun _ => ⟨v54, hnS, fun z => absurd z c60, fun _ _ => rfl, fun _ z => absurd hv0 z⟩⟩⟩, hCT.casi⟩)
        · refine M.iload (pc := 63) (i := 4) rfl dX7_needed_63 ?_
          exact EI (v54, true, cu8, cm (prB vn) 13, l8, w8, p8, k8, N54, y8) _ _ _ _ dX7_needed_65 (Or.inl rfl) (rfl) (rfl) (⟨⟨fun z => absurd z hpos, fun _ => ⟨fun z => absurd (by omega) z, fun _ => ⟨v54, hnS, fun _ => rfl, fun z => absurd c60 z, fun z => absurd c60 z⟩⟩⟩, TBL.casi ⟨rfl, htb, hlb, hyb, hu54.2⟩⟩)
      · refine M.ldc (pc := 37) (-1000000002) lc_X7_69 (by decide +kernel) dX7_needed_37 ?_
        exact EI (-1000000002, true, cu8, cm (prB vn) 13, l8, w8, p8, k8, n8, y8) _ _ _ _ dX7_needed_39 (Or.inl rfl) (rfl) (rfl) (⟨⟨fun z => absurd z hpos, fun _ => ⟨fun _ => rfl, fun z => absurd z (by omega)⟩⟩, hu8.casi⟩)
  · have hneg : S < 0 ∨ ¬ andn S (cm (prB vn) 13) = 0 := Classical.byContradiction (fun z => c22 (hdz.mpr z))
    refine M.ldc (pc := 25) (-1000000001) lc_X7_118 (by decide +kernel) dX7_needed_25 ?_
    exact EI (-1000000001, true, cu8, cm (prB vn) 13, l8, w8, p8, k8, n8, y8) _ _ _ _ dX7_needed_27 (Or.inl rfl) (rfl) (rfl) (⟨⟨fun _ => rfl, fun z => absurd hneg z⟩, hu8.casi⟩)
set_option maxHeartbeats 4000000 in
set_option maxRecDepth 100000 in
theorem c_X7_away {l : Launch} {G : GT} {x r mo en i0 i1 e f t h h2 : Nat} {vs : Int} {hb ht : Nat} {fb ft : Int → Int} {vb vn vo : Int} {aL aU aP aK aN aH : Nat} {cu cp : Int} {cb : Bool} {wL wU wP wK wN wH : Int → Int} (hn : 0 ≤ vn ∧ vn ≤ 6) (hnb : 0 ≤ vb ∧ vb ≤ 2) (hB : HB fb) (hT : HT ft) (hV : HV fb vb) (hVT : HVT ft vn) (ho : 0 ≤ vo ∧ vo ≤ 999) (hci : CASI vb vn (hC fb ft vo vn) cb cu cp wL wU wP wK wN wH) : Con l G yX7_away cX7_away 2 (some .int) { frames := 5, cells := 0, slots := 0, locals := 115 } [.ref x] [(x, eO 7 [.ref r, .ref mo, .ref en, .ref i0, .ref i1, .ref e, .ref f, .ref t, .ref h, .ref h2, .int (iI vs)]), (t, eO 0 [.ref aL, .ref aU, .ref aP, .ref aK, .ref aN, .ref aH, .int (iI cu), .int (iI cp), .int (iI (pI (cb = true)))]), (aL, eL G 128 wL), (aU, eI G 128 wU), (aP, eI G 1664 wP), (aK, eI G 13 wK), (aN, eI G 8192 wN), (aH, eI G 13 wH), (h, eO 3 [.ref hb, .ref ht, .int (iI vb), .int (iI vn), .int (iI vo)]), (hb, eI G 8 fb), (ht, eI G 24 ft)] (S := Int × Bool × Int × Int × (Int → Int) × (Int → Int) × (Int → Int) × (Int → Int) × (Int → Int) × (Int → Int)) (fun u => some (.int (iI u.1))) (fun u => [(x, eO 7 [.ref r, .ref mo, .ref en, .ref i0, .ref i1, .ref e, .ref f, .ref t, .ref h, .ref h2, .int (iI vs)]), (t, eO 0 [.ref aL, .ref aU, .ref aP, .ref aK, .ref aN, .ref aH, .int (iI u.2.2.1), .int (iI u.2.2.2.1), .int (iI (pI (u.2.1 = true)))]), (aL, eL G 128 u.2.2.2.2.1), (aU, eI G 128 u.2.2.2.2.2.1), (aP, eI G 1664 u.2.2.2.2.2.2.1), (aK, eI G 13 u.2.2.2.2.2.2.2.1), (aN, eI G 8192 u.2.2.2.2.2.2.2.2.1), (aH, eI G 13 u.2.2.2.2.2.2.2.2.2), (h, eO 3 [.ref hb, .ref ht, .int (iI vb), .int (iI vn), .int (iI vo)]), (hb, eI G 8 fb), (ht, eI G 24 ft)]) (fun u => AWAY (VTt vb vn) (hC fb ft vo vn) vn u.1 ∧ CASI vb vn (hC fb ft vo vn) u.2.1 u.2.2.1 u.2.2.2.1 u.2.2.2.2.1 u.2.2.2.2.2.1 u.2.2.2.2.2.2.1 u.2.2.2.2.2.2.2.1 u.2.2.2.2.2.2.2.2.1 u.2.2.2.2.2.2.2.2.2) := by
  refine Con.mk (by decide +kernel) [some (.ref x), none] rfl (Nat.le_of_ble_eq_true rfl) rfl ?_
  intro V M EI EL EV EA
  refine M.aloadn (pc := 0) 0 rfl rfl dX7_away_0 ?_
  refine M.getf (pc := 1) fg_X7_55 0 rfl rfl dX7_away_1 ?_
  refine M.aloadn (pc := 4) 0 rfl rfl dX7_away_4 ?_
  refine M.getf (pc := 5) fg_X7_62 0 rfl rfl dX7_away_5 ?_
  refine M.mV (pc := 8) (c_X0_build  (by first | assumption | omega) (by first | assumption | omega) (by first | assumption | omega) (by first | assumption | omega) (by first | assumption | omega) (by exact hci.1) (by exact hci.2.1) (by exact hci.2.2.1) (by exact hci.2.2.2)) mv_X7_196 [1, 2, 3, 4, 5, 6, 7, 8, 9, 10] rfl rfl rfl 1 rfl rfl rfl rfl (Nat.le_of_ble_eq_true rfl) rfl ⟨(Nat.le_of_ble_eq_true rfl), (Nat.le_of_ble_eq_true rfl)⟩ ⟨(Nat.le_of_ble_eq_true rfl), (Nat.le_of_ble_eq_true rfl)⟩ rfl (fun _ => rfl) dX7_away_8 (fun u8 hu8 => ?_)
  obtain ⟨cu8, cp8, l8, w8, p8, k8, n8, y8⟩ := u8
  dsimp only [putL, List.set_cons_zero, List.set_cons_succ, Option.toList, List.cons_append, List.nil_append] at hu8 ⊢
  obtain ⟨hcp, htb, hlb, hyb, hkn⟩ := id hu8
  refine M.aloadn (pc := 11) 0 rfl rfl dX7_away_11 ?_
  refine M.getf (pc := 12) fg_X7_55 0 rfl rfl dX7_away_12 ?_
  refine M.aloadn (pc := 15) 0 rfl rfl dX7_away_15 ?_
  refine M.getf (pc := 16) fg_X7_62 0 rfl rfl dX7_away_16 ?_
  refine M.getf (pc := 19) fg_X7_99 8 rfl rfl dX7_away_19 ?_
  refine M.mV (pc := 22) (c_X0_indispensable (nb := vb) (H := (hC fb ft vo vn)) (U := w8) (P := p8) (K := k8) (by first | assumption | omega) (by exact hlb) (by exact htb)) mv_X7_219 [1, 2] rfl rfl rfl 1 rfl rfl rfl rfl (Nat.le_of_ble_eq_true rfl) rfl ⟨(Nat.le_of_ble_eq_true rfl), (Nat.le_of_ble_eq_true rfl)⟩ ⟨(Nat.le_of_ble_eq_true rfl), (Nat.le_of_ble_eq_true rfl)⟩ rfl (fun _ => rfl) dX7_away_22 (fun u22 hu22 => ?_)
  dsimp only [putL, List.set_cons_zero, List.set_cons_succ, Option.toList, List.cons_append, List.nil_append] at hu22 ⊢
  have haw := AWAY.of hn hu22.1 hu22.2
  have hub := hu22.1
  refine M.istoren (pc := 25) 1 rfl (Nat.le_of_ble_eq_true rfl) rfl dX7_away_25 ?_
  dsimp only [List.set_cons_zero, List.set_cons_succ]
  have L38 : ∀ {z : Int}, (z = if u22 = 0 then -1 else ctz u22) → V 0 0 38 [(x, eO 7 [.ref r, .ref mo, .ref en, .ref i0, .ref i1, .ref e, .ref f, .ref t, .ref h, .ref h2, .int (iI vs)]), (t, eO 0 [.ref aL, .ref aU, .ref aP, .ref aK, .ref aN, .ref aH, .int (iI cu8), .int (iI cp8), .int (iI (pI (true = true)))]), (aL, eL G 128 l8), (aU, eI G 128 w8), (aP, eI G 1664 p8), (aK, eI G 13 k8), (aN, eI G 8192 n8), (aH, eI G 13 y8), (h, eO 3 [.ref hb, .ref ht, .int (iI vb), .int (iI vn), .int (iI vo)]), (hb, eI G 8 fb), (ht, eI G 24 ft)] [some (.ref x), none] [.int (iI z)] := by
    intro z hz
    exact EI (z, true, cu8, cp8, l8, w8, p8, k8, n8, y8) _ _ _ _ dX7_away_38 (Or.inl rfl) (rfl) (rfl) (⟨by rw [hz]; exact haw, hu8.casi⟩)
  refine M.iloadn (pc := 26) 1 rfl rfl dX7_away_26 ?_
  refine M.if_ne (pc := 27) (tgt := 34) dX7_away_27 (by decide) (by omega) (fun c27 => ?_) (fun c27 => ?_)
  · refine M.iloadn (pc := 34) 1 rfl rfl dX7_away_34 ?_
    refine M.pS (pc := 35) (c_J6_numberOfTrailingZeros_0f7a4  (by first | assumption | omega)) ms_X7_222 [] rfl rfl rfl rfl (Nat.le_of_ble_eq_true rfl) rfl ⟨(Nat.le_of_ble_eq_true rfl), (Nat.le_of_ble_eq_true rfl)⟩ ⟨(Nat.le_of_ble_eq_true rfl), (Nat.le_of_ble_eq_true rfl)⟩ rfl dX7_away_35 ?_
    refine M.forget 1 ?_
    dsimp only [List.set_cons_zero, List.set_cons_succ]
    exact L38  (by rw [if_neg (by omega)])
  · refine M.iconst (pc := 30) dX7_away_30 ?_
    refine M.goto (pc := 31) (tgt := 38) dX7_away_31 (by decide) ?_
    refine M.forget 1 ?_
    dsimp only [List.set_cons_zero, List.set_cons_succ]
    exact L38  (by rw [if_pos (by omega)])
set_option maxHeartbeats 4000000 in
set_option maxRecDepth 100000 in
theorem c_X7_called {l : Launch} {G : GT} {x r mo en i0 i1 e f t h h2 : Nat} {vs : Int} {hb ht : Nat} {fb ft : Int → Int} {vb vn vo : Int} {eLo eUp eSe eLe eGr : Nat} {el eu gs gL gG : Int → Int} {ecl : Bool} {g w : Int} (hn : 0 ≤ vn ∧ vn ≤ 6) (hnb : 0 ≤ vb ∧ vb ≤ 2) (hB : HB fb) (hT : HT ft) (hV : HV fb vb) (hVT : HVT ft vn) (ho : 0 ≤ vo ∧ vo ≤ 999) (hRG : RG el eu) (hrg : InR g) (hrw : InR w) : ConF l G yX7_called cX7_called 10 (some .int) { frames := 3, cells := 0, slots := 0, locals := 69 } [.ref x, .int (iI g), .int (iI w)] [(x, eO 7 [.ref r, .ref mo, .ref en, .ref i0, .ref i1, .ref e, .ref f, .ref t, .ref h, .ref h2, .int (iI vs)]), (h, eO 3 [.ref hb, .ref ht, .int (iI vb), .int (iI vn), .int (iI vo)]), (hb, eI G 8 fb), (ht, eI G 24 ft), (e, eO 1 [.ref eLo, .ref eUp, .ref eSe, .ref eLe, .ref eGr, .int (iI (pI (ecl = true)))]), (eLo, eI G 6 el), (eUp, eI G 6 eu), (eSe, eI G 12 gs), (eLe, eI G 12 gL), (eGr, eI G 12 gG)] (some (.int (iI (aCalled fb ft el eu vb vn g w)))) := by
  refine Con.mk (by decide +kernel) [some (.ref x), some (.int (iI g)), some (.int (iI w)), none, none, none, none, none, none, none] rfl (Nat.le_of_ble_eq_true rfl) rfl ?_
  intro V M EI EL EV EA
  refine M.iloadn (pc := 0) 1 rfl rfl dX7_called_0 ?_
  refine M.if_lt (pc := 1) (tgt := 20) dX7_called_1 (by decide) (by omega) (fun c1 => ?_) (fun c1 => ?_)
  · refine M.ldc (pc := 20) (-1000000002) lc_X7_69 (by decide +kernel) dX7_called_20 ?_
    exact EI () _ _ _ _ dX7_called_22 (Or.inl rfl) (eqI (by unfold aCalled; (repeat' split) <;> first | omega | rfl)) rfl trivial
  · refine M.iloadn (pc := 4) 1 rfl rfl dX7_called_4 ?_
    refine M.sipush (pc := 5) (by decide +kernel) dX7_called_5 ?_
    refine M.icmp_gt (pc := 8) (tgt := 20) dX7_called_8 (by decide) (by omega) (by omega) (fun c8 => ?_) (fun c8 => ?_)
    · refine M.ldc (pc := 20) (-1000000002) lc_X7_69 (by decide +kernel) dX7_called_20 ?_
      exact EI () _ _ _ _ dX7_called_22 (Or.inl rfl) (eqI (by unfold aCalled; (repeat' split) <;> first | omega | rfl)) rfl trivial
    · refine M.iloadn (pc := 11) 2 rfl rfl dX7_called_11 ?_
      refine M.if_lt (pc := 12) (tgt := 20) dX7_called_12 (by decide) (by omega) (fun c12 => ?_) (fun c12 => ?_)
      · refine M.ldc (pc := 20) (-1000000002) lc_X7_69 (by decide +kernel) dX7_called_20 ?_
        exact EI () _ _ _ _ dX7_called_22 (Or.inl rfl) (eqI (by unfold aCalled; (repeat' split) <;> first | omega | rfl)) rfl trivial
      · refine M.iloadn (pc := 15) 2 rfl rfl dX7_called_15 ?_
        refine M.iconst (pc := 16) dX7_called_16 ?_
        refine M.icmp_le (pc := 17) (tgt := 23) dX7_called_17 (by decide) (by omega) (by omega) (fun c17 => ?_) (fun c17 => ?_)
        · refine M.aloadn (pc := 23) 0 rfl rfl dX7_called_23 ?_
          refine M.getf (pc := 24) fg_X7_62 0 rfl rfl dX7_called_24 ?_
          refine M.getf (pc := 27) fg_X7_105 1 rfl rfl dX7_called_27 ?_
          refine M.if_ne (pc := 30) (tgt := 36) dX7_called_30 (by decide) (by omega) (fun c30 => ?_) (fun c30 => ?_)
          · have hb1 := fun z : 1 < vb => (hMea_v hV (b := 1) (by omega) z).1
            have hb0 := (hMea_v hV (b := 0) (by omega) (by omega : 0 < vb)).1
            refine M.aloadn (pc := 36) 0 rfl rfl dX7_called_36 ?_
            refine M.getf (pc := 37) fg_X7_62 0 rfl rfl dX7_called_37 ?_
            refine M.pV (pc := 40) (c_X3_finest  (by first | assumption | omega) (by first | assumption | omega)) mv_X7_228 [1, 2, 3] rfl rfl rfl 1 rfl rfl rfl rfl (Nat.le_of_ble_eq_true rfl) rfl ⟨(Nat.le_of_ble_eq_true rfl), (Nat.le_of_ble_eq_true rfl)⟩ ⟨(Nat.le_of_ble_eq_true rfl), (Nat.le_of_ble_eq_true rfl)⟩ rfl dX7_called_40 ?_
            obtain ⟨bb, hbe⟩ : ∃ bb, bb = clB fb vb := ⟨_, rfl⟩
            have hfe : (if vb = 2 ∧ hMea fb 1 < hMea fb 0 then (1 : Int) else 0) = bb := by
              rw [hbe]
              unfold clB
              exact ifOr (by omega) _ _
            rw [hfe]
            have hbb : 0 ≤ bb ∧ bb < vb := by rw [hbe]; unfold clB; split <;> omega
            refine M.istoren (pc := 43) 3 rfl (Nat.le_of_ble_eq_true rfl) rfl dX7_called_43 ?_
            dsimp only [List.set_cons_zero, List.set_cons_succ]
            refine M.iconst (pc := 44) dX7_called_44 ?_
            refine M.istore (pc := 45) (i := 4) (Nat.le_of_ble_eq_true rfl) rfl dX7_called_45 ?_
            dsimp only [List.set_cons_zero, List.set_cons_succ]
            refine M.iconst (pc := 47) dX7_called_47 ?_
            refine M.istore (pc := 48) (i := 5) (Nat.le_of_ble_eq_true rfl) rfl dX7_called_48 ?_
            dsimp only [List.set_cons_zero, List.set_cons_succ]
            refine M.iconst (pc := 50) dX7_called_50 ?_
            refine M.istore (pc := 51) (i := 6) (Nat.le_of_ble_eq_true rfl) rfl dX7_called_51 ?_
            dsimp only [List.set_cons_zero, List.set_cons_succ]
            have L53 : ∀ (fu : Nat) {k n w2 : Int}, (0 ≤ k ∧ k ≤ vn) → (0 ≤ n ∧ n ≤ k) → (n = clN el eu g k.toNat) → (w2 = clM fb ft el eu vb g k.toNat) → (0 ≤ w2 ∧ w2 ≤ 2000) → (vn - k).toNat < fu → V 0 0 53 [(x, eO 7 [.ref r, .ref mo, .ref en, .ref i0, .ref i1, .ref e, .ref f, .ref t, .ref h, .ref h2, .int (iI vs)]), (h, eO 3 [.ref hb, .ref ht, .int (iI vb), .int (iI vn), .int (iI vo)]), (hb, eI G 8 fb), (ht, eI G 24 ft), (e, eO 1 [.ref eLo, .ref eUp, .ref eSe, .ref eLe, .ref eGr, .int (iI (pI (ecl = true)))]), (eLo, eI G 6 el), (eUp, eI G 6 eu), (eSe, eI G 12 gs), (eLe, eI G 12 gL), (eGr, eI G 12 gG)] [some (.ref x), some (.int (iI g)), some (.int (iI w)), some (.int (iI bb)), some (.int (iI n)), some (.int (iI w2)), some (.int (iI k)), none, none, none] [] := by
              intro fu
              induction fu with
              | zero => intro k n w2 hk hnw hn2 hw2 hwb2 hm; exact absurd hm (Nat.not_lt_zero _)
              | succ fu ih53 =>
                intro k n w2 hk hnw hn2 hw2 hwb2 hm53
                refine M.iload (pc := 53) (i := 6) rfl dX7_called_53 ?_
                refine M.aloadn (pc := 55) 0 rfl rfl dX7_called_55 ?_
                refine M.getf (pc := 56) fg_X7_62 0 rfl rfl dX7_called_56 ?_
                refine M.getf (pc := 59) fg_X7_99 1 rfl rfl dX7_called_59 ?_
                refine M.icmp_ge (pc := 62) (tgt := 179) dX7_called_62 (by decide) (by omega) (by omega) (fun c62 => ?_) (fun c62 => ?_)
                · have hke : k = vn := by omega
                  subst hke
                  refine M.iloadn (pc := 179) 2 rfl rfl dX7_called_179 ?_
                  refine M.if_ne (pc := 180) (tgt := 188) dX7_called_180 (by decide) (by omega) (fun c180 => ?_) (fun c180 => ?_)
                  · refine M.iload (pc := 188) (i := 5) rfl dX7_called_188 ?_
                    exact EI () _ _ _ _ dX7_called_190 (Or.inl rfl) (eqI (by unfold aCalled; rw [if_neg (by omega), if_neg (by omega)]; first | rw [if_pos (by omega), hn2] | rw [if_neg (by omega), hw2])) rfl trivial
                  · refine M.iload (pc := 183) (i := 4) rfl dX7_called_183 ?_
                    refine M.goto (pc := 185) (tgt := 190) dX7_called_185 (by decide) ?_
                    exact EI () _ _ _ _ dX7_called_190 (Or.inl rfl) (eqI (by unfold aCalled; rw [if_neg (by omega), if_neg (by omega)]; first | rw [if_pos (by omega), hn2] | rw [if_neg (by omega), hw2])) rfl trivial
                · have hrk := hRG k hk.1 (by omega)
                  have hst := clN_s el eu g hk.1
                  have hsm := clM_s fb ft el eu vb g hk.1
                  have hpk := p2_b (k := k) (by omega)
                  have hel := sumT_p6 el hk.1 (by omega : k < 6)
                  have heu := sumT_p6 eu hk.1 (by omega : k < 6)
                  have hTk := (hVT k hk.1 (by omega)).2.2.1
                  have hcs : caseS ft vo vn.toNat (p2 k) 0 = ft (k * 4 + 2) := by
                    rw [caseS_0 hn]
                    have h := sumT_p2 (sizeF ft) hk.1 vn.toNat (by omega) (by omega)
                    rw [if_pos (by omega)] at h
                    exact h
                  have hmb := (hMea_v hV hbb.1 hbb.2).1
                  have hwb := hWat_v hV hbb.1 hbb.2 (hr := 0) (by omega)
                  have hhb := hHei_v hV hbb.1 hbb.2 (hr := 0) (s := ft (k * 4 + 2)) (B := 999) (by omega) (by omega) (by omega)
                  have hhe : hHei fb bb 0 (ft (k * 4 + 2)) = clH fb ft vb k := by unfold clH; rw [hbe]
                  have hmu := hMul_v hV hbb.1 hbb.2 (v := hHei fb bb 0 (ft (k * 4 + 2))) (by omega) (by omega)
                  have hmo : hMos fb bb 0 (hHei fb bb 0 (ft (k * 4 + 2))) = hHei fb bb 0 (ft (k * 4 + 2)) * hMea fb bb + hMea fb bb - 1 - hWat fb bb 0 := rfl
                  have hls : hLst fb bb 0 (hHei fb bb 0 (ft (k * 4 + 2))) = max 0 (hHei fb bb 0 (ft (k * 4 + 2)) * hMea fb bb - hWat fb bb 0) := rfl
                  have hmp := hHei_mos hV hbb.1 hbb.2 (s := ft (k * 4 + 2)) (by omega)
                  have hge : hGre fb bb 0 (hHei fb bb 0 (ft (k * 4 + 2))) = hMos fb bb 0 (hHei fb bb 0 (ft (k * 4 + 2))) := by rw [hGre_eq]; omega
                  have hle : hLea fb bb 0 (hHei fb bb 0 (ft (k * 4 + 2))) = hLst fb bb 0 (hHei fb bb 0 (ft (k * 4 + 2))) := by rw [hLea_eq, if_neg (by omega)]
                  refine M.aloadn (pc := 65) 0 rfl rfl dX7_called_65 ?_
                  refine M.getf (pc := 66) fg_X7_41 0 rfl rfl dX7_called_66 ?_
                  refine M.iconst (pc := 69) dX7_called_69 ?_
                  refine M.iload (pc := 70) (i := 6) rfl dX7_called_70 ?_
                  refine M.ishl (pc := 72) (bit_shl1 (by omega) (by omega)) dX7_called_72 ?_
                  refine M.pV (pc := 73) (c_X1_lowest  (by first | assumption | omega)) mv_X7_126 [4, 5, 6, 7, 8, 9] rfl rfl rfl 4 rfl rfl rfl rfl (Nat.le_of_ble_eq_true rfl) rfl ⟨(Nat.le_of_ble_eq_true rfl), (Nat.le_of_ble_eq_true rfl)⟩ ⟨(Nat.le_of_ble_eq_true rfl), (Nat.le_of_ble_eq_true rfl)⟩ rfl dX7_called_73 ?_
                  rw [hel]
                  refine M.istore (pc := 76) (i := 7) (Nat.le_of_ble_eq_true rfl) rfl dX7_called_76 ?_
                  dsimp only [List.set_cons_zero, List.set_cons_succ]
                  refine M.aloadn (pc := 78) 0 rfl rfl dX7_called_78 ?_
                  refine M.getf (pc := 79) fg_X7_41 0 rfl rfl dX7_called_79 ?_
                  refine M.iconst (pc := 82) dX7_called_82 ?_
                  refine M.iload (pc := 83) (i := 6) rfl dX7_called_83 ?_
                  refine M.ishl (pc := 85) (bit_shl1 (by omega) (by omega)) dX7_called_85 ?_
                  refine M.pV (pc := 86) (c_X1_highest  (by first | assumption | omega)) mv_X7_130 [4, 5, 6, 7, 8, 9] rfl rfl rfl 4 rfl rfl rfl rfl (Nat.le_of_ble_eq_true rfl) rfl ⟨(Nat.le_of_ble_eq_true rfl), (Nat.le_of_ble_eq_true rfl)⟩ ⟨(Nat.le_of_ble_eq_true rfl), (Nat.le_of_ble_eq_true rfl)⟩ rfl dX7_called_86 ?_
                  rw [heu]
                  refine M.istore (pc := 89) (i := 8) (Nat.le_of_ble_eq_true rfl) rfl dX7_called_89 ?_
                  dsimp only [List.set_cons_zero, List.set_cons_succ]
                  have L161 : ∀ {n3 lo hi : Int}, (n3 = n + (if g < eu k - el k then 1 else 0)) → (hi - lo = clW fb ft el eu vb g k) → ((0 ≤ lo ∧ lo ≤ 1000000000) ∧ (-100000 ≤ hi ∧ hi ≤ 999)) → V 0 0 161 [(x, eO 7 [.ref r, .ref mo, .ref en, .ref i0, .ref i1, .ref e, .ref f, .ref t, .ref h, .ref h2, .int (iI vs)]), (h, eO 3 [.ref hb, .ref ht, .int (iI vb), .int (iI vn), .int (iI vo)]), (hb, eI G 8 fb), (ht, eI G 24 ft), (e, eO 1 [.ref eLo, .ref eUp, .ref eSe, .ref eLe, .ref eGr, .int (iI (pI (ecl = true)))]), (eLo, eI G 6 el), (eUp, eI G 6 eu), (eSe, eI G 12 gs), (eLe, eI G 12 gL), (eGr, eI G 12 gG)] [some (.ref x), some (.int (iI g)), some (.int (iI w)), some (.int (iI bb)), some (.int (iI n3)), some (.int (iI w2)), some (.int (iI k)), some (.int (iI lo)), some (.int (iI hi)), none] [] := by
                    intro n3 lo hi hn3 hw3 hlb
                    refine M.iload (pc := 161) (i := 5) rfl dX7_called_161 ?_
                    refine M.iload (pc := 163) (i := 8) rfl dX7_called_163 ?_
                    refine M.iload (pc := 165) (i := 7) rfl dX7_called_165 ?_
                    refine M.isub (pc := 167) dX7_called_167 ?_
                    refine M.max (pc := 168) ml_X7_231 (by omega) (by omega) rfl ⟨(Nat.le_of_ble_eq_true rfl), (Nat.le_of_ble_eq_true rfl), (Nat.le_of_ble_eq_true rfl), (Nat.le_of_ble_eq_true rfl)⟩ dX7_called_168 ?_
                    refine M.istore (pc := 171) (i := 5) (Nat.le_of_ble_eq_true rfl) rfl dX7_called_171 ?_
                    dsimp only [List.set_cons_zero, List.set_cons_succ]
                    refine M.iinc (pc := 173) (i := 6) rfl rfl dX7_called_173 ?_
                    dsimp only [List.set_cons_zero, List.set_cons_succ]
                    refine M.goto (pc := 176) (tgt := 53) dX7_called_176 (by decide) ?_
                    refine M.forget 7 ?_
                    dsimp only [List.set_cons_zero, List.set_cons_succ]
                    refine M.forget 8 ?_
                    dsimp only [List.set_cons_zero, List.set_cons_succ]
                    exact ih53  (by first | assumption | omega) (by rw [hn3]; split <;> omega) (by rw [hst, ← hn2]; exact hn3) (by rw [hsm, ← hw2, hw3]) (by omega) (by omega)
                  refine M.iload (pc := 91) (i := 8) rfl dX7_called_91 ?_
                  refine M.iload (pc := 93) (i := 7) rfl dX7_called_93 ?_
                  refine M.isub (pc := 95) dX7_called_95 ?_
                  refine M.iloadn (pc := 96) 1 rfl rfl dX7_called_96 ?_
                  refine M.icmp_le (pc := 97) (tgt := 161) dX7_called_97 (by decide) (by omega) (by omega) (fun c97 => ?_) (fun c97 => ?_)
                  · exact L161  (by rw [if_neg (by omega), Int.add_zero]) (by unfold clW; rw [if_neg (by omega)]) (by first | assumption | omega)
                  · refine M.iinc (pc := 100) (i := 4) rfl rfl dX7_called_100 ?_
                    dsimp only [List.set_cons_zero, List.set_cons_succ]
                    have hcw : clW fb ft el eu vb g k = min (eu k) (hMos fb bb 0 (hHei fb bb 0 (ft (k * 4 + 2)))) - max (el k) (hLst fb bb 0 (hHei fb bb 0 (ft (k * 4 + 2)))) := by
                      unfold clW
                      rw [if_pos (by omega), hbe, hhe.symm.trans (by rw [hbe])]
                    refine M.aloadn (pc := 103) 0 rfl rfl dX7_called_103 ?_
                    refine M.getf (pc := 104) fg_X7_62 0 rfl rfl dX7_called_104 ?_
                    refine M.iloadn (pc := 107) 3 rfl rfl dX7_called_107 ?_
                    refine M.iconst (pc := 108) dX7_called_108 ?_
                    refine M.aloadn (pc := 109) 0 rfl rfl dX7_called_109 ?_
                    refine M.getf (pc := 110) fg_X7_62 0 rfl rfl dX7_called_110 ?_
                    refine M.iconst (pc := 113) dX7_called_113 ?_
                    refine M.iload (pc := 114) (i := 6) rfl dX7_called_114 ?_
                    refine M.ishl (pc := 116) (bit_shl1 (by omega) (by omega)) dX7_called_116 ?_
                    refine M.pV (pc := 117) (c_X3_inTruth  (by first | assumption | omega) (by first | assumption | omega) (by first | assumption | omega) (by omega)) mv_X7_142 [1, 2, 3] rfl rfl rfl 1 rfl rfl rfl rfl (Nat.le_of_ble_eq_true rfl) rfl ⟨(Nat.le_of_ble_eq_true rfl), (Nat.le_of_ble_eq_true rfl)⟩ ⟨(Nat.le_of_ble_eq_true rfl), (Nat.le_of_ble_eq_true rfl)⟩ rfl dX7_called_117 ?_
                    rw [hcs]
                    refine M.pV (pc := 120) (c_X3_heightOf  (by first | assumption | omega) (by omega) (by omega) (by omega)) mv_X7_145 [1, 2, 3] rfl rfl rfl 1 rfl rfl rfl rfl (Nat.le_of_ble_eq_true rfl) rfl ⟨(Nat.le_of_ble_eq_true rfl), (Nat.le_of_ble_eq_true rfl)⟩ ⟨(Nat.le_of_ble_eq_true rfl), (Nat.le_of_ble_eq_true rfl)⟩ rfl dX7_called_120 ?_
                    refine M.istore (pc := 123) (i := 9) (Nat.le_of_ble_eq_true rfl) rfl dX7_called_123 ?_
                    dsimp only [List.set_cons_zero, List.set_cons_succ]
                    refine M.iload (pc := 125) (i := 7) rfl dX7_called_125 ?_
                    refine M.aloadn (pc := 127) 0 rfl rfl dX7_called_127 ?_
                    refine M.getf (pc := 128) fg_X7_62 0 rfl rfl dX7_called_128 ?_
                    refine M.iloadn (pc := 131) 3 rfl rfl dX7_called_131 ?_
                    refine M.iconst (pc := 132) dX7_called_132 ?_
                    refine M.iload (pc := 133) (i := 9) rfl dX7_called_133 ?_
                    refine M.pV (pc := 135) (c_X3_leastOf  (by first | assumption | omega) (by omega) (by omega) (by omega)) mv_X7_152 [1, 2, 3] rfl rfl rfl 1 rfl rfl rfl rfl (Nat.le_of_ble_eq_true rfl) rfl ⟨(Nat.le_of_ble_eq_true rfl), (Nat.le_of_ble_eq_true rfl)⟩ ⟨(Nat.le_of_ble_eq_true rfl), (Nat.le_of_ble_eq_true rfl)⟩ rfl dX7_called_135 ?_
                    rw [hle]
                    refine M.max (pc := 138) ml_X7_231 (by omega) (by omega) rfl ⟨(Nat.le_of_ble_eq_true rfl), (Nat.le_of_ble_eq_true rfl), (Nat.le_of_ble_eq_true rfl), (Nat.le_of_ble_eq_true rfl)⟩ dX7_called_138 ?_
                    refine M.istore (pc := 141) (i := 7) (Nat.le_of_ble_eq_true rfl) rfl dX7_called_141 ?_
                    dsimp only [List.set_cons_zero, List.set_cons_succ]
                    refine M.iload (pc := 143) (i := 8) rfl dX7_called_143 ?_
                    refine M.aloadn (pc := 145) 0 rfl rfl dX7_called_145 ?_
                    refine M.getf (pc := 146) fg_X7_62 0 rfl rfl dX7_called_146 ?_
                    refine M.iloadn (pc := 149) 3 rfl rfl dX7_called_149 ?_
                    refine M.iconst (pc := 150) dX7_called_150 ?_
                    refine M.iload (pc := 151) (i := 9) rfl dX7_called_151 ?_
                    refine M.pV (pc := 153) (c_X3_greatestOf  (by first | assumption | omega) (by omega) (by omega) (by omega)) mv_X7_155 [1, 2, 3] rfl rfl rfl 1 rfl rfl rfl rfl (Nat.le_of_ble_eq_true rfl) rfl ⟨(Nat.le_of_ble_eq_true rfl), (Nat.le_of_ble_eq_true rfl)⟩ ⟨(Nat.le_of_ble_eq_true rfl), (Nat.le_of_ble_eq_true rfl)⟩ rfl dX7_called_153 ?_
                    rw [hge]
                    refine M.min (pc := 156) ml_X7_236 (by omega) (by omega) rfl ⟨(Nat.le_of_ble_eq_true rfl), (Nat.le_of_ble_eq_true rfl), (Nat.le_of_ble_eq_true rfl), (Nat.le_of_ble_eq_true rfl)⟩ dX7_called_156 ?_
                    refine M.istore (pc := 159) (i := 8) (Nat.le_of_ble_eq_true rfl) rfl dX7_called_159 ?_
                    dsimp only [List.set_cons_zero, List.set_cons_succ]
                    refine M.forget 9 ?_
                    dsimp only [List.set_cons_zero, List.set_cons_succ]
                    exact L161  (by rw [if_pos (by omega)]) (by rw [hcw]) (by first | assumption | omega)
            exact L53 _ (k := 0) (n := 0) (w2 := 0) (by first | assumption | omega) (by first | assumption | omega) (by rfl) (by rfl) (by first | assumption | omega) (Nat.lt_succ_self _)
          · refine M.ldc (pc := 33) (-1000000003) lc_X7_227 (by decide +kernel) dX7_called_33 ?_
            exact EI () _ _ _ _ dX7_called_35 (Or.inl rfl) (eqI (by unfold aCalled; (repeat' split) <;> first | omega | rfl)) rfl trivial
        · refine M.ldc (pc := 20) (-1000000002) lc_X7_69 (by decide +kernel) dX7_called_20 ?_
          exact EI () _ _ _ _ dX7_called_22 (Or.inl rfl) (eqI (by unfold aCalled; (repeat' split) <;> first | omega | rfl)) rfl trivial
