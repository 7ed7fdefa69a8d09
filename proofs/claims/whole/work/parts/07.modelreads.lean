/-! the reference's reads -/
def hMos (fb : Int → Int) (b h v : Int) : Int := v * hMea fb b + hMea fb b - 1 - hWat fb b h
def hLst (fb : Int → Int) (b h v : Int) : Int := max 0 (v * hMea fb b - hWat fb b h)
theorem hGre_eq (fb : Int → Int) (b h v : Int) : hGre fb b h v = max (-1) (hMos fb b h v) := rfl
theorem hLea_eq (fb : Int → Int) (b h v : Int) : hLea fb b h v = if hGre fb b h v = -1 then -1 else hLst fb b h v := rfl
/-- a living bath, a living bather -/
def HV (fb : Int → Int) (nb : Int) : Prop := ∀ b, 0 ≤ b → b < nb → (1 ≤ fb (b * 4 + 0) ∧ fb (b * 4 + 0) ≤ 99) ∧ (1 ≤ fb (b * 4 + 1) ∧ fb (b * 4 + 1) ≤ 99) ∧ (0 ≤ fb (b * 4 + 2) ∧ fb (b * 4 + 2) ≤ 9999) ∧ (0 ≤ fb (b * 4 + 3) ∧ fb (b * 4 + 3) ≤ 99)
def HVT (ft : Int → Int) (n : Int) : Prop := ∀ k, 0 ≤ k → k < n → (1 ≤ ft (k * 4 + 0) ∧ ft (k * 4 + 0) ≤ 999) ∧ (1 ≤ ft (k * 4 + 1) ∧ ft (k * 4 + 1) ≤ 999) ∧ (1 ≤ ft (k * 4 + 2) ∧ ft (k * 4 + 2) ≤ 999) ∧ (0 ≤ ft (k * 4 + 3) ∧ ft (k * 4 + 3) ≤ 100) ∧ ft (k * 4 + 0) ≤ ft (k * 4 + 1) ∧ ft (k * 4 + 0) ≤ ft (k * 4 + 2) ∧ ft (k * 4 + 2) ≤ ft (k * 4 + 1)
theorem hMea_v {fb : Int → Int} {nb b : Int} (h : HV fb nb) (h0 : 0 ≤ b) (h1 : b < nb) : (1 ≤ hMea fb b ∧ hMea fb b ≤ 9801) ∧ hMea fb b = fb (b * 4 + 0) * fb (b * 4 + 1) := by
  obtain ⟨a1, a2, -, -⟩ := h b h0 h1
  have m1 := bound_mul (by omega : 0 ≤ fb (b * 4 + 0)) a1.2 (by omega : 0 ≤ fb (b * 4 + 1)) a2.2
  have m2 : 1 * 1 ≤ fb (b * 4 + 0) * fb (b * 4 + 1) := Int.mul_le_mul a1.1 a2.1 (by omega) (by omega)
  unfold hMea
  omega
theorem hWat_v {fb : Int → Int} {nb b hr : Int} (h : HV fb nb) (h0 : 0 ≤ b) (h1 : b < nb) (h2 : 0 ≤ hr) : 0 ≤ hWat fb b hr ∧ hWat fb b hr ≤ 9999 := by
  obtain ⟨-, -, a3, a4⟩ := h b h0 h1
  have := Int.mul_nonneg a4.1 h2
  unfold hWat
  omega
theorem hMul_v {fb : Int → Int} {nb b v : Int} (h : HV fb nb) (h0 : 0 ≤ b) (h1 : b < nb) (h2 : 0 ≤ v) (h3 : v ≤ 99999) : 0 ≤ v * hMea fb b ∧ v * hMea fb b ≤ 980090199 := by
  have h4 := (hMea_v h h0 h1).1
  have := bound_mul h2 h3 (by omega : 0 ≤ hMea fb b) h4.2
  omega
theorem hHei_v {fb : Int → Int} {nb b hr s B : Int} (h : HV fb nb) (h0 : 0 ≤ b) (h1 : b < nb) (h2 : 0 ≤ hr) (h3 : 0 ≤ s) (h4 : s ≤ B) : 0 ≤ hHei fb b hr s ∧ hHei fb b hr s ≤ 9999 + B := by
  have h5 := (hMea_v h h0 h1).1
  have h6 := hWat_v h h0 h1 h2
  unfold hHei
  refine ⟨Int.ediv_nonneg (by omega) (by omega), ?_⟩
  have := Int.ediv_le_self (hMea fb b) (by omega : 0 ≤ hWat fb b hr + s)
  omega
def sizeF (ft : Int → Int) : Int → Int := fun k => ft (k * 4 + 2)
def sizeS (ft : Int → Int) (n : Nat) (S : Int) : Int := sumT (sizeF ft) S n
theorem sizeS_b {ft : Int → Int} {S n : Int} (hT : HVT ft n) (h0 : 0 ≤ n) (h6 : n ≤ 6) {j : Nat} (hn : (j : Int) ≤ n) : 0 ≤ sizeS ft j S ∧ sizeS ft j S ≤ 5994 := by
  have := sumT_b (f := sizeF ft) (S := S) (A := 0) (B := 999) (by omega) (by omega) j (fun k hk _ => by have := (hT k (by omega) (by omega)).2.2.1; unfold sizeF; omega)
  unfold sizeS
  omega
/-- a case's sizes out of the sizes in truth -/
theorem caseS_size {ft : Int → Int} {od S c : Int} (hc : 0 ≤ c) : ∀ n : Nat, (n : Int) ≤ 6 → caseS ft od n S c = sizeS ft n S + (if 1 ≤ c ∧ c ≤ (n : Int) ∧ tb S (c - 1) = true then od else 0) - (if 7 ≤ c ∧ c - 7 < (n : Int) ∧ tb S (c - 7) = true then ft ((c - 7) * 4 + 2) else 0) := by
  intro n
  induction n with
  | zero =>
    intro _
    rw [if_neg (by omega), if_neg (by omega)]
    rfl
  | succ n ih =>
    intro hn
    have h := ih (by omega)
    unfold caseS sizeS at h ⊢
    show sumT _ S n + _ = sumT _ S n + _ + _ - _
    rw [h]
    have ec : ((n + 1 : Nat) : Int) = (n : Int) + 1 := by omega
    rw [ec]
    unfold caseF sizeF
    by_cases h7 : c = 7 + (n : Int)
    · have e1 : c - 7 = (n : Int) := by omega
      rw [e1, if_neg (by omega : ¬ (1 ≤ c ∧ c ≤ (n : Int) ∧ tb S (c - 1) = true)), if_neg (by omega : ¬ (7 ≤ c ∧ (n : Int) < (n : Int) ∧ tb S (n : Int) = true)), if_neg (by omega : ¬ (1 ≤ c ∧ c ≤ (n : Int) + 1 ∧ tb S (c - 1) = true)), if_pos h7]
      by_cases ht : tb S (n : Int) = true
      · rw [if_pos ht, if_pos ht, if_pos (⟨by omega, by omega, ht⟩ : 7 ≤ c ∧ (n : Int) < (n : Int) + 1 ∧ tb S (n : Int) = true)]
        omega
      · rw [if_neg ht, if_neg ht, if_neg (fun z => ht z.2.2)]; omega
    · rw [if_neg h7]
      by_cases h1 : c = 1 + (n : Int)
      · have e1 : c - 1 = (n : Int) := by omega
        rw [e1, if_pos h1, if_neg (by omega : ¬ (1 ≤ c ∧ c ≤ (n : Int) ∧ tb S (n : Int) = true)), if_neg (by omega : ¬ (7 ≤ c ∧ c - 7 < (n : Int) ∧ tb S (c - 7) = true)), if_neg (by omega : ¬ (7 ≤ c ∧ c - 7 < (n : Int) + 1 ∧ tb S (c - 7) = true))]
        by_cases ht : tb S (n : Int) = true
        · rw [if_pos ht, if_pos ht, if_pos (⟨by omega, by omega, ht⟩ : 1 ≤ c ∧ c ≤ (n : Int) + 1 ∧ tb S (n : Int) = true)]
          omega
        · rw [if_neg ht, if_neg ht, if_neg (fun z => ht z.2.2)]; omega
      · rw [if_neg h1]
        have q1 : (1 ≤ c ∧ c ≤ (n : Int) + 1 ∧ tb S (c - 1) = true) ↔ (1 ≤ c ∧ c ≤ (n : Int) ∧ tb S (c - 1) = true) := by constructor <;> (intro ⟨z1, z2, z3⟩; exact ⟨z1, by omega, z3⟩)
        have q2 : (7 ≤ c ∧ c - 7 < (n : Int) + 1 ∧ tb S (c - 7) = true) ↔ (7 ≤ c ∧ c - 7 < (n : Int) ∧ tb S (c - 7) = true) := by constructor <;> (intro ⟨z1, z2, z3⟩; exact ⟨z1, by omega, z3⟩)
        simp only [q1, q2, Int.add_zero]
        omega
theorem tb_lt {S k n : Int} (h0 : 0 ≤ S) (h1 : S < p2 n) (hk : n ≤ k) (hn : 0 ≤ n) : tb S k = false := by
  show S.toNat.testBit k.toNat = false
  refine Nat.testBit_lt_two_pow (Nat.lt_of_lt_of_le (m := 2 ^ n.toNat) ?_ (Nat.pow_le_pow_right (by omega) (by omega)))
  unfold p2 at h1
  generalize 2 ^ n.toNat = q at h1 ⊢
  omega
set_option maxHeartbeats 4000000 in
set_option maxRecDepth 100000 in
theorem c_X8_in {l : Launch} {G : GT} {v a c : Int} (hv : InL v) (ha : InL a) (hc : InL c) : ConF l G yX8_in cX8_in 6 (some .boolean) { frames := 0, cells := 0, slots := 0, locals := 0 } [.long (lI v), .long (lI a), .long (lI c)] [] (some (.int (iI (pI (a ≤ v ∧ v ≤ c))))) := by
  refine Con.mk (by decide +kernel) [some (.long (lI v)), none, some (.long (lI a)), none, some (.long (lI c)), none] rfl (Nat.le_of_ble_eq_true rfl) rfl ?_
  intro V M EI EL EV EA
  refine M.lloadn (pc := 0) 0 rfl rfl dX8_in_0 ?_
  refine M.lloadn (pc := 1) 2 rfl rfl dX8_in_1 ?_
  refine M.lcmp (pc := 2) (by omega) (by omega) dX8_in_2 ?_
  refine M.if_lt (pc := 3) (tgt := 17) dX8_in_3 (by decide) (by omega) (fun c3 => ?_) (fun c3 => ?_)
  · refine M.iconst (pc := 17) dX8_in_17 ?_
    exact EI () _ _ _ _ dX8_in_18 (Or.inr ⟨rfl, by first | exact Or.inl rfl | exact Or.inr rfl | exact pI_01 _⟩) (eqI (by first | exact pI_eq1 (by omega) rfl | exact pI_eq0 (by omega) rfl)) rfl trivial
  · refine M.lloadn (pc := 6) 0 rfl rfl dX8_in_6 ?_
    refine M.lload (pc := 7) (i := 4) rfl dX8_in_7 ?_
    refine M.lcmp (pc := 9) (by omega) (by omega) dX8_in_9 ?_
    refine M.if_gt (pc := 10) (tgt := 17) dX8_in_10 (by decide) (by omega) (fun c10 => ?_) (fun c10 => ?_)
    · refine M.iconst (pc := 17) dX8_in_17 ?_
      exact EI () _ _ _ _ dX8_in_18 (Or.inr ⟨rfl, by first | exact Or.inl rfl | exact Or.inr rfl | exact pI_01 _⟩) (eqI (by first | exact pI_eq1 (by omega) rfl | exact pI_eq0 (by omega) rfl)) rfl trivial
    · refine M.iconst (pc := 13) dX8_in_13 ?_
      refine M.goto (pc := 14) (tgt := 18) dX8_in_14 (by decide) ?_
      exact EI () _ _ _ _ dX8_in_18 (Or.inr ⟨rfl, by first | exact Or.inl rfl | exact Or.inr rfl | exact pI_01 _⟩) (eqI (by first | exact pI_eq1 (by omega) rfl | exact pI_eq0 (by omega) rfl)) rfl trivial
set_option maxHeartbeats 4000000 in
set_option maxRecDepth 100000 in
theorem c_X8_has {l : Launch} {G : GT} {S k : Int} (h0 : 0 ≤ S) (h1 : S < 2147483648) (h2 : 0 ≤ k) (h3 : k < 31) : ConF l G yX8_has cX8_has 2 (some .boolean) { frames := 0, cells := 0, slots := 0, locals := 0 } [.int (iI S), .int (iI k)] [] (some (.int (iI (pI (tb S k = true))))) := by
  refine Con.mk (by decide +kernel) [some (.int (iI S)), some (.int (iI k))] rfl (Nat.le_of_ble_eq_true rfl) rfl ?_
  intro V M EI EL EV EA
  refine M.iloadn (pc := 0) 0 rfl rfl dX8_has_0 ?_
  refine M.iloadn (pc := 1) 1 rfl rfl dX8_has_1 ?_
  refine M.ishr (pc := 2) (bit_shr h0 h1 h2 h3) dX8_has_2 ?_
  refine M.iconst (pc := 3) dX8_has_3 ?_
  refine M.iand (pc := 4) (bit_and1 (shr_lt _ h0 h1)) dX8_has_4 ?_
  refine M.iconst (pc := 5) dX8_has_5 ?_
  refine M.icmp_ne (pc := 6) (tgt := 13) dX8_has_6 (by decide) (by have := shr_lt k.toNat h0 h1; omega) (by omega) (fun c6 => ?_) (fun c6 => ?_)
  · refine M.iconst (pc := 13) dX8_has_13 ?_
    exact EI () _ _ _ _ dX8_has_14 (Or.inr ⟨rfl, by first | exact Or.inl rfl | exact Or.inr rfl | exact pI_01 _⟩) (eqI (by first | exact pI_eq1 (tb_mod.mpr (by omega)) rfl | exact pI_eq0 (fun z => by have := tb_mod.mp z; omega) rfl)) rfl trivial
  · refine M.iconst (pc := 9) dX8_has_9 ?_
    refine M.goto (pc := 10) (tgt := 14) dX8_has_10 (by decide) ?_
    exact EI () _ _ _ _ dX8_has_14 (Or.inr ⟨rfl, by first | exact Or.inl rfl | exact Or.inr rfl | exact pI_01 _⟩) (eqI (by first | exact pI_eq1 (tb_mod.mpr (by omega)) rfl | exact pI_eq0 (fun z => by have := tb_mod.mp z; omega) rfl)) rfl trivial
set_option maxHeartbeats 4000000 in
set_option maxRecDepth 100000 in
theorem c_X8_isBath {l : Launch} {G : GT} {m aBath aBather aMorn aText aRB aRN aLow aHigh aNeeds aLikes aHts aBook aImg aKept : Nat} {vb vn vo vm vs vt vf va vw vu vna vrb vrn vro vtr vbk vsd : Int} {vch : Bool} {z : Int} (hz : InR z) (hnb : 0 ≤ vb ∧ vb ≤ 2) : ConF l G yX8_isBath cX8_isBath 2 (some .boolean) { frames := 1, cells := 0, slots := 0, locals := 25 } [.ref m, .int (iI z)] [(m, eO 8 [.int (iI vb), .ref aBath, .int (iI vn), .ref aBather, .int (iI vo), .int (iI vm), .ref aMorn, .int (iI vs), .ref aText, .int (iI vt), .int (iI vf), .int (iI va), .long (lI vsd), .int (iI vw), .int (iI vu), .int (iI vna), .int (iI vrb), .ref aRB, .int (iI vrn), .ref aRN, .int (iI vro), .ref aLow, .ref aHigh, .int (iI (pI (vch = true))), .ref aNeeds, .ref aLikes, .ref aHts, .int (iI vtr), .int (iI vbk), .ref aBook, .ref aImg, .ref aKept])] (some (.int (iI (pI (0 ≤ z ∧ z < vb))))) := by
  refine Con.mk (by decide +kernel) [some (.ref m), some (.int (iI z))] rfl (Nat.le_of_ble_eq_true rfl) rfl ?_
  intro V M EI EL EV EA
  refine M.iloadn (pc := 0) 1 rfl rfl dX8_isBath_0 ?_
  refine M.i2l (pc := 1) (by omega) dX8_isBath_1 ?_
  refine M.lconst (pc := 2) 0 (by decide +kernel) dX8_isBath_2 ?_
  refine M.aloadn (pc := 3) 0 rfl rfl dX8_isBath_3 ?_
  refine M.getf (pc := 4) fg_X8_60 0 rfl rfl dX8_isBath_4 ?_
  refine M.iconst (pc := 7) dX8_isBath_7 ?_
  refine M.isub (pc := 8) dX8_isBath_8 ?_
  refine M.i2l (pc := 9) (by omega) dX8_isBath_9 ?_
  refine M.pS (pc := 10) (c_X8_in  (by first | assumption | omega) (by first | assumption | omega) (by first | assumption | omega)) ms_X8_63 [] rfl rfl rfl rfl (Nat.le_of_ble_eq_true rfl) rfl ⟨(Nat.le_of_ble_eq_true rfl), (Nat.le_of_ble_eq_true rfl)⟩ ⟨(Nat.le_of_ble_eq_true rfl), (Nat.le_of_ble_eq_true rfl)⟩ rfl dX8_isBath_10 ?_
  exact EI () _ _ _ _ dX8_isBath_13 (Or.inr ⟨rfl, by first | exact Or.inl rfl | exact Or.inr rfl | exact pI_01 _⟩) (eqI (by exact pI_congr (by omega))) rfl trivial
set_option maxHeartbeats 4000000 in
set_option maxRecDepth 100000 in
theorem c_X8_isBather {l : Launch} {G : GT} {m aBath aBather aMorn aText aRB aRN aLow aHigh aNeeds aLikes aHts aBook aImg aKept : Nat} {vb vn vo vm vs vt vf va vw vu vna vrb vrn vro vtr vbk vsd : Int} {vch : Bool} {z : Int} (hz : InR z) (hn : 0 ≤ vn ∧ vn ≤ 6) : ConF l G yX8_isBather cX8_isBather 2 (some .boolean) { frames := 1, cells := 0, slots := 0, locals := 25 } [.ref m, .int (iI z)] [(m, eO 8 [.int (iI vb), .ref aBath, .int (iI vn), .ref aBather, .int (iI vo), .int (iI vm), .ref aMorn, .int (iI vs), .ref aText, .int (iI vt), .int (iI vf), .int (iI va), .long (lI vsd), .int (iI vw), .int (iI vu), .int (iI vna), .int (iI vrb), .ref aRB, .int (iI vrn), .ref aRN, .int (iI vro), .ref aLow, .ref aHigh, .int (iI (pI (vch = true))), .ref aNeeds, .ref aLikes, .ref aHts, .int (iI vtr), .int (iI vbk), .ref aBook, .ref aImg, .ref aKept])] (some (.int (iI (pI (0 ≤ z ∧ z < vn))))) := by
  refine Con.mk (by decide +kernel) [some (.ref m), some (.int (iI z))] rfl (Nat.le_of_ble_eq_true rfl) rfl ?_
  intro V M EI EL EV EA
  refine M.iloadn (pc := 0) 1 rfl rfl dX8_isBather_0 ?_
  refine M.i2l (pc := 1) (by omega) dX8_isBather_1 ?_
  refine M.lconst (pc := 2) 0 (by decide +kernel) dX8_isBather_2 ?_
  refine M.aloadn (pc := 3) 0 rfl rfl dX8_isBather_3 ?_
  refine M.getf (pc := 4) fg_X8_67 0 rfl rfl dX8_isBather_4 ?_
  refine M.iconst (pc := 7) dX8_isBather_7 ?_
  refine M.isub (pc := 8) dX8_isBather_8 ?_
  refine M.i2l (pc := 9) (by omega) dX8_isBather_9 ?_
  refine M.pS (pc := 10) (c_X8_in  (by first | assumption | omega) (by first | assumption | omega) (by first | assumption | omega)) ms_X8_63 [] rfl rfl rfl rfl (Nat.le_of_ble_eq_true rfl) rfl ⟨(Nat.le_of_ble_eq_true rfl), (Nat.le_of_ble_eq_true rfl)⟩ ⟨(Nat.le_of_ble_eq_true rfl), (Nat.le_of_ble_eq_true rfl)⟩ rfl dX8_isBather_10 ?_
  exact EI () _ _ _ _ dX8_isBather_13 (Or.inr ⟨rfl, by first | exact Or.inl rfl | exact Or.inr rfl | exact pI_01 _⟩) (eqI (by exact pI_congr (by omega))) rfl trivial
set_option maxHeartbeats 4000000 in
set_option maxRecDepth 100000 in
theorem c_X8_isSet {l : Launch} {G : GT} {m aBath aBather aMorn aText aRB aRN aLow aHigh aNeeds aLikes aHts aBook aImg aKept : Nat} {vb vn vo vm vs vt vf va vw vu vna vrb vrn vro vtr vbk vsd : Int} {vch : Bool} {z : Int} (hz : InR z) (hn : 0 ≤ vn ∧ vn ≤ 6) : ConF l G yX8_isSet cX8_isSet 2 (some .boolean) { frames := 1, cells := 0, slots := 0, locals := 25 } [.ref m, .int (iI z)] [(m, eO 8 [.int (iI vb), .ref aBath, .int (iI vn), .ref aBather, .int (iI vo), .int (iI vm), .ref aMorn, .int (iI vs), .ref aText, .int (iI vt), .int (iI vf), .int (iI va), .long (lI vsd), .int (iI vw), .int (iI vu), .int (iI vna), .int (iI vrb), .ref aRB, .int (iI vrn), .ref aRN, .int (iI vro), .ref aLow, .ref aHigh, .int (iI (pI (vch = true))), .ref aNeeds, .ref aLikes, .ref aHts, .int (iI vtr), .int (iI vbk), .ref aBook, .ref aImg, .ref aKept])] (some (.int (iI (pI (0 ≤ z ∧ z < p2 vn))))) := by
  refine Con.mk (by decide +kernel) [some (.ref m), some (.int (iI z))] rfl (Nat.le_of_ble_eq_true rfl) rfl ?_
  intro V M EI EL EV EA
  have hp2 := p2_b (by omega : vn ≤ 13)
  refine M.iloadn (pc := 0) 1 rfl rfl dX8_isSet_0 ?_
  refine M.i2l (pc := 1) (by omega) dX8_isSet_1 ?_
  refine M.lconst (pc := 2) 0 (by decide +kernel) dX8_isSet_2 ?_
  refine M.iconst (pc := 3) dX8_isSet_3 ?_
  refine M.aloadn (pc := 4) 0 rfl rfl dX8_isSet_4 ?_
  refine M.getf (pc := 5) fg_X8_67 0 rfl rfl dX8_isSet_5 ?_
  refine M.ishl (pc := 8) (bit_shl1 (by omega) (by omega)) dX8_isSet_8 ?_
  refine M.iconst (pc := 9) dX8_isSet_9 ?_
  refine M.isub (pc := 10) dX8_isSet_10 ?_
  refine M.i2l (pc := 11) (by omega) dX8_isSet_11 ?_
  refine M.pS (pc := 12) (c_X8_in  (by first | assumption | omega) (by first | assumption | omega) (by first | assumption | omega)) ms_X8_63 [] rfl rfl rfl rfl (Nat.le_of_ble_eq_true rfl) rfl ⟨(Nat.le_of_ble_eq_true rfl), (Nat.le_of_ble_eq_true rfl)⟩ ⟨(Nat.le_of_ble_eq_true rfl), (Nat.le_of_ble_eq_true rfl)⟩ rfl dX8_isSet_12 ?_
  exact EI () _ _ _ _ dX8_isSet_15 (Or.inr ⟨rfl, by first | exact Or.inl rfl | exact Or.inr rfl | exact pI_01 _⟩) (eqI (by exact pI_congr (by omega))) rfl trivial
set_option maxHeartbeats 4000000 in
set_option maxRecDepth 100000 in
theorem c_X8_isHour {l : Launch} {G : GT} {z : Int} (hz : InR z) : ConF l G yX8_isHour cX8_isHour 1 (some .boolean) { frames := 1, cells := 0, slots := 0, locals := 25 } [.int (iI z)] [] (some (.int (iI (pI (0 ≤ z ∧ z < 100))))) := by
  refine Con.mk (by decide +kernel) [some (.int (iI z))] rfl (Nat.le_of_ble_eq_true rfl) rfl ?_
  intro V M EI EL EV EA
  refine M.iloadn (pc := 0) 0 rfl rfl dX8_isHour_0 ?_
  refine M.i2l (pc := 1) (by omega) dX8_isHour_1 ?_
  refine M.lconst (pc := 2) 0 (by decide +kernel) dX8_isHour_2 ?_
  refine M.ldc2 (pc := 3) (99) lc_X8_70 (by decide +kernel) dX8_isHour_3 ?_
  refine M.pS (pc := 6) (c_X8_in  (by first | assumption | omega) (by first | assumption | omega) (by first | assumption | omega)) ms_X8_63 [] rfl rfl rfl rfl (Nat.le_of_ble_eq_true rfl) rfl ⟨(Nat.le_of_ble_eq_true rfl), (Nat.le_of_ble_eq_true rfl)⟩ ⟨(Nat.le_of_ble_eq_true rfl), (Nat.le_of_ble_eq_true rfl)⟩ rfl dX8_isHour_6 ?_
  exact EI () _ _ _ _ dX8_isHour_9 (Or.inr ⟨rfl, by first | exact Or.inl rfl | exact Or.inr rfl | exact pI_01 _⟩) (eqI (by exact pI_congr (by omega))) rfl trivial
set_option maxHeartbeats 4000000 in
set_option maxRecDepth 100000 in
theorem c_X8_isHeight {l : Launch} {G : GT} {z : Int} (hz : InR z) : ConF l G yX8_isHeight cX8_isHeight 1 (some .boolean) { frames := 1, cells := 0, slots := 0, locals := 25 } [.int (iI z)] [] (some (.int (iI (pI (0 ≤ z ∧ z < 100000))))) := by
  refine Con.mk (by decide +kernel) [some (.int (iI z))] rfl (Nat.le_of_ble_eq_true rfl) rfl ?_
  intro V M EI EL EV EA
  refine M.iloadn (pc := 0) 0 rfl rfl dX8_isHeight_0 ?_
  refine M.i2l (pc := 1) (by omega) dX8_isHeight_1 ?_
  refine M.lconst (pc := 2) 0 (by decide +kernel) dX8_isHeight_2 ?_
  refine M.ldc2 (pc := 3) (99999) lc_X8_72 (by decide +kernel) dX8_isHeight_3 ?_
  refine M.pS (pc := 6) (c_X8_in  (by first | assumption | omega) (by first | assumption | omega) (by first | assumption | omega)) ms_X8_63 [] rfl rfl rfl rfl (Nat.le_of_ble_eq_true rfl) rfl ⟨(Nat.le_of_ble_eq_true rfl), (Nat.le_of_ble_eq_true rfl)⟩ ⟨(Nat.le_of_ble_eq_true rfl), (Nat.le_of_ble_eq_true rfl)⟩ rfl dX8_isHeight_6 ?_
  exact EI () _ _ _ _ dX8_isHeight_9 (Or.inr ⟨rfl, by first | exact Or.inl rfl | exact Or.inr rfl | exact pI_01 _⟩) (eqI (by exact pI_congr (by omega))) rfl trivial
set_option maxHeartbeats 4000000 in
set_option maxRecDepth 100000 in
theorem c_X8_fingerOf {l : Launch} {G : GT} {m aBath aBather aMorn aText aRB aRN aLow aHigh aNeeds aLikes aHts aBook aImg aKept : Nat} {vb vn vo vm vs vt vf va vw vu vna vrb vrn vro vtr vbk vsd : Int} {vch : Bool} {gb : Int → Int} {b : Int} (hV : HV gb vb) (hnb : 0 ≤ vb ∧ vb ≤ 2) (hb0 : 0 ≤ b ∧ b < vb) : ConF l G yX8_fingerOf cX8_fingerOf 2 (some .int) { frames := 0, cells := 0, slots := 0, locals := 0 } [.ref m, .int (iI b)] [(m, eO 8 [.int (iI vb), .ref aBath, .int (iI vn), .ref aBather, .int (iI vo), .int (iI vm), .ref aMorn, .int (iI vs), .ref aText, .int (iI vt), .int (iI vf), .int (iI va), .long (lI vsd), .int (iI vw), .int (iI vu), .int (iI vna), .int (iI vrb), .ref aRB, .int (iI vrn), .ref aRN, .int (iI vro), .ref aLow, .ref aHigh, .int (iI (pI (vch = true))), .ref aNeeds, .ref aLikes, .ref aHts, .int (iI vtr), .int (iI vbk), .ref aBook, .ref aImg, .ref aKept]), (aBath, eI G 8 gb)] (some (.int (iI (hMea gb b)))) := by
  refine Con.mk (by decide +kernel) [some (.ref m), some (.int (iI b))] rfl (Nat.le_of_ble_eq_true rfl) rfl ?_
  intro V M EI EL EV EA
  have hm := hMea_v hV hb0.1 hb0.2
  refine M.aloadn (pc := 0) 0 rfl rfl dX8_fingerOf_0 ?_
  refine M.getf (pc := 1) fg_X8_7 0 rfl rfl dX8_fingerOf_1 ?_
  refine M.iconst (pc := 4) dX8_fingerOf_4 ?_
  refine M.iloadn (pc := 5) 1 rfl rfl dX8_fingerOf_5 ?_
  refine M.imul (pc := 6) dX8_fingerOf_6 ?_
  refine M.ialdx (pc := 7) (b * 4 + 0) (by omega) 1 rfl (by omega) (by omega) dX8_fingerOf_7 ?_
  refine M.aloadn (pc := 8) 0 rfl rfl dX8_fingerOf_8 ?_
  refine M.getf (pc := 9) fg_X8_7 0 rfl rfl dX8_fingerOf_9 ?_
  refine M.iconst (pc := 12) dX8_fingerOf_12 ?_
  refine M.iloadn (pc := 13) 1 rfl rfl dX8_fingerOf_13 ?_
  refine M.imul (pc := 14) dX8_fingerOf_14 ?_
  refine M.iconst (pc := 15) dX8_fingerOf_15 ?_
  refine M.iadd (pc := 16) dX8_fingerOf_16 ?_
  refine M.ialdx (pc := 17) (b * 4 + 1) (by omega) 1 rfl (by omega) (by omega) dX8_fingerOf_17 ?_
  refine M.imul (pc := 18) dX8_fingerOf_18 ?_
  exact EI () _ _ _ _ dX8_fingerOf_19 (Or.inl rfl) (eqI (by exact hm.2)) rfl trivial
set_option maxHeartbeats 4000000 in
set_option maxRecDepth 100000 in
theorem c_X8_waterAt {l : Launch} {G : GT} {m aBath aBather aMorn aText aRB aRN aLow aHigh aNeeds aLikes aHts aBook aImg aKept : Nat} {vb vn vo vm vs vt vf va vw vu vna vrb vrn vro vtr vbk vsd : Int} {vch : Bool} {gb : Int → Int} {b hr : Int} (hV : HV gb vb) (hnb : 0 ≤ vb ∧ vb ≤ 2) (hb0 : 0 ≤ b ∧ b < vb) (hh : 0 ≤ hr ∧ hr < 100) : ConF l G yX8_waterAt cX8_waterAt 4 (some .int) { frames := 0, cells := 0, slots := 0, locals := 0 } [.ref m, .int (iI b), .int (iI hr)] [(m, eO 8 [.int (iI vb), .ref aBath, .int (iI vn), .ref aBather, .int (iI vo), .int (iI vm), .ref aMorn, .int (iI vs), .ref aText, .int (iI vt), .int (iI vf), .int (iI va), .long (lI vsd), .int (iI vw), .int (iI vu), .int (iI vna), .int (iI vrb), .ref aRB, .int (iI vrn), .ref aRN, .int (iI vro), .ref aLow, .ref aHigh, .int (iI (pI (vch = true))), .ref aNeeds, .ref aLikes, .ref aHts, .int (iI vtr), .int (iI vbk), .ref aBook, .ref aImg, .ref aKept]), (aBath, eI G 8 gb)] (some (.int (iI (hWat gb b hr)))) := by
  refine Con.mk (by decide +kernel) [some (.ref m), some (.int (iI b)), some (.int (iI hr)), none] rfl (Nat.le_of_ble_eq_true rfl) rfl ?_
  intro V M EI EL EV EA
  obtain ⟨-, -, a3, a4⟩ := hV b hb0.1 hb0.2
  have hm := bound_mul a4.1 a4.2 hh.1 (by omega : hr ≤ 99)
  refine M.aloadn (pc := 0) 0 rfl rfl dX8_waterAt_0 ?_
  refine M.getf (pc := 1) fg_X8_7 0 rfl rfl dX8_waterAt_1 ?_
  refine M.iconst (pc := 4) dX8_waterAt_4 ?_
  refine M.iloadn (pc := 5) 1 rfl rfl dX8_waterAt_5 ?_
  refine M.imul (pc := 6) dX8_waterAt_6 ?_
  refine M.iconst (pc := 7) dX8_waterAt_7 ?_
  refine M.iadd (pc := 8) dX8_waterAt_8 ?_
  refine M.ialdx (pc := 9) (b * 4 + 2) (by omega) 1 rfl (by omega) (by omega) dX8_waterAt_9 ?_
  refine M.aloadn (pc := 10) 0 rfl rfl dX8_waterAt_10 ?_
  refine M.getf (pc := 11) fg_X8_7 0 rfl rfl dX8_waterAt_11 ?_
  refine M.iconst (pc := 14) dX8_waterAt_14 ?_
  refine M.iloadn (pc := 15) 1 rfl rfl dX8_waterAt_15 ?_
  refine M.imul (pc := 16) dX8_waterAt_16 ?_
  refine M.iconst (pc := 17) dX8_waterAt_17 ?_
  refine M.iadd (pc := 18) dX8_waterAt_18 ?_
  refine M.ialdx (pc := 19) (b * 4 + 3) (by omega) 1 rfl (by omega) (by omega) dX8_waterAt_19 ?_
  refine M.iloadn (pc := 20) 2 rfl rfl dX8_waterAt_20 ?_
  refine M.imul (pc := 21) dX8_waterAt_21 ?_
  refine M.isub (pc := 22) dX8_waterAt_22 ?_
  refine M.istoren (pc := 23) 3 rfl (Nat.le_of_ble_eq_true rfl) rfl dX8_waterAt_23 ?_
  dsimp only [List.set_cons_zero, List.set_cons_succ]
  refine M.iloadn (pc := 24) 3 rfl rfl dX8_waterAt_24 ?_
  refine M.if_ge (pc := 25) (tgt := 32) dX8_waterAt_25 (by decide) (by omega) (fun c25 => ?_) (fun c25 => ?_)
  · refine M.iloadn (pc := 32) 3 rfl rfl dX8_waterAt_32 ?_
    exact EI () _ _ _ _ dX8_waterAt_33 (Or.inl rfl) (eqI (by unfold hWat; omega)) rfl trivial
  · refine M.iconst (pc := 28) dX8_waterAt_28 ?_
    refine M.goto (pc := 29) (tgt := 33) dX8_waterAt_29 (by decide) ?_
    exact EI () _ _ _ _ dX8_waterAt_33 (Or.inl rfl) (eqI (by unfold hWat; omega)) rfl trivial
set_option maxHeartbeats 4000000 in
set_option maxRecDepth 100000 in
theorem c_X8_heightOf {l : Launch} {G : GT} {m aBath aBather aMorn aText aRB aRN aLow aHigh aNeeds aLikes aHts aBook aImg aKept : Nat} {vb vn vo vm vs vt vf va vw vu vna vrb vrn vro vtr vbk vsd : Int} {vch : Bool} {gb : Int → Int} {b hr s : Int} (hV : HV gb vb) (hnb : 0 ≤ vb ∧ vb ≤ 2) (hb0 : 0 ≤ b ∧ b < vb) (hh : 0 ≤ hr ∧ hr < 100) (hs : 0 ≤ s ∧ s ≤ 100000) : ConF l G yX8_heightOf cX8_heightOf 4 (some .int) { frames := 1, cells := 0, slots := 0, locals := 23 } [.ref m, .int (iI b), .int (iI hr), .int (iI s)] [(m, eO 8 [.int (iI vb), .ref aBath, .int (iI vn), .ref aBather, .int (iI vo), .int (iI vm), .ref aMorn, .int (iI vs), .ref aText, .int (iI vt), .int (iI vf), .int (iI va), .long (lI vsd), .int (iI vw), .int (iI vu), .int (iI vna), .int (iI vrb), .ref aRB, .int (iI vrn), .ref aRN, .int (iI vro), .ref aLow, .ref aHigh, .int (iI (pI (vch = true))), .ref aNeeds, .ref aLikes, .ref aHts, .int (iI vtr), .int (iI vbk), .ref aBook, .ref aImg, .ref aKept]), (aBath, eI G 8 gb)] (some (.int (iI (hHei gb b hr s)))) := by
  refine Con.mk (by decide +kernel) [some (.ref m), some (.int (iI b)), some (.int (iI hr)), some (.int (iI s))] rfl (Nat.le_of_ble_eq_true rfl) rfl ?_
  intro V M EI EL EV EA
  have hm := hMea_v hV hb0.1 hb0.2
  have hw := hWat_v hV hb0.1 hb0.2 hh.1
  refine M.aloadn (pc := 0) 0 rfl rfl dX8_heightOf_0 ?_
  refine M.iloadn (pc := 1) 1 rfl rfl dX8_heightOf_1 ?_
  refine M.iloadn (pc := 2) 2 rfl rfl dX8_heightOf_2 ?_
  refine M.pV (pc := 3) (c_X8_waterAt  (by first | assumption | omega) (by first | assumption | omega) (by first | assumption | omega) (by first | assumption | omega)) mv_X8_184 [0, 1] rfl rfl rfl 0 rfl rfl rfl rfl (Nat.le_of_ble_eq_true rfl) rfl ⟨(Nat.le_of_ble_eq_true rfl), (Nat.le_of_ble_eq_true rfl)⟩ ⟨(Nat.le_of_ble_eq_true rfl), (Nat.le_of_ble_eq_true rfl)⟩ rfl dX8_heightOf_3 ?_
  refine M.iloadn (pc := 6) 3 rfl rfl dX8_heightOf_6 ?_
  refine M.iadd (pc := 7) dX8_heightOf_7 ?_
  refine M.aloadn (pc := 8) 0 rfl rfl dX8_heightOf_8 ?_
  refine M.iloadn (pc := 9) 1 rfl rfl dX8_heightOf_9 ?_
  refine M.pV (pc := 10) (c_X8_fingerOf  (by first | assumption | omega) (by first | assumption | omega) (by first | assumption | omega)) mv_X8_187 [0, 1] rfl rfl rfl 0 rfl rfl rfl rfl (Nat.le_of_ble_eq_true rfl) rfl ⟨(Nat.le_of_ble_eq_true rfl), (Nat.le_of_ble_eq_true rfl)⟩ ⟨(Nat.le_of_ble_eq_true rfl), (Nat.le_of_ble_eq_true rfl)⟩ rfl dX8_heightOf_10 ?_
  refine M.idiv (pc := 13) (by omega) (by omega) dX8_heightOf_13 ?_
  exact EI () _ _ _ _ dX8_heightOf_14 (Or.inl rfl) (eqI (by rfl)) rfl trivial
set_option maxHeartbeats 4000000 in
set_option maxRecDepth 100000 in
theorem c_X8_mostOf {l : Launch} {G : GT} {m aBath aBather aMorn aText aRB aRN aLow aHigh aNeeds aLikes aHts aBook aImg aKept : Nat} {vb vn vo vm vs vt vf va vw vu vna vrb vrn vro vtr vbk vsd : Int} {vch : Bool} {gb : Int → Int} {b hr v : Int} (hV : HV gb vb) (hnb : 0 ≤ vb ∧ vb ≤ 2) (hb0 : 0 ≤ b ∧ b < vb) (hh : 0 ≤ hr ∧ hr < 100) (hv : 0 ≤ v ∧ v < 100000) : ConF l G yX8_mostOf cX8_mostOf 4 (some .int) { frames := 1, cells := 0, slots := 0, locals := 23 } [.ref m, .int (iI b), .int (iI hr), .int (iI v)] [(m, eO 8 [.int (iI vb), .ref aBath, .int (iI vn), .ref aBather, .int (iI vo), .int (iI vm), .ref aMorn, .int (iI vs), .ref aText, .int (iI vt), .int (iI vf), .int (iI va), .long (lI vsd), .int (iI vw), .int (iI vu), .int (iI vna), .int (iI vrb), .ref aRB, .int (iI vrn), .ref aRN, .int (iI vro), .ref aLow, .ref aHigh, .int (iI (pI (vch = true))), .ref aNeeds, .ref aLikes, .ref aHts, .int (iI vtr), .int (iI vbk), .ref aBook, .ref aImg, .ref aKept]), (aBath, eI G 8 gb)] (some (.int (iI (hMos gb b hr v)))) := by
  refine Con.mk (by decide +kernel) [some (.ref m), some (.int (iI b)), some (.int (iI hr)), some (.int (iI v))] rfl (Nat.le_of_ble_eq_true rfl) rfl ?_
  intro V M EI EL EV EA
  have hm := hMea_v hV hb0.1 hb0.2
  have hw := hWat_v hV hb0.1 hb0.2 hh.1
  have hp := hMul_v hV hb0.1 hb0.2 hv.1 (by omega : v ≤ 99999)
  have he : (v + 1) * hMea gb b = v * hMea gb b + hMea gb b := by rw [Int.add_mul, Int.one_mul]
  refine M.iloadn (pc := 0) 3 rfl rfl dX8_mostOf_0 ?_
  refine M.iconst (pc := 1) dX8_mostOf_1 ?_
  refine M.iadd (pc := 2) dX8_mostOf_2 ?_
  refine M.aloadn (pc := 3) 0 rfl rfl dX8_mostOf_3 ?_
  refine M.iloadn (pc := 4) 1 rfl rfl dX8_mostOf_4 ?_
  refine M.pV (pc := 5) (c_X8_fingerOf  (by first | assumption | omega) (by first | assumption | omega) (by first | assumption | omega)) mv_X8_187 [0, 1] rfl rfl rfl 0 rfl rfl rfl rfl (Nat.le_of_ble_eq_true rfl) rfl ⟨(Nat.le_of_ble_eq_true rfl), (Nat.le_of_ble_eq_true rfl)⟩ ⟨(Nat.le_of_ble_eq_true rfl), (Nat.le_of_ble_eq_true rfl)⟩ rfl dX8_mostOf_5 ?_
  refine M.imul (pc := 8) dX8_mostOf_8 ?_
  refine M.iconst (pc := 9) dX8_mostOf_9 ?_
  refine M.isub (pc := 10) dX8_mostOf_10 ?_
  refine M.aloadn (pc := 11) 0 rfl rfl dX8_mostOf_11 ?_
  refine M.iloadn (pc := 12) 1 rfl rfl dX8_mostOf_12 ?_
  refine M.iloadn (pc := 13) 2 rfl rfl dX8_mostOf_13 ?_
  refine M.pV (pc := 14) (c_X8_waterAt  (by first | assumption | omega) (by first | assumption | omega) (by first | assumption | omega) (by first | assumption | omega)) mv_X8_184 [0, 1] rfl rfl rfl 0 rfl rfl rfl rfl (Nat.le_of_ble_eq_true rfl) rfl ⟨(Nat.le_of_ble_eq_true rfl), (Nat.le_of_ble_eq_true rfl)⟩ ⟨(Nat.le_of_ble_eq_true rfl), (Nat.le_of_ble_eq_true rfl)⟩ rfl dX8_mostOf_14 ?_
  refine M.isub (pc := 17) dX8_mostOf_17 ?_
  exact EI () _ _ _ _ dX8_mostOf_18 (Or.inl rfl) (eqI (by unfold hMos; omega)) rfl trivial
set_option maxHeartbeats 4000000 in
set_option maxRecDepth 100000 in
theorem c_X8_leastOf {l : Launch} {G : GT} {m aBath aBather aMorn aText aRB aRN aLow aHigh aNeeds aLikes aHts aBook aImg aKept : Nat} {vb vn vo vm vs vt vf va vw vu vna vrb vrn vro vtr vbk vsd : Int} {vch : Bool} {gb : Int → Int} {b hr v : Int} (hV : HV gb vb) (hnb : 0 ≤ vb ∧ vb ≤ 2) (hb0 : 0 ≤ b ∧ b < vb) (hh : 0 ≤ hr ∧ hr < 100) (hv : 0 ≤ v ∧ v < 100000) : ConF l G yX8_leastOf cX8_leastOf 5 (some .int) { frames := 1, cells := 0, slots := 0, locals := 23 } [.ref m, .int (iI b), .int (iI hr), .int (iI v)] [(m, eO 8 [.int (iI vb), .ref aBath, .int (iI vn), .ref aBather, .int (iI vo), .int (iI vm), .ref aMorn, .int (iI vs), .ref aText, .int (iI vt), .int (iI vf), .int (iI va), .long (lI vsd), .int (iI vw), .int (iI vu), .int (iI vna), .int (iI vrb), .ref aRB, .int (iI vrn), .ref aRN, .int (iI vro), .ref aLow, .ref aHigh, .int (iI (pI (vch = true))), .ref aNeeds, .ref aLikes, .ref aHts, .int (iI vtr), .int (iI vbk), .ref aBook, .ref aImg, .ref aKept]), (aBath, eI G 8 gb)] (some (.int (iI (hLst gb b hr v)))) := by
  refine Con.mk (by decide +kernel) [some (.ref m), some (.int (iI b)), some (.int (iI hr)), some (.int (iI v)), none] rfl (Nat.le_of_ble_eq_true rfl) rfl ?_
  intro V M EI EL EV EA
  have hm := hMea_v hV hb0.1 hb0.2
  have hw := hWat_v hV hb0.1 hb0.2 hh.1
  have hp := hMul_v hV hb0.1 hb0.2 hv.1 (by omega : v ≤ 99999)
  have he : (v + 1) * hMea gb b = v * hMea gb b + hMea gb b := by rw [Int.add_mul, Int.one_mul]
  refine M.iloadn (pc := 0) 3 rfl rfl dX8_leastOf_0 ?_
  refine M.aloadn (pc := 1) 0 rfl rfl dX8_leastOf_1 ?_
  refine M.iloadn (pc := 2) 1 rfl rfl dX8_leastOf_2 ?_
  refine M.pV (pc := 3) (c_X8_fingerOf  (by first | assumption | omega) (by first | assumption | omega) (by first | assumption | omega)) mv_X8_187 [0, 1] rfl rfl rfl 0 rfl rfl rfl rfl (Nat.le_of_ble_eq_true rfl) rfl ⟨(Nat.le_of_ble_eq_true rfl), (Nat.le_of_ble_eq_true rfl)⟩ ⟨(Nat.le_of_ble_eq_true rfl), (Nat.le_of_ble_eq_true rfl)⟩ rfl dX8_leastOf_3 ?_
  refine M.imul (pc := 6) dX8_leastOf_6 ?_
  refine M.aloadn (pc := 7) 0 rfl rfl dX8_leastOf_7 ?_
  refine M.iloadn (pc := 8) 1 rfl rfl dX8_leastOf_8 ?_
  refine M.iloadn (pc := 9) 2 rfl rfl dX8_leastOf_9 ?_
  refine M.pV (pc := 10) (c_X8_waterAt  (by first | assumption | omega) (by first | assumption | omega) (by first | assumption | omega) (by first | assumption | omega)) mv_X8_184 [0, 1] rfl rfl rfl 0 rfl rfl rfl rfl (Nat.le_of_ble_eq_true rfl) rfl ⟨(Nat.le_of_ble_eq_true rfl), (Nat.le_of_ble_eq_true rfl)⟩ ⟨(Nat.le_of_ble_eq_true rfl), (Nat.le_of_ble_eq_true rfl)⟩ rfl dX8_leastOf_10 ?_
  refine M.isub (pc := 13) dX8_leastOf_13 ?_
  refine M.istore (pc := 14) (i := 4) (Nat.le_of_ble_eq_true rfl) rfl dX8_leastOf_14 ?_
  dsimp only [List.set_cons_zero, List.set_cons_succ]
  refine M.iload (pc := 16) (i := 4) rfl dX8_leastOf_16 ?_
  refine M.if_ge (pc := 18) (tgt := 25) dX8_leastOf_18 (by decide) (by omega) (fun c18 => ?_) (fun c18 => ?_)
  · refine M.iload (pc := 25) (i := 4) rfl dX8_leastOf_25 ?_
    exact EI () _ _ _ _ dX8_leastOf_27 (Or.inl rfl) (eqI (by unfold hLst; omega)) rfl trivial
  · refine M.iconst (pc := 21) dX8_leastOf_21 ?_
    refine M.goto (pc := 22) (tgt := 27) dX8_leastOf_22 (by decide) ?_
    exact EI () _ _ _ _ dX8_leastOf_27 (Or.inl rfl) (eqI (by unfold hLst; omega)) rfl trivial
set_option maxHeartbeats 4000000 in
set_option maxRecDepth 100000 in
theorem c_X8_sizeOf {l : Launch} {G : GT} {m aBath aBather aMorn aText aRB aRN aLow aHigh aNeeds aLikes aHts aBook aImg aKept : Nat} {vb vn vo vm vs vt vf va vw vu vna vrb vrn vro vtr vbk vsd : Int} {vch : Bool} {gt : Int → Int} {S : Int} (hT : HVT gt vn) (hn : 0 ≤ vn ∧ vn ≤ 6) (hs : 0 ≤ S ∧ S < 2147483648) : ConF l G yX8_sizeOf cX8_sizeOf 4 (some .int) { frames := 1, cells := 0, slots := 0, locals := 21 } [.ref m, .int (iI S)] [(m, eO 8 [.int (iI vb), .ref aBath, .int (iI vn), .ref aBather, .int (iI vo), .int (iI vm), .ref aMorn, .int (iI vs), .ref aText, .int (iI vt), .int (iI vf), .int (iI va), .long (lI vsd), .int (iI vw), .int (iI vu), .int (iI vna), .int (iI vrb), .ref aRB, .int (iI vrn), .ref aRN, .int (iI vro), .ref aLow, .ref aHigh, .int (iI (pI (vch = true))), .ref aNeeds, .ref aLikes, .ref aHts, .int (iI vtr), .int (iI vbk), .ref aBook, .ref aImg, .ref aKept]), (aBather, eI G 24 gt)] (some (.int (iI (sizeS gt vn.toNat S)))) := by
  refine Con.mk (by decide +kernel) [some (.ref m), some (.int (iI S)), none, none] rfl (Nat.le_of_ble_eq_true rfl) rfl ?_
  intro V M EI EL EV EA
  refine M.iconst (pc := 0) dX8_sizeOf_0 ?_
  refine M.istoren (pc := 1) 2 rfl (Nat.le_of_ble_eq_true rfl) rfl dX8_sizeOf_1 ?_
  dsimp only [List.set_cons_zero, List.set_cons_succ]
  refine M.iconst (pc := 2) dX8_sizeOf_2 ?_
  refine M.istoren (pc := 3) 3 rfl (Nat.le_of_ble_eq_true rfl) rfl dX8_sizeOf_3 ?_
  dsimp only [List.set_cons_zero, List.set_cons_succ]
  have L4 : ∀ (fu : Nat) {k s : Int}, (0 ≤ k ∧ k ≤ vn) → (s = sizeS gt k.toNat S) → (vn - k).toNat < fu → V 0 0 4 [(m, eO 8 [.int (iI vb), .ref aBath, .int (iI vn), .ref aBather, .int (iI vo), .int (iI vm), .ref aMorn, .int (iI vs), .ref aText, .int (iI vt), .int (iI vf), .int (iI va), .long (lI vsd), .int (iI vw), .int (iI vu), .int (iI vna), .int (iI vrb), .ref aRB, .int (iI vrn), .ref aRN, .int (iI vro), .ref aLow, .ref aHigh, .int (iI (pI (vch = true))), .ref aNeeds, .ref aLikes, .ref aHts, .int (iI vtr), .int (iI vbk), .ref aBook, .ref aImg, .ref aKept]), (aBather, eI G 24 gt)] [some (.ref m), some (.int (iI S)), some (.int (iI s)), some (.int (iI k))] [] := by
    intro fu
    induction fu with
    | zero => intro k s hk hs2 hm; exact absurd hm (Nat.not_lt_zero _)
    | succ fu ih4 =>
      intro k s hk hs2 hm4
      refine M.iloadn (pc := 4) 3 rfl rfl dX8_sizeOf_4 ?_
      refine M.aloadn (pc := 5) 0 rfl rfl dX8_sizeOf_5 ?_
      refine M.getf (pc := 6) fg_X8_67 0 rfl rfl dX8_sizeOf_6 ?_
      refine M.icmp_ge (pc := 9) (tgt := 43) dX8_sizeOf_9 (by decide) (by omega) (by omega) (fun c9 => ?_) (fun c9 => ?_)
      · refine M.iloadn (pc := 43) 2 rfl rfl dX8_sizeOf_43 ?_
        exact EI () _ _ _ _ dX8_sizeOf_44 (Or.inl rfl) (eqI (by rw [hs2]; congr 1; omega)) rfl trivial
      · have hb2 := sizeS_b (S := S) hT hn.1 hn.2 (by omega : (k.toNat : Int) ≤ vn)
        have hst := sumT_s (sizeF gt) S hk.1
        have hT2 := (hT k hk.1 (by omega)).2.2.1
        refine M.iloadn (pc := 12) 2 rfl rfl dX8_sizeOf_12 ?_
        refine M.iloadn (pc := 13) 1 rfl rfl dX8_sizeOf_13 ?_
        refine M.iloadn (pc := 14) 3 rfl rfl dX8_sizeOf_14 ?_
        refine M.pS (pc := 15) (c_X8_has  (by first | assumption | omega) (by first | assumption | omega) (by first | assumption | omega) (by first | assumption | omega)) ms_X8_191 [] rfl rfl rfl rfl (Nat.le_of_ble_eq_true rfl) rfl ⟨(Nat.le_of_ble_eq_true rfl), (Nat.le_of_ble_eq_true rfl)⟩ ⟨(Nat.le_of_ble_eq_true rfl), (Nat.le_of_ble_eq_true rfl)⟩ rfl dX8_sizeOf_15 ?_
        refine M.if_eqP (pc := 18) (tgt := 34) dX8_sizeOf_18 (by decide) (fun c18 => ?_) (fun c18 => ?_)
        · refine M.iconst (pc := 34) dX8_sizeOf_34 ?_
          refine M.iadd (pc := 35) dX8_sizeOf_35 ?_
          refine M.istoren (pc := 36) 2 rfl (Nat.le_of_ble_eq_true rfl) rfl dX8_sizeOf_36 ?_
          dsimp only [List.set_cons_zero, List.set_cons_succ]
          refine M.iinc (pc := 37) (i := 3) rfl rfl dX8_sizeOf_37 ?_
          dsimp only [List.set_cons_zero, List.set_cons_succ]
          refine M.goto (pc := 40) (tgt := 4) dX8_sizeOf_40 (by decide) ?_
          exact ih4  (by first | assumption | omega) (by unfold sizeS at *; rw [hst]; simp_all [sizeF]) (by omega)
        · refine M.aloadn (pc := 21) 0 rfl rfl dX8_sizeOf_21 ?_
          refine M.getf (pc := 22) fg_X8_13 0 rfl rfl dX8_sizeOf_22 ?_
          refine M.iconst (pc := 25) dX8_sizeOf_25 ?_
          refine M.iloadn (pc := 26) 3 rfl rfl dX8_sizeOf_26 ?_
          refine M.imul (pc := 27) dX8_sizeOf_27 ?_
          refine M.iconst (pc := 28) dX8_sizeOf_28 ?_
          refine M.iadd (pc := 29) dX8_sizeOf_29 ?_
          refine M.ialdx (pc := 30) (k * 4 + 2) (by omega) 1 rfl (by omega) (by omega) dX8_sizeOf_30 ?_
          refine M.goto (pc := 31) (tgt := 35) dX8_sizeOf_31 (by decide) ?_
          refine M.iadd (pc := 35) dX8_sizeOf_35 ?_
          refine M.istoren (pc := 36) 2 rfl (Nat.le_of_ble_eq_true rfl) rfl dX8_sizeOf_36 ?_
          dsimp only [List.set_cons_zero, List.set_cons_succ]
          refine M.iinc (pc := 37) (i := 3) rfl rfl dX8_sizeOf_37 ?_
          dsimp only [List.set_cons_zero, List.set_cons_succ]
          refine M.goto (pc := 40) (tgt := 4) dX8_sizeOf_40 (by decide) ?_
          exact ih4  (by first | assumption | omega) (by unfold sizeS at *; rw [hst]; simp_all [sizeF]) (by omega)
  exact L4 _  (by first | assumption | omega) (by rfl) (Nat.lt_succ_self _)
set_option maxHeartbeats 4000000 in
set_option maxRecDepth 100000 in
theorem c_X8_oddsOf {l : Launch} {G : GT} {m aBath aBather aMorn aText aRB aRN aLow aHigh aNeeds aLikes aHts aBook aImg aKept : Nat} {vb vn vo vm vs vt vf va vw vu vna vrb vrn vro vtr vbk vsd : Int} {vch : Bool} {gt : Int → Int} {S : Int} (hT : HVT gt vn) (hn : 0 ≤ vn ∧ vn ≤ 6) (hs : 0 ≤ S ∧ S < 2147483648) : ConF l G yX8_oddsOf cX8_oddsOf 5 (some .long) { frames := 1, cells := 0, slots := 0, locals := 21 } [.ref m, .int (iI S)] [(m, eO 8 [.int (iI vb), .ref aBath, .int (iI vn), .ref aBather, .int (iI vo), .int (iI vm), .ref aMorn, .int (iI vs), .ref aText, .int (iI vt), .int (iI vf), .int (iI va), .long (lI vsd), .int (iI vw), .int (iI vu), .int (iI vna), .int (iI vrb), .ref aRB, .int (iI vrn), .ref aRN, .int (iI vro), .ref aLow, .ref aHigh, .int (iI (pI (vch = true))), .ref aNeeds, .ref aLikes, .ref aHts, .int (iI vtr), .int (iI vbk), .ref aBook, .ref aImg, .ref aKept]), (aBather, eI G 24 gt)] (some (.long (lI (oddsN gt S vn.toNat)))) := by
  refine Con.mk (by decide +kernel) [some (.ref m), some (.int (iI S)), none, none, none] rfl (Nat.le_of_ble_eq_true rfl) rfl ?_
  intro V M EI EL EV EA
  refine M.ldc2 (pc := 0) (1000000000) lc_X8_241 (by decide +kernel) dX8_oddsOf_0 ?_
  refine M.lstoren (pc := 3) 2 rfl (Nat.le_of_ble_eq_true rfl) rfl dX8_oddsOf_3 ?_
  dsimp only [List.set_cons_zero, List.set_cons_succ]
  refine M.iconst (pc := 4) dX8_oddsOf_4 ?_
  refine M.istore (pc := 5) (i := 4) (Nat.le_of_ble_eq_true rfl) rfl dX8_oddsOf_5 ?_
  dsimp only [List.set_cons_zero, List.set_cons_succ]
  have L7 : ∀ (fu : Nat) {k s : Int}, (0 ≤ k ∧ k ≤ vn) → (s = oddsN gt S k.toNat) → (0 ≤ s ∧ s ≤ 1000000000) → (vn - k).toNat < fu → V 0 0 7 [(m, eO 8 [.int (iI vb), .ref aBath, .int (iI vn), .ref aBather, .int (iI vo), .int (iI vm), .ref aMorn, .int (iI vs), .ref aText, .int (iI vt), .int (iI vf), .int (iI va), .long (lI vsd), .int (iI vw), .int (iI vu), .int (iI vna), .int (iI vrb), .ref aRB, .int (iI vrn), .ref aRN, .int (iI vro), .ref aLow, .ref aHigh, .int (iI (pI (vch = true))), .ref aNeeds, .ref aLikes, .ref aHts, .int (iI vtr), .int (iI vbk), .ref aBook, .ref aImg, .ref aKept]), (aBather, eI G 24 gt)] [some (.ref m), some (.int (iI S)), some (.long (lI s)), none, some (.int (iI k))] [] := by
    intro fu
    induction fu with
    | zero => intro k s hk hs2 hs3 hm; exact absurd hm (Nat.not_lt_zero _)
    | succ fu ih7 =>
      intro k s hk hs2 hs3 hm7
      refine M.iload (pc := 7) (i := 4) rfl dX8_oddsOf_7 ?_
      refine M.aloadn (pc := 9) 0 rfl rfl dX8_oddsOf_9 ?_
      refine M.getf (pc := 10) fg_X8_67 0 rfl rfl dX8_oddsOf_10 ?_
      refine M.icmp_ge (pc := 13) (tgt := 67) dX8_oddsOf_13 (by decide) (by omega) (by omega) (fun c13 => ?_) (fun c13 => ?_)
      · refine M.lloadn (pc := 67) 2 rfl rfl dX8_oddsOf_67 ?_
        exact EL () _ _ _ _ dX8_oddsOf_68 rfl (eqL (by rw [hs2]; congr 1; omega)) rfl trivial
      · have hst := oddsN_s gt S hk.1
        have hT2 := (hT k hk.1 (by omega)).2.2.2.1
        have hm1 := bound_mul hs3.1 hs3.2 hT2.1 hT2.2
        have hm2 := bound_mul hs3.1 hs3.2 (by omega : 0 ≤ 100 - gt (k * 4 + 3)) (by omega : 100 - gt (k * 4 + 3) ≤ 100)
        rw [← hs2] at hst
        refine M.lloadn (pc := 16) 2 rfl rfl dX8_oddsOf_16 ?_
        refine M.iloadn (pc := 17) 1 rfl rfl dX8_oddsOf_17 ?_
        refine M.iload (pc := 18) (i := 4) rfl dX8_oddsOf_18 ?_
        refine M.pS (pc := 20) (c_X8_has  (by first | assumption | omega) (by first | assumption | omega) (by first | assumption | omega) (by first | assumption | omega)) ms_X8_191 [] rfl rfl rfl rfl (Nat.le_of_ble_eq_true rfl) rfl ⟨(Nat.le_of_ble_eq_true rfl), (Nat.le_of_ble_eq_true rfl)⟩ ⟨(Nat.le_of_ble_eq_true rfl), (Nat.le_of_ble_eq_true rfl)⟩ rfl dX8_oddsOf_20 ?_
        refine M.if_eqP (pc := 23) (tgt := 40) dX8_oddsOf_23 (by decide) (fun c23 => ?_) (fun c23 => ?_)
        · refine M.bipush (pc := 40) (by decide +kernel) dX8_oddsOf_40 ?_
          refine M.aloadn (pc := 42) 0 rfl rfl dX8_oddsOf_42 ?_
          refine M.getf (pc := 43) fg_X8_13 0 rfl rfl dX8_oddsOf_43 ?_
          refine M.iconst (pc := 46) dX8_oddsOf_46 ?_
          refine M.iload (pc := 47) (i := 4) rfl dX8_oddsOf_47 ?_
          refine M.imul (pc := 49) dX8_oddsOf_49 ?_
          refine M.iconst (pc := 50) dX8_oddsOf_50 ?_
          refine M.iadd (pc := 51) dX8_oddsOf_51 ?_
          refine M.ialdx (pc := 52) (k * 4 + 3) (by omega) 1 rfl (by omega) (by omega) dX8_oddsOf_52 ?_
          refine M.isub (pc := 53) dX8_oddsOf_53 ?_
          refine M.i2l (pc := 54) (by omega) dX8_oddsOf_54 ?_
          refine M.lmul (pc := 55) dX8_oddsOf_55 ?_
          refine M.ldc2 (pc := 56) (100) lc_X8_243 (by decide +kernel) dX8_oddsOf_56 ?_
          refine M.ldiv (pc := 59) (by omega) (by omega) dX8_oddsOf_59 ?_
          refine M.lstoren (pc := 60) 2 rfl (Nat.le_of_ble_eq_true rfl) rfl dX8_oddsOf_60 ?_
          dsimp only [List.set_cons_zero, List.set_cons_succ]
          refine M.iinc (pc := 61) (i := 4) rfl rfl dX8_oddsOf_61 ?_
          dsimp only [List.set_cons_zero, List.set_cons_succ]
          refine M.goto (pc := 64) (tgt := 7) dX8_oddsOf_64 (by decide) ?_
          exact ih7  (by first | assumption | omega) (by rw [hst]; simp_all) (by first | assumption | omega) (by omega)
        · refine M.aloadn (pc := 26) 0 rfl rfl dX8_oddsOf_26 ?_
          refine M.getf (pc := 27) fg_X8_13 0 rfl rfl dX8_oddsOf_27 ?_
          refine M.iconst (pc := 30) dX8_oddsOf_30 ?_
          refine M.iload (pc := 31) (i := 4) rfl dX8_oddsOf_31 ?_
          refine M.imul (pc := 33) dX8_oddsOf_33 ?_
          refine M.iconst (pc := 34) dX8_oddsOf_34 ?_
          refine M.iadd (pc := 35) dX8_oddsOf_35 ?_
          refine M.ialdx (pc := 36) (k * 4 + 3) (by omega) 1 rfl (by omega) (by omega) dX8_oddsOf_36 ?_
          refine M.goto (pc := 37) (tgt := 54) dX8_oddsOf_37 (by decide) ?_
          refine M.i2l (pc := 54) (by omega) dX8_oddsOf_54 ?_
          refine M.lmul (pc := 55) dX8_oddsOf_55 ?_
          refine M.ldc2 (pc := 56) (100) lc_X8_243 (by decide +kernel) dX8_oddsOf_56 ?_
          refine M.ldiv (pc := 59) (by omega) (by omega) dX8_oddsOf_59 ?_
          refine M.lstoren (pc := 60) 2 rfl (Nat.le_of_ble_eq_true rfl) rfl dX8_oddsOf_60 ?_
          dsimp only [List.set_cons_zero, List.set_cons_succ]
          refine M.iinc (pc := 61) (i := 4) rfl rfl dX8_oddsOf_61 ?_
          dsimp only [List.set_cons_zero, List.set_cons_succ]
          refine M.goto (pc := 64) (tgt := 7) dX8_oddsOf_64 (by decide) ?_
          exact ih7  (by first | assumption | omega) (by rw [hst]; simp_all) (by first | assumption | omega) (by omega)
  exact L7 _  (by first | assumption | omega) (by rfl) (by first | assumption | omega) (Nat.lt_succ_self _)
set_option maxHeartbeats 4000000 in
set_option maxRecDepth 100000 in
theorem c_X8_isCase {l : Launch} {G : GT} {m aBath aBather aMorn aText aRB aRN aLow aHigh aNeeds aLikes aHts aBook aImg aKept : Nat} {vb vn vo vm vs vt vf va vw vu vna vrb vrn vro vtr vbk vsd : Int} {vch : Bool} {c : Int} (hz : InR c) (hn : 0 ≤ vn ∧ vn ≤ 6) : ConF l G yX8_isCase cX8_isCase 2 (some .boolean) { frames := 1, cells := 0, slots := 0, locals := 25 } [.ref m, .int (iI c)] [(m, eO 8 [.int (iI vb), .ref aBath, .int (iI vn), .ref aBather, .int (iI vo), .int (iI vm), .ref aMorn, .int (iI vs), .ref aText, .int (iI vt), .int (iI vf), .int (iI va), .long (lI vsd), .int (iI vw), .int (iI vu), .int (iI vna), .int (iI vrb), .ref aRB, .int (iI vrn), .ref aRN, .int (iI vro), .ref aLow, .ref aHigh, .int (iI (pI (vch = true))), .ref aNeeds, .ref aLikes, .ref aHts, .int (iI vtr), .int (iI vbk), .ref aBook, .ref aImg, .ref aKept])] (some (.int (iI (pI (c = 0 ∨ (0 ≤ c - 1 ∧ c - 1 < vn) ∨ (0 ≤ c - 7 ∧ c - 7 < vn)))))) := by
  refine Con.mk (by decide +kernel) [some (.ref m), some (.int (iI c))] rfl (Nat.le_of_ble_eq_true rfl) rfl ?_
  intro V M EI EL EV EA
  refine M.iloadn (pc := 0) 1 rfl rfl dX8_isCase_0 ?_
  refine M.if_eq (pc := 1) (tgt := 37) dX8_isCase_1 (by decide) (by omega) (fun c1 => ?_) (fun c1 => ?_)
  · refine M.iconst (pc := 37) dX8_isCase_37 ?_
    refine M.goto (pc := 38) (tgt := 42) dX8_isCase_38 (by decide) ?_
    exact EI () _ _ _ _ dX8_isCase_42 (Or.inr ⟨rfl, by first | exact Or.inl rfl | exact Or.inr rfl | exact pI_01 _⟩) (eqI (by first | exact pI_eq1 (by omega) rfl | exact pI_eq0 (by omega) rfl)) rfl trivial
  · refine M.iloadn (pc := 4) 1 rfl rfl dX8_isCase_4 ?_
    refine M.i2l (pc := 5) (by omega) dX8_isCase_5 ?_
    refine M.lconst (pc := 6) 1 (by decide +kernel) dX8_isCase_6 ?_
    refine M.aloadn (pc := 7) 0 rfl rfl dX8_isCase_7 ?_
    refine M.getf (pc := 8) fg_X8_67 0 rfl rfl dX8_isCase_8 ?_
    refine M.i2l (pc := 11) (by omega) dX8_isCase_11 ?_
    refine M.pS (pc := 12) (c_X8_in  (by first | assumption | omega) (by first | assumption | omega) (by first | assumption | omega)) ms_X8_63 [] rfl rfl rfl rfl (Nat.le_of_ble_eq_true rfl) rfl ⟨(Nat.le_of_ble_eq_true rfl), (Nat.le_of_ble_eq_true rfl)⟩ ⟨(Nat.le_of_ble_eq_true rfl), (Nat.le_of_ble_eq_true rfl)⟩ rfl dX8_isCase_12 ?_
    refine M.if_neP (pc := 15) (tgt := 37) dX8_isCase_15 (by decide) (fun c15 => ?_) (fun c15 => ?_)
    · refine M.iconst (pc := 37) dX8_isCase_37 ?_
      refine M.goto (pc := 38) (tgt := 42) dX8_isCase_38 (by decide) ?_
      exact EI () _ _ _ _ dX8_isCase_42 (Or.inr ⟨rfl, by first | exact Or.inl rfl | exact Or.inr rfl | exact pI_01 _⟩) (eqI (by first | exact pI_eq1 (by omega) rfl | exact pI_eq0 (by omega) rfl)) rfl trivial
    · refine M.iloadn (pc := 18) 1 rfl rfl dX8_isCase_18 ?_
      refine M.i2l (pc := 19) (by omega) dX8_isCase_19 ?_
      refine M.ldc2 (pc := 20) (7) lc_X8_251 (by decide +kernel) dX8_isCase_20 ?_
      refine M.bipush (pc := 23) (by decide +kernel) dX8_isCase_23 ?_
      refine M.aloadn (pc := 25) 0 rfl rfl dX8_isCase_25 ?_
      refine M.getf (pc := 26) fg_X8_67 0 rfl rfl dX8_isCase_26 ?_
      refine M.iadd (pc := 29) dX8_isCase_29 ?_
      refine M.i2l (pc := 30) (by omega) dX8_isCase_30 ?_
      refine M.pS (pc := 31) (c_X8_in  (by first | assumption | omega) (by first | assumption | omega) (by first | assumption | omega)) ms_X8_63 [] rfl rfl rfl rfl (Nat.le_of_ble_eq_true rfl) rfl ⟨(Nat.le_of_ble_eq_true rfl), (Nat.le_of_ble_eq_true rfl)⟩ ⟨(Nat.le_of_ble_eq_true rfl), (Nat.le_of_ble_eq_true rfl)⟩ rfl dX8_isCase_31 ?_
      refine M.if_eqP (pc := 34) (tgt := 41) dX8_isCase_34 (by decide) (fun c34 => ?_) (fun c34 => ?_)
      · refine M.iconst (pc := 41) dX8_isCase_41 ?_
        exact EI () _ _ _ _ dX8_isCase_42 (Or.inr ⟨rfl, by first | exact Or.inl rfl | exact Or.inr rfl | exact pI_01 _⟩) (eqI (by first | exact pI_eq1 (by omega) rfl | exact pI_eq0 (by omega) rfl)) rfl trivial
      · refine M.iconst (pc := 37) dX8_isCase_37 ?_
        refine M.goto (pc := 38) (tgt := 42) dX8_isCase_38 (by decide) ?_
        exact EI () _ _ _ _ dX8_isCase_42 (Or.inr ⟨rfl, by first | exact Or.inl rfl | exact Or.inr rfl | exact pI_01 _⟩) (eqI (by first | exact pI_eq1 (by omega) rfl | exact pI_eq0 (by omega) rfl)) rfl trivial
set_option maxHeartbeats 4000000 in
set_option maxRecDepth 100000 in
theorem c_X8_tellsOf {l : Launch} {G : GT} {m aBath aBather aMorn aText aRB aRN aLow aHigh aNeeds aLikes aHts aBook aImg aKept : Nat} {vb vn vo vm vs vt vf va vw vu vna vrb vrn vro vtr vbk vsd : Int} {vch : Bool} {gb : Int → Int} {gt : Int → Int} {b S c : Int} (hV : HV gb vb) (hnb : 0 ≤ vb ∧ vb ≤ 2) (hb0 : 0 ≤ b ∧ b < vb) (hT : HVT gt vn) (hn : 0 ≤ vn ∧ vn ≤ 6) (hs : 0 ≤ S ∧ S < p2 vn) (ho : 0 ≤ vo ∧ vo ≤ 999) (hc : 0 ≤ c ∧ c < 13) : ConF l G yX8_tellsOf cX8_tellsOf 5 (some .int) { frames := 2, cells := 0, slots := 0, locals := 46 } [.ref m, .int (iI b), .int (iI S), .int (iI c)] [(m, eO 8 [.int (iI vb), .ref aBath, .int (iI vn), .ref aBather, .int (iI vo), .int (iI vm), .ref aMorn, .int (iI vs), .ref aText, .int (iI vt), .int (iI vf), .int (iI va), .long (lI vsd), .int (iI vw), .int (iI vu), .int (iI vna), .int (iI vrb), .ref aRB, .int (iI vrn), .ref aRN, .int (iI vro), .ref aLow, .ref aHigh, .int (iI (pI (vch = true))), .ref aNeeds, .ref aLikes, .ref aHts, .int (iI vtr), .int (iI vbk), .ref aBook, .ref aImg, .ref aKept]), (aBath, eI G 8 gb), (aBather, eI G 24 gt)] (some (.int (iI (hHei gb b 0 (caseS gt vo vn.toNat S c))))) := by
  refine Con.mk (by decide +kernel) [some (.ref m), some (.int (iI b)), some (.int (iI S)), some (.int (iI c)), none] rfl (Nat.le_of_ble_eq_true rfl) rfl ?_
  intro V M EI EL EV EA
  have hp2 := p2_b (by omega : vn ≤ 13)
  have hcs := caseS_size (ft := gt) (od := vo) (S := S) hc.1 vn.toNat (by omega)
  have ez : ((vn.toNat : Nat) : Int) = vn := by omega
  rw [ez] at hcs
  have hsb := sizeS_b (S := S) hT hn.1 hn.2 (by omega : (vn.toNat : Int) ≤ vn)
  have htl := fun (k : Int) (h : vn ≤ k) => tb_lt hs.1 hs.2 h hn.1
  have hcc : caseS gt vo vn.toNat S c = sizeS gt vn.toNat S + (if 1 ≤ c ∧ c ≤ 6 ∧ tb S (c - 1) = true then vo else 0) - (if 7 ≤ c ∧ tb S (c - 7) = true then gt ((c - 7) * 4 + 2) else 0) := by
    rw [hcs]
    have q1 : (1 ≤ c ∧ c ≤ vn ∧ tb S (c - 1) = true) ↔ (1 ≤ c ∧ c ≤ 6 ∧ tb S (c - 1) = true) := ⟨fun z => ⟨z.1, by omega, z.2.2⟩, fun z => ⟨z.1, by
      rcases (by omega : vn < c ∨ c ≤ vn) with q | q
      · have := htl (c - 1) (by omega)
        rw [this] at z
        exact absurd z.2.2 (by decide)
      · exact q, z.2.2⟩⟩
    have q2 : (7 ≤ c ∧ c - 7 < vn ∧ tb S (c - 7) = true) ↔ (7 ≤ c ∧ tb S (c - 7) = true) := ⟨fun z => ⟨z.1, z.2.2⟩, fun z => ⟨z.1, by
      rcases (by omega : c - 7 < vn ∨ vn ≤ c - 7) with q | q
      · exact q
      · have := htl (c - 7) q
        rw [this] at z
        exact absurd z.2 (by decide), z.2⟩⟩
    simp only [q1, q2]
  have hcb : 0 ≤ caseS gt vo vn.toNat S c ∧ caseS gt vo vn.toNat S c ≤ 11988 := by
    have := sumT_b (f := caseF gt vo c) (S := S) (A := 0) (B := 1998) (by omega) (by omega) vn.toNat (fun k hk _ => by
      have := (hT k (by omega) (by omega)).2.2.1
      unfold caseF
      split
      · omega
      · split <;> omega)
    unfold caseS
    omega
  have hk7 : 7 ≤ c → tb S (c - 7) = true → c - 7 < vn := fun h1 h2 => by
    rcases (by omega : c - 7 < vn ∨ vn ≤ c - 7) with q | q
    · exact q
    · rw [htl (c - 7) q] at h2
      exact absurd h2 (by decide)
  have L76 : ∀ {s : Int}, (s = caseS gt vo vn.toNat S c) → V 0 0 76 [(m, eO 8 [.int (iI vb), .ref aBath, .int (iI vn), .ref aBather, .int (iI vo), .int (iI vm), .ref aMorn, .int (iI vs), .ref aText, .int (iI vt), .int (iI vf), .int (iI va), .long (lI vsd), .int (iI vw), .int (iI vu), .int (iI vna), .int (iI vrb), .ref aRB, .int (iI vrn), .ref aRN, .int (iI vro), .ref aLow, .ref aHigh, .int (iI (pI (vch = true))), .ref aNeeds, .ref aLikes, .ref aHts, .int (iI vtr), .int (iI vbk), .ref aBook, .ref aImg, .ref aKept]), (aBath, eI G 8 gb), (aBather, eI G 24 gt)] [some (.ref m), some (.int (iI b)), some (.int (iI S)), some (.int (iI c)), some (.int (iI s))] [] := by
    intro s hs2
    
    refine M.aloadn (pc := 76) 0 rfl rfl dX8_tellsOf_76 ?_
    refine M.iloadn (pc := 77) 1 rfl rfl dX8_tellsOf_77 ?_
    refine M.iconst (pc := 78) dX8_tellsOf_78 ?_
    refine M.iload (pc := 79) (i := 4) rfl dX8_tellsOf_79 ?_
    refine M.pV (pc := 81) (c_X8_heightOf  (by first | assumption | omega) (by first | assumption | omega) (by first | assumption | omega) (by first | assumption | omega) (by omega)) mv_X8_204 [0, 1] rfl rfl rfl 0 rfl rfl rfl rfl (Nat.le_of_ble_eq_true rfl) rfl ⟨(Nat.le_of_ble_eq_true rfl), (Nat.le_of_ble_eq_true rfl)⟩ ⟨(Nat.le_of_ble_eq_true rfl), (Nat.le_of_ble_eq_true rfl)⟩ rfl dX8_tellsOf_81 ?_
    exact EI () _ _ _ _ dX8_tellsOf_84 (Or.inl rfl) (eqI (by rw [hs2])) rfl trivial
  refine M.aloadn (pc := 0) 0 rfl rfl dX8_tellsOf_0 ?_
  refine M.iloadn (pc := 1) 2 rfl rfl dX8_tellsOf_1 ?_
  refine M.pV (pc := 2) (c_X8_sizeOf  (by first | assumption | omega) (by first | assumption | omega) (by first | assumption | omega)) mv_X8_201 [0, 2] rfl rfl rfl 0 rfl rfl rfl rfl (Nat.le_of_ble_eq_true rfl) rfl ⟨(Nat.le_of_ble_eq_true rfl), (Nat.le_of_ble_eq_true rfl)⟩ ⟨(Nat.le_of_ble_eq_true rfl), (Nat.le_of_ble_eq_true rfl)⟩ rfl dX8_tellsOf_2 ?_
  refine M.istore (pc := 5) (i := 4) (Nat.le_of_ble_eq_true rfl) rfl dX8_tellsOf_5 ?_
  dsimp only [List.set_cons_zero, List.set_cons_succ]
  refine M.iloadn (pc := 7) 3 rfl rfl dX8_tellsOf_7 ?_
  refine M.i2l (pc := 8) (by omega) dX8_tellsOf_8 ?_
  refine M.lconst (pc := 9) 1 (by decide +kernel) dX8_tellsOf_9 ?_
  refine M.ldc2 (pc := 10) (6) lc_X8_253 (by decide +kernel) dX8_tellsOf_10 ?_
  refine M.pS (pc := 13) (c_X8_in  (by first | assumption | omega) (by first | assumption | omega) (by first | assumption | omega)) ms_X8_63 [] rfl rfl rfl rfl (Nat.le_of_ble_eq_true rfl) rfl ⟨(Nat.le_of_ble_eq_true rfl), (Nat.le_of_ble_eq_true rfl)⟩ ⟨(Nat.le_of_ble_eq_true rfl), (Nat.le_of_ble_eq_true rfl)⟩ rfl dX8_tellsOf_13 ?_
  refine M.if_eqP (pc := 16) (tgt := 41) dX8_tellsOf_16 (by decide) (fun c16 => ?_) (fun c16 => ?_)
  · refine M.iloadn (pc := 41) 3 rfl rfl dX8_tellsOf_41 ?_
    refine M.bipush (pc := 42) (by decide +kernel) dX8_tellsOf_42 ?_
    refine M.icmp_le (pc := 44) (tgt := 76) dX8_tellsOf_44 (by decide) (by omega) (by omega) (fun c44 => ?_) (fun c44 => ?_)
    · exact L76  (by rw [hcc, if_neg (by first | omega | exact fun z => c26 z.2.2), if_neg (by omega)]; omega)
    · refine M.iloadn (pc := 47) 2 rfl rfl dX8_tellsOf_47 ?_
      refine M.iloadn (pc := 48) 3 rfl rfl dX8_tellsOf_48 ?_
      refine M.bipush (pc := 49) (by decide +kernel) dX8_tellsOf_49 ?_
      refine M.isub (pc := 51) dX8_tellsOf_51 ?_
      refine M.pS (pc := 52) (c_X8_has  (by first | assumption | omega) (by first | assumption | omega) (by first | assumption | omega) (by first | assumption | omega)) ms_X8_191 [] rfl rfl rfl rfl (Nat.le_of_ble_eq_true rfl) rfl ⟨(Nat.le_of_ble_eq_true rfl), (Nat.le_of_ble_eq_true rfl)⟩ ⟨(Nat.le_of_ble_eq_true rfl), (Nat.le_of_ble_eq_true rfl)⟩ rfl dX8_tellsOf_52 ?_
      refine M.if_eqP (pc := 55) (tgt := 76) dX8_tellsOf_55 (by decide) (fun c55 => ?_) (fun c55 => ?_)
      · exact L76  (by rw [hcc, if_neg (by omega), if_neg (fun z => c55 z.2)]; omega)
      · have hq7 := hk7 (by omega) c55
        have hT7 := (hT (c - 7) (by omega) hq7).2.2.1
        refine M.iload (pc := 58) (i := 4) rfl dX8_tellsOf_58 ?_
        refine M.aloadn (pc := 60) 0 rfl rfl dX8_tellsOf_60 ?_
        refine M.getf (pc := 61) fg_X8_13 0 rfl rfl dX8_tellsOf_61 ?_
        refine M.iconst (pc := 64) dX8_tellsOf_64 ?_
        refine M.iloadn (pc := 65) 3 rfl rfl dX8_tellsOf_65 ?_
        refine M.bipush (pc := 66) (by decide +kernel) dX8_tellsOf_66 ?_
        refine M.isub (pc := 68) dX8_tellsOf_68 ?_
        refine M.imul (pc := 69) dX8_tellsOf_69 ?_
        refine M.iconst (pc := 70) dX8_tellsOf_70 ?_
        refine M.iadd (pc := 71) dX8_tellsOf_71 ?_
        refine M.ialdx (pc := 72) ((c - 7) * 4 + 2) (by omega) 2 rfl (by omega) (by omega) dX8_tellsOf_72 ?_
        refine M.isub (pc := 73) dX8_tellsOf_73 ?_
        refine M.istore (pc := 74) (i := 4) (Nat.le_of_ble_eq_true rfl) rfl dX8_tellsOf_74 ?_
        dsimp only [List.set_cons_zero, List.set_cons_succ]
        exact L76  (by rw [hcc, if_neg (by omega), if_pos ⟨by omega, c55⟩]; omega)
  · refine M.iloadn (pc := 19) 2 rfl rfl dX8_tellsOf_19 ?_
    refine M.iloadn (pc := 20) 3 rfl rfl dX8_tellsOf_20 ?_
    refine M.iconst (pc := 21) dX8_tellsOf_21 ?_
    refine M.isub (pc := 22) dX8_tellsOf_22 ?_
    refine M.pS (pc := 23) (c_X8_has  (by first | assumption | omega) (by first | assumption | omega) (by first | assumption | omega) (by first | assumption | omega)) ms_X8_191 [] rfl rfl rfl rfl (Nat.le_of_ble_eq_true rfl) rfl ⟨(Nat.le_of_ble_eq_true rfl), (Nat.le_of_ble_eq_true rfl)⟩ ⟨(Nat.le_of_ble_eq_true rfl), (Nat.le_of_ble_eq_true rfl)⟩ rfl dX8_tellsOf_23 ?_
    refine M.if_eqP (pc := 26) (tgt := 41) dX8_tellsOf_26 (by decide) (fun c26 => ?_) (fun c26 => ?_)
    · refine M.iloadn (pc := 41) 3 rfl rfl dX8_tellsOf_41 ?_
      refine M.bipush (pc := 42) (by decide +kernel) dX8_tellsOf_42 ?_
      refine M.icmp_le (pc := 44) (tgt := 76) dX8_tellsOf_44 (by decide) (by omega) (by omega) (fun c44 => ?_) (fun c44 => ?_)
      · exact L76  (by rw [hcc, if_neg (by first | omega | exact fun z => c26 z.2.2), if_neg (by omega)]; omega)
      · refine M.iloadn (pc := 47) 2 rfl rfl dX8_tellsOf_47 ?_
        refine M.iloadn (pc := 48) 3 rfl rfl dX8_tellsOf_48 ?_
        refine M.bipush (pc := 49) (by decide +kernel) dX8_tellsOf_49 ?_
        refine M.isub (pc := 51) dX8_tellsOf_51 ?_
        refine M.pS (pc := 52) (c_X8_has  (by first | assumption | omega) (by first | assumption | omega) (by first | assumption | omega) (by first | assumption | omega)) ms_X8_191 [] rfl rfl rfl rfl (Nat.le_of_ble_eq_true rfl) rfl ⟨(Nat.le_of_ble_eq_true rfl), (Nat.le_of_ble_eq_true rfl)⟩ ⟨(Nat.le_of_ble_eq_true rfl), (Nat.le_of_ble_eq_true rfl)⟩ rfl dX8_tellsOf_52 ?_
        refine M.if_eqP (pc := 55) (tgt := 76) dX8_tellsOf_55 (by decide) (fun c55 => ?_) (fun c55 => ?_)
        · exact L76  (by rw [hcc, if_neg (by omega), if_neg (fun z => c55 z.2)]; omega)
        · have hq7 := hk7 (by omega) c55
          have hT7 := (hT (c - 7) (by omega) hq7).2.2.1
          refine M.iload (pc := 58) (i := 4) rfl dX8_tellsOf_58 ?_
          refine M.aloadn (pc := 60) 0 rfl rfl dX8_tellsOf_60 ?_
          refine M.getf (pc := 61) fg_X8_13 0 rfl rfl dX8_tellsOf_61 ?_
          refine M.iconst (pc := 64) dX8_tellsOf_64 ?_
          refine M.iloadn (pc := 65) 3 rfl rfl dX8_tellsOf_65 ?_
          refine M.bipush (pc := 66) (by decide +kernel) dX8_tellsOf_66 ?_
          refine M.isub (pc := 68) dX8_tellsOf_68 ?_
          refine M.imul (pc := 69) dX8_tellsOf_69 ?_
          refine M.iconst (pc := 70) dX8_tellsOf_70 ?_
          refine M.iadd (pc := 71) dX8_tellsOf_71 ?_
          refine M.ialdx (pc := 72) ((c - 7) * 4 + 2) (by omega) 2 rfl (by omega) (by omega) dX8_tellsOf_72 ?_
          refine M.isub (pc := 73) dX8_tellsOf_73 ?_
          refine M.istore (pc := 74) (i := 4) (Nat.le_of_ble_eq_true rfl) rfl dX8_tellsOf_74 ?_
          dsimp only [List.set_cons_zero, List.set_cons_succ]
          exact L76  (by rw [hcc, if_neg (by omega), if_pos ⟨by omega, c55⟩]; omega)
    · refine M.iload (pc := 29) (i := 4) rfl dX8_tellsOf_29 ?_
      refine M.aloadn (pc := 31) 0 rfl rfl dX8_tellsOf_31 ?_
      refine M.getf (pc := 32) fg_X8_16 0 rfl rfl dX8_tellsOf_32 ?_
      refine M.iadd (pc := 35) dX8_tellsOf_35 ?_
      refine M.istore (pc := 36) (i := 4) (Nat.le_of_ble_eq_true rfl) rfl dX8_tellsOf_36 ?_
      dsimp only [List.set_cons_zero, List.set_cons_succ]
      refine M.goto (pc := 38) (tgt := 76) dX8_tellsOf_38 (by decide) ?_
      exact L76  (by rw [hcc, if_pos ⟨c16.1, c16.2, c26⟩, if_neg (by omega)]; omega)
