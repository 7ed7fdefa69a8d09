/-! the reference's calls, the second part -/
theorem cbF_s {P : Int → Bool} {i S m k : Int} (h : 0 < k) : cbF P i k.toNat S m = if P S = true then (if m = i then S else cbF P i (k - 1).toNat (S + 1) (m + 1)) else cbF P i (k - 1).toNat (S + 1) m := by
  obtain ⟨j, hj⟩ := Int.eq_ofNat_of_zero_le (show 0 ≤ k - 1 by omega)
  have hk : k = (j : Int) + 1 := by omega
  subst hk
  rw [show ((j : Int) + 1).toNat = j + 1 by omega, show ((j : Int) + 1 - 1).toNat = j by omega]
  rfl
theorem cbF_0 {P : Int → Bool} {i S m k : Int} (h : k = 0) : cbF P i k.toNat S m = if i = -1 then m else -1 := by subst h; rfl
theorem cbP_cg {gb l u el eu : Int → Int} {n b h v S : Int} (hn : 0 ≤ n) (hk : ∀ k, 0 ≤ k → k < n → l k = el k ∧ u k = eu k) : cbP gb l u n b h v S = cbP gb el eu n b h v S := by
  unfold cbP
  rw [sumT_c (f := l) (g := el) n.toNat (fun k h _ => (hk k (by omega) (by omega)).1), sumT_c (f := u) (g := eu) n.toNat (fun k h _ => (hk k (by omega) (by omega)).2)]
theorem oddsN_v {gt : Int → Int} {n : Int} (hT : HVT gt n) (S : Int) : ∀ k : Nat, (k : Int) ≤ n → 0 ≤ oddsN gt S k ∧ oddsN gt S k ≤ 1000000000 := by
  intro k
  induction k with
  | zero => intro _; show (0 : Int) ≤ 1000000000 ∧ (1000000000 : Int) ≤ 1000000000; omega
  | succ k ih =>
    intro hk
    have h1 := ih (by omega)
    have h2 := (hT (k : Int) (by omega) (by omega)).2.2.2.1
    show 0 ≤ oddsN gt S k * _ / 100 ∧ oddsN gt S k * _ / 100 ≤ 1000000000
    have h3 : 0 ≤ (if tb S (k : Int) = true then gt ((k : Int) * 4 + 3) else 100 - gt ((k : Int) * 4 + 3)) ∧ (if tb S (k : Int) = true then gt ((k : Int) * 4 + 3) else 100 - gt ((k : Int) * 4 + 3)) ≤ 100 := by
      split <;> omega
    have := bound_mul h1.1 h1.2 h3.1 h3.2
    omega
theorem lshr_am : ∀ n : Nat, n < 8 → (((iI (8 * (n : Int))).toInt64 &&& 63).toBitVec.smod 64).toNat = 8 * n := by decide +kernel
theorem lshr_ok {b k : Int} (hb : InL b) (h0 : 0 ≤ k) (h1 : k < 8) : lI b >>> ((iI (8 * k)).toInt64 &&& 63) = lI (b / ((2 ^ (8 * k).toNat : Nat) : Int)) := by
  obtain ⟨n, rfl⟩ := Int.eq_ofNat_of_zero_le h0
  have hs := lshr_am n (by omega)
  have e8 : (8 * (n : Int)).toNat = 8 * n := by omega
  have hp : (1 : Int) ≤ ((2 ^ (8 * n) : Nat) : Int) := by have := Nat.pow_pos (n := 8 * n) (by decide : 0 < 2); omega
  have hd : InL (b / ((2 ^ (8 * n) : Nat) : Int)) := by
    generalize ((2 ^ (8 * n) : Nat) : Int) = q at hp ⊢
    have h2 := Int.mul_ediv_add_emod b q
    have h3 := Int.emod_nonneg b (show q ≠ 0 by omega)
    have h4 := Int.emod_lt_of_pos b (show 0 < q by omega)
    refine ⟨?_, ?_⟩
    · refine Int.le_ediv_of_mul_le (by omega) ?_
      have : (-9223372036854775808 : Int) * q ≤ (-9223372036854775808) * 1 := Int.mul_le_mul_of_nonpos_left (by omega) (by omega)
      omega
    · refine Int.ediv_lt_of_lt_mul (by omega) ?_
      have : (9223372036854775808 : Int) * 1 ≤ 9223372036854775808 * q := Int.mul_le_mul_of_nonneg_left (by omega) (by omega)
      omega
  rw [e8, ← Int64.toInt_inj, lI_t hd]
  show ((lI b).toBitVec.sshiftRight' (((iI (8 * (n : Int))).toInt64 &&& 63).toBitVec.smod 64)).toInt = _
  unfold BitVec.sshiftRight'
  rw [hs, BitVec.toInt_sshiftRight]
  show (lI b).toInt >>> (8 * n) = _
  rw [lI_t hb, Int.shiftRight_eq_div_pow]
theorem land_ok255 (a : Int) : lI a &&& lI 255 = lI (a % 256) := by
  rw [← Int64.toBitVec_inj]
  show (BitVec.ofInt 64 a) &&& (BitVec.ofInt 64 255) = BitVec.ofInt 64 (a % 256)
  apply BitVec.eq_of_toNat_eq
  rw [BitVec.toNat_and, BitVec.toNat_ofInt, BitVec.toNat_ofInt, BitVec.toNat_ofInt]
  rw [show ((255 : Int) % ((2 ^ 64 : Nat) : Int)).toNat = 2 ^ 8 - 1 by decide, Nat.and_two_pow_sub_one_eq_mod]
  rw [show ((2 ^ 64 : Nat) : Int) = 18446744073709551616 by decide, show (2 ^ 8 : Nat) = 256 by decide]
  omega
set_option maxHeartbeats 4000000 in
set_option maxRecDepth 100000 in
theorem c_X8_canBeIn {l : Launch} {G : GT} {m aBath aBather aMorn aText aRB aRN aLow aHigh aNeeds aLikes aHts aBook aImg aKept : Nat} {vb vn vo vm vs vt vf va vw vu vna vrb vrn vro vtr vbk vsd : Int} {vch : Bool} {gb : Int → Int} {gl : Int → Int} {gh : Int → Int} {b h v S : Int} (hn : 0 ≤ vn ∧ vn ≤ 6) (hnb : 0 ≤ vb ∧ vb ≤ 2) (hV : HV gb vb) (hrg : ∀ k, 0 ≤ k → k < vn → (0 ≤ gl k ∧ gl k ≤ 999) ∧ (0 ≤ gh k ∧ gh k ≤ 999)) (hb : 0 ≤ b ∧ b < vb) (hh : 0 ≤ h ∧ h < 100) (hv : 0 ≤ v ∧ v < 100000) (hS : 0 ≤ S ∧ S < p2 vn) : ConF l G yX8_canBeIn cX8_canBeIn 8 (some .boolean) { frames := 2, cells := 0, slots := 0, locals := 47 } [.ref m, .int (iI b), .int (iI h), .int (iI v), .int (iI S)] [(m, eO 8 [.int (iI vb), .ref aBath, .int (iI vn), .ref aBather, .int (iI vo), .int (iI vm), .ref aMorn, .int (iI vs), .ref aText, .int (iI vt), .int (iI vf), .int (iI va), .long (lI vsd), .int (iI vw), .int (iI vu), .int (iI vna), .int (iI vrb), .ref aRB, .int (iI vrn), .ref aRN, .int (iI vro), .ref aLow, .ref aHigh, .int (iI (pI (vch = true))), .ref aNeeds, .ref aLikes, .ref aHts, .int (iI vtr), .int (iI vbk), .ref aBook, .ref aImg, .ref aKept]), (aBath, eI G 8 gb), (aLow, eI G 6 gl), (aHigh, eI G 6 gh)] (some (.int (iI (pI (cbP gb gl gh vn b h v S = true))))) := by
  refine Con.mk (by decide +kernel) [some (.ref m), some (.int (iI b)), some (.int (iI h)), some (.int (iI v)), some (.int (iI S)), none, none, none] rfl (Nat.le_of_ble_eq_true rfl) rfl ?_
  intro V M EI EL EV EA
  have hm := fun (z0 : 0 ≤ b ∧ b < vb) (z1 : 0 ≤ h ∧ h < 100) (z2 : 0 ≤ v ∧ v < 100000) => (show ((1 ≤ hMea gb b ∧ hMea gb b ≤ 9801) ∧ (0 ≤ hWat gb b h ∧ hWat gb b h ≤ 9999)) ∧ (0 ≤ v * hMea gb b ∧ v * hMea gb b ≤ 980090199) from ⟨⟨(hMea_v hV z0.1 z0.2).1, hWat_v hV z0.1 z0.2 z1.1⟩, hMul_v hV z0.1 z0.2 z2.1 (by omega)⟩)
  have hmo : hMos gb b h v = v * hMea gb b + hMea gb b - 1 - hWat gb b h := rfl
  have hls : hLst gb b h v = max 0 (v * hMea gb b - hWat gb b h) := rfl
  have hmb := hm hb hh hv
  have hp2 := p2_b (by omega : vn ≤ 13)
  refine M.iconst (pc := 0) dX8_canBeIn_0 ?_
  refine M.istore (pc := 1) (i := 5) (Nat.le_of_ble_eq_true rfl) rfl dX8_canBeIn_1 ?_
  dsimp only [List.set_cons_zero, List.set_cons_succ]
  refine M.iconst (pc := 3) dX8_canBeIn_3 ?_
  refine M.istore (pc := 4) (i := 6) (Nat.le_of_ble_eq_true rfl) rfl dX8_canBeIn_4 ?_
  dsimp only [List.set_cons_zero, List.set_cons_succ]
  refine M.iconst (pc := 6) dX8_canBeIn_6 ?_
  refine M.istore (pc := 7) (i := 7) (Nat.le_of_ble_eq_true rfl) rfl dX8_canBeIn_7 ?_
  dsimp only [List.set_cons_zero, List.set_cons_succ]
  have L9 : ∀ (fu : Nat) {k lo hi : Int}, (0 ≤ k ∧ k ≤ vn) → (lo = sumT gl S k.toNat) → (hi = sumT gh S k.toNat) → (vn - k).toNat < fu → V 0 0 9 [(m, eO 8 [.int (iI vb), .ref aBath, .int (iI vn), .ref aBather, .int (iI vo), .int (iI vm), .ref aMorn, .int (iI vs), .ref aText, .int (iI vt), .int (iI vf), .int (iI va), .long (lI vsd), .int (iI vw), .int (iI vu), .int (iI vna), .int (iI vrb), .ref aRB, .int (iI vrn), .ref aRN, .int (iI vro), .ref aLow, .ref aHigh, .int (iI (pI (vch = true))), .ref aNeeds, .ref aLikes, .ref aHts, .int (iI vtr), .int (iI vbk), .ref aBook, .ref aImg, .ref aKept]), (aBath, eI G 8 gb), (aLow, eI G 6 gl), (aHigh, eI G 6 gh)] [some (.ref m), some (.int (iI b)), some (.int (iI h)), some (.int (iI v)), some (.int (iI S)), some (.int (iI lo)), some (.int (iI hi)), some (.int (iI k))] [] := by
    intro fu
    induction fu with
    | zero => intro k lo hi hk hlo hhi hm; exact absurd hm (Nat.not_lt_zero _)
    | succ fu ih9 =>
      intro k lo hi hk hlo hhi hm9
      refine M.iload (pc := 9) (i := 7) rfl dX8_canBeIn_9 ?_
      refine M.aloadn (pc := 11) 0 rfl rfl dX8_canBeIn_11 ?_
      refine M.getf (pc := 12) fg_X8_67 0 rfl rfl dX8_canBeIn_12 ?_
      refine M.icmp_ge (pc := 15) (tgt := 76) dX8_canBeIn_15 (by decide) (by omega) (by omega) (fun c15 => ?_) (fun c15 => ?_)
      · have hkn : k = vn := by omega
        subst hkn
        have hsl := sumT_b (f := gl) (S := S) (A := 0) (B := 999) (by omega) (by omega) k.toNat (fun j hj _ => (hrg j (by omega) (by omega)).1)
        have hsh := sumT_b (f := gh) (S := S) (A := 0) (B := 999) (by omega) (by omega) k.toNat (fun j hj _ => (hrg j (by omega) (by omega)).2)
        rw [← hlo] at hsl
        rw [← hhi] at hsh
        refine M.aloadn (pc := 76) 0 rfl rfl dX8_canBeIn_76 ?_
        refine M.iloadn (pc := 77) 1 rfl rfl dX8_canBeIn_77 ?_
        refine M.iloadn (pc := 78) 2 rfl rfl dX8_canBeIn_78 ?_
        refine M.iloadn (pc := 79) 3 rfl rfl dX8_canBeIn_79 ?_
        refine M.pV (pc := 80) (c_X8_mostOf  (by first | assumption | omega) (by first | assumption | omega) (by first | assumption | omega) (by first | assumption | omega) (by first | assumption | omega)) mv_X8_211 [0, 1] rfl rfl rfl 0 rfl rfl rfl rfl (Nat.le_of_ble_eq_true rfl) rfl ⟨(Nat.le_of_ble_eq_true rfl), (Nat.le_of_ble_eq_true rfl)⟩ ⟨(Nat.le_of_ble_eq_true rfl), (Nat.le_of_ble_eq_true rfl)⟩ rfl dX8_canBeIn_80 ?_
        refine M.istore (pc := 83) (i := 7) (Nat.le_of_ble_eq_true rfl) rfl dX8_canBeIn_83 ?_
        dsimp only [List.set_cons_zero, List.set_cons_succ]
        refine M.iload (pc := 85) (i := 7) rfl dX8_canBeIn_85 ?_
        refine M.iload (pc := 87) (i := 5) rfl dX8_canBeIn_87 ?_
        refine M.icmp_lt (pc := 89) (tgt := 108) dX8_canBeIn_89 (by decide) (by omega) (by omega) (fun c89 => ?_) (fun c89 => ?_)
        · refine M.iconst (pc := 108) dX8_canBeIn_108 ?_
          exact EI () _ _ _ _ dX8_canBeIn_109 (Or.inr ⟨rfl, by first | exact Or.inl rfl | exact Or.inr rfl | exact pI_01 _⟩) (eqI (by first | exact pI_eq1 (decide_eq_true (by omega)) rfl | exact pI_eq0 (fun z => by have := of_decide_eq_true z; omega) rfl)) rfl trivial
        · refine M.aloadn (pc := 92) 0 rfl rfl dX8_canBeIn_92 ?_
          refine M.iloadn (pc := 93) 1 rfl rfl dX8_canBeIn_93 ?_
          refine M.iloadn (pc := 94) 2 rfl rfl dX8_canBeIn_94 ?_
          refine M.iloadn (pc := 95) 3 rfl rfl dX8_canBeIn_95 ?_
          refine M.pV (pc := 96) (c_X8_leastOf  (by first | assumption | omega) (by first | assumption | omega) (by first | assumption | omega) (by first | assumption | omega) (by first | assumption | omega)) mv_X8_214 [0, 1] rfl rfl rfl 0 rfl rfl rfl rfl (Nat.le_of_ble_eq_true rfl) rfl ⟨(Nat.le_of_ble_eq_true rfl), (Nat.le_of_ble_eq_true rfl)⟩ ⟨(Nat.le_of_ble_eq_true rfl), (Nat.le_of_ble_eq_true rfl)⟩ rfl dX8_canBeIn_96 ?_
          refine M.iload (pc := 99) (i := 6) rfl dX8_canBeIn_99 ?_
          refine M.icmp_gt (pc := 101) (tgt := 108) dX8_canBeIn_101 (by decide) (by omega) (by omega) (fun c101 => ?_) (fun c101 => ?_)
          · refine M.iconst (pc := 108) dX8_canBeIn_108 ?_
            exact EI () _ _ _ _ dX8_canBeIn_109 (Or.inr ⟨rfl, by first | exact Or.inl rfl | exact Or.inr rfl | exact pI_01 _⟩) (eqI (by first | exact pI_eq1 (decide_eq_true (by omega)) rfl | exact pI_eq0 (fun z => by have := of_decide_eq_true z; omega) rfl)) rfl trivial
          · refine M.iconst (pc := 104) dX8_canBeIn_104 ?_
            refine M.goto (pc := 105) (tgt := 109) dX8_canBeIn_105 (by decide) ?_
            exact EI () _ _ _ _ dX8_canBeIn_109 (Or.inr ⟨rfl, by first | exact Or.inl rfl | exact Or.inr rfl | exact pI_01 _⟩) (eqI (by first | exact pI_eq1 (decide_eq_true (by omega)) rfl | exact pI_eq0 (fun z => by have := of_decide_eq_true z; omega) rfl)) rfl trivial
      · have hsl := sumT_b (f := gl) (S := S) (A := 0) (B := 999) (by omega) (by omega) k.toNat (fun j hj _ => (hrg j (by omega) (by omega)).1)
        have hsh := sumT_b (f := gh) (S := S) (A := 0) (B := 999) (by omega) (by omega) k.toNat (fun j hj _ => (hrg j (by omega) (by omega)).2)
        have hl2 := sumT_s gl S hk.1
        have hh2 := sumT_s gh S hk.1
        have hrk := hrg k hk.1 (by omega)
        rw [← hlo] at hsl hl2
        rw [← hhi] at hsh hh2
        refine M.iload (pc := 18) (i := 5) rfl dX8_canBeIn_18 ?_
        refine M.iload (pc := 20) (i := 4) rfl dX8_canBeIn_20 ?_
        refine M.iload (pc := 22) (i := 7) rfl dX8_canBeIn_22 ?_
        have L41 : ∀ {z : Int}, (z = if tb S k = true then gl k else 0) → V 0 0 41 [(m, eO 8 [.int (iI vb), .ref aBath, .int (iI vn), .ref aBather, .int (iI vo), .int (iI vm), .ref aMorn, .int (iI vs), .ref aText, .int (iI vt), .int (iI vf), .int (iI va), .long (lI vsd), .int (iI vw), .int (iI vu), .int (iI vna), .int (iI vrb), .ref aRB, .int (iI vrn), .ref aRN, .int (iI vro), .ref aLow, .ref aHigh, .int (iI (pI (vch = true))), .ref aNeeds, .ref aLikes, .ref aHts, .int (iI vtr), .int (iI vbk), .ref aBook, .ref aImg, .ref aKept]), (aBath, eI G 8 gb), (aLow, eI G 6 gl), (aHigh, eI G 6 gh)] [some (.ref m), some (.int (iI b)), some (.int (iI h)), some (.int (iI v)), some (.int (iI S)), some (.int (iI lo)), some (.int (iI hi)), some (.int (iI k))] [.int (iI z), .int (iI lo)] := by
          intro z hz
          refine M.iadd (pc := 41) dX8_canBeIn_41 ?_
          refine M.istore (pc := 42) (i := 5) (Nat.le_of_ble_eq_true rfl) rfl dX8_canBeIn_42 ?_
          dsimp only [List.set_cons_zero, List.set_cons_succ]
          refine M.iload (pc := 44) (i := 6) rfl dX8_canBeIn_44 ?_
          refine M.iload (pc := 46) (i := 4) rfl dX8_canBeIn_46 ?_
          refine M.iload (pc := 48) (i := 7) rfl dX8_canBeIn_48 ?_
          have L67 : ∀ {y : Int}, (y = if tb S k = true then gh k else 0) → V 0 0 67 [(m, eO 8 [.int (iI vb), .ref aBath, .int (iI vn), .ref aBather, .int (iI vo), .int (iI vm), .ref aMorn, .int (iI vs), .ref aText, .int (iI vt), .int (iI vf), .int (iI va), .long (lI vsd), .int (iI vw), .int (iI vu), .int (iI vna), .int (iI vrb), .ref aRB, .int (iI vrn), .ref aRN, .int (iI vro), .ref aLow, .ref aHigh, .int (iI (pI (vch = true))), .ref aNeeds, .ref aLikes, .ref aHts, .int (iI vtr), .int (iI vbk), .ref aBook, .ref aImg, .ref aKept]), (aBath, eI G 8 gb), (aLow, eI G 6 gl), (aHigh, eI G 6 gh)] [some (.ref m), some (.int (iI b)), some (.int (iI h)), some (.int (iI v)), some (.int (iI S)), some (.int (iI (lo + z))), some (.int (iI hi)), some (.int (iI k))] [.int (iI y), .int (iI hi)] := by
            intro y hy
            refine M.iadd (pc := 67) dX8_canBeIn_67 ?_
            refine M.istore (pc := 68) (i := 6) (Nat.le_of_ble_eq_true rfl) rfl dX8_canBeIn_68 ?_
            dsimp only [List.set_cons_zero, List.set_cons_succ]
            refine M.iinc (pc := 70) (i := 7) rfl rfl dX8_canBeIn_70 ?_
            dsimp only [List.set_cons_zero, List.set_cons_succ]
            refine M.goto (pc := 73) (tgt := 9) dX8_canBeIn_73 (by decide) ?_
            exact ih9  (by first | assumption | omega) (by rw [hl2, hz]) (by rw [hh2, hy]) (by omega)
          refine M.pS (pc := 50) (c_X8_has  (by first | assumption | omega) (by first | assumption | omega) (by first | assumption | omega) (by first | assumption | omega)) ms_X8_191 [] rfl rfl rfl rfl (Nat.le_of_ble_eq_true rfl) rfl ⟨(Nat.le_of_ble_eq_true rfl), (Nat.le_of_ble_eq_true rfl)⟩ ⟨(Nat.le_of_ble_eq_true rfl), (Nat.le_of_ble_eq_true rfl)⟩ rfl dX8_canBeIn_50 ?_
          refine M.if_eqP (pc := 53) (tgt := 66) dX8_canBeIn_53 (by decide) (fun c53 => ?_) (fun c53 => ?_)
          · refine M.iconst (pc := 66) dX8_canBeIn_66 ?_
            exact L67  (by rw [if_neg c53])
          · refine M.aloadn (pc := 56) 0 rfl rfl dX8_canBeIn_56 ?_
            refine M.getf (pc := 57) fg_X8_38 0 rfl rfl dX8_canBeIn_57 ?_
            refine M.iload (pc := 60) (i := 7) rfl dX8_canBeIn_60 ?_
            refine M.iald (pc := 62) 3 rfl (by omega) (by omega) dX8_canBeIn_62 ?_
            refine M.goto (pc := 63) (tgt := 67) dX8_canBeIn_63 (by decide) ?_
            exact L67  (by rw [if_pos c53])
        refine M.pS (pc := 24) (c_X8_has  (by first | assumption | omega) (by first | assumption | omega) (by first | assumption | omega) (by first | assumption | omega)) ms_X8_191 [] rfl rfl rfl rfl (Nat.le_of_ble_eq_true rfl) rfl ⟨(Nat.le_of_ble_eq_true rfl), (Nat.le_of_ble_eq_true rfl)⟩ ⟨(Nat.le_of_ble_eq_true rfl), (Nat.le_of_ble_eq_true rfl)⟩ rfl dX8_canBeIn_24 ?_
        refine M.if_eqP (pc := 27) (tgt := 40) dX8_canBeIn_27 (by decide) (fun c27 => ?_) (fun c27 => ?_)
        · refine M.iconst (pc := 40) dX8_canBeIn_40 ?_
          exact L41  (by rw [if_neg c27])
        · refine M.aloadn (pc := 30) 0 rfl rfl dX8_canBeIn_30 ?_
          refine M.getf (pc := 31) fg_X8_35 0 rfl rfl dX8_canBeIn_31 ?_
          refine M.iload (pc := 34) (i := 7) rfl dX8_canBeIn_34 ?_
          refine M.iald (pc := 36) 2 rfl (by omega) (by omega) dX8_canBeIn_36 ?_
          refine M.goto (pc := 37) (tgt := 41) dX8_canBeIn_37 (by decide) ?_
          exact L41  (by rw [if_pos c27])
  exact L9 _  (by first | assumption | omega) (by rfl) (by rfl) (Nat.lt_succ_self _)
set_option maxHeartbeats 4000000 in
set_option maxRecDepth 100000 in
theorem c_X8_canBe {l : Launch} {G : GT} {m aBath aBather aMorn aText aRB aRN aLow aHigh aNeeds aLikes aHts aBook aImg aKept : Nat} {vb vn vo vm vs vt vf va vw vu vna vrb vrn vro vtr vbk vsd : Int} {vch : Bool} {gb : Int → Int} {gt : Int → Int} {gm : Int → Int} {gl : Int → Int} {gh : Int → Int} {ecl : Bool} {el eu : Int → Int} {b h v i : Int} (hn : 0 ≤ vn ∧ vn ≤ 6) (hnb : 0 ≤ vb ∧ vb ≤ 2) (hc : 0 ≤ vm ∧ vm ≤ 12) (hV : HV gb vb) (hT : HVT gt vn) (hM : HM gm vm vb vn) (hRX : RX gl gh) (hE : EndsOf vn vm (fU gt) (fV gt) (mS gm) (mL gb gm) (mG gb gm) (p2 vm - 1) ecl el eu) (hrb : InR b) (hrh : InR h) (hrv : InR v) (hri : InR i) : Con l G yX8_canBe cX8_canBe 7 (some .int) { frames := 5, cells := 0, slots := 0, locals := 119 } [.ref m, .int (iI b), .int (iI h), .int (iI v), .int (iI i)] [(m, eO 8 [.int (iI vb), .ref aBath, .int (iI vn), .ref aBather, .int (iI vo), .int (iI vm), .ref aMorn, .int (iI vs), .ref aText, .int (iI vt), .int (iI vf), .int (iI va), .long (lI vsd), .int (iI vw), .int (iI vu), .int (iI vna), .int (iI vrb), .ref aRB, .int (iI vrn), .ref aRN, .int (iI vro), .ref aLow, .ref aHigh, .int (iI (pI (vch = true))), .ref aNeeds, .ref aLikes, .ref aHts, .int (iI vtr), .int (iI vbk), .ref aBook, .ref aImg, .ref aKept]), (aBath, eI G 8 gb), (aBather, eI G 24 gt), (aMorn, eI G 48 gm), (aLow, eI G 6 gl), (aHigh, eI G 6 gh)] (S := Bool × (Int → Int) × (Int → Int)) (fun _ => some (.int (iI (aCanBe gb el eu vb vn b h v i)))) (fun u => [(m, eO 8 [.int (iI vb), .ref aBath, .int (iI vn), .ref aBather, .int (iI vo), .int (iI vm), .ref aMorn, .int (iI vs), .ref aText, .int (iI vt), .int (iI vf), .int (iI va), .long (lI vsd), .int (iI vw), .int (iI vu), .int (iI vna), .int (iI vrb), .ref aRB, .int (iI vrn), .ref aRN, .int (iI vro), .ref aLow, .ref aHigh, .int (iI (pI (u.1 = true))), .ref aNeeds, .ref aLikes, .ref aHts, .int (iI vtr), .int (iI vbk), .ref aBook, .ref aImg, .ref aKept]), (aBath, eI G 8 gb), (aBather, eI G 24 gt), (aMorn, eI G 48 gm), (aLow, eI G 6 u.2.1), (aHigh, eI G 6 u.2.2)]) (fun u => RX u.2.1 u.2.2) := by
  refine Con.mk (by decide +kernel) [some (.ref m), some (.int (iI b)), some (.int (iI h)), some (.int (iI v)), some (.int (iI i)), none, none] rfl (Nat.le_of_ble_eq_true rfl) rfl ?_
  intro V M EI EL EV EA
  have hp2 := p2_6 hn.2
  refine M.aloadn (pc := 0) 0 rfl rfl dX8_canBe_0 ?_
  refine M.iloadn (pc := 1) 1 rfl rfl dX8_canBe_1 ?_
  refine M.pV (pc := 2) (c_X8_isBath  (by first | assumption | omega) (by first | assumption | omega)) mv_X8_170 [0] rfl rfl rfl 0 rfl rfl rfl rfl (Nat.le_of_ble_eq_true rfl) rfl ⟨(Nat.le_of_ble_eq_true rfl), (Nat.le_of_ble_eq_true rfl)⟩ ⟨(Nat.le_of_ble_eq_true rfl), (Nat.le_of_ble_eq_true rfl)⟩ rfl dX8_canBe_2 ?_
  refine M.if_neP (pc := 5) (tgt := 11) dX8_canBe_5 (by decide) (fun c5 => ?_) (fun c5 => ?_)
  · refine M.iloadn (pc := 11) 2 rfl rfl dX8_canBe_11 ?_
    refine M.pS (pc := 12) (c_X8_isHour  (by first | assumption | omega)) ms_X8_198 [] rfl rfl rfl rfl (Nat.le_of_ble_eq_true rfl) rfl ⟨(Nat.le_of_ble_eq_true rfl), (Nat.le_of_ble_eq_true rfl)⟩ ⟨(Nat.le_of_ble_eq_true rfl), (Nat.le_of_ble_eq_true rfl)⟩ rfl dX8_canBe_12 ?_
    refine M.if_eqP (pc := 15) (tgt := 25) dX8_canBe_15 (by decide) (fun c15 => ?_) (fun c15 => ?_)
    · refine M.ldc (pc := 25) (-1000000002) lc_X8_76 (by decide +kernel) dX8_canBe_25 ?_
      exact EI (vch, gl, gh) _ _ _ _ dX8_canBe_27 (Or.inl rfl) (eqI (by unfold aCanBe; (repeat' split) <;> first | omega | rfl)) (rfl) (hRX)
    · refine M.iloadn (pc := 18) 3 rfl rfl dX8_canBe_18 ?_
      refine M.pS (pc := 19) (c_X8_isHeight  (by first | assumption | omega)) ms_X8_208 [] rfl rfl rfl rfl (Nat.le_of_ble_eq_true rfl) rfl ⟨(Nat.le_of_ble_eq_true rfl), (Nat.le_of_ble_eq_true rfl)⟩ ⟨(Nat.le_of_ble_eq_true rfl), (Nat.le_of_ble_eq_true rfl)⟩ rfl dX8_canBe_19 ?_
      refine M.if_neP (pc := 22) (tgt := 28) dX8_canBe_22 (by decide) (fun c22 => ?_) (fun c22 => ?_)
      · refine M.aloadn (pc := 28) 0 rfl rfl dX8_canBe_28 ?_
        refine M.mV (pc := 29) (c_X8_findEnds  (by first | assumption | omega) (by first | assumption | omega) (by first | assumption | omega) (by first | assumption | omega) (by first | assumption | omega) (by first | assumption | omega) (by first | assumption | omega)) mv_X8_181 [0, 1, 2, 3, 4, 5] rfl rfl rfl 0 rfl rfl rfl rfl (Nat.le_of_ble_eq_true rfl) rfl ⟨(Nat.le_of_ble_eq_true rfl), (Nat.le_of_ble_eq_true rfl)⟩ ⟨(Nat.le_of_ble_eq_true rfl), (Nat.le_of_ble_eq_true rfl)⟩ rfl (fun _ => rfl) dX8_canBe_29 (fun u29 hu29 => ?_)
        obtain ⟨cl29, ch29, l29, h29⟩ := u29
        dsimp only [putL, List.set_cons_zero, List.set_cons_succ, Option.toList, List.cons_append, List.nil_append] at hu29 ⊢
        have heq := (hu29.2.one hE).2
        have hrg := hu29.2.rg (nb := vb) hT
        refine M.iconst (pc := 32) dX8_canBe_32 ?_
        refine M.istore (pc := 33) (i := 5) (Nat.le_of_ble_eq_true rfl) rfl dX8_canBe_33 ?_
        dsimp only [List.set_cons_zero, List.set_cons_succ]
        refine M.iconst (pc := 35) dX8_canBe_35 ?_
        refine M.istore (pc := 36) (i := 6) (Nat.le_of_ble_eq_true rfl) rfl dX8_canBe_36 ?_
        dsimp only [List.set_cons_zero, List.set_cons_succ]
        have L38 : ∀ (fu : Nat) {S n : Int}, (0 ≤ S ∧ S ≤ p2 vn) → (0 ≤ n ∧ n ≤ S) → (cbF (cbP gb el eu vn b h v) i (p2 vn).toNat 0 0 = cbF (cbP gb el eu vn b h v) i (p2 vn - S).toNat S n) → (p2 vn - S).toNat < fu → V 0 0 38 [(m, eO 8 [.int (iI vb), .ref aBath, .int (iI vn), .ref aBather, .int (iI vo), .int (iI vm), .ref aMorn, .int (iI vs), .ref aText, .int (iI vt), .int (iI vf), .int (iI va), .long (lI vsd), .int (iI vw), .int (iI vu), .int (iI vna), .int (iI vrb), .ref aRB, .int (iI vrn), .ref aRN, .int (iI vro), .ref aLow, .ref aHigh, .int (iI (pI (ch29 = true))), .ref aNeeds, .ref aLikes, .ref aHts, .int (iI vtr), .int (iI vbk), .ref aBook, .ref aImg, .ref aKept]), (aBath, eI G 8 gb), (aBather, eI G 24 gt), (aMorn, eI G 48 gm), (aLow, eI G 6 l29), (aHigh, eI G 6 h29)] [some (.ref m), some (.int (iI b)), some (.int (iI h)), some (.int (iI v)), some (.int (iI i)), some (.int (iI n)), some (.int (iI S))] [] := by
          intro fu
          induction fu with
          | zero => intro S n hS hn2 hI hm; exact absurd hm (Nat.not_lt_zero _)
          | succ fu ih38 =>
            intro S n hS hn2 hI hm38
            refine M.iload (pc := 38) (i := 6) rfl dX8_canBe_38 ?_
            refine M.iconst (pc := 40) dX8_canBe_40 ?_
            refine M.aloadn (pc := 41) 0 rfl rfl dX8_canBe_41 ?_
            refine M.getf (pc := 42) fg_X8_67 0 rfl rfl dX8_canBe_42 ?_
            refine M.ishl (pc := 45) (bit_shl1 hn.1 (by omega)) dX8_canBe_45 ?_
            refine M.icmp_ge (pc := 46) (tgt := 80) dX8_canBe_46 (by decide) (by omega) (by omega) (fun c46 => ?_) (fun c46 => ?_)
            · have hSe : S = p2 vn := by omega
              have hst := cbF_0 (P := cbP gb el eu vn b h v) (i := i) (S := S) (m := n) (k := p2 vn - S) (by omega)
              refine M.iload (pc := 80) (i := 4) rfl dX8_canBe_80 ?_
              refine M.iconst (pc := 82) dX8_canBe_82 ?_
              refine M.icmp_ne (pc := 83) (tgt := 91) dX8_canBe_83 (by decide) (by omega) (by omega) (fun c83 => ?_) (fun c83 => ?_)
              · refine M.iconst (pc := 91) dX8_canBe_91 ?_
                have hA : aCanBe gb el eu vb vn b h v i = if i = -1 then n else -1 := by unfold aCanBe; rw [if_neg (by omega), if_neg (by omega), hI, hst]
                exact EI (ch29, l29, h29) _ _ _ _ dX8_canBe_92 (Or.inl rfl) (eqI (by rw [hA]; split <;> first | rfl | omega)) (rfl) (hu29.1)
              · refine M.iload (pc := 86) (i := 5) rfl dX8_canBe_86 ?_
                refine M.goto (pc := 88) (tgt := 92) dX8_canBe_88 (by decide) ?_
                have hA : aCanBe gb el eu vb vn b h v i = if i = -1 then n else -1 := by unfold aCanBe; rw [if_neg (by omega), if_neg (by omega), hI, hst]
                exact EI (ch29, l29, h29) _ _ _ _ dX8_canBe_92 (Or.inl rfl) (eqI (by rw [hA]; split <;> first | rfl | omega)) (rfl) (hu29.1)
            · refine M.aloadn (pc := 49) 0 rfl rfl dX8_canBe_49 ?_
              refine M.iloadn (pc := 50) 1 rfl rfl dX8_canBe_50 ?_
              refine M.iloadn (pc := 51) 2 rfl rfl dX8_canBe_51 ?_
              refine M.iloadn (pc := 52) 3 rfl rfl dX8_canBe_52 ?_
              refine M.iload (pc := 53) (i := 6) rfl dX8_canBe_53 ?_
              refine M.pV (pc := 55) (c_X8_canBeIn (gb := gb) (by first | assumption | omega) (by first | assumption | omega) (by first | assumption | omega) (by first | assumption | omega) (by first | assumption | omega) (by first | assumption | omega) (by first | assumption | omega) (by first | assumption | omega)) mv_X8_237 [0, 1, 4, 5] rfl rfl rfl 0 rfl rfl rfl rfl (Nat.le_of_ble_eq_true rfl) rfl ⟨(Nat.le_of_ble_eq_true rfl), (Nat.le_of_ble_eq_true rfl)⟩ ⟨(Nat.le_of_ble_eq_true rfl), (Nat.le_of_ble_eq_true rfl)⟩ rfl dX8_canBe_55 ?_
              have L74 : ∀ {n2 : Int}, (0 ≤ n2 ∧ n2 ≤ S + 1) → (cbF (cbP gb el eu vn b h v) i (p2 vn - S).toNat S n = cbF (cbP gb el eu vn b h v) i (p2 vn - S - 1).toNat (S + 1) n2) → V 0 0 74 [(m, eO 8 [.int (iI vb), .ref aBath, .int (iI vn), .ref aBather, .int (iI vo), .int (iI vm), .ref aMorn, .int (iI vs), .ref aText, .int (iI vt), .int (iI vf), .int (iI va), .long (lI vsd), .int (iI vw), .int (iI vu), .int (iI vna), .int (iI vrb), .ref aRB, .int (iI vrn), .ref aRN, .int (iI vro), .ref aLow, .ref aHigh, .int (iI (pI (ch29 = true))), .ref aNeeds, .ref aLikes, .ref aHts, .int (iI vtr), .int (iI vbk), .ref aBook, .ref aImg, .ref aKept]), (aBath, eI G 8 gb), (aBather, eI G 24 gt), (aMorn, eI G 48 gm), (aLow, eI G 6 l29), (aHigh, eI G 6 h29)] [some (.ref m), some (.int (iI b)), some (.int (iI h)), some (.int (iI v)), some (.int (iI i)), some (.int (iI n2)), some (.int (iI S))] [] := by
                intro n2 hn3 hI2
                refine M.iinc (pc := 74) (i := 6) rfl rfl dX8_canBe_74 ?_
                dsimp only [List.set_cons_zero, List.set_cons_succ]
                refine M.goto (pc := 77) (tgt := 38) dX8_canBe_77 (by decide) ?_
                exact ih38  (by first | assumption | omega) (by first | assumption | omega) (by rw [hI, hI2, show p2 vn - S - 1 = p2 vn - (S + 1) by omega]) (by omega)
              have hst := cbF_s (P := cbP gb el eu vn b h v) (i := i) (S := S) (m := n) (k := p2 vn - S) (by omega)
              have hcg := cbP_cg (gb := gb) (b := b) (h := h) (v := v) (S := S) hn.1 heq
              rw [hcg]
              refine M.if_eqP (pc := 58) (tgt := 74) dX8_canBe_58 (by decide) (fun c58 => ?_) (fun c58 => ?_)
              · exact L74  (by first | assumption | omega) (by rw [hst, if_neg c58])
              · refine M.iload (pc := 61) (i := 5) rfl dX8_canBe_61 ?_
                refine M.iload (pc := 63) (i := 4) rfl dX8_canBe_63 ?_
                refine M.icmp_ne (pc := 65) (tgt := 71) dX8_canBe_65 (by decide) (by omega) (by omega) (fun c65 => ?_) (fun c65 => ?_)
                · refine M.iinc (pc := 71) (i := 5) rfl rfl dX8_canBe_71 ?_
                  dsimp only [List.set_cons_zero, List.set_cons_succ]
                  exact L74  (by first | assumption | omega) (by rw [hst, if_pos c58, if_neg c65])
                · refine M.iload (pc := 68) (i := 6) rfl dX8_canBe_68 ?_
                  have hA : aCanBe gb el eu vb vn b h v i = S := by unfold aCanBe; rw [if_neg (by omega), if_neg (by omega), hI, hst, if_pos c58, if_pos c65]
                  exact EI (ch29, l29, h29) _ _ _ _ dX8_canBe_70 (Or.inl rfl) (eqI hA) (rfl) (hu29.1)
        exact L38 _  (by first | assumption | omega) (by first | assumption | omega) (by rw [Int.sub_zero]) (Nat.lt_succ_self _)
      · refine M.ldc (pc := 25) (-1000000002) lc_X8_76 (by decide +kernel) dX8_canBe_25 ?_
        exact EI (vch, gl, gh) _ _ _ _ dX8_canBe_27 (Or.inl rfl) (eqI (by unfold aCanBe; (repeat' split) <;> first | omega | rfl)) (rfl) (hRX)
  · refine M.ldc (pc := 8) (-1000000001) lc_X8_173 (by decide +kernel) dX8_canBe_8 ?_
    exact EI (vch, gl, gh) _ _ _ _ dX8_canBe_10 (Or.inl rfl) (eqI (by unfold aCanBe; (repeat' split) <;> first | omega | rfl)) (rfl) (hRX)
set_option maxHeartbeats 4000000 in
set_option maxRecDepth 100000 in
theorem c_X8_likely {l : Launch} {G : GT} {m aBath aBather aMorn aText aRB aRN aLow aHigh aNeeds aLikes aHts aBook aImg aKept : Nat} {vb vn vo vm vs vt vf va vw vu vna vrb vrn vro vtr vbk vsd : Int} {vch : Bool} {gb : Int → Int} {gt : Int → Int} {gm : Int → Int} {gl : Int → Int} {gh : Int → Int} {ecl : Bool} {el eu : Int → Int} {b h v k : Int} (hn : 0 ≤ vn ∧ vn ≤ 6) (hnb : 0 ≤ vb ∧ vb ≤ 2) (hc : 0 ≤ vm ∧ vm ≤ 12) (hV : HV gb vb) (hT : HVT gt vn) (hM : HM gm vm vb vn) (hRX : RX gl gh) (hE : EndsOf vn vm (fU gt) (fV gt) (mS gm) (mL gb gm) (mG gb gm) (p2 vm - 1) ecl el eu) (hrb : InR b) (hrh : InR h) (hrv : InR v) (hrk : InR k) : Con l G yX8_likely cX8_likely 10 (some .int) { frames := 5, cells := 0, slots := 0, locals := 119 } [.ref m, .int (iI b), .int (iI h), .int (iI v), .int (iI k)] [(m, eO 8 [.int (iI vb), .ref aBath, .int (iI vn), .ref aBather, .int (iI vo), .int (iI vm), .ref aMorn, .int (iI vs), .ref aText, .int (iI vt), .int (iI vf), .int (iI va), .long (lI vsd), .int (iI vw), .int (iI vu), .int (iI vna), .int (iI vrb), .ref aRB, .int (iI vrn), .ref aRN, .int (iI vro), .ref aLow, .ref aHigh, .int (iI (pI (vch = true))), .ref aNeeds, .ref aLikes, .ref aHts, .int (iI vtr), .int (iI vbk), .ref aBook, .ref aImg, .ref aKept]), (aBath, eI G 8 gb), (aBather, eI G 24 gt), (aMorn, eI G 48 gm), (aLow, eI G 6 gl), (aHigh, eI G 6 gh)] (S := Bool × (Int → Int) × (Int → Int)) (fun _ => some (.int (iI (aLikely gb gt el eu vb vn b h v k)))) (fun u => [(m, eO 8 [.int (iI vb), .ref aBath, .int (iI vn), .ref aBather, .int (iI vo), .int (iI vm), .ref aMorn, .int (iI vs), .ref aText, .int (iI vt), .int (iI vf), .int (iI va), .long (lI vsd), .int (iI vw), .int (iI vu), .int (iI vna), .int (iI vrb), .ref aRB, .int (iI vrn), .ref aRN, .int (iI vro), .ref aLow, .ref aHigh, .int (iI (pI (u.1 = true))), .ref aNeeds, .ref aLikes, .ref aHts, .int (iI vtr), .int (iI vbk), .ref aBook, .ref aImg, .ref aKept]), (aBath, eI G 8 gb), (aBather, eI G 24 gt), (aMorn, eI G 48 gm), (aLow, eI G 6 u.2.1), (aHigh, eI G 6 u.2.2)]) (fun u => RX u.2.1 u.2.2) := by
  refine Con.mk (by decide +kernel) [some (.ref m), some (.int (iI b)), some (.int (iI h)), some (.int (iI v)), some (.int (iI k)), none, none, none, none, none] rfl (Nat.le_of_ble_eq_true rfl) rfl ?_
  intro V M EI EL EV EA
  have hp2 := p2_6 hn.2
  have hob : ∀ x, 0 ≤ oddsN gt x vn.toNat ∧ oddsN gt x vn.toNat ≤ 1000000000 := fun x => oddsN_v hT x vn.toNat (by omega)
  have hAb : ∀ x, 0 ≤ (lkA gb gt el eu vn b h v) x ∧ (lkA gb gt el eu vn b h v) x ≤ 1000000000 := fun x => by
    have := hob x
    unfold lkA
    split <;> omega
  have hWb : ∀ x, 0 ≤ (lkW gb gt el eu vn b h v k) x ∧ (lkW gb gt el eu vn b h v k) x ≤ 1000000000 := fun x => by
    have := hob x
    unfold lkW
    split <;> omega
  refine M.aloadn (pc := 0) 0 rfl rfl dX8_likely_0 ?_
  refine M.iloadn (pc := 1) 1 rfl rfl dX8_likely_1 ?_
  refine M.pV (pc := 2) (c_X8_isBath  (by first | assumption | omega) (by first | assumption | omega)) mv_X8_170 [0] rfl rfl rfl 0 rfl rfl rfl rfl (Nat.le_of_ble_eq_true rfl) rfl ⟨(Nat.le_of_ble_eq_true rfl), (Nat.le_of_ble_eq_true rfl)⟩ ⟨(Nat.le_of_ble_eq_true rfl), (Nat.le_of_ble_eq_true rfl)⟩ rfl dX8_likely_2 ?_
  refine M.if_eqP (pc := 5) (tgt := 17) dX8_likely_5 (by decide) (fun c5 => ?_) (fun c5 => ?_)
  · refine M.ldc (pc := 17) (-1000000001) lc_X8_173 (by decide +kernel) dX8_likely_17 ?_
    exact EI (vch, gl, gh) _ _ _ _ dX8_likely_19 (Or.inl rfl) (eqI (by unfold aLikely; (repeat' split) <;> first | omega | rfl)) (rfl) (hRX)
  · refine M.aloadn (pc := 8) 0 rfl rfl dX8_likely_8 ?_
    refine M.iload (pc := 9) (i := 4) rfl dX8_likely_9 ?_
    refine M.pV (pc := 11) (c_X8_isBather  (by first | assumption | omega) (by first | assumption | omega)) mv_X8_176 [0] rfl rfl rfl 0 rfl rfl rfl rfl (Nat.le_of_ble_eq_true rfl) rfl ⟨(Nat.le_of_ble_eq_true rfl), (Nat.le_of_ble_eq_true rfl)⟩ ⟨(Nat.le_of_ble_eq_true rfl), (Nat.le_of_ble_eq_true rfl)⟩ rfl dX8_likely_11 ?_
    refine M.if_neP (pc := 14) (tgt := 20) dX8_likely_14 (by decide) (fun c14 => ?_) (fun c14 => ?_)
    · refine M.iloadn (pc := 20) 2 rfl rfl dX8_likely_20 ?_
      refine M.pS (pc := 21) (c_X8_isHour  (by first | assumption | omega)) ms_X8_198 [] rfl rfl rfl rfl (Nat.le_of_ble_eq_true rfl) rfl ⟨(Nat.le_of_ble_eq_true rfl), (Nat.le_of_ble_eq_true rfl)⟩ ⟨(Nat.le_of_ble_eq_true rfl), (Nat.le_of_ble_eq_true rfl)⟩ rfl dX8_likely_21 ?_
      refine M.if_eqP (pc := 24) (tgt := 34) dX8_likely_24 (by decide) (fun c24 => ?_) (fun c24 => ?_)
      · refine M.ldc (pc := 34) (-1000000002) lc_X8_76 (by decide +kernel) dX8_likely_34 ?_
        exact EI (vch, gl, gh) _ _ _ _ dX8_likely_36 (Or.inl rfl) (eqI (by unfold aLikely; (repeat' split) <;> first | omega | rfl)) (rfl) (hRX)
      · refine M.iloadn (pc := 27) 3 rfl rfl dX8_likely_27 ?_
        refine M.pS (pc := 28) (c_X8_isHeight  (by first | assumption | omega)) ms_X8_208 [] rfl rfl rfl rfl (Nat.le_of_ble_eq_true rfl) rfl ⟨(Nat.le_of_ble_eq_true rfl), (Nat.le_of_ble_eq_true rfl)⟩ ⟨(Nat.le_of_ble_eq_true rfl), (Nat.le_of_ble_eq_true rfl)⟩ rfl dX8_likely_28 ?_
        refine M.if_neP (pc := 31) (tgt := 37) dX8_likely_31 (by decide) (fun c31 => ?_) (fun c31 => ?_)
        · refine M.aloadn (pc := 37) 0 rfl rfl dX8_likely_37 ?_
          refine M.mV (pc := 38) (c_X8_findEnds  (by first | assumption | omega) (by first | assumption | omega) (by first | assumption | omega) (by first | assumption | omega) (by first | assumption | omega) (by first | assumption | omega) (by first | assumption | omega)) mv_X8_181 [0, 1, 2, 3, 4, 5] rfl rfl rfl 0 rfl rfl rfl rfl (Nat.le_of_ble_eq_true rfl) rfl ⟨(Nat.le_of_ble_eq_true rfl), (Nat.le_of_ble_eq_true rfl)⟩ ⟨(Nat.le_of_ble_eq_true rfl), (Nat.le_of_ble_eq_true rfl)⟩ rfl (fun _ => rfl) dX8_likely_38 (fun u38 hu38 => ?_)
          obtain ⟨cl38, ch38, l38, h38⟩ := u38
          dsimp only [putL, List.set_cons_zero, List.set_cons_succ, Option.toList, List.cons_append, List.nil_append] at hu38 ⊢
          have heq := (hu38.2.one hE).2
          have hrg := hu38.2.rg (nb := vb) hT
          refine M.lconst (pc := 41) 0 (by decide +kernel) dX8_likely_41 ?_
          refine M.lstore (pc := 42) (i := 5) (Nat.le_of_ble_eq_true rfl) rfl dX8_likely_42 ?_
          dsimp only [List.set_cons_zero, List.set_cons_succ]
          refine M.lconst (pc := 44) 0 (by decide +kernel) dX8_likely_44 ?_
          refine M.lstore (pc := 45) (i := 7) (Nat.le_of_ble_eq_true rfl) rfl dX8_likely_45 ?_
          dsimp only [List.set_cons_zero, List.set_cons_succ]
          refine M.iconst (pc := 47) dX8_likely_47 ?_
          refine M.istore (pc := 48) (i := 9) (Nat.le_of_ble_eq_true rfl) rfl dX8_likely_48 ?_
          dsimp only [List.set_cons_zero, List.set_cons_succ]
          have L50 : ∀ (fu : Nat) {S al wi : Int}, (0 ≤ S ∧ S ≤ p2 vn) → (al = sumU (lkA gb gt el eu vn b h v) S.toNat) → (wi = sumU (lkW gb gt el eu vn b h v k) S.toNat) → (p2 vn - S).toNat < fu → V 0 0 50 [(m, eO 8 [.int (iI vb), .ref aBath, .int (iI vn), .ref aBather, .int (iI vo), .int (iI vm), .ref aMorn, .int (iI vs), .ref aText, .int (iI vt), .int (iI vf), .int (iI va), .long (lI vsd), .int (iI vw), .int (iI vu), .int (iI vna), .int (iI vrb), .ref aRB, .int (iI vrn), .ref aRN, .int (iI vro), .ref aLow, .ref aHigh, .int (iI (pI (ch38 = true))), .ref aNeeds, .ref aLikes, .ref aHts, .int (iI vtr), .int (iI vbk), .ref aBook, .ref aImg, .ref aKept]), (aBath, eI G 8 gb), (aBather, eI G 24 gt), (aMorn, eI G 48 gm), (aLow, eI G 6 l38), (aHigh, eI G 6 h38)] [some (.ref m), some (.int (iI b)), some (.int (iI h)), some (.int (iI v)), some (.int (iI k)), some (.long (lI al)), none, some (.long (lI wi)), none, some (.int (iI S))] [] := by
            intro fu
            induction fu with
            | zero => intro S al wi hS hal hwi hm; exact absurd hm (Nat.not_lt_zero _)
            | succ fu ih50 =>
              intro S al wi hS hal hwi hm50
              have hal2 := sumU_b (f := (lkA gb gt el eu vn b h v)) S.toNat (fun j _ => hAb j)
              have hwi2 := sumU_b (f := (lkW gb gt el eu vn b h v k)) S.toNat (fun j _ => hWb j)
              rw [← hal] at hal2
              rw [← hwi] at hwi2
              refine M.iload (pc := 50) (i := 9) rfl dX8_likely_50 ?_
              refine M.iconst (pc := 52) dX8_likely_52 ?_
              refine M.aloadn (pc := 53) 0 rfl rfl dX8_likely_53 ?_
              refine M.getf (pc := 54) fg_X8_67 0 rfl rfl dX8_likely_54 ?_
              refine M.ishl (pc := 57) (bit_shl1 hn.1 (by omega)) dX8_likely_57 ?_
              refine M.icmp_ge (pc := 58) (tgt := 115) dX8_likely_58 (by decide) (by omega) (by omega) (fun c58 => ?_) (fun c58 => ?_)
              · have hSe : S = p2 vn := by omega
                subst hSe
                refine M.lload (pc := 115) (i := 5) rfl dX8_likely_115 ?_
                refine M.lconst (pc := 117) 0 (by decide +kernel) dX8_likely_117 ?_
                refine M.lcmp (pc := 118) (by omega) (by omega) dX8_likely_118 ?_
                refine M.if_ne (pc := 119) (tgt := 126) dX8_likely_119 (by decide) (by exact lcR _ _) (fun c119 => ?_) (fun c119 => ?_)
                · refine M.lload (pc := 126) (i := 7) rfl dX8_likely_126 ?_
                  refine M.ldc2 (pc := 128) (1000000) lc_X8_249 (by decide +kernel) dX8_likely_128 ?_
                  refine M.lmul (pc := 131) dX8_likely_131 ?_
                  refine M.lload (pc := 132) (i := 5) rfl dX8_likely_132 ?_
                  refine M.ldiv (pc := 134) (by omega) (by omega) dX8_likely_134 ?_
                  refine M.l2i (pc := 135) dX8_likely_135 ?_
                  have hA : aLikely gb gt el eu vb vn b h v k = lkV wi al := by unfold aLikely; rw [if_neg (by omega), if_neg (by omega), hal, hwi]
                  exact EI (ch38, l38, h38) _ _ _ _ dX8_likely_136 (Or.inl rfl) (eqI (by rw [hA]; unfold lkV; first | rw [if_pos (lc0 c119)] | rw [if_neg (lc1 c119)])) (rfl) (hu38.1)
                · refine M.iconst (pc := 122) dX8_likely_122 ?_
                  refine M.goto (pc := 123) (tgt := 136) dX8_likely_123 (by decide) ?_
                  have hA : aLikely gb gt el eu vb vn b h v k = lkV wi al := by unfold aLikely; rw [if_neg (by omega), if_neg (by omega), hal, hwi]
                  exact EI (ch38, l38, h38) _ _ _ _ dX8_likely_136 (Or.inl rfl) (eqI (by rw [hA]; unfold lkV; first | rw [if_pos (lc0 c119)] | rw [if_neg (lc1 c119)])) (rfl) (hu38.1)
              · have hcg := cbP_cg (gb := gb) (b := b) (h := h) (v := v) (S := S) hn.1 heq
                have hsa := sumU_s (lkA gb gt el eu vn b h v) hS.1
                have hsw := sumU_s (lkW gb gt el eu vn b h v k) hS.1
                have hos := hob S
                rw [← hal] at hsa
                rw [← hwi] at hsw
                refine M.aloadn (pc := 61) 0 rfl rfl dX8_likely_61 ?_
                refine M.iloadn (pc := 62) 1 rfl rfl dX8_likely_62 ?_
                refine M.iloadn (pc := 63) 2 rfl rfl dX8_likely_63 ?_
                refine M.iloadn (pc := 64) 3 rfl rfl dX8_likely_64 ?_
                refine M.iload (pc := 65) (i := 9) rfl dX8_likely_65 ?_
                refine M.pV (pc := 67) (c_X8_canBeIn (gb := gb) (by first | assumption | omega) (by first | assumption | omega) (by first | assumption | omega) (by first | assumption | omega) (by first | assumption | omega) (by first | assumption | omega) (by first | assumption | omega) (by first | assumption | omega)) mv_X8_237 [0, 1, 4, 5] rfl rfl rfl 0 rfl rfl rfl rfl (Nat.le_of_ble_eq_true rfl) rfl ⟨(Nat.le_of_ble_eq_true rfl), (Nat.le_of_ble_eq_true rfl)⟩ ⟨(Nat.le_of_ble_eq_true rfl), (Nat.le_of_ble_eq_true rfl)⟩ rfl dX8_likely_67 ?_
                have L109 : ∀ {a3 w3 : Int}, (a3 = al + (lkA gb gt el eu vn b h v) S) → (w3 = wi + (lkW gb gt el eu vn b h v k) S) → V 0 0 109 [(m, eO 8 [.int (iI vb), .ref aBath, .int (iI vn), .ref aBather, .int (iI vo), .int (iI vm), .ref aMorn, .int (iI vs), .ref aText, .int (iI vt), .int (iI vf), .int (iI va), .long (lI vsd), .int (iI vw), .int (iI vu), .int (iI vna), .int (iI vrb), .ref aRB, .int (iI vrn), .ref aRN, .int (iI vro), .ref aLow, .ref aHigh, .int (iI (pI (ch38 = true))), .ref aNeeds, .ref aLikes, .ref aHts, .int (iI vtr), .int (iI vbk), .ref aBook, .ref aImg, .ref aKept]), (aBath, eI G 8 gb), (aBather, eI G 24 gt), (aMorn, eI G 48 gm), (aLow, eI G 6 l38), (aHigh, eI G 6 h38)] [some (.ref m), some (.int (iI b)), some (.int (iI h)), some (.int (iI v)), some (.int (iI k)), some (.long (lI a3)), none, some (.long (lI w3)), none, some (.int (iI S))] [] := by
                  intro a3 w3 ha3 hw3
                  refine M.iinc (pc := 109) (i := 9) rfl rfl dX8_likely_109 ?_
                  dsimp only [List.set_cons_zero, List.set_cons_succ]
                  refine M.goto (pc := 112) (tgt := 50) dX8_likely_112 (by decide) ?_
                  exact ih50  (by first | assumption | omega) (by rw [hsa]; exact ha3) (by rw [hsw]; exact hw3) (by omega)
                rw [hcg]
                refine M.if_eqP (pc := 70) (tgt := 109) dX8_likely_70 (by decide) (fun c70 => ?_) (fun c70 => ?_)
                · exact L109  (by unfold lkA; rw [if_neg c70, Int.add_zero]) (by unfold lkW; rw [if_neg (fun z => c70 z.1), Int.add_zero])
                · refine M.lload (pc := 73) (i := 5) rfl dX8_likely_73 ?_
                  refine M.aloadn (pc := 75) 0 rfl rfl dX8_likely_75 ?_
                  refine M.iload (pc := 76) (i := 9) rfl dX8_likely_76 ?_
                  refine M.pV (pc := 78) (c_X8_oddsOf  (by first | assumption | omega) (by first | assumption | omega) (by first | assumption | omega)) mv_X8_245 [0, 2] rfl rfl rfl 0 rfl rfl rfl rfl (Nat.le_of_ble_eq_true rfl) rfl ⟨(Nat.le_of_ble_eq_true rfl), (Nat.le_of_ble_eq_true rfl)⟩ ⟨(Nat.le_of_ble_eq_true rfl), (Nat.le_of_ble_eq_true rfl)⟩ rfl dX8_likely_78 ?_
                  refine M.ladd (pc := 81) dX8_likely_81 ?_
                  refine M.lstore (pc := 82) (i := 5) (Nat.le_of_ble_eq_true rfl) rfl dX8_likely_82 ?_
                  dsimp only [List.set_cons_zero, List.set_cons_succ]
                  refine M.lload (pc := 84) (i := 7) rfl dX8_likely_84 ?_
                  refine M.iload (pc := 86) (i := 9) rfl dX8_likely_86 ?_
                  refine M.iload (pc := 88) (i := 4) rfl dX8_likely_88 ?_
                  have L106 : ∀ {z : Int}, (z = (lkW gb gt el eu vn b h v k) S) → V 0 0 106 [(m, eO 8 [.int (iI vb), .ref aBath, .int (iI vn), .ref aBather, .int (iI vo), .int (iI vm), .ref aMorn, .int (iI vs), .ref aText, .int (iI vt), .int (iI vf), .int (iI va), .long (lI vsd), .int (iI vw), .int (iI vu), .int (iI vna), .int (iI vrb), .ref aRB, .int (iI vrn), .ref aRN, .int (iI vro), .ref aLow, .ref aHigh, .int (iI (pI (ch38 = true))), .ref aNeeds, .ref aLikes, .ref aHts, .int (iI vtr), .int (iI vbk), .ref aBook, .ref aImg, .ref aKept]), (aBath, eI G 8 gb), (aBather, eI G 24 gt), (aMorn, eI G 48 gm), (aLow, eI G 6 l38), (aHigh, eI G 6 h38)] [some (.ref m), some (.int (iI b)), some (.int (iI h)), some (.int (iI v)), some (.int (iI k)), some (.long (lI (al + oddsN gt S vn.toNat))), none, some (.long (lI wi)), none, some (.int (iI S))] [.long (lI z), .long (lI wi)] := by
                    intro z hz
                    refine M.ladd (pc := 106) dX8_likely_106 ?_
                    refine M.lstore (pc := 107) (i := 7) (Nat.le_of_ble_eq_true rfl) rfl dX8_likely_107 ?_
                    dsimp only [List.set_cons_zero, List.set_cons_succ]
                    exact L109  (by unfold lkA; rw [if_pos c70]) (by rw [hz])
                  refine M.pS (pc := 90) (c_X8_has  (by first | assumption | omega) (by first | assumption | omega) (by first | assumption | omega) (by first | assumption | omega)) ms_X8_191 [] rfl rfl rfl rfl (Nat.le_of_ble_eq_true rfl) rfl ⟨(Nat.le_of_ble_eq_true rfl), (Nat.le_of_ble_eq_true rfl)⟩ ⟨(Nat.le_of_ble_eq_true rfl), (Nat.le_of_ble_eq_true rfl)⟩ rfl dX8_likely_90 ?_
                  refine M.if_eqP (pc := 93) (tgt := 105) dX8_likely_93 (by decide) (fun c93 => ?_) (fun c93 => ?_)
                  · refine M.lconst (pc := 105) 0 (by decide +kernel) dX8_likely_105 ?_
                    exact L106  (by unfold lkW; rw [if_neg (fun z => c93 z.2)])
                  · refine M.aloadn (pc := 96) 0 rfl rfl dX8_likely_96 ?_
                    refine M.iload (pc := 97) (i := 9) rfl dX8_likely_97 ?_
                    refine M.pV (pc := 99) (c_X8_oddsOf  (by first | assumption | omega) (by first | assumption | omega) (by first | assumption | omega)) mv_X8_245 [0, 2] rfl rfl rfl 0 rfl rfl rfl rfl (Nat.le_of_ble_eq_true rfl) rfl ⟨(Nat.le_of_ble_eq_true rfl), (Nat.le_of_ble_eq_true rfl)⟩ ⟨(Nat.le_of_ble_eq_true rfl), (Nat.le_of_ble_eq_true rfl)⟩ rfl dX8_likely_99 ?_
                    refine M.goto (pc := 102) (tgt := 106) dX8_likely_102 (by decide) ?_
                    exact L106  (by unfold lkW; rw [if_pos ⟨c70, c93⟩])
          exact L50 _  (by first | assumption | omega) (by rfl) (by rfl) (Nat.lt_succ_self _)
        · refine M.ldc (pc := 34) (-1000000002) lc_X8_76 (by decide +kernel) dX8_likely_34 ?_
          exact EI (vch, gl, gh) _ _ _ _ dX8_likely_36 (Or.inl rfl) (eqI (by unfold aLikely; (repeat' split) <;> first | omega | rfl)) (rfl) (hRX)
    · refine M.ldc (pc := 17) (-1000000001) lc_X8_173 (by decide +kernel) dX8_likely_17 ?_
      exact EI (vch, gl, gh) _ _ _ _ dX8_likely_19 (Or.inl rfl) (eqI (by unfold aLikely; (repeat' split) <;> first | omega | rfl)) (rfl) (hRX)
set_option maxHeartbeats 4000000 in
set_option maxRecDepth 100000 in
theorem c_X8_called {l : Launch} {G : GT} {m aBath aBather aMorn aText aRB aRN aLow aHigh aNeeds aLikes aHts aBook aImg aKept : Nat} {vb vn vo vm vs vt vf va vw vu vna vrb vrn vro vtr vbk vsd : Int} {vch : Bool} {gb : Int → Int} {gt : Int → Int} {gm : Int → Int} {gl : Int → Int} {gh : Int → Int} {ecl : Bool} {el eu : Int → Int} {g w : Int} (hn : 0 ≤ vn ∧ vn ≤ 6) (hnb : 0 ≤ vb ∧ vb ≤ 2) (hc : 0 ≤ vm ∧ vm ≤ 12) (hV : HV gb vb) (hT : HVT gt vn) (hM : HM gm vm vb vn) (hRX : RX gl gh) (hE : EndsOf vn vm (fU gt) (fV gt) (mS gm) (mL gb gm) (mG gb gm) (p2 vm - 1) ecl el eu) (hrg : InR g) (hrw : InR w) : Con l G yX8_called cX8_called 12 (some .int) { frames := 5, cells := 0, slots := 0, locals := 119 } [.ref m, .int (iI g), .int (iI w)] [(m, eO 8 [.int (iI vb), .ref aBath, .int (iI vn), .ref aBather, .int (iI vo), .int (iI vm), .ref aMorn, .int (iI vs), .ref aText, .int (iI vt), .int (iI vf), .int (iI va), .long (lI vsd), .int (iI vw), .int (iI vu), .int (iI vna), .int (iI vrb), .ref aRB, .int (iI vrn), .ref aRN, .int (iI vro), .ref aLow, .ref aHigh, .int (iI (pI (vch = true))), .ref aNeeds, .ref aLikes, .ref aHts, .int (iI vtr), .int (iI vbk), .ref aBook, .ref aImg, .ref aKept]), (aBath, eI G 8 gb), (aBather, eI G 24 gt), (aMorn, eI G 48 gm), (aLow, eI G 6 gl), (aHigh, eI G 6 gh)] (S := Bool × (Int → Int) × (Int → Int)) (fun _ => some (.int (iI (aCalled gb gt el eu vb vn g w)))) (fun u => [(m, eO 8 [.int (iI vb), .ref aBath, .int (iI vn), .ref aBather, .int (iI vo), .int (iI vm), .ref aMorn, .int (iI vs), .ref aText, .int (iI vt), .int (iI vf), .int (iI va), .long (lI vsd), .int (iI vw), .int (iI vu), .int (iI vna), .int (iI vrb), .ref aRB, .int (iI vrn), .ref aRN, .int (iI vro), .ref aLow, .ref aHigh, .int (iI (pI (u.1 = true))), .ref aNeeds, .ref aLikes, .ref aHts, .int (iI vtr), .int (iI vbk), .ref aBook, .ref aImg, .ref aKept]), (aBath, eI G 8 gb), (aBather, eI G 24 gt), (aMorn, eI G 48 gm), (aLow, eI G 6 u.2.1), (aHigh, eI G 6 u.2.2)]) (fun u => RX u.2.1 u.2.2) := by
  refine Con.mk (by decide +kernel) [some (.ref m), some (.int (iI g)), some (.int (iI w)), none, none, none, none, none, none, none, none, none] rfl (Nat.le_of_ble_eq_true rfl) rfl ?_
  intro V M EI EL EV EA
  refine M.iloadn (pc := 0) 1 rfl rfl dX8_called_0 ?_
  refine M.i2l (pc := 1) (by omega) dX8_called_1 ?_
  refine M.lconst (pc := 2) 0 (by decide +kernel) dX8_called_2 ?_
  refine M.ldc2 (pc := 3) (999) lc_X8_289 (by decide +kernel) dX8_called_3 ?_
  refine M.pS (pc := 6) (c_X8_in  (by first | assumption | omega) (by first | assumption | omega) (by first | assumption | omega)) ms_X8_63 [] rfl rfl rfl rfl (Nat.le_of_ble_eq_true rfl) rfl ⟨(Nat.le_of_ble_eq_true rfl), (Nat.le_of_ble_eq_true rfl)⟩ ⟨(Nat.le_of_ble_eq_true rfl), (Nat.le_of_ble_eq_true rfl)⟩ rfl dX8_called_6 ?_
  refine M.if_eqP (pc := 9) (tgt := 22) dX8_called_9 (by decide) (fun c9 => ?_) (fun c9 => ?_)
  · refine M.ldc (pc := 22) (-1000000002) lc_X8_76 (by decide +kernel) dX8_called_22 ?_
    exact EI (vch, gl, gh) _ _ _ _ dX8_called_24 (Or.inl rfl) (eqI (by unfold aCalled; (repeat' split) <;> first | omega | rfl)) (rfl) (hRX)
  · refine M.iloadn (pc := 12) 2 rfl rfl dX8_called_12 ?_
    refine M.i2l (pc := 13) (by omega) dX8_called_13 ?_
    refine M.lconst (pc := 14) 0 (by decide +kernel) dX8_called_14 ?_
    refine M.lconst (pc := 15) 1 (by decide +kernel) dX8_called_15 ?_
    refine M.pS (pc := 16) (c_X8_in  (by first | assumption | omega) (by first | assumption | omega) (by first | assumption | omega)) ms_X8_63 [] rfl rfl rfl rfl (Nat.le_of_ble_eq_true rfl) rfl ⟨(Nat.le_of_ble_eq_true rfl), (Nat.le_of_ble_eq_true rfl)⟩ ⟨(Nat.le_of_ble_eq_true rfl), (Nat.le_of_ble_eq_true rfl)⟩ rfl dX8_called_16 ?_
    refine M.if_neP (pc := 19) (tgt := 25) dX8_called_19 (by decide) (fun c19 => ?_) (fun c19 => ?_)
    · refine M.aloadn (pc := 25) 0 rfl rfl dX8_called_25 ?_
      refine M.getf (pc := 26) fg_X8_60 0 rfl rfl dX8_called_26 ?_
      refine M.if_ne (pc := 29) (tgt := 36) dX8_called_29 (by decide) (by omega) (fun c29 => ?_) (fun c29 => ?_)
      · refine M.aloadn (pc := 36) 0 rfl rfl dX8_called_36 ?_
        refine M.mV (pc := 37) (c_X8_findEnds  (by first | assumption | omega) (by first | assumption | omega) (by first | assumption | omega) (by first | assumption | omega) (by first | assumption | omega) (by first | assumption | omega) (by first | assumption | omega)) mv_X8_181 [0, 1, 2, 3, 4, 5] rfl rfl rfl 0 rfl rfl rfl rfl (Nat.le_of_ble_eq_true rfl) rfl ⟨(Nat.le_of_ble_eq_true rfl), (Nat.le_of_ble_eq_true rfl)⟩ ⟨(Nat.le_of_ble_eq_true rfl), (Nat.le_of_ble_eq_true rfl)⟩ rfl (fun _ => rfl) dX8_called_37 (fun u37 hu37 => ?_)
        obtain ⟨cl37, ch37, l37, h37⟩ := u37
        dsimp only [putL, List.set_cons_zero, List.set_cons_succ, Option.toList, List.cons_append, List.nil_append] at hu37 ⊢
        have heq := (hu37.2.one hE).2
        have hrg := hu37.2.rg (nb := vb) hT
        have hrE := hE.rg (nb := vb) hT
        have hb1 := fun z : 1 < vb => (hMea_v hV (b := 1) (by omega) z).1
        have hb0 := (hMea_v hV (b := 0) (by omega) (by omega : 0 < vb)).1
        refine M.aloadn (pc := 40) 0 rfl rfl dX8_called_40 ?_
        have L66 : ∀ {bb : Int}, (bb = clB gb vb) → V 0 0 66 [(m, eO 8 [.int (iI vb), .ref aBath, .int (iI vn), .ref aBather, .int (iI vo), .int (iI vm), .ref aMorn, .int (iI vs), .ref aText, .int (iI vt), .int (iI vf), .int (iI va), .long (lI vsd), .int (iI vw), .int (iI vu), .int (iI vna), .int (iI vrb), .ref aRB, .int (iI vrn), .ref aRN, .int (iI vro), .ref aLow, .ref aHigh, .int (iI (pI (ch37 = true))), .ref aNeeds, .ref aLikes, .ref aHts, .int (iI vtr), .int (iI vbk), .ref aBook, .ref aImg, .ref aKept]), (aBath, eI G 8 gb), (aBather, eI G 24 gt), (aMorn, eI G 48 gm), (aLow, eI G 6 l37), (aHigh, eI G 6 h37)] [some (.ref m), some (.int (iI g)), some (.int (iI w)), none, none, none, none, none, none, none, none, none] [.int (iI bb)] := by
          intro bb hb
          have hbb : 0 ≤ bb ∧ bb < vb := by rw [hb]; unfold clB; split <;> omega
          refine M.istoren (pc := 66) 3 rfl (Nat.le_of_ble_eq_true rfl) rfl dX8_called_66 ?_
          dsimp only [List.set_cons_zero, List.set_cons_succ]
          refine M.iconst (pc := 67) dX8_called_67 ?_
          refine M.istore (pc := 68) (i := 4) (Nat.le_of_ble_eq_true rfl) rfl dX8_called_68 ?_
          dsimp only [List.set_cons_zero, List.set_cons_succ]
          refine M.iconst (pc := 70) dX8_called_70 ?_
          refine M.istore (pc := 71) (i := 5) (Nat.le_of_ble_eq_true rfl) rfl dX8_called_71 ?_
          dsimp only [List.set_cons_zero, List.set_cons_succ]
          refine M.iconst (pc := 73) dX8_called_73 ?_
          refine M.istore (pc := 74) (i := 6) (Nat.le_of_ble_eq_true rfl) rfl dX8_called_74 ?_
          dsimp only [List.set_cons_zero, List.set_cons_succ]
          have L76 : ∀ (fu : Nat) {k n w2 : Int}, (0 ≤ k ∧ k ≤ vn) → (0 ≤ n ∧ n ≤ k) → (n = clN el eu g k.toNat) → (w2 = clM gb gt el eu vb g k.toNat) → (0 ≤ w2 ∧ w2 ≤ 2000) → (vn - k).toNat < fu → V 0 0 76 [(m, eO 8 [.int (iI vb), .ref aBath, .int (iI vn), .ref aBather, .int (iI vo), .int (iI vm), .ref aMorn, .int (iI vs), .ref aText, .int (iI vt), .int (iI vf), .int (iI va), .long (lI vsd), .int (iI vw), .int (iI vu), .int (iI vna), .int (iI vrb), .ref aRB, .int (iI vrn), .ref aRN, .int (iI vro), .ref aLow, .ref aHigh, .int (iI (pI (ch37 = true))), .ref aNeeds, .ref aLikes, .ref aHts, .int (iI vtr), .int (iI vbk), .ref aBook, .ref aImg, .ref aKept]), (aBath, eI G 8 gb), (aBather, eI G 24 gt), (aMorn, eI G 48 gm), (aLow, eI G 6 l37), (aHigh, eI G 6 h37)] [some (.ref m), some (.int (iI g)), some (.int (iI w)), some (.int (iI bb)), some (.int (iI n)), some (.int (iI w2)), some (.int (iI k)), none, none, none, none, none] [] := by
            intro fu
            induction fu with
            | zero => intro k n w2 hk hnw hn2 hw2 hwb2 hm; exact absurd hm (Nat.not_lt_zero _)
            | succ fu ih76 =>
              intro k n w2 hk hnw hn2 hw2 hwb2 hm76
              have hnb2 := hnw.1
              refine M.iload (pc := 76) (i := 6) rfl dX8_called_76 ?_
              refine M.aloadn (pc := 78) 0 rfl rfl dX8_called_78 ?_
              refine M.getf (pc := 79) fg_X8_67 0 rfl rfl dX8_called_79 ?_
              refine M.icmp_ge (pc := 82) (tgt := 214) dX8_called_82 (by decide) (by omega) (by omega) (fun c82 => ?_) (fun c82 => ?_)
              · have hke : k = vn := by omega
                subst hke
                refine M.iloadn (pc := 214) 2 rfl rfl dX8_called_214 ?_
                refine M.if_ne (pc := 215) (tgt := 223) dX8_called_215 (by decide) (by omega) (fun c215 => ?_) (fun c215 => ?_)
                · refine M.iload (pc := 223) (i := 5) rfl dX8_called_223 ?_
                  exact EI (ch37, l37, h37) _ _ _ _ dX8_called_225 (Or.inl rfl) (eqI (by unfold aCalled; rw [if_neg (by omega), if_neg (by omega)]; first | rw [if_pos (by omega), hn2] | rw [if_neg (by omega), hw2])) (rfl) (hu37.1)
                · refine M.iload (pc := 218) (i := 4) rfl dX8_called_218 ?_
                  refine M.goto (pc := 220) (tgt := 225) dX8_called_220 (by decide) ?_
                  exact EI (ch37, l37, h37) _ _ _ _ dX8_called_225 (Or.inl rfl) (eqI (by unfold aCalled; rw [if_neg (by omega), if_neg (by omega)]; first | rw [if_pos (by omega), hn2] | rw [if_neg (by omega), hw2])) (rfl) (hu37.1)
              · have hek := heq k hk.1 (by omega)
                have hrk := hrE k hk.1 (by omega)
                have hst := clN_s el eu g hk.1
                have hsm := clM_s gb gt el eu vb g hk.1
                refine M.aloadn (pc := 85) 0 rfl rfl dX8_called_85 ?_
                refine M.getf (pc := 86) fg_X8_35 0 rfl rfl dX8_called_86 ?_
                refine M.iload (pc := 89) (i := 6) rfl dX8_called_89 ?_
                refine M.iald (pc := 91) 4 rfl (by omega) (by omega) dX8_called_91 ?_
                rw [hek.1]
                refine M.istore (pc := 92) (i := 7) (Nat.le_of_ble_eq_true rfl) rfl dX8_called_92 ?_
                dsimp only [List.set_cons_zero, List.set_cons_succ]
                refine M.aloadn (pc := 94) 0 rfl rfl dX8_called_94 ?_
                refine M.getf (pc := 95) fg_X8_38 0 rfl rfl dX8_called_95 ?_
                refine M.iload (pc := 98) (i := 6) rfl dX8_called_98 ?_
                refine M.iald (pc := 100) 5 rfl (by omega) (by omega) dX8_called_100 ?_
                rw [hek.2]
                refine M.istore (pc := 101) (i := 8) (Nat.le_of_ble_eq_true rfl) rfl dX8_called_101 ?_
                dsimp only [List.set_cons_zero, List.set_cons_succ]
                have L186 : ∀ {n3 lo hi : Int}, (n3 = n + (if g < eu k - el k then 1 else 0)) → (hi - lo = clW gb gt el eu vb g k) → ((-100000 ≤ lo ∧ lo ≤ 1000000000) ∧ (-100000 ≤ hi ∧ hi ≤ 999)) → (0 ≤ lo) → V 0 0 186 [(m, eO 8 [.int (iI vb), .ref aBath, .int (iI vn), .ref aBather, .int (iI vo), .int (iI vm), .ref aMorn, .int (iI vs), .ref aText, .int (iI vt), .int (iI vf), .int (iI va), .long (lI vsd), .int (iI vw), .int (iI vu), .int (iI vna), .int (iI vrb), .ref aRB, .int (iI vrn), .ref aRN, .int (iI vro), .ref aLow, .ref aHigh, .int (iI (pI (ch37 = true))), .ref aNeeds, .ref aLikes, .ref aHts, .int (iI vtr), .int (iI vbk), .ref aBook, .ref aImg, .ref aKept]), (aBath, eI G 8 gb), (aBather, eI G 24 gt), (aMorn, eI G 48 gm), (aLow, eI G 6 l37), (aHigh, eI G 6 h37)] [some (.ref m), some (.int (iI g)), some (.int (iI w)), some (.int (iI bb)), some (.int (iI n3)), some (.int (iI w2)), some (.int (iI k)), some (.int (iI lo)), some (.int (iI hi)), none, none, none] [] := by
                  intro n3 lo hi hn3 hw3 hlb hlb2
                  refine M.iload (pc := 186) (i := 8) rfl dX8_called_186 ?_
                  have L206 : ∀ {x : Int}, (x = max w2 (clW gb gt el eu vb g k)) → V 0 0 206 [(m, eO 8 [.int (iI vb), .ref aBath, .int (iI vn), .ref aBather, .int (iI vo), .int (iI vm), .ref aMorn, .int (iI vs), .ref aText, .int (iI vt), .int (iI vf), .int (iI va), .long (lI vsd), .int (iI vw), .int (iI vu), .int (iI vna), .int (iI vrb), .ref aRB, .int (iI vrn), .ref aRN, .int (iI vro), .ref aLow, .ref aHigh, .int (iI (pI (ch37 = true))), .ref aNeeds, .ref aLikes, .ref aHts, .int (iI vtr), .int (iI vbk), .ref aBook, .ref aImg, .ref aKept]), (aBath, eI G 8 gb), (aBather, eI G 24 gt), (aMorn, eI G 48 gm), (aLow, eI G 6 l37), (aHigh, eI G 6 h37)] [some (.ref m), some (.int (iI g)), some (.int (iI w)), some (.int (iI bb)), some (.int (iI n3)), some (.int (iI w2)), some (.int (iI k)), none, none, none, none, none] [.int (iI x)] := by
                    intro x hx
                    refine M.istore (pc := 206) (i := 5) (Nat.le_of_ble_eq_true rfl) rfl dX8_called_206 ?_
                    dsimp only [List.set_cons_zero, List.set_cons_succ]
                    refine M.iinc (pc := 208) (i := 6) rfl rfl dX8_called_208 ?_
                    dsimp only [List.set_cons_zero, List.set_cons_succ]
                    refine M.goto (pc := 211) (tgt := 76) dX8_called_211 (by decide) ?_
                    exact ih76  (by first | assumption | omega) (by rw [hn3]; split <;> omega) (by rw [hst, ← hn2]; exact hn3) (by rw [hsm, ← hw2]; exact hx) (by omega) (by omega)
                  refine M.iload (pc := 188) (i := 7) rfl dX8_called_188 ?_
                  refine M.isub (pc := 190) dX8_called_190 ?_
                  refine M.iload (pc := 191) (i := 5) rfl dX8_called_191 ?_
                  refine M.icmp_le (pc := 193) (tgt := 204) dX8_called_193 (by decide) (by omega) (by omega) (fun c193 => ?_) (fun c193 => ?_)
                  · refine M.iload (pc := 204) (i := 5) rfl dX8_called_204 ?_
                    refine M.forget 7 ?_
                    dsimp only [List.set_cons_zero, List.set_cons_succ]
                    refine M.forget 8 ?_
                    dsimp only [List.set_cons_zero, List.set_cons_succ]
                    exact L206  (by first | assumption | omega)
                  · refine M.iload (pc := 196) (i := 8) rfl dX8_called_196 ?_
                    refine M.iload (pc := 198) (i := 7) rfl dX8_called_198 ?_
                    refine M.isub (pc := 200) dX8_called_200 ?_
                    refine M.goto (pc := 201) (tgt := 206) dX8_called_201 (by decide) ?_
                    refine M.forget 7 ?_
                    dsimp only [List.set_cons_zero, List.set_cons_succ]
                    refine M.forget 8 ?_
                    dsimp only [List.set_cons_zero, List.set_cons_succ]
                    exact L206  (by first | assumption | omega)
                refine M.iload (pc := 103) (i := 8) rfl dX8_called_103 ?_
                refine M.iload (pc := 105) (i := 7) rfl dX8_called_105 ?_
                refine M.isub (pc := 107) dX8_called_107 ?_
                refine M.iloadn (pc := 108) 1 rfl rfl dX8_called_108 ?_
                refine M.icmp_le (pc := 109) (tgt := 186) dX8_called_109 (by decide) (by omega) (by omega) (fun c109 => ?_) (fun c109 => ?_)
                · exact L186  (by rw [if_neg (by omega), Int.add_zero]) (by unfold clW; rw [if_neg (by omega)]) (by first | assumption | omega) (by first | assumption | omega)
                · have hTk := (hT k hk.1 (by omega)).2.2.1
                  have hmb := (hMea_v hV hbb.1 hbb.2).1
                  have hwb := hWat_v hV hbb.1 hbb.2 (hr := 0) (by omega)
                  have hhb := hHei_v hV hbb.1 hbb.2 (hr := 0) (s := gt (k * 4 + 2)) (B := 999) (by omega) (by omega) (by omega)
                  have hhe : hHei gb bb 0 (gt (k * 4 + 2)) = clH gb gt vb k := by unfold clH; rw [hb]
                  have hmu := hMul_v hV hbb.1 hbb.2 (v := hHei gb bb 0 (gt (k * 4 + 2))) (by omega) (by omega)
                  have hmo : hMos gb bb 0 (hHei gb bb 0 (gt (k * 4 + 2))) = hHei gb bb 0 (gt (k * 4 + 2)) * hMea gb bb + hMea gb bb - 1 - hWat gb bb 0 := rfl
                  have hls : hLst gb bb 0 (hHei gb bb 0 (gt (k * 4 + 2))) = max 0 (hHei gb bb 0 (gt (k * 4 + 2)) * hMea gb bb - hWat gb bb 0) := rfl
                  have hcw : clW gb gt el eu vb g k = min (eu k) (hMos gb bb 0 (hHei gb bb 0 (gt (k * 4 + 2)))) - max (el k) (hLst gb bb 0 (hHei gb bb 0 (gt (k * 4 + 2)))) := by
                    unfold clW
                    rw [if_pos (by omega), hb, hhe.symm.trans (by rw [hb])]
                  refine M.iinc (pc := 112) (i := 4) rfl rfl dX8_called_112 ?_
                  dsimp only [List.set_cons_zero, List.set_cons_succ]
                  refine M.aloadn (pc := 115) 0 rfl rfl dX8_called_115 ?_
                  refine M.iloadn (pc := 116) 3 rfl rfl dX8_called_116 ?_
                  refine M.iconst (pc := 117) dX8_called_117 ?_
                  refine M.aloadn (pc := 118) 0 rfl rfl dX8_called_118 ?_
                  refine M.getf (pc := 119) fg_X8_13 0 rfl rfl dX8_called_119 ?_
                  refine M.iconst (pc := 122) dX8_called_122 ?_
                  refine M.iload (pc := 123) (i := 6) rfl dX8_called_123 ?_
                  refine M.imul (pc := 125) dX8_called_125 ?_
                  refine M.iconst (pc := 126) dX8_called_126 ?_
                  refine M.iadd (pc := 127) dX8_called_127 ?_
                  refine M.ialdx (pc := 128) (k * 4 + 2) (by omega) 2 rfl (by omega) (by omega) dX8_called_128 ?_
                  refine M.pV (pc := 129) (c_X8_heightOf (gb := gb) (by first | assumption | omega) (by first | assumption | omega) (by first | assumption | omega) (by first | assumption | omega) (by omega)) mv_X8_204 [0, 1] rfl rfl rfl 0 rfl rfl rfl rfl (Nat.le_of_ble_eq_true rfl) rfl ⟨(Nat.le_of_ble_eq_true rfl), (Nat.le_of_ble_eq_true rfl)⟩ ⟨(Nat.le_of_ble_eq_true rfl), (Nat.le_of_ble_eq_true rfl)⟩ rfl dX8_called_129 ?_
                  refine M.istore (pc := 132) (i := 9) (Nat.le_of_ble_eq_true rfl) rfl dX8_called_132 ?_
                  dsimp only [List.set_cons_zero, List.set_cons_succ]
                  refine M.aloadn (pc := 134) 0 rfl rfl dX8_called_134 ?_
                  refine M.iloadn (pc := 135) 3 rfl rfl dX8_called_135 ?_
                  refine M.iconst (pc := 136) dX8_called_136 ?_
                  refine M.iload (pc := 137) (i := 9) rfl dX8_called_137 ?_
                  refine M.pV (pc := 139) (c_X8_leastOf (gb := gb) (by first | assumption | omega) (by first | assumption | omega) (by first | assumption | omega) (by first | assumption | omega) (by first | assumption | omega)) mv_X8_214 [0, 1] rfl rfl rfl 0 rfl rfl rfl rfl (Nat.le_of_ble_eq_true rfl) rfl ⟨(Nat.le_of_ble_eq_true rfl), (Nat.le_of_ble_eq_true rfl)⟩ ⟨(Nat.le_of_ble_eq_true rfl), (Nat.le_of_ble_eq_true rfl)⟩ rfl dX8_called_139 ?_
                  refine M.istore (pc := 142) (i := 10) (Nat.le_of_ble_eq_true rfl) rfl dX8_called_142 ?_
                  dsimp only [List.set_cons_zero, List.set_cons_succ]
                  refine M.aloadn (pc := 144) 0 rfl rfl dX8_called_144 ?_
                  refine M.iloadn (pc := 145) 3 rfl rfl dX8_called_145 ?_
                  refine M.iconst (pc := 146) dX8_called_146 ?_
                  refine M.iload (pc := 147) (i := 9) rfl dX8_called_147 ?_
                  refine M.pV (pc := 149) (c_X8_mostOf (gb := gb) (by first | assumption | omega) (by first | assumption | omega) (by first | assumption | omega) (by first | assumption | omega) (by first | assumption | omega)) mv_X8_211 [0, 1] rfl rfl rfl 0 rfl rfl rfl rfl (Nat.le_of_ble_eq_true rfl) rfl ⟨(Nat.le_of_ble_eq_true rfl), (Nat.le_of_ble_eq_true rfl)⟩ ⟨(Nat.le_of_ble_eq_true rfl), (Nat.le_of_ble_eq_true rfl)⟩ rfl dX8_called_149 ?_
                  refine M.istore (pc := 152) (i := 11) (Nat.le_of_ble_eq_true rfl) rfl dX8_called_152 ?_
                  dsimp only [List.set_cons_zero, List.set_cons_succ]
                  have L168 : ∀ {z : Int}, (z = max (el k) (hLst gb bb 0 (hHei gb bb 0 (gt (k * 4 + 2))))) → V 0 0 168 [(m, eO 8 [.int (iI vb), .ref aBath, .int (iI vn), .ref aBather, .int (iI vo), .int (iI vm), .ref aMorn, .int (iI vs), .ref aText, .int (iI vt), .int (iI vf), .int (iI va), .long (lI vsd), .int (iI vw), .int (iI vu), .int (iI vna), .int (iI vrb), .ref aRB, .int (iI vrn), .ref aRN, .int (iI vro), .ref aLow, .ref aHigh, .int (iI (pI (ch37 = true))), .ref aNeeds, .ref aLikes, .ref aHts, .int (iI vtr), .int (iI vbk), .ref aBook, .ref aImg, .ref aKept]), (aBath, eI G 8 gb), (aBather, eI G 24 gt), (aMorn, eI G 48 gm), (aLow, eI G 6 l37), (aHigh, eI G 6 h37)] [some (.ref m), some (.int (iI g)), some (.int (iI w)), some (.int (iI bb)), some (.int (iI (n + 1))), some (.int (iI w2)), some (.int (iI k)), some (.int (iI (el k))), some (.int (iI (eu k))), none, some (.int (iI (hLst gb bb 0 (hHei gb bb 0 (gt (k * 4 + 2)))))), some (.int (iI (hMos gb bb 0 (hHei gb bb 0 (gt (k * 4 + 2))))))] [.int (iI z)] := by
                    intro z hz
                    refine M.istore (pc := 168) (i := 7) (Nat.le_of_ble_eq_true rfl) rfl dX8_called_168 ?_
                    dsimp only [List.set_cons_zero, List.set_cons_succ]
                    have L184 : ∀ {y : Int}, (y = min (eu k) (hMos gb bb 0 (hHei gb bb 0 (gt (k * 4 + 2))))) → V 0 0 184 [(m, eO 8 [.int (iI vb), .ref aBath, .int (iI vn), .ref aBather, .int (iI vo), .int (iI vm), .ref aMorn, .int (iI vs), .ref aText, .int (iI vt), .int (iI vf), .int (iI va), .long (lI vsd), .int (iI vw), .int (iI vu), .int (iI vna), .int (iI vrb), .ref aRB, .int (iI vrn), .ref aRN, .int (iI vro), .ref aLow, .ref aHigh, .int (iI (pI (ch37 = true))), .ref aNeeds, .ref aLikes, .ref aHts, .int (iI vtr), .int (iI vbk), .ref aBook, .ref aImg, .ref aKept]), (aBath, eI G 8 gb), (aBather, eI G 24 gt), (aMorn, eI G 48 gm), (aLow, eI G 6 l37), (aHigh, eI G 6 h37)] [some (.ref m), some (.int (iI g)), some (.int (iI w)), some (.int (iI bb)), some (.int (iI (n + 1))), some (.int (iI w2)), some (.int (iI k)), some (.int (iI z)), some (.int (iI (eu k))), none, none, none] [.int (iI y)] := by
                      intro y hy
                      refine M.istore (pc := 184) (i := 8) (Nat.le_of_ble_eq_true rfl) rfl dX8_called_184 ?_
                      dsimp only [List.set_cons_zero, List.set_cons_succ]
                      exact L186  (by rw [if_pos (by omega)]) (by rw [hcw, hz, hy]) (by first | assumption | omega) (by first | assumption | omega)
                    refine M.iload (pc := 170) (i := 11) rfl dX8_called_170 ?_
                    refine M.iload (pc := 172) (i := 8) rfl dX8_called_172 ?_
                    refine M.icmp_ge (pc := 174) (tgt := 182) dX8_called_174 (by decide) (by omega) (by omega) (fun c174 => ?_) (fun c174 => ?_)
                    · refine M.iload (pc := 182) (i := 8) rfl dX8_called_182 ?_
                      refine M.forget 10 ?_
                      dsimp only [List.set_cons_zero, List.set_cons_succ]
                      refine M.forget 11 ?_
                      dsimp only [List.set_cons_zero, List.set_cons_succ]
                      exact L184  (by first | assumption | omega)
                    · refine M.iload (pc := 177) (i := 11) rfl dX8_called_177 ?_
                      refine M.goto (pc := 179) (tgt := 184) dX8_called_179 (by decide) ?_
                      refine M.forget 10 ?_
                      dsimp only [List.set_cons_zero, List.set_cons_succ]
                      refine M.forget 11 ?_
                      dsimp only [List.set_cons_zero, List.set_cons_succ]
                      exact L184  (by first | assumption | omega)
                  refine M.iload (pc := 154) (i := 10) rfl dX8_called_154 ?_
                  refine M.iload (pc := 156) (i := 7) rfl dX8_called_156 ?_
                  refine M.icmp_le (pc := 158) (tgt := 166) dX8_called_158 (by decide) (by omega) (by omega) (fun c158 => ?_) (fun c158 => ?_)
                  · refine M.iload (pc := 166) (i := 7) rfl dX8_called_166 ?_
                    refine M.forget 9 ?_
                    dsimp only [List.set_cons_zero, List.set_cons_succ]
                    exact L168  (by first | assumption | omega)
                  · refine M.iload (pc := 161) (i := 10) rfl dX8_called_161 ?_
                    refine M.goto (pc := 163) (tgt := 168) dX8_called_163 (by decide) ?_
                    refine M.forget 9 ?_
                    dsimp only [List.set_cons_zero, List.set_cons_succ]
                    exact L168  (by first | assumption | omega)
          exact L76 _  (by first | assumption | omega) (by first | assumption | omega) (by rfl) (by rfl) (by first | assumption | omega) (Nat.lt_succ_self _)
        refine M.getf (pc := 41) fg_X8_60 0 rfl rfl dX8_called_41 ?_
        refine M.iconst (pc := 44) dX8_called_44 ?_
        refine M.icmp_le (pc := 45) (tgt := 65) dX8_called_45 (by decide) (by omega) (by omega) (fun c45 => ?_) (fun c45 => ?_)
        · refine M.iconst (pc := 65) dX8_called_65 ?_
          exact L66  (by unfold clB; rw [if_neg (by omega)])
        · refine M.aloadn (pc := 48) 0 rfl rfl dX8_called_48 ?_
          refine M.iconst (pc := 49) dX8_called_49 ?_
          refine M.pV (pc := 50) (c_X8_fingerOf  (by first | assumption | omega) (by first | assumption | omega) (by first | assumption | omega)) mv_X8_187 [0, 1] rfl rfl rfl 0 rfl rfl rfl rfl (Nat.le_of_ble_eq_true rfl) rfl ⟨(Nat.le_of_ble_eq_true rfl), (Nat.le_of_ble_eq_true rfl)⟩ ⟨(Nat.le_of_ble_eq_true rfl), (Nat.le_of_ble_eq_true rfl)⟩ rfl dX8_called_50 ?_
          refine M.aloadn (pc := 53) 0 rfl rfl dX8_called_53 ?_
          refine M.iconst (pc := 54) dX8_called_54 ?_
          refine M.pV (pc := 55) (c_X8_fingerOf  (by first | assumption | omega) (by first | assumption | omega) (by first | assumption | omega)) mv_X8_187 [0, 1] rfl rfl rfl 0 rfl rfl rfl rfl (Nat.le_of_ble_eq_true rfl) rfl ⟨(Nat.le_of_ble_eq_true rfl), (Nat.le_of_ble_eq_true rfl)⟩ ⟨(Nat.le_of_ble_eq_true rfl), (Nat.le_of_ble_eq_true rfl)⟩ rfl dX8_called_55 ?_
          refine M.icmp_ge (pc := 58) (tgt := 65) dX8_called_58 (by decide) (by omega) (by omega) (fun c58 => ?_) (fun c58 => ?_)
          · refine M.iconst (pc := 65) dX8_called_65 ?_
            exact L66  (by unfold clB; rw [if_neg (by omega)])
          · refine M.iconst (pc := 61) dX8_called_61 ?_
            refine M.goto (pc := 62) (tgt := 66) dX8_called_62 (by decide) ?_
            exact L66  (by unfold clB; rw [if_pos (by omega)])
      · refine M.ldcw (pc := 32) (-1000000003) lc_X8_291 (by decide +kernel) dX8_called_32 ?_
        exact EI (vch, gl, gh) _ _ _ _ dX8_called_35 (Or.inl rfl) (eqI (by unfold aCalled; (repeat' split) <;> first | omega | rfl)) (rfl) (hRX)
    · refine M.ldc (pc := 22) (-1000000002) lc_X8_76 (by decide +kernel) dX8_called_22 ?_
      exact EI (vch, gl, gh) _ _ _ _ dX8_called_24 (Or.inl rfl) (eqI (by unfold aCalled; (repeat' split) <;> first | omega | rfl)) (rfl) (hRX)
