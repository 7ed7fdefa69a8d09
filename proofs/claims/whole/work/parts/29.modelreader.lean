/-! the reference's reader: signs, words, numbers -/
theorem run_self {P : Int → Bool} {s : Int → Int} {i : Int} (h : P (s i) = false) : run P s i = i := if_neg (by rw [h]; decide)
def sdw (s : Int → Int) (i : Int) : Nat → Int
  | 0 => 0
  | k + 1 => if 1000000000000 < sdw s i k then 2000000000000 else 27 * sdw s i k + s (i + (k : Int)) - 96
theorem sdw_s {s : Int → Int} {i : Int} {k : Nat} (h : sdw s i k ≤ 1000000000000) : sdw s i (k + 1) = 27 * sdw s i k + s (i + (k : Int)) - 96 := if_neg (by omega)
theorem sdw_b {s : Int → Int} {i : Int} : ∀ k : Nat, (∀ j, i ≤ j → j < i + (k : Int) → isLt (s j) = true) → 0 ≤ sdw s i k ∧ sdw s i k ≤ 28000000000000 ∧ (7 ≤ k → 387420489 ≤ sdw s i k) ∧ (1 ≤ k → 1 ≤ sdw s i k) ∧ (2 ≤ k → 28 ≤ sdw s i k) ∧ (3 ≤ k → 757 ≤ sdw s i k) ∧ (4 ≤ k → 20440 ≤ sdw s i k) ∧ (5 ≤ k → 551881 ≤ sdw s i k) ∧ (6 ≤ k → 14900788 ≤ sdw s i k) := by
  intro k
  induction k with
  | zero => intro _; exact ⟨Int.le_refl _, (by decide : (0 : Int) ≤ 28000000000000), by omega, by omega, by omega, by omega, by omega, by omega, by omega⟩
  | succ k ih =>
    intro h
    have h1 := ih (fun j j0 j1 => h j j0 (by omega))
    have h2 := of_decide_eq_true (h (i + (k : Int)) (by omega) (by omega))
    rcases (by omega : sdw s i k ≤ 1000000000000 ∨ 1000000000000 < sdw s i k) with q | q
    · rw [sdw_s q]
      omega
    · have e : sdw s i (k + 1) = 2000000000000 := if_pos q
      rw [e]
      omega
theorem sdw_1 (s : Int → Int) (i : Int) : sdw s i 1 = s i - 96 := by
  have h := sdw_s (s := s) (i := i) (k := 0) (by rw [show sdw s i 0 = 0 from rfl]; decide)
  rw [show sdw s i 0 = 0 from rfl, show i + ((0 : Nat) : Int) = i by omega] at h
  have h : sdw s i 1 = 27 * 0 + s i - 96 := h
  omega
theorem sdw_kd {s : Int → Int} {i e : Int} (hie : i ≤ e) (h : ∀ j, i ≤ j → j < e → isLt (s j) = true) : kdW s i e = if sdw s i (e - i).toNat = 40643 then 0 else if sdw s i (e - i).toNat = 29628900 then 1 else if sdw s i (e - i).toNat = 11047 then 2 else -1 := by
  obtain ⟨k, hk⟩ := Int.eq_ofNat_of_zero_le (show 0 ≤ e - i by omega)
  have he : e = i + (k : Int) := by omega
  subst he
  have ek : (i + (k : Int) - i).toNat = k := by omega
  rw [ek]
  have l : ∀ j : Int, 0 ≤ j → j < (k : Int) → 97 ≤ s (i + j) ∧ s (i + j) ≤ 122 := fun j j0 j1 => of_decide_eq_true (h (i + j) (by omega) (by omega))
  have key : ((sdw s i k = 40643 ↔ (i + (k : Int) - i = 4 ∧ s i = 98 ∧ s (i + 1) = 97 ∧ s (i + 2) = 116 ∧ s (i + 3) = 104)) ∧ (sdw s i k = 29628900 ↔ (i + (k : Int) - i = 6 ∧ s i = 98 ∧ s (i + 1) = 97 ∧ s (i + 2) = 116 ∧ s (i + 3) = 104 ∧ s (i + 4) = 101 ∧ s (i + 5) = 114)) ∧ (sdw s i k = 11047 ↔ (i + (k : Int) - i = 3 ∧ s i = 111 ∧ s (i + 1) = 100 ∧ s (i + 2) = 100))) := by
    have hb := sdw_b (s := s) (i := i) k h
    rcases (by omega : k = 0 ∨ k = 1 ∨ k = 2 ∨ k = 3 ∨ k = 4 ∨ k = 5 ∨ k = 6 ∨ 7 ≤ k) with q | q | q | q | q | q | q | q
    · subst q
      have z0 : sdw s i 0 = 0 := rfl
      rw [z0]
      omega
    · subst q
      have z1 := sdw_1 s i
      have l0 := l 0 (by omega) (by omega)
      rw [Int.add_zero] at l0
      omega
    · subst q
      have z1 := sdw_1 s i
      have l0 := l 0 (by omega) (by omega)
      rw [Int.add_zero] at l0
      have l1 : 97 ≤ s (i + 1) ∧ s (i + 1) ≤ 122 := l 1 (by omega) (by omega)
      have z2 : sdw s i 2 = 27 * sdw s i 1 + s (i + 1) - 96 := sdw_s (s := s) (i := i) (k := 1) (by omega)
      omega
    · subst q
      have z1 := sdw_1 s i
      have l0 := l 0 (by omega) (by omega)
      rw [Int.add_zero] at l0
      have l1 : 97 ≤ s (i + 1) ∧ s (i + 1) ≤ 122 := l 1 (by omega) (by omega)
      have z2 : sdw s i 2 = 27 * sdw s i 1 + s (i + 1) - 96 := sdw_s (s := s) (i := i) (k := 1) (by omega)
      have l2 : 97 ≤ s (i + 2) ∧ s (i + 2) ≤ 122 := l 2 (by omega) (by omega)
      have z3 : sdw s i 3 = 27 * sdw s i 2 + s (i + 2) - 96 := sdw_s (s := s) (i := i) (k := 2) (by omega)
      omega
    · subst q
      have z1 := sdw_1 s i
      have l0 := l 0 (by omega) (by omega)
      rw [Int.add_zero] at l0
      have l1 : 97 ≤ s (i + 1) ∧ s (i + 1) ≤ 122 := l 1 (by omega) (by omega)
      have z2 : sdw s i 2 = 27 * sdw s i 1 + s (i + 1) - 96 := sdw_s (s := s) (i := i) (k := 1) (by omega)
      have l2 : 97 ≤ s (i + 2) ∧ s (i + 2) ≤ 122 := l 2 (by omega) (by omega)
      have z3 : sdw s i 3 = 27 * sdw s i 2 + s (i + 2) - 96 := sdw_s (s := s) (i := i) (k := 2) (by omega)
      have l3 : 97 ≤ s (i + 3) ∧ s (i + 3) ≤ 122 := l 3 (by omega) (by omega)
      have z4 : sdw s i 4 = 27 * sdw s i 3 + s (i + 3) - 96 := sdw_s (s := s) (i := i) (k := 3) (by omega)
      omega
    · subst q
      have z1 := sdw_1 s i
      have l0 := l 0 (by omega) (by omega)
      rw [Int.add_zero] at l0
      have l1 : 97 ≤ s (i + 1) ∧ s (i + 1) ≤ 122 := l 1 (by omega) (by omega)
      have z2 : sdw s i 2 = 27 * sdw s i 1 + s (i + 1) - 96 := sdw_s (s := s) (i := i) (k := 1) (by omega)
      have l2 : 97 ≤ s (i + 2) ∧ s (i + 2) ≤ 122 := l 2 (by omega) (by omega)
      have z3 : sdw s i 3 = 27 * sdw s i 2 + s (i + 2) - 96 := sdw_s (s := s) (i := i) (k := 2) (by omega)
      have l3 : 97 ≤ s (i + 3) ∧ s (i + 3) ≤ 122 := l 3 (by omega) (by omega)
      have z4 : sdw s i 4 = 27 * sdw s i 3 + s (i + 3) - 96 := sdw_s (s := s) (i := i) (k := 3) (by omega)
      have l4 : 97 ≤ s (i + 4) ∧ s (i + 4) ≤ 122 := l 4 (by omega) (by omega)
      have z5 : sdw s i 5 = 27 * sdw s i 4 + s (i + 4) - 96 := sdw_s (s := s) (i := i) (k := 4) (by omega)
      omega
    · subst q
      have z1 := sdw_1 s i
      have l0 := l 0 (by omega) (by omega)
      rw [Int.add_zero] at l0
      have l1 : 97 ≤ s (i + 1) ∧ s (i + 1) ≤ 122 := l 1 (by omega) (by omega)
      have z2 : sdw s i 2 = 27 * sdw s i 1 + s (i + 1) - 96 := sdw_s (s := s) (i := i) (k := 1) (by omega)
      have l2 : 97 ≤ s (i + 2) ∧ s (i + 2) ≤ 122 := l 2 (by omega) (by omega)
      have z3 : sdw s i 3 = 27 * sdw s i 2 + s (i + 2) - 96 := sdw_s (s := s) (i := i) (k := 2) (by omega)
      have l3 : 97 ≤ s (i + 3) ∧ s (i + 3) ≤ 122 := l 3 (by omega) (by omega)
      have z4 : sdw s i 4 = 27 * sdw s i 3 + s (i + 3) - 96 := sdw_s (s := s) (i := i) (k := 3) (by omega)
      have l4 : 97 ≤ s (i + 4) ∧ s (i + 4) ≤ 122 := l 4 (by omega) (by omega)
      have z5 : sdw s i 5 = 27 * sdw s i 4 + s (i + 4) - 96 := sdw_s (s := s) (i := i) (k := 4) (by omega)
      have l5 : 97 ≤ s (i + 5) ∧ s (i + 5) ≤ 122 := l 5 (by omega) (by omega)
      have z6 : sdw s i 6 = 27 * sdw s i 5 + s (i + 5) - 96 := sdw_s (s := s) (i := i) (k := 5) (by omega)
      omega
    · omega
  unfold kdW
  obtain ⟨k1, k2, k3⟩ := key
  by_cases w1 : sdw s i k = 40643
  · rw [if_pos w1, if_pos (k1.mp w1)]
  · rw [if_neg w1, if_neg (fun z => w1 (k1.mpr z))]
    by_cases w2 : sdw s i k = 29628900
    · rw [if_pos w2, if_pos (k2.mp w2)]
    · rw [if_neg w2, if_neg (fun z => w2 (k2.mpr z))]
      by_cases w3 : sdw s i k = 11047
      · rw [if_pos w3, if_pos (k3.mp w3)]
      · rw [if_neg w3, if_neg (fun z => w3 (k3.mpr z))]
theorem sdw_s2 {s : Int → Int} {i k : Int} (h : 0 ≤ k) : sdw s i (k + 1).toNat = if 1000000000000 < sdw s i k.toNat then 2000000000000 else 27 * sdw s i k.toNat + s (i + k) - 96 := by
  obtain ⟨j, rfl⟩ := Int.eq_ofNat_of_zero_le h
  rw [show ((j : Int) + 1).toNat = j + 1 by omega]
  rfl
set_option maxHeartbeats 4000000 in
set_option maxRecDepth 100000 in
theorem c_X8_here {l : Launch} {G : GT} {m aBath aBather aMorn aText aRB aRN aLow aHigh aNeeds aLikes aHts aBook aImg aKept : Nat} {vb vn vo vm vs vt vf va vw vu vna vrb vrn vro vtr vbk vsd : Int} {vch : Bool} {gx : Int → Int} {s : Int → Int} (hT : TXT s vt) (hsg : ∀ i, 0 ≤ i → i < vt → s i = gx i) (ha : 0 ≤ va ∧ va ≤ vt) : Con l G yX8_here cX8_here 1 (some .int) { frames := 0, cells := 0, slots := 0, locals := 0 } [.ref m] [(m, eO 8 [.int (iI vb), .ref aBath, .int (iI vn), .ref aBather, .int (iI vo), .int (iI vm), .ref aMorn, .int (iI vs), .ref aText, .int (iI vt), .int (iI vf), .int (iI va), .long (lI vsd), .int (iI vw), .int (iI vu), .int (iI vna), .int (iI vrb), .ref aRB, .int (iI vrn), .ref aRN, .int (iI vro), .ref aLow, .ref aHigh, .int (iI (pI (vch = true))), .ref aNeeds, .ref aLikes, .ref aHts, .int (iI vtr), .int (iI vbk), .ref aBook, .ref aImg, .ref aKept]), (aText, eI G 400 gx)] (S := Unit) (fun _ => some (.int (iI (s (nS s va))))) (fun _ => [(m, eO 8 [.int (iI vb), .ref aBath, .int (iI vn), .ref aBather, .int (iI vo), .int (iI vm), .ref aMorn, .int (iI vs), .ref aText, .int (iI vt), .int (iI vf), .int (iI (nS s va)), .long (lI vsd), .int (iI vw), .int (iI vu), .int (iI vna), .int (iI vrb), .ref aRB, .int (iI vrn), .ref aRN, .int (iI vro), .ref aLow, .ref aHigh, .int (iI (pI (vch = true))), .ref aNeeds, .ref aLikes, .ref aHts, .int (iI vtr), .int (iI vbk), .ref aBook, .ref aImg, .ref aKept]), (aText, eI G 400 gx)]) (fun _ => True) := by
  refine Con.mk (by decide +kernel) [some (.ref m)] rfl (Nat.le_of_ble_eq_true rfl) rfl ?_
  intro V M EI EL EV EA
  have hL := hT.1
  have L0 : ∀ (fu : Nat) {b : Int}, (va ≤ b ∧ b ≤ vt) → (∀ j, va ≤ j → j < b → isB (s j) = true) → (vt - b).toNat < fu → V 0 0 0 [(m, eO 8 [.int (iI vb), .ref aBath, .int (iI vn), .ref aBather, .int (iI vo), .int (iI vm), .ref aMorn, .int (iI vs), .ref aText, .int (iI vt), .int (iI vf), .int (iI b), .long (lI vsd), .int (iI vw), .int (iI vu), .int (iI vna), .int (iI vrb), .ref aRB, .int (iI vrn), .ref aRN, .int (iI vro), .ref aLow, .ref aHigh, .int (iI (pI (vch = true))), .ref aNeeds, .ref aLikes, .ref aHts, .int (iI vtr), .int (iI vbk), .ref aBook, .ref aImg, .ref aKept]), (aText, eI G 400 gx)] [some (.ref m)] [] := by
    intro fu
    induction fu with
    | zero => intro b hb hrun hm; exact absurd hm (Nat.not_lt_zero _)
    | succ fu ih0 =>
      intro b hb hrun hm0
      have L38 : (nS s va = b) → V 0 0 38 [(m, eO 8 [.int (iI vb), .ref aBath, .int (iI vn), .ref aBather, .int (iI vo), .int (iI vm), .ref aMorn, .int (iI vs), .ref aText, .int (iI vt), .int (iI vf), .int (iI b), .long (lI vsd), .int (iI vw), .int (iI vu), .int (iI vna), .int (iI vrb), .ref aRB, .int (iI vrn), .ref aRN, .int (iI vro), .ref aLow, .ref aHigh, .int (iI (pI (vch = true))), .ref aNeeds, .ref aLikes, .ref aHts, .int (iI vtr), .int (iI vbk), .ref aBook, .ref aImg, .ref aKept]), (aText, eI G 400 gx)] [some (.ref m)] [] := by
        intro  hr
        have L62 : ∀ {z : Int}, (z = s (nS s va)) → V 0 0 62 [(m, eO 8 [.int (iI vb), .ref aBath, .int (iI vn), .ref aBather, .int (iI vo), .int (iI vm), .ref aMorn, .int (iI vs), .ref aText, .int (iI vt), .int (iI vf), .int (iI b), .long (lI vsd), .int (iI vw), .int (iI vu), .int (iI vna), .int (iI vrb), .ref aRB, .int (iI vrn), .ref aRN, .int (iI vro), .ref aLow, .ref aHigh, .int (iI (pI (vch = true))), .ref aNeeds, .ref aLikes, .ref aHts, .int (iI vtr), .int (iI vbk), .ref aBook, .ref aImg, .ref aKept]), (aText, eI G 400 gx)] [some (.ref m)] [.int (iI z)] := by
          intro z hz
          exact EI () _ _ _ _ dX8_here_62 (Or.inl rfl) (by rw [hz]) (by rw [hr]) (trivial)
        refine M.aloadn (pc := 38) 0 rfl rfl dX8_here_38 ?_
        refine M.getf (pc := 39) fg_X8_83 0 rfl rfl dX8_here_39 ?_
        refine M.aloadn (pc := 42) 0 rfl rfl dX8_here_42 ?_
        refine M.getf (pc := 43) fg_X8_77 0 rfl rfl dX8_here_43 ?_
        refine M.icmp_ge (pc := 46) (tgt := 61) dX8_here_46 (by decide) (by omega) (by omega) (fun c46 => ?_) (fun c46 => ?_)
        · refine M.iconst (pc := 61) dX8_here_61 ?_
          exact L62  (by rw [hr]; exact (hT.2.2 b (by omega)).symm)
        · refine M.aloadn (pc := 49) 0 rfl rfl dX8_here_49 ?_
          refine M.getf (pc := 50) fg_X8_23 0 rfl rfl dX8_here_50 ?_
          refine M.aloadn (pc := 53) 0 rfl rfl dX8_here_53 ?_
          refine M.getf (pc := 54) fg_X8_83 0 rfl rfl dX8_here_54 ?_
          refine M.iald (pc := 57) 1 rfl (by omega) (by omega) dX8_here_57 ?_
          refine M.goto (pc := 58) (tgt := 62) dX8_here_58 (by decide) ?_
          exact L62  (by rw [hr]; exact (hsg b (by omega) (by omega)).symm)
      refine M.aloadn (pc := 0) 0 rfl rfl dX8_here_0 ?_
      refine M.getf (pc := 1) fg_X8_83 0 rfl rfl dX8_here_1 ?_
      refine M.aloadn (pc := 4) 0 rfl rfl dX8_here_4 ?_
      refine M.getf (pc := 5) fg_X8_77 0 rfl rfl dX8_here_5 ?_
      refine M.icmp_ge (pc := 8) (tgt := 38) dX8_here_8 (by decide) (by omega) (by omega) (fun c8 => ?_) (fun c8 => ?_)
      · exact L38  (by exact run_eq hT isB1 ha.1 hb.1 hrun (by rw [hT.2.2 b (by omega)]; decide))
      · have hxb := hsg b (by omega) (by omega)
        have hsb := hT.r b
        refine M.aloadn (pc := 11) 0 rfl rfl dX8_here_11 ?_
        refine M.getf (pc := 12) fg_X8_23 0 rfl rfl dX8_here_12 ?_
        refine M.aloadn (pc := 15) 0 rfl rfl dX8_here_15 ?_
        refine M.getf (pc := 16) fg_X8_83 0 rfl rfl dX8_here_16 ?_
        refine M.iald (pc := 19) 1 rfl (by omega) (by omega) dX8_here_19 ?_
        refine M.bipush (pc := 20) (by decide +kernel) dX8_here_20 ?_
        refine M.icmp_ne (pc := 22) (tgt := 38) dX8_here_22 (by decide) (by omega) (by omega) (fun c22 => ?_) (fun c22 => ?_)
        · exact L38  (by exact run_eq hT isB1 ha.1 hb.1 hrun (fun z => by have := of_decide_eq_true z; omega))
        · refine M.aloadn (pc := 25) 0 rfl rfl dX8_here_25 ?_
          refine M.dup (pc := 26) rfl dX8_here_26 ?_
          refine M.getf (pc := 27) fg_X8_83 0 rfl rfl dX8_here_27 ?_
          refine M.iconst (pc := 30) dX8_here_30 ?_
          refine M.iadd (pc := 31) dX8_here_31 ?_
          refine M.putf (pc := 32) fp_X8_83 0 rfl rfl rfl (Nat.le_of_ble_eq_true rfl) dX8_here_32 ?_
          dsimp only [List.set_cons_zero, List.set_cons_succ]
          refine M.goto (pc := 35) (tgt := 0) dX8_here_35 (by decide) ?_
          exact ih0  (by first | assumption | omega) (by intro j h0 h1; rcases (by omega : j < b ∨ j = b) with w | w; exact hrun j h0 w; rw [w]; exact decide_eq_true (by omega)) (by omega)
  exact L0 _  (by first | assumption | omega) (by intro j _ h; omega) (Nat.lt_succ_self _)
set_option maxHeartbeats 4000000 in
set_option maxRecDepth 100000 in
theorem c_X8_fails {l : Launch} {G : GT} {m aBath aBather aMorn aText aRB aRN aLow aHigh aNeeds aLikes aHts aBook aImg aKept : Nat} {vb vn vo vm vs vt vf va vw vu vna vrb vrn vro vtr vbk vsd : Int} {vch : Bool} {f p : Int}  : Con l G yX8_fails cX8_fails 3 (some .int) { frames := 0, cells := 0, slots := 0, locals := 0 } [.ref m, .int (iI f), .int (iI p)] [(m, eO 8 [.int (iI vb), .ref aBath, .int (iI vn), .ref aBather, .int (iI vo), .int (iI vm), .ref aMorn, .int (iI vs), .ref aText, .int (iI vt), .int (iI vf), .int (iI va), .long (lI vsd), .int (iI vw), .int (iI vu), .int (iI vna), .int (iI vrb), .ref aRB, .int (iI vrn), .ref aRN, .int (iI vro), .ref aLow, .ref aHigh, .int (iI (pI (vch = true))), .ref aNeeds, .ref aLikes, .ref aHts, .int (iI vtr), .int (iI vbk), .ref aBook, .ref aImg, .ref aKept])] (S := Unit) (fun _ => some (.int (iI f))) (fun _ => [(m, eO 8 [.int (iI vb), .ref aBath, .int (iI vn), .ref aBather, .int (iI vo), .int (iI vm), .ref aMorn, .int (iI vs), .ref aText, .int (iI vt), .int (iI p), .int (iI va), .long (lI vsd), .int (iI vw), .int (iI vu), .int (iI vna), .int (iI vrb), .ref aRB, .int (iI vrn), .ref aRN, .int (iI vro), .ref aLow, .ref aHigh, .int (iI (pI (vch = true))), .ref aNeeds, .ref aLikes, .ref aHts, .int (iI vtr), .int (iI vbk), .ref aBook, .ref aImg, .ref aKept])]) (fun _ => True) := by
  refine Con.mk (by decide +kernel) [some (.ref m), some (.int (iI f)), some (.int (iI p))] rfl (Nat.le_of_ble_eq_true rfl) rfl ?_
  intro V M EI EL EV EA
  refine M.aloadn (pc := 0) 0 rfl rfl dX8_fails_0 ?_
  refine M.iloadn (pc := 1) 2 rfl rfl dX8_fails_1 ?_
  refine M.putf (pc := 2) fp_X8_26 0 rfl rfl rfl (Nat.le_of_ble_eq_true rfl) dX8_fails_2 ?_
  dsimp only [List.set_cons_zero, List.set_cons_succ]
  refine M.iloadn (pc := 5) 1 rfl rfl dX8_fails_5 ?_
  exact EI () _ _ _ _ dX8_fails_6 (Or.inl rfl) (rfl) (rfl) (trivial)
set_option maxHeartbeats 4000000 in
set_option maxRecDepth 100000 in
theorem c_X8_code {l : Launch} {G : GT} {x y z : Int} (hx : 0 ≤ x ∧ x < 1000) (hy : 0 ≤ y ∧ y < 1000) (hz : 0 ≤ z ∧ z < 1000) : ConF l G yX8_code cX8_code 3 (some .long) { frames := 0, cells := 0, slots := 0, locals := 0 } [.int (iI x), .int (iI y), .int (iI z)] [] (some (.long (lI (27 * (27 * (x - 96) + y - 96) + z - 96)))) := by
  refine Con.mk (by decide +kernel) [some (.int (iI x)), some (.int (iI y)), some (.int (iI z))] rfl (Nat.le_of_ble_eq_true rfl) rfl ?_
  intro V M EI EL EV EA
  refine M.ldc2 (pc := 0) (27) lc_X8_105 (by decide +kernel) dX8_code_0 ?_
  refine M.ldc2 (pc := 3) (27) lc_X8_105 (by decide +kernel) dX8_code_3 ?_
  refine M.iloadn (pc := 6) 0 rfl rfl dX8_code_6 ?_
  refine M.i2l (pc := 7) (by omega) dX8_code_7 ?_
  refine M.ldc2 (pc := 8) (96) lc_X8_107 (by decide +kernel) dX8_code_8 ?_
  refine M.lsub (pc := 11) dX8_code_11 ?_
  refine M.lmul (pc := 12) dX8_code_12 ?_
  refine M.iloadn (pc := 13) 1 rfl rfl dX8_code_13 ?_
  refine M.i2l (pc := 14) (by omega) dX8_code_14 ?_
  refine M.ladd (pc := 15) dX8_code_15 ?_
  refine M.ldc2 (pc := 16) (96) lc_X8_107 (by decide +kernel) dX8_code_16 ?_
  refine M.lsub (pc := 19) dX8_code_19 ?_
  refine M.lmul (pc := 20) dX8_code_20 ?_
  refine M.iloadn (pc := 21) 2 rfl rfl dX8_code_21 ?_
  refine M.i2l (pc := 22) (by omega) dX8_code_22 ?_
  refine M.ladd (pc := 23) dX8_code_23 ?_
  refine M.ldc2 (pc := 24) (96) lc_X8_107 (by decide +kernel) dX8_code_24 ?_
  refine M.lsub (pc := 27) dX8_code_27 ?_
  exact EL () _ _ _ _ dX8_code_28 rfl (eqL (by rfl)) rfl trivial
set_option maxHeartbeats 4000000 in
set_option maxRecDepth 100000 in
theorem c_X8_longer {l : Launch} {G : GT} {v x y : Int} (hx : 0 ≤ x ∧ x < 1000) (hy : 0 ≤ y ∧ y < 1000) : ConF l G yX8_longer cX8_longer 4 (some .long) { frames := 0, cells := 0, slots := 0, locals := 0 } [.long (lI v), .int (iI x), .int (iI y)] [] (some (.long (lI (if y = 0 then 27 * v + x - 96 else 27 * (27 * v + x - 96) + y - 96)))) := by
  refine Con.mk (by decide +kernel) [some (.long (lI v)), none, some (.int (iI x)), some (.int (iI y))] rfl (Nat.le_of_ble_eq_true rfl) rfl ?_
  intro V M EI EL EV EA
  refine M.iloadn (pc := 0) 3 rfl rfl dX8_longer_0 ?_
  refine M.if_ne (pc := 1) (tgt := 19) dX8_longer_1 (by decide) (by omega) (fun c1 => ?_) (fun c1 => ?_)
  · refine M.ldc2 (pc := 19) (27) lc_X8_105 (by decide +kernel) dX8_longer_19 ?_
    refine M.ldc2 (pc := 22) (27) lc_X8_105 (by decide +kernel) dX8_longer_22 ?_
    refine M.lloadn (pc := 25) 0 rfl rfl dX8_longer_25 ?_
    refine M.lmul (pc := 26) dX8_longer_26 ?_
    refine M.iloadn (pc := 27) 2 rfl rfl dX8_longer_27 ?_
    refine M.i2l (pc := 28) (by omega) dX8_longer_28 ?_
    refine M.ladd (pc := 29) dX8_longer_29 ?_
    refine M.ldc2 (pc := 30) (96) lc_X8_107 (by decide +kernel) dX8_longer_30 ?_
    refine M.lsub (pc := 33) dX8_longer_33 ?_
    refine M.lmul (pc := 34) dX8_longer_34 ?_
    refine M.iloadn (pc := 35) 3 rfl rfl dX8_longer_35 ?_
    refine M.i2l (pc := 36) (by omega) dX8_longer_36 ?_
    refine M.ladd (pc := 37) dX8_longer_37 ?_
    refine M.ldc2 (pc := 38) (96) lc_X8_107 (by decide +kernel) dX8_longer_38 ?_
    refine M.lsub (pc := 41) dX8_longer_41 ?_
    exact EL () _ _ _ _ dX8_longer_42 rfl (eqL (by first | rw [if_pos (by omega)] | rw [if_neg (by omega)])) rfl trivial
  · refine M.ldc2 (pc := 4) (27) lc_X8_105 (by decide +kernel) dX8_longer_4 ?_
    refine M.lloadn (pc := 7) 0 rfl rfl dX8_longer_7 ?_
    refine M.lmul (pc := 8) dX8_longer_8 ?_
    refine M.iloadn (pc := 9) 2 rfl rfl dX8_longer_9 ?_
    refine M.i2l (pc := 10) (by omega) dX8_longer_10 ?_
    refine M.ladd (pc := 11) dX8_longer_11 ?_
    refine M.ldc2 (pc := 12) (96) lc_X8_107 (by decide +kernel) dX8_longer_12 ?_
    refine M.lsub (pc := 15) dX8_longer_15 ?_
    refine M.goto (pc := 16) (tgt := 42) dX8_longer_16 (by decide) ?_
    exact EL () _ _ _ _ dX8_longer_42 rfl (eqL (by first | rw [if_pos (by omega)] | rw [if_neg (by omega)])) rfl trivial
set_option maxHeartbeats 4000000 in
set_option maxRecDepth 100000 in
theorem c_X8_readWord {l : Launch} {G : GT} {m aBath aBather aMorn aText aRB aRN aLow aHigh aNeeds aLikes aHts aBook aImg aKept : Nat} {vb vn vo vm vs vt vf va vw vu vna vrb vrn vro vtr vbk vsd : Int} {vch : Bool} {gx : Int → Int} {s : Int → Int} (hT : TXT s vt) (hsg : ∀ i, 0 ≤ i → i < vt → s i = gx i) (ha : 0 ≤ va ∧ va ≤ vt) : Con l G yX8_readWord cX8_readWord 2 none { frames := 1, cells := 0, slots := 0, locals := 25 } [.ref m] [(m, eO 8 [.int (iI vb), .ref aBath, .int (iI vn), .ref aBather, .int (iI vo), .int (iI vm), .ref aMorn, .int (iI vs), .ref aText, .int (iI vt), .int (iI vf), .int (iI va), .long (lI vsd), .int (iI vw), .int (iI vu), .int (iI vna), .int (iI vrb), .ref aRB, .int (iI vrn), .ref aRN, .int (iI vro), .ref aLow, .ref aHigh, .int (iI (pI (vch = true))), .ref aNeeds, .ref aLikes, .ref aHts, .int (iI vtr), .int (iI vbk), .ref aBook, .ref aImg, .ref aKept]), (aText, eI G 400 gx)] (S := Unit) (fun _ => none) (fun _ => [(m, eO 8 [.int (iI vb), .ref aBath, .int (iI vn), .ref aBather, .int (iI vo), .int (iI vm), .ref aMorn, .int (iI vs), .ref aText, .int (iI vt), .int (iI vf), .int (iI (nS s va)), .long (lI (sdw s (nS s va) (run isLt s (nS s va) - nS s va).toNat)), .int (iI (run isLt s (nS s va))), .int (iI vu), .int (iI vna), .int (iI vrb), .ref aRB, .int (iI vrn), .ref aRN, .int (iI vro), .ref aLow, .ref aHigh, .int (iI (pI (vch = true))), .ref aNeeds, .ref aLikes, .ref aHts, .int (iI vtr), .int (iI vbk), .ref aBook, .ref aImg, .ref aKept]), (aText, eI G 400 gx)]) (fun _ => True) := by
  refine Con.mk (by decide +kernel) [some (.ref m), none] rfl (Nat.le_of_ble_eq_true rfl) rfl ?_
  intro V M EI EL EV EA
  have hL := hT.1
  have hS := nS_ok hT ha.1 ha.2
  refine M.aloadn (pc := 0) 0 rfl rfl dX8_readWord_0 ?_
  refine M.mV (pc := 1) (c_X8_here  (by first | assumption | omega) (by first | assumption | omega) (by first | assumption | omega)) mv_X8_86 [0, 1] rfl rfl rfl 0 rfl rfl rfl rfl (Nat.le_of_ble_eq_true rfl) rfl ⟨(Nat.le_of_ble_eq_true rfl), (Nat.le_of_ble_eq_true rfl)⟩ ⟨(Nat.le_of_ble_eq_true rfl), (Nat.le_of_ble_eq_true rfl)⟩ rfl (fun _ => rfl) dX8_readWord_1 (fun u1 hu1 => ?_)
  dsimp only [putL, List.set_cons_zero, List.set_cons_succ, Option.toList, List.cons_append, List.nil_append] at hu1 ⊢
  refine M.istoren (pc := 4) 1 rfl (Nat.le_of_ble_eq_true rfl) rfl dX8_readWord_4 ?_
  dsimp only [List.set_cons_zero, List.set_cons_succ]
  refine M.aloadn (pc := 5) 0 rfl rfl dX8_readWord_5 ?_
  refine M.lconst (pc := 6) 0 (by decide +kernel) dX8_readWord_6 ?_
  refine M.putf (pc := 7) fp_X8_90 0 rfl rfl rfl (Nat.le_of_ble_eq_true rfl) dX8_readWord_7 ?_
  dsimp only [List.set_cons_zero, List.set_cons_succ]
  refine M.aloadn (pc := 10) 0 rfl rfl dX8_readWord_10 ?_
  refine M.aloadn (pc := 11) 0 rfl rfl dX8_readWord_11 ?_
  refine M.getf (pc := 12) fg_X8_83 0 rfl rfl dX8_readWord_12 ?_
  refine M.putf (pc := 15) fp_X8_94 0 rfl rfl rfl (Nat.le_of_ble_eq_true rfl) dX8_readWord_15 ?_
  dsimp only [List.set_cons_zero, List.set_cons_succ]
  have L18 : ∀ (fu : Nat) {b d : Int}, (nS s va ≤ b ∧ b ≤ vt) → (∀ j, nS s va ≤ j → j < b → isLt (s j) = true) → (d = sdw s (nS s va) (b - nS s va).toNat) → (vt - b).toNat < fu → V 0 0 18 [(m, eO 8 [.int (iI vb), .ref aBath, .int (iI vn), .ref aBather, .int (iI vo), .int (iI vm), .ref aMorn, .int (iI vs), .ref aText, .int (iI vt), .int (iI vf), .int (iI (nS s va)), .long (lI d), .int (iI b), .int (iI vu), .int (iI vna), .int (iI vrb), .ref aRB, .int (iI vrn), .ref aRN, .int (iI vro), .ref aLow, .ref aHigh, .int (iI (pI (vch = true))), .ref aNeeds, .ref aLikes, .ref aHts, .int (iI vtr), .int (iI vbk), .ref aBook, .ref aImg, .ref aKept]), (aText, eI G 400 gx)] [some (.ref m), none] [] := by
    intro fu
    induction fu with
    | zero => intro b d hb hrun hd hm; exact absurd hm (Nat.not_lt_zero _)
    | succ fu ih18 =>
      intro b d hb hrun hd hm18
      have L108 : (run isLt s (nS s va) = b) → V 0 0 108 [(m, eO 8 [.int (iI vb), .ref aBath, .int (iI vn), .ref aBather, .int (iI vo), .int (iI vm), .ref aMorn, .int (iI vs), .ref aText, .int (iI vt), .int (iI vf), .int (iI (nS s va)), .long (lI d), .int (iI b), .int (iI vu), .int (iI vna), .int (iI vrb), .ref aRB, .int (iI vrn), .ref aRN, .int (iI vro), .ref aLow, .ref aHigh, .int (iI (pI (vch = true))), .ref aNeeds, .ref aLikes, .ref aHts, .int (iI vtr), .int (iI vbk), .ref aBook, .ref aImg, .ref aKept]), (aText, eI G 400 gx)] [some (.ref m), none] [] := by
        intro  he
        exact EV () _ _ _ dX8_readWord_108 rfl (rfl) (by rw [he, hd]) (trivial)
      refine M.aloadn (pc := 18) 0 rfl rfl dX8_readWord_18 ?_
      refine M.getf (pc := 19) fg_X8_94 0 rfl rfl dX8_readWord_19 ?_
      refine M.aloadn (pc := 22) 0 rfl rfl dX8_readWord_22 ?_
      refine M.getf (pc := 23) fg_X8_77 0 rfl rfl dX8_readWord_23 ?_
      refine M.icmp_ge (pc := 26) (tgt := 108) dX8_readWord_26 (by decide) (by omega) (by omega) (fun c26 => ?_) (fun c26 => ?_)
      · exact L108  (by exact run_eq hT isLt1 (by omega) hb.1 hrun (by rw [hT.2.2 b (by omega)]; decide))
      · have hxb := hsg b (by omega) (by omega)
        have hsb := hT.r b
        refine M.aloadn (pc := 29) 0 rfl rfl dX8_readWord_29 ?_
        refine M.getf (pc := 30) fg_X8_23 0 rfl rfl dX8_readWord_30 ?_
        refine M.aloadn (pc := 33) 0 rfl rfl dX8_readWord_33 ?_
        refine M.getf (pc := 34) fg_X8_94 0 rfl rfl dX8_readWord_34 ?_
        refine M.iald (pc := 37) 1 rfl (by omega) (by omega) dX8_readWord_37 ?_
        refine M.i2l (pc := 38) (by omega) dX8_readWord_38 ?_
        refine M.ldc2 (pc := 39) (97) lc_X8_97 (by decide +kernel) dX8_readWord_39 ?_
        refine M.ldc2 (pc := 42) (122) lc_X8_99 (by decide +kernel) dX8_readWord_42 ?_
        refine M.pS (pc := 45) (c_X8_in  (by first | assumption | omega) (by first | assumption | omega) (by first | assumption | omega)) ms_X8_63 [] rfl rfl rfl rfl (Nat.le_of_ble_eq_true rfl) rfl ⟨(Nat.le_of_ble_eq_true rfl), (Nat.le_of_ble_eq_true rfl)⟩ ⟨(Nat.le_of_ble_eq_true rfl), (Nat.le_of_ble_eq_true rfl)⟩ rfl dX8_readWord_45 ?_
        refine M.if_eqP (pc := 48) (tgt := 108) dX8_readWord_48 (by decide) (fun c48 => ?_) (fun c48 => ?_)
        · exact L108  (by exact run_eq hT isLt1 (by omega) hb.1 hrun (fun z => by have := of_decide_eq_true z; omega))
        · have hlb : isLt (s b) = true := decide_eq_true (by omega)
          have hsd := sdw_b (s := s) (i := nS s va) (b - nS s va).toNat (fun j j0 j1 => hrun j j0 (by omega))
          rw [← hd] at hsd
          have hnx := sdw_s2 (s := s) (i := nS s va) (k := b - nS s va) (by omega)
          rw [← hd, show nS s va + (b - nS s va) = b by omega, show b - nS s va + 1 = b + 1 - nS s va by omega] at hnx
          refine M.aloadn (pc := 51) 0 rfl rfl dX8_readWord_51 ?_
          have L92 : ∀ {d2 : Int}, (d2 = sdw s (nS s va) (b + 1 - nS s va).toNat) → V 0 0 92 [(m, eO 8 [.int (iI vb), .ref aBath, .int (iI vn), .ref aBather, .int (iI vo), .int (iI vm), .ref aMorn, .int (iI vs), .ref aText, .int (iI vt), .int (iI vf), .int (iI (nS s va)), .long (lI d), .int (iI b), .int (iI vu), .int (iI vna), .int (iI vrb), .ref aRB, .int (iI vrn), .ref aRN, .int (iI vro), .ref aLow, .ref aHigh, .int (iI (pI (vch = true))), .ref aNeeds, .ref aLikes, .ref aHts, .int (iI vtr), .int (iI vbk), .ref aBook, .ref aImg, .ref aKept]), (aText, eI G 400 gx)] [some (.ref m), none] [.long (lI d2), .ref m] := by
            intro d2 hd2
            refine M.putf (pc := 92) fp_X8_90 0 rfl rfl rfl (Nat.le_of_ble_eq_true rfl) dX8_readWord_92 ?_
            dsimp only [List.set_cons_zero, List.set_cons_succ]
            refine M.aloadn (pc := 95) 0 rfl rfl dX8_readWord_95 ?_
            refine M.dup (pc := 96) rfl dX8_readWord_96 ?_
            refine M.getf (pc := 97) fg_X8_94 0 rfl rfl dX8_readWord_97 ?_
            refine M.iconst (pc := 100) dX8_readWord_100 ?_
            refine M.iadd (pc := 101) dX8_readWord_101 ?_
            refine M.putf (pc := 102) fp_X8_94 0 rfl rfl rfl (Nat.le_of_ble_eq_true rfl) dX8_readWord_102 ?_
            dsimp only [List.set_cons_zero, List.set_cons_succ]
            refine M.goto (pc := 105) (tgt := 18) dX8_readWord_105 (by decide) ?_
            exact ih18  (by first | assumption | omega) (by intro j h0 h1; rcases (by omega : j < b ∨ j = b) with w | w; exact hrun j h0 w; rw [w]; exact hlb) (by exact hd2) (by omega)
          refine M.aloadn (pc := 52) 0 rfl rfl dX8_readWord_52 ?_
          refine M.getf (pc := 53) fg_X8_90 0 rfl rfl dX8_readWord_53 ?_
          refine M.ldc2 (pc := 56) (1000000000000) lc_X8_101 (by decide +kernel) dX8_readWord_56 ?_
          refine M.lcmp (pc := 59) (by omega) (by omega) dX8_readWord_59 ?_
          refine M.if_le (pc := 60) (tgt := 69) dX8_readWord_60 (by decide) (by omega) (fun c60 => ?_) (fun c60 => ?_)
          · refine M.ldc2 (pc := 69) (27) lc_X8_105 (by decide +kernel) dX8_readWord_69 ?_
            refine M.aloadn (pc := 72) 0 rfl rfl dX8_readWord_72 ?_
            refine M.getf (pc := 73) fg_X8_90 0 rfl rfl dX8_readWord_73 ?_
            refine M.lmul (pc := 76) dX8_readWord_76 ?_
            refine M.aloadn (pc := 77) 0 rfl rfl dX8_readWord_77 ?_
            refine M.getf (pc := 78) fg_X8_23 0 rfl rfl dX8_readWord_78 ?_
            refine M.aloadn (pc := 81) 0 rfl rfl dX8_readWord_81 ?_
            refine M.getf (pc := 82) fg_X8_94 0 rfl rfl dX8_readWord_82 ?_
            refine M.iald (pc := 85) 1 rfl (by omega) (by omega) dX8_readWord_85 ?_
            refine M.i2l (pc := 86) (by omega) dX8_readWord_86 ?_
            refine M.ladd (pc := 87) dX8_readWord_87 ?_
            refine M.ldc2 (pc := 88) (96) lc_X8_107 (by decide +kernel) dX8_readWord_88 ?_
            refine M.lsub (pc := 91) dX8_readWord_91 ?_
            exact L92  (by rw [hnx, if_neg (by omega)]; omega)
          · refine M.ldc2 (pc := 63) (2000000000000) lc_X8_103 (by decide +kernel) dX8_readWord_63 ?_
            refine M.goto (pc := 66) (tgt := 92) dX8_readWord_66 (by decide) ?_
            exact L92  (by rw [hnx, if_pos (by omega)])
  refine M.forget 1 ?_
  dsimp only [List.set_cons_zero, List.set_cons_succ]
  exact L18 _  (by first | assumption | omega) (by intro j _ h; omega) (by rw [Int.sub_self]; rfl) (Nat.lt_succ_self _)
set_option maxHeartbeats 4000000 in
set_option maxRecDepth 100000 in
theorem c_X8_takeNumber {l : Launch} {G : GT} {m aBath aBather aMorn aText aRB aRN aLow aHigh aNeeds aLikes aHts aBook aImg aKept : Nat} {vb vn vo vm vs vt vf va vw vu vna vrb vrn vro vtr vbk vsd : Int} {vch : Bool} {gx : Int → Int} {s : Int → Int} {q : Int × Int} {lo up : Int} (hT : TXT s vt) (hsg : ∀ i, 0 ≤ i → i < vt → s i = gx i) (ha : 0 ≤ va ∧ va ≤ vt) (hq : q.1 = 0) (hlo : 0 ≤ lo ∧ lo ≤ 1) (hup : 0 ≤ up ∧ up ≤ 9999) : Con l G yX8_takeNumber cX8_takeNumber 4 (some .int) { frames := 1, cells := 0, slots := 0, locals := 25 } [.ref m, .int (iI lo), .int (iI up)] [(m, eO 8 [.int (iI vb), .ref aBath, .int (iI vn), .ref aBather, .int (iI vo), .int (iI vm), .ref aMorn, .int (iI vs), .ref aText, .int (iI vt), .int (iI q.2), .int (iI va), .long (lI vsd), .int (iI vw), .int (iI vu), .int (iI vna), .int (iI vrb), .ref aRB, .int (iI vrn), .ref aRN, .int (iI vro), .ref aLow, .ref aHigh, .int (iI (pI (vch = true))), .ref aNeeds, .ref aLikes, .ref aHts, .int (iI vtr), .int (iI vbk), .ref aBook, .ref aImg, .ref aKept]), (aText, eI G 400 gx)] (S := Int × Int) (fun _ => some (.int (iI (fl q (nF s lo up va) (nS s va)).1))) (fun u => [(m, eO 8 [.int (iI vb), .ref aBath, .int (iI vn), .ref aBather, .int (iI vo), .int (iI vm), .ref aMorn, .int (iI vs), .ref aText, .int (iI vt), .int (iI (fl q (nF s lo up va) (nS s va)).2), .int (iI (nE s va)), .long (lI vsd), .int (iI vw), .int (iI u.1), .int (iI u.2), .int (iI vrb), .ref aRB, .int (iI vrn), .ref aRN, .int (iI vro), .ref aLow, .ref aHigh, .int (iI (pI (vch = true))), .ref aNeeds, .ref aLikes, .ref aHts, .int (iI vtr), .int (iI vbk), .ref aBook, .ref aImg, .ref aKept]), (aText, eI G 400 gx)]) (fun u => ((fl q (nF s lo up va) (nS s va)).1 = 0 → u.1 = nV s va ∧ u.2 = nS s va)) := by
  refine Con.mk (by decide +kernel) [some (.ref m), some (.int (iI lo)), some (.int (iI up)), none] rfl (Nat.le_of_ble_eq_true rfl) rfl ?_
  intro V M EI EL EV EA
  have hL := hT.1
  have hS := nS_ok hT ha.1 ha.2
  have hE := nE_ok hT ha.1 ha.2
  have hsS := hT.r (nS s va)
  refine M.aloadn (pc := 0) 0 rfl rfl dX8_takeNumber_0 ?_
  refine M.mV (pc := 1) (c_X8_here  (by first | assumption | omega) (by first | assumption | omega) (by first | assumption | omega)) mv_X8_86 [0, 1] rfl rfl rfl 0 rfl rfl rfl rfl (Nat.le_of_ble_eq_true rfl) rfl ⟨(Nat.le_of_ble_eq_true rfl), (Nat.le_of_ble_eq_true rfl)⟩ ⟨(Nat.le_of_ble_eq_true rfl), (Nat.le_of_ble_eq_true rfl)⟩ rfl (fun _ => rfl) dX8_takeNumber_1 (fun u1 hu1 => ?_)
  dsimp only [putL, List.set_cons_zero, List.set_cons_succ, Option.toList, List.cons_append, List.nil_append] at hu1 ⊢
  refine M.istoren (pc := 4) 3 rfl (Nat.le_of_ble_eq_true rfl) rfl dX8_takeNumber_4 ?_
  dsimp only [List.set_cons_zero, List.set_cons_succ]
  refine M.iloadn (pc := 5) 3 rfl rfl dX8_takeNumber_5 ?_
  refine M.i2l (pc := 6) (by omega) dX8_takeNumber_6 ?_
  refine M.ldc2 (pc := 7) (48) lc_X8_109 (by decide +kernel) dX8_takeNumber_7 ?_
  refine M.ldc2 (pc := 10) (57) lc_X8_111 (by decide +kernel) dX8_takeNumber_10 ?_
  refine M.pS (pc := 13) (c_X8_in  (by first | assumption | omega) (by first | assumption | omega) (by first | assumption | omega)) ms_X8_63 [] rfl rfl rfl rfl (Nat.le_of_ble_eq_true rfl) rfl ⟨(Nat.le_of_ble_eq_true rfl), (Nat.le_of_ble_eq_true rfl)⟩ ⟨(Nat.le_of_ble_eq_true rfl), (Nat.le_of_ble_eq_true rfl)⟩ rfl dX8_takeNumber_13 ?_
  refine M.if_neP (pc := 16) (tgt := 29) dX8_takeNumber_16 (by decide) (fun c16 => ?_) (fun c16 => ?_)
  · have hEn : nE s va ≠ nS s va := fun z => by
      have h := hE.1.2.2
      rw [z, show isFg (s (nS s va)) = true from decide_eq_true (by omega)] at h
      exact absurd h (by decide)
    refine M.aloadn (pc := 29) 0 rfl rfl dX8_takeNumber_29 ?_
    refine M.aloadn (pc := 30) 0 rfl rfl dX8_takeNumber_30 ?_
    refine M.getf (pc := 31) fg_X8_83 0 rfl rfl dX8_takeNumber_31 ?_
    refine M.putf (pc := 34) fp_X8_117 0 rfl rfl rfl (Nat.le_of_ble_eq_true rfl) dX8_takeNumber_34 ?_
    dsimp only [List.set_cons_zero, List.set_cons_succ]
    refine M.aloadn (pc := 37) 0 rfl rfl dX8_takeNumber_37 ?_
    refine M.iconst (pc := 38) dX8_takeNumber_38 ?_
    refine M.putf (pc := 39) fp_X8_120 0 rfl rfl rfl (Nat.le_of_ble_eq_true rfl) dX8_takeNumber_39 ?_
    dsimp only [List.set_cons_zero, List.set_cons_succ]
    have L42 : ∀ (fu : Nat) {b v : Int}, (nS s va ≤ b ∧ b ≤ vt) → (∀ j, nS s va ≤ j → j < b → isFg (s j) = true) → (0 ≤ v ∧ v ≤ 2000000) → (b - nS s va ≤ 4 → v = nv s (nS s va) (b - nS s va).toNat) → (vt - b).toNat < fu → V 0 0 42 [(m, eO 8 [.int (iI vb), .ref aBath, .int (iI vn), .ref aBather, .int (iI vo), .int (iI vm), .ref aMorn, .int (iI vs), .ref aText, .int (iI vt), .int (iI q.2), .int (iI b), .long (lI vsd), .int (iI vw), .int (iI v), .int (iI (nS s va)), .int (iI vrb), .ref aRB, .int (iI vrn), .ref aRN, .int (iI vro), .ref aLow, .ref aHigh, .int (iI (pI (vch = true))), .ref aNeeds, .ref aLikes, .ref aHts, .int (iI vtr), .int (iI vbk), .ref aBook, .ref aImg, .ref aKept]), (aText, eI G 400 gx)] [some (.ref m), some (.int (iI lo)), some (.int (iI up)), none] [] := by
      intro fu
      induction fu with
      | zero => intro b v hb hfig hvb hv hm; exact absurd hm (Nat.not_lt_zero _)
      | succ fu ih42 =>
        intro b v hb hfig hvb hv hm42
        have L128 : (b = nE s va) → V 0 0 128 [(m, eO 8 [.int (iI vb), .ref aBath, .int (iI vn), .ref aBather, .int (iI vo), .int (iI vm), .ref aMorn, .int (iI vs), .ref aText, .int (iI vt), .int (iI q.2), .int (iI b), .long (lI vsd), .int (iI vw), .int (iI v), .int (iI (nS s va)), .int (iI vrb), .ref aRB, .int (iI vrn), .ref aRN, .int (iI vro), .ref aLow, .ref aHigh, .int (iI (pI (vch = true))), .ref aNeeds, .ref aLikes, .ref aHts, .int (iI vtr), .int (iI vbk), .ref aBook, .ref aImg, .ref aKept]), (aText, eI G 400 gx)] [some (.ref m), some (.int (iI lo)), some (.int (iI up)), none] [] := by
          intro  he
          subst he
          have hvV : nE s va - nS s va ≤ 4 → v = nV s va := fun z => hv z
          refine M.aloadn (pc := 128) 0 rfl rfl dX8_takeNumber_128 ?_
          have L169 : ∀ {z y : Int}, (z = (fl q (nF s lo up va) (nS s va)).1 ∧ y = (fl q (nF s lo up va) (nS s va)).2) → ((fl q (nF s lo up va) (nS s va)).1 = 0 → v = nV s va) → V 0 0 169 [(m, eO 8 [.int (iI vb), .ref aBath, .int (iI vn), .ref aBather, .int (iI vo), .int (iI vm), .ref aMorn, .int (iI vs), .ref aText, .int (iI vt), .int (iI y), .int (iI (nE s va)), .long (lI vsd), .int (iI vw), .int (iI v), .int (iI (nS s va)), .int (iI vrb), .ref aRB, .int (iI vrn), .ref aRN, .int (iI vro), .ref aLow, .ref aHigh, .int (iI (pI (vch = true))), .ref aNeeds, .ref aLikes, .ref aHts, .int (iI vtr), .int (iI vbk), .ref aBook, .ref aImg, .ref aKept]), (aText, eI G 400 gx)] [some (.ref m), none, none, none] [.int (iI z)] := by
            intro z y hz hy2
            exact EI (v, nS s va) _ _ _ _ dX8_takeNumber_169 (Or.inl rfl) (by rw [hz.1]) (by rw [hz.2]) (fun w => ⟨hy2 w, rfl⟩)
          refine M.getf (pc := 129) fg_X8_83 0 rfl rfl dX8_takeNumber_129 ?_
          refine M.aloadn (pc := 132) 0 rfl rfl dX8_takeNumber_132 ?_
          refine M.getf (pc := 133) fg_X8_117 0 rfl rfl dX8_takeNumber_133 ?_
          refine M.isub (pc := 136) dX8_takeNumber_136 ?_
          refine M.iconst (pc := 137) dX8_takeNumber_137 ?_
          refine M.icmp_gt (pc := 138) (tgt := 156) dX8_takeNumber_138 (by decide) (by omega) (by omega) (fun c138 => ?_) (fun c138 => ?_)
          · refine M.aloadn (pc := 156) 0 rfl rfl dX8_takeNumber_156 ?_
            refine M.iconst (pc := 157) dX8_takeNumber_157 ?_
            refine M.aloadn (pc := 158) 0 rfl rfl dX8_takeNumber_158 ?_
            refine M.getf (pc := 159) fg_X8_117 0 rfl rfl dX8_takeNumber_159 ?_
            refine M.mV (pc := 162) (c_X8_fails  ) mv_X8_113 [0] rfl rfl rfl 0 rfl rfl rfl rfl (Nat.le_of_ble_eq_true rfl) rfl ⟨(Nat.le_of_ble_eq_true rfl), (Nat.le_of_ble_eq_true rfl)⟩ ⟨(Nat.le_of_ble_eq_true rfl), (Nat.le_of_ble_eq_true rfl)⟩ rfl (fun _ => rfl) dX8_takeNumber_162 (fun u162 hu162 => ?_)
            dsimp only [putL, List.set_cons_zero, List.set_cons_succ, Option.toList, List.cons_append, List.nil_append] at hu162 ⊢
            refine M.goto (pc := 165) (tgt := 169) dX8_takeNumber_165 (by decide) ?_
            refine M.forget 1 ?_
            dsimp only [List.set_cons_zero, List.set_cons_succ]
            refine M.forget 2 ?_
            dsimp only [List.set_cons_zero, List.set_cons_succ]
            have hF2 : nF s lo up va = 2 := by
              unfold nF
              rw [if_neg (by omega), if_pos ?_]
              by_cases w : 4 < nE s va - nS s va
              · exact Or.inl w
              · have := hvV (by omega)
                omega
            have hfl := fl_f (f := nF s lo up va) (p := nS s va) hq (by omega)
            exact L169  (by rw [hfl, hF2]; exact ⟨rfl, rfl⟩) (by intro w; rw [hfl, hF2] at w; exact absurd (show (2 : Int) = 0 from w) (by decide))
          · refine M.aloadn (pc := 141) 0 rfl rfl dX8_takeNumber_141 ?_
            refine M.getf (pc := 142) fg_X8_120 0 rfl rfl dX8_takeNumber_142 ?_
            refine M.i2l (pc := 145) (by omega) dX8_takeNumber_145 ?_
            refine M.iloadn (pc := 146) 1 rfl rfl dX8_takeNumber_146 ?_
            refine M.i2l (pc := 147) (by omega) dX8_takeNumber_147 ?_
            refine M.iloadn (pc := 148) 2 rfl rfl dX8_takeNumber_148 ?_
            refine M.i2l (pc := 149) (by omega) dX8_takeNumber_149 ?_
            refine M.pS (pc := 150) (c_X8_in  (by first | assumption | omega) (by first | assumption | omega) (by first | assumption | omega)) ms_X8_63 [] rfl rfl rfl rfl (Nat.le_of_ble_eq_true rfl) rfl ⟨(Nat.le_of_ble_eq_true rfl), (Nat.le_of_ble_eq_true rfl)⟩ ⟨(Nat.le_of_ble_eq_true rfl), (Nat.le_of_ble_eq_true rfl)⟩ rfl dX8_takeNumber_150 ?_
            refine M.if_neP (pc := 153) (tgt := 168) dX8_takeNumber_153 (by decide) (fun c153 => ?_) (fun c153 => ?_)
            · refine M.iconst (pc := 168) dX8_takeNumber_168 ?_
              refine M.forget 1 ?_
              dsimp only [List.set_cons_zero, List.set_cons_succ]
              refine M.forget 2 ?_
              dsimp only [List.set_cons_zero, List.set_cons_succ]
              have hF0 : nF s lo up va = 0 := by
                have := hvV (by omega)
                unfold nF
                rw [if_neg (by omega), if_neg (by omega)]
              have hfl := fl_z (f := nF s lo up va) (p := nS s va) hq hF0
              exact L169  (by rw [hfl, hq]; exact ⟨rfl, rfl⟩) (by intro w; exact hvV (by omega))
            · refine M.aloadn (pc := 156) 0 rfl rfl dX8_takeNumber_156 ?_
              refine M.iconst (pc := 157) dX8_takeNumber_157 ?_
              refine M.aloadn (pc := 158) 0 rfl rfl dX8_takeNumber_158 ?_
              refine M.getf (pc := 159) fg_X8_117 0 rfl rfl dX8_takeNumber_159 ?_
              refine M.mV (pc := 162) (c_X8_fails  ) mv_X8_113 [0] rfl rfl rfl 0 rfl rfl rfl rfl (Nat.le_of_ble_eq_true rfl) rfl ⟨(Nat.le_of_ble_eq_true rfl), (Nat.le_of_ble_eq_true rfl)⟩ ⟨(Nat.le_of_ble_eq_true rfl), (Nat.le_of_ble_eq_true rfl)⟩ rfl (fun _ => rfl) dX8_takeNumber_162 (fun u162 hu162 => ?_)
              dsimp only [putL, List.set_cons_zero, List.set_cons_succ, Option.toList, List.cons_append, List.nil_append] at hu162 ⊢
              refine M.goto (pc := 165) (tgt := 169) dX8_takeNumber_165 (by decide) ?_
              refine M.forget 1 ?_
              dsimp only [List.set_cons_zero, List.set_cons_succ]
              refine M.forget 2 ?_
              dsimp only [List.set_cons_zero, List.set_cons_succ]
              have hF2 : nF s lo up va = 2 := by
                unfold nF
                rw [if_neg (by omega), if_pos ?_]
                by_cases w : 4 < nE s va - nS s va
                · exact Or.inl w
                · have := hvV (by omega)
                  omega
              have hfl := fl_f (f := nF s lo up va) (p := nS s va) hq (by omega)
              exact L169  (by rw [hfl, hF2]; exact ⟨rfl, rfl⟩) (by intro w; rw [hfl, hF2] at w; exact absurd (show (2 : Int) = 0 from w) (by decide))
        refine M.aloadn (pc := 42) 0 rfl rfl dX8_takeNumber_42 ?_
        refine M.getf (pc := 43) fg_X8_83 0 rfl rfl dX8_takeNumber_43 ?_
        refine M.aloadn (pc := 46) 0 rfl rfl dX8_takeNumber_46 ?_
        refine M.getf (pc := 47) fg_X8_77 0 rfl rfl dX8_takeNumber_47 ?_
        refine M.icmp_ge (pc := 50) (tgt := 128) dX8_takeNumber_50 (by decide) (by omega) (by omega) (fun c50 => ?_) (fun c50 => ?_)
        · exact L128  (by exact (run_eq (i := nS s va) hT isFg1 (by omega) hb.1 hfig (by rw [hT.2.2 b (by omega)]; decide)).symm)
        · have hxb := hsg b (by omega) (by omega)
          have hsb := hT.r b
          refine M.aloadn (pc := 53) 0 rfl rfl dX8_takeNumber_53 ?_
          refine M.getf (pc := 54) fg_X8_23 0 rfl rfl dX8_takeNumber_54 ?_
          refine M.aloadn (pc := 57) 0 rfl rfl dX8_takeNumber_57 ?_
          refine M.getf (pc := 58) fg_X8_83 0 rfl rfl dX8_takeNumber_58 ?_
          refine M.iald (pc := 61) 1 rfl (by omega) (by omega) dX8_takeNumber_61 ?_
          refine M.i2l (pc := 62) (by omega) dX8_takeNumber_62 ?_
          refine M.ldc2 (pc := 63) (48) lc_X8_109 (by decide +kernel) dX8_takeNumber_63 ?_
          refine M.ldc2 (pc := 66) (57) lc_X8_111 (by decide +kernel) dX8_takeNumber_66 ?_
          refine M.pS (pc := 69) (c_X8_in  (by first | assumption | omega) (by first | assumption | omega) (by first | assumption | omega)) ms_X8_63 [] rfl rfl rfl rfl (Nat.le_of_ble_eq_true rfl) rfl ⟨(Nat.le_of_ble_eq_true rfl), (Nat.le_of_ble_eq_true rfl)⟩ ⟨(Nat.le_of_ble_eq_true rfl), (Nat.le_of_ble_eq_true rfl)⟩ rfl dX8_takeNumber_69 ?_
          refine M.if_eqP (pc := 72) (tgt := 128) dX8_takeNumber_72 (by decide) (fun c72 => ?_) (fun c72 => ?_)
          · exact L128  (by exact (run_eq (i := nS s va) hT isFg1 (by omega) hb.1 hfig (fun z => by have := of_decide_eq_true z; omega)).symm)
          · have hfb : isFg (s b) = true := decide_eq_true (by omega)
            have hnx := nv_s s (nS s va) (k := b - nS s va) (by omega)
            rw [show nS s va + (b - nS s va) = b by omega, show b - nS s va + 1 = b + 1 - nS s va by omega] at hnx
            have hf2 : ∀ j, nS s va ≤ j → j < b + 1 → isFg (s j) = true := fun j h0 h1 => by
              rcases (by omega : j < b ∨ j = b) with w | w
              · exact hfig j h0 w
              · rw [w]; exact hfb
            have hn4 : b - nS s va < 4 → 0 ≤ nv s (nS s va) (b + 1 - nS s va).toNat ∧ nv s (nS s va) (b + 1 - nS s va).toNat ≤ 9999 := fun z => nv_4 (by omega) (by omega) (fun j h0 h1 => hf2 j h0 (by omega))
            refine M.aloadn (pc := 75) 0 rfl rfl dX8_takeNumber_75 ?_
            have L112 : ∀ {v2 : Int}, (0 ≤ v2 ∧ v2 ≤ 2000000) → (b + 1 - nS s va ≤ 4 → v2 = nv s (nS s va) (b + 1 - nS s va).toNat) → V 0 0 112 [(m, eO 8 [.int (iI vb), .ref aBath, .int (iI vn), .ref aBather, .int (iI vo), .int (iI vm), .ref aMorn, .int (iI vs), .ref aText, .int (iI vt), .int (iI q.2), .int (iI b), .long (lI vsd), .int (iI vw), .int (iI v), .int (iI (nS s va)), .int (iI vrb), .ref aRB, .int (iI vrn), .ref aRN, .int (iI vro), .ref aLow, .ref aHigh, .int (iI (pI (vch = true))), .ref aNeeds, .ref aLikes, .ref aHts, .int (iI vtr), .int (iI vbk), .ref aBook, .ref aImg, .ref aKept]), (aText, eI G 400 gx)] [some (.ref m), some (.int (iI lo)), some (.int (iI up)), none] [.int (iI v2), .ref m] := by
              intro v2 hv2 hv3
              refine M.putf (pc := 112) fp_X8_120 0 rfl rfl rfl (Nat.le_of_ble_eq_true rfl) dX8_takeNumber_112 ?_
              dsimp only [List.set_cons_zero, List.set_cons_succ]
              refine M.aloadn (pc := 115) 0 rfl rfl dX8_takeNumber_115 ?_
              refine M.dup (pc := 116) rfl dX8_takeNumber_116 ?_
              refine M.getf (pc := 117) fg_X8_83 0 rfl rfl dX8_takeNumber_117 ?_
              refine M.iconst (pc := 120) dX8_takeNumber_120 ?_
              refine M.iadd (pc := 121) dX8_takeNumber_121 ?_
              refine M.putf (pc := 122) fp_X8_83 0 rfl rfl rfl (Nat.le_of_ble_eq_true rfl) dX8_takeNumber_122 ?_
              dsimp only [List.set_cons_zero, List.set_cons_succ]
              refine M.goto (pc := 125) (tgt := 42) dX8_takeNumber_125 (by decide) ?_
              exact ih42  (by first | assumption | omega) (by exact hf2) (by exact hv2) (by exact hv3) (by omega)
            refine M.aloadn (pc := 76) 0 rfl rfl dX8_takeNumber_76 ?_
            refine M.getf (pc := 77) fg_X8_120 0 rfl rfl dX8_takeNumber_77 ?_
            refine M.ldc (pc := 80) (100000) lc_X8_123 (by decide +kernel) dX8_takeNumber_80 ?_
            refine M.icmp_le (pc := 82) (tgt := 92) dX8_takeNumber_82 (by decide) (by omega) (by omega) (fun c82 => ?_) (fun c82 => ?_)
            · refine M.bipush (pc := 92) (by decide +kernel) dX8_takeNumber_92 ?_
              refine M.aloadn (pc := 94) 0 rfl rfl dX8_takeNumber_94 ?_
              refine M.getf (pc := 95) fg_X8_120 0 rfl rfl dX8_takeNumber_95 ?_
              refine M.imul (pc := 98) dX8_takeNumber_98 ?_
              refine M.aloadn (pc := 99) 0 rfl rfl dX8_takeNumber_99 ?_
              refine M.getf (pc := 100) fg_X8_23 0 rfl rfl dX8_takeNumber_100 ?_
              refine M.aloadn (pc := 103) 0 rfl rfl dX8_takeNumber_103 ?_
              refine M.getf (pc := 104) fg_X8_83 0 rfl rfl dX8_takeNumber_104 ?_
              refine M.iald (pc := 107) 1 rfl (by omega) (by omega) dX8_takeNumber_107 ?_
              refine M.iadd (pc := 108) dX8_takeNumber_108 ?_
              refine M.bipush (pc := 109) (by decide +kernel) dX8_takeNumber_109 ?_
              refine M.isub (pc := 111) dX8_takeNumber_111 ?_
              exact L112  (by first | assumption | omega) (by intro z; rw [hnx, ← hv (by omega)]; omega)
            · refine M.aloadn (pc := 85) 0 rfl rfl dX8_takeNumber_85 ?_
              refine M.getf (pc := 86) fg_X8_120 0 rfl rfl dX8_takeNumber_86 ?_
              refine M.goto (pc := 89) (tgt := 112) dX8_takeNumber_89 (by decide) ?_
              exact L112  (by first | assumption | omega) (by intro z; have h1 := hv (by omega); have h2 := nv_4 (s := s) (i := nS s va) (k := b - nS s va) (by omega) (by omega) (fun j h0 h1 => hfig j h0 (by omega)); omega)
    refine M.forget 3 ?_
    dsimp only [List.set_cons_zero, List.set_cons_succ]
    exact L42 _  (by first | assumption | omega) (by intro j _ h; omega) (by first | assumption | omega) (by intro _; rw [Int.sub_self]; rfl) (Nat.lt_succ_self _)
  · have hE0 : nE s va = nS s va := run_self (decide_eq_false (by omega))
    have hF1 : nF s lo up va = 1 := if_pos hE0
    refine M.aloadn (pc := 19) 0 rfl rfl dX8_takeNumber_19 ?_
    refine M.iconst (pc := 20) dX8_takeNumber_20 ?_
    refine M.aloadn (pc := 21) 0 rfl rfl dX8_takeNumber_21 ?_
    refine M.getf (pc := 22) fg_X8_83 0 rfl rfl dX8_takeNumber_22 ?_
    refine M.mV (pc := 25) (c_X8_fails  ) mv_X8_113 [0] rfl rfl rfl 0 rfl rfl rfl rfl (Nat.le_of_ble_eq_true rfl) rfl ⟨(Nat.le_of_ble_eq_true rfl), (Nat.le_of_ble_eq_true rfl)⟩ ⟨(Nat.le_of_ble_eq_true rfl), (Nat.le_of_ble_eq_true rfl)⟩ rfl (fun _ => rfl) dX8_takeNumber_25 (fun u25 hu25 => ?_)
    dsimp only [putL, List.set_cons_zero, List.set_cons_succ, Option.toList, List.cons_append, List.nil_append] at hu25 ⊢
    exact EI (vu, vna) _ _ _ _ dX8_takeNumber_28 (Or.inl rfl) (by rw [fl_f hq (by omega), hF1]) (by rw [fl_f hq (by omega), hE0]) (fun w => by rw [fl_f hq (by omega), hF1] at w; exact absurd (show (1 : Int) = 0 from w) (by decide))
set_option maxHeartbeats 4000000 in
set_option maxRecDepth 100000 in
theorem c_X8_into {l : Launch} {G : GT} {m aBath aBather aMorn aText aRB aRN aLow aHigh aNeeds aLikes aHts aBook aImg aKept : Nat} {vb vn vo vm vs vt vf va vw vu vna vrb vrn vro vtr vbk vsd : Int} {vch : Bool} {gx : Int → Int} {s : Int → Int} {x N : Nat} {gr : Int → Int} {q : Int × Int} {at0 lo up : Int} (hT : TXT s vt) (hsg : ∀ i, 0 ≤ i → i < vt → s i = gx i) (ha : 0 ≤ va ∧ va ≤ vt) (hq : q.1 = 0) (hlo : 0 ≤ lo ∧ lo ≤ 1) (hup : 0 ≤ up ∧ up ≤ 9999) (hat : 0 ≤ at0 ∧ at0 < (N : Int)) (hN : N < 10000) : Con l G yX8_into cX8_into 6 (some .int) { frames := 2, cells := 0, slots := 0, locals := 48 } [.ref m, .ref x, .int (iI at0), .int (iI lo), .int (iI up)] [(m, eO 8 [.int (iI vb), .ref aBath, .int (iI vn), .ref aBather, .int (iI vo), .int (iI vm), .ref aMorn, .int (iI vs), .ref aText, .int (iI vt), .int (iI q.2), .int (iI va), .long (lI vsd), .int (iI vw), .int (iI vu), .int (iI vna), .int (iI vrb), .ref aRB, .int (iI vrn), .ref aRN, .int (iI vro), .ref aLow, .ref aHigh, .int (iI (pI (vch = true))), .ref aNeeds, .ref aLikes, .ref aHts, .int (iI vtr), .int (iI vbk), .ref aBook, .ref aImg, .ref aKept]), (aText, eI G 400 gx), (x, eI G N gr)] (S := Int × Int) (fun _ => some (.int (iI (fl q (nF s lo up va) (nS s va)).1))) (fun u => [(m, eO 8 [.int (iI vb), .ref aBath, .int (iI vn), .ref aBather, .int (iI vo), .int (iI vm), .ref aMorn, .int (iI vs), .ref aText, .int (iI vt), .int (iI (fl q (nF s lo up va) (nS s va)).2), .int (iI (nE s va)), .long (lI vsd), .int (iI vw), .int (iI u.1), .int (iI u.2), .int (iI vrb), .ref aRB, .int (iI vrn), .ref aRN, .int (iI vro), .ref aLow, .ref aHigh, .int (iI (pI (vch = true))), .ref aNeeds, .ref aLikes, .ref aHts, .int (iI vtr), .int (iI vbk), .ref aBook, .ref aImg, .ref aKept]), (aText, eI G 400 gx), (x, eI G N (upZ gr at0 u.1))]) (fun u => ((fl q (nF s lo up va) (nS s va)).1 = 0 → u.1 = nV s va ∧ u.2 = nS s va)) := by
  refine Con.mk (by decide +kernel) [some (.ref m), some (.ref x), some (.int (iI at0)), some (.int (iI lo)), some (.int (iI up)), none] rfl (Nat.le_of_ble_eq_true rfl) rfl ?_
  intro V M EI EL EV EA
  refine M.aloadn (pc := 0) 0 rfl rfl dX8_into_0 ?_
  refine M.iloadn (pc := 1) 3 rfl rfl dX8_into_1 ?_
  refine M.iload (pc := 2) (i := 4) rfl dX8_into_2 ?_
  refine M.mV (pc := 4) (c_X8_takeNumber (q := q) (vf := 0) (by first | assumption | omega) (by first | assumption | omega) (by first | assumption | omega) (by first | assumption | omega) (by first | assumption | omega) (by first | assumption | omega)) mv_X8_124 [0, 1] rfl rfl rfl 0 rfl rfl rfl rfl (Nat.le_of_ble_eq_true rfl) rfl ⟨(Nat.le_of_ble_eq_true rfl), (Nat.le_of_ble_eq_true rfl)⟩ ⟨(Nat.le_of_ble_eq_true rfl), (Nat.le_of_ble_eq_true rfl)⟩ rfl (fun _ => rfl) dX8_into_4 (fun u4 hu4 => ?_)
  obtain ⟨n4, p4⟩ := u4
  dsimp only [putL, List.set_cons_zero, List.set_cons_succ, Option.toList, List.cons_append, List.nil_append] at hu4 ⊢
  refine M.istore (pc := 7) (i := 5) (Nat.le_of_ble_eq_true rfl) rfl dX8_into_7 ?_
  dsimp only [List.set_cons_zero, List.set_cons_succ]
  refine M.aloadn (pc := 9) 1 rfl rfl dX8_into_9 ?_
  refine M.iloadn (pc := 10) 2 rfl rfl dX8_into_10 ?_
  refine M.aloadn (pc := 11) 0 rfl rfl dX8_into_11 ?_
  refine M.getf (pc := 12) fg_X8_120 0 rfl rfl dX8_into_12 ?_
  refine M.iast (pc := 15) 2 rfl (by omega) (by omega) dX8_into_15 ?_
  dsimp only [List.set_cons_zero, List.set_cons_succ]
  refine M.iload (pc := 16) (i := 5) rfl dX8_into_16 ?_
  exact EI (n4, p4) _ _ _ _ dX8_into_18 (Or.inl rfl) (rfl) (rfl) (hu4)
