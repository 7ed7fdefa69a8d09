/-! the reference's reader: a clause, the whole text -/
theorem lc0 {a b : Int} (h : (if a < b then (-1 : Int) else if a = b then 0 else 1) = 0) : a = b := by
  by_cases h1 : a < b
  · rw [if_pos h1] at h; omega
  · rw [if_neg h1] at h
    by_cases h2 : a = b
    · exact h2
    · rw [if_neg h2] at h; omega
theorem lc1 {a b : Int} (h : ¬ (if a < b then (-1 : Int) else if a = b then 0 else 1) = 0) : a ≠ b := by
  intro e
  rw [if_neg (by omega), if_pos e] at h
  exact h rfl
theorem lcR (a b : Int) : InR (if a < b then (-1 : Int) else if a = b then 0 else 1) := by
  by_cases h1 : a < b
  · rw [if_pos h1]; exact ⟨by decide, by decide⟩
  · rw [if_neg h1]
    by_cases h2 : a = b
    · rw [if_pos h2]; exact ⟨by decide, by decide⟩
    · rw [if_neg h2]; exact ⟨by decide, by decide⟩
theorem kdW_r (s : Int → Int) (i e : Int) : kdW s i e = 0 ∨ kdW s i e = 1 ∨ kdW s i e = 2 ∨ kdW s i e = -1 := by
  unfold kdW
  split
  · exact Or.inl rfl
  · split
    · exact Or.inr (Or.inl rfl)
    · split
      · exact Or.inr (Or.inr (Or.inl rfl))
      · exact Or.inr (Or.inr (Or.inr rfl))
theorem clQ_k0 {s : Int → Int} {i nb n o : Int} (h : kdW s i (run isLt s i) = 0) : clQ s i nb n o = bthQ s (fl q0 (if nb = 2 then 3 else 0) i) (run isLt s i) := if_pos h
theorem clQ_k1 {s : Int → Int} {i nb n o : Int} (h : kdW s i (run isLt s i) = 1) : clQ s i nb n o = brQ s (fl q0 (if n = 6 then 3 else 0) i) (run isLt s i) := (if_neg (by omega)).trans (if_pos h)
theorem clQ_k2 {s : Int → Int} {i nb n o : Int} (h : kdW s i (run isLt s i) = 2) : clQ s i nb n o = odQ s (fl q0 (if o = 0 then 0 else 3) i) (run isLt s i) := (if_neg (by omega)).trans ((if_neg (by omega)).trans (if_pos h))
theorem clQ_kn {s : Int → Int} {i nb n o : Int} (h : kdW s i (run isLt s i) = -1) : clQ s i nb n o = (1, i) := ((if_neg (by omega)).trans ((if_neg (by omega)).trans (if_neg (by omega)))).trans (fl_f rfl (by decide))
theorem edQ_n {s : Int → Int} {q : Int × Int} {j : Int} (h : q.1 ≠ 0) : edQ s q j = q := fl_n h
theorem q3_n (i : Int) : ((3, i) : Int × Int).1 ≠ 0 := by show (3 : Int) ≠ 0; decide
theorem bthQ_3 (s : Int → Int) (i e : Int) : bthQ s (3, i) e = (3, i) := by
  unfold bthQ
  rw [fl_n (q3_n i), fl_n (q3_n i), fl_n (q3_n i), fl_n (q3_n i), edQ_n (q3_n i)]
theorem brQ_3 (s : Int → Int) (i e : Int) : brQ s (3, i) e = (3, i) := by
  unfold brQ
  rw [fl_n (q3_n i), fl_n (q3_n i), fl_n (q3_n i), fl_n (q3_n i), fl_n (q3_n i), fl_n (q3_n i), edQ_n (q3_n i)]
theorem odQ_3 (s : Int → Int) (i e : Int) : odQ s (3, i) e = (3, i) := by
  unfold odQ
  rw [fl_n (q3_n i), edQ_n (q3_n i)]
theorem q03 (i : Int) : fl q0 3 i = (3, i) := fl_f rfl (by decide)
theorem nS_idem {s : Int → Int} {i : Int} (h : isB (s i) = false) : nS s i = i := run_self h
/-- a number's part of a clause, and what comes of it -/
def CLP (s : Int → Int) (vt i nb n o : Int) (gb gn : Int → Int) (Q : Int × Int) (J a2 rb rn ro : Int) (g2 g3 : Int → Int) : Prop :=
  clQ s i nb n o = edQ s Q J ∧ (Q.1 = 0 → a2 = J ∧ (0 ≤ J ∧ J ≤ vt) ∧ (s (nS s J) = 59 → (nS s (nS s J + 1), rb, rn, ro, g2, g3) = nextP s (i, nb, n, o, gb, gn)))
theorem bthN_ok {s : Int → Int} {L e : Int} (hT : TXT s L) (h0 : 0 ≤ e) (h1 : e ≤ L) : FOK (bthN s q0 e) := by
  have s1 := nS_ok (i := e) hT (by omega) (by omega)
  have e1 := nE_ok (i := e) hT (by omega) (by omega)
  have s2 := nS_ok (i := nE s e) hT (by omega) (by omega)
  have e2 := nE_ok (i := nE s e) hT (by omega) (by omega)
  have s3 := nS_ok (i := nE s (nE s e)) hT (by omega) (by omega)
  have e3 := nE_ok (i := nE s (nE s e)) hT (by omega) (by omega)
  unfold bthN
  refine nfl_ok hT (nfl_ok hT (nfl_ok hT (nfl_ok hT q0_ok ?_ ?_) ?_ ?_) ?_ ?_) ?_ ?_ <;> omega
theorem brN_ok {s : Int → Int} {L e : Int} (hT : TXT s L) (h0 : 0 ≤ e) (h1 : e ≤ L) : FOK (brN s q0 e) := by
  have hL := hT.1
  have s1 := nS_ok (i := e) hT (by omega) (by omega)
  have e1 := nE_ok (i := e) hT (by omega) (by omega)
  have s2 := nS_ok (i := nE s e) hT (by omega) (by omega)
  have e2 := nE_ok (i := nE s e) hT (by omega) (by omega)
  have s3 := nS_ok (i := nE s (nE s e)) hT (by omega) (by omega)
  have e3 := nE_ok (i := nE s (nE s e)) hT (by omega) (by omega)
  unfold brN
  refine nfl_ok hT (fl_ok (nfl_ok hT (fl_ok (nfl_ok hT (nfl_ok hT q0_ok ?_ ?_) ?_ ?_) (by split <;> omega) (by omega)) ?_ ?_) (by split <;> omega) (by omega)) ?_ ?_ <;> omega
/-- the reference's reading, under way and at its end -/
def RMA (s : Int → Int) (vt : Int) (K : Nat) (f y a b n o e : Int) (g h : Int → Int) : Prop :=
  (f = 0 ∧ y = -1 ∧ e = 1 ∧ (0 ≤ a ∧ a ≤ vt) ∧ nS s a = pA s K ∧ (∀ j : Nat, j < K → GO s j) ∧ b = pB s K ∧ n = pN s K ∧ o = pO s K ∧ EQ4 g (pFB s K) (pB s K) ∧ EQ4 h (pFT s K) (pN s K)) ∨ (f ≠ 0 ∧ e = 0 ∧ FOK (f, y) ∧ PEND s K ∧ (f, y) = endQ s K)
def RMB (s : Int → Int) (K : Nat) (b n o : Int) (g h : Int → Int) : Prop := b = pB s K ∧ n = pN s K ∧ o = pO s K ∧ EQ4 g (pFB s K) (pB s K) ∧ EQ4 h (pFT s K) (pN s K)
def RME (s : Int → Int) (K : Nat) (f y b n o : Int) (g h : Int → Int) : Prop := PEND s K ∧ FOK (f, y) ∧ (f, y) = endQ s K ∧ (f = 0 → RMB s K b n o g h)
theorem RMA.next {s : Int → Int} {vt : Int} {K : Nat} {b n o : Int} {g h : Int → Int} {q : Int × Int} {a' b' n' o' : Int} {g' h' : Int → Int} (hT : TXT s vt) (hs : s (pA s K) ≠ -1) (hgo : ∀ j : Nat, j < K → GO s j) (hB : RMB s K b n o g h) (hq : q = clQ s (pA s K) b n o) (hn : q.1 = 0 → (nS s a', b', n', o', g', h') = nextP s (pA s K, b, n, o, g, h) ∧ (0 ≤ a' ∧ a' ≤ vt)) :
    ∃ e, RMA s vt (if q.1 = 0 then K + 1 else K) q.1 q.2 a' b' n' o' e g' h' ∧ (q.1 = 0 → e = 1) ∧ (q.1 ≠ 0 → e = 0) ∧ (q.1 = 0 → (K : Int) + 1 ≤ 400) := by
  obtain ⟨h5, h6, h7, h8, h9⟩ := hB
  subst h5 h6 h7
  have hpb := pst_b hT hgo
  have ec : q = cQ s K := hq
  have hfo := clQ_ok hT hpb.1.1 hpb.1.2 (pB s K) (pN s K) (pO s K)
  rw [← hq] at hfo
  by_cases z : q.1 = 0
  · refine ⟨1, ?_, fun _ => rfl, fun w => absurd z w, ?_⟩
    rotate_left
    · intro _
      have hgo3 : ∀ j : Nat, j < K + 1 → GO s j := fun j hj => by
        rcases (by omega : j < K ∨ j = K) with w | w
        · exact hgo j w
        · rw [w]; exact ⟨hs, by rw [← ec]; exact z⟩
      have h7 := pst_b hT hgo3
      have := hT.1
      omega
    rw [if_pos z]
    obtain ⟨h11, h12⟩ := hn z
    have c := next_cg (s := s) (i := pA s K) (o := pO s K) h8 h9
    rw [← h11] at c
    obtain ⟨c0, c2, c3, c4, c5, c6⟩ := c
    have hgo2 : ∀ j : Nat, j < K + 1 → GO s j := fun j hj => by
      rcases (by omega : j < K ∨ j = K) with w | w
      · exact hgo j w
      · rw [w]; exact ⟨hs, by rw [← ec]; exact z⟩
    refine Or.inl ⟨z, ?_, rfl, h12, c0, hgo2, c2, c3, c4, c5, c6⟩
    have h13 := z
    rw [hq] at h13 ⊢
    unfold clQ at h13 ⊢
    revert h13
    split
    · intro h13; rw [CLZ1 h13]; rfl
    · split
      · intro h13; rw [CLZ2 h13]; rfl
      · split
        · intro h13; rw [CLZ3 h13]; rfl
        · intro h13; rw [fl_f rfl (by decide)] at h13; exact absurd (show (1 : Int) = 0 from h13) (by decide)
  · refine ⟨0, ?_, fun w => absurd w z, fun _ => rfl, fun w => absurd w z⟩
    rw [if_neg z]
    refine Or.inr ⟨z, rfl, hfo, ⟨hgo, fun w => z (by rw [ec]; exact w.2)⟩, ?_⟩
    unfold endQ
    rw [if_neg hs]
    exact ec
set_option maxHeartbeats 4000000 in
set_option maxRecDepth 100000 in
theorem c_X8_takeClause {l : Launch} {G : GT} {m aBath aBather aMorn aText aRB aRN aLow aHigh aNeeds aLikes aHts aBook aImg aKept : Nat} {vb vn vo vm vs vt vf va vw vu vna vrb vrn vro vtr vbk vsd : Int} {vch : Bool} {gx : Int → Int} {grb : Int → Int} {grn : Int → Int} {s : Int → Int} (hT : TXT s vt) (hsg : ∀ i, 0 ≤ i → i < vt → s i = gx i) (ha : 0 ≤ va ∧ va ≤ vt) (hnb : isB (s va) = false) (hrb : 0 ≤ vrb ∧ vrb ≤ 2) (hrn : 0 ≤ vrn ∧ vrn ≤ 6) (hro : 0 ≤ vro ∧ vro ≤ 999) : Con l G yX8_takeClause cX8_takeClause 3 (some .int) { frames := 4, cells := 0, slots := 0, locals := 95 } [.ref m] [(m, eO 8 [.int (iI vb), .ref aBath, .int (iI vn), .ref aBather, .int (iI vo), .int (iI vm), .ref aMorn, .int (iI vs), .ref aText, .int (iI vt), .int (iI (-1)), .int (iI va), .long (lI vsd), .int (iI vw), .int (iI vu), .int (iI vna), .int (iI vrb), .ref aRB, .int (iI vrn), .ref aRN, .int (iI vro), .ref aLow, .ref aHigh, .int (iI (pI (vch = true))), .ref aNeeds, .ref aLikes, .ref aHts, .int (iI vtr), .int (iI vbk), .ref aBook, .ref aImg, .ref aKept]), (aText, eI G 400 gx), (aRB, eI G 8 grb), (aRN, eI G 24 grn)] (S := Int × Int × Int × Int × Int × Int × Int × Int × (Int → Int) × (Int → Int)) (fun _ => some (.int (iI (clQ s va vrb vrn vro).1))) (fun u => [(m, eO 8 [.int (iI vb), .ref aBath, .int (iI vn), .ref aBather, .int (iI vo), .int (iI vm), .ref aMorn, .int (iI vs), .ref aText, .int (iI vt), .int (iI (clQ s va vrb vrn vro).2), .int (iI u.1), .long (lI u.2.1), .int (iI u.2.2.1), .int (iI u.2.2.2.1), .int (iI u.2.2.2.2.1), .int (iI u.2.2.2.2.2.1), .ref aRB, .int (iI u.2.2.2.2.2.2.1), .ref aRN, .int (iI u.2.2.2.2.2.2.2.1), .ref aLow, .ref aHigh, .int (iI (pI (vch = true))), .ref aNeeds, .ref aLikes, .ref aHts, .int (iI vtr), .int (iI vbk), .ref aBook, .ref aImg, .ref aKept]), (aText, eI G 400 gx), (aRB, eI G 8 u.2.2.2.2.2.2.2.2.1), (aRN, eI G 24 u.2.2.2.2.2.2.2.2.2)]) (fun u => (clQ s va vrb vrn vro).1 = 0 → (nS s u.1, u.2.2.2.2.2.1, u.2.2.2.2.2.2.1, u.2.2.2.2.2.2.2.1, u.2.2.2.2.2.2.2.2.1, u.2.2.2.2.2.2.2.2.2) = nextP s (va, vrb, vrn, vro, grb, grn) ∧ (0 ≤ u.1 ∧ u.1 ≤ vt)) := by
  refine Con.mk (by decide +kernel) [some (.ref m), none, none] rfl (Nat.le_of_ble_eq_true rfl) rfl ?_
  intro V M EI EL EV EA
  have hL := hT.1
  have hid := nS_idem hnb
  have hw := wd_ok hT ha.1 ha.2
  have hsd := sdw_b (s := s) (i := va) (run isLt s va - va).toNat (fun j j0 j1 => hw.1.2.1 j j0 (by omega))
  have hkd0 := sdw_kd (s := s) hw.2.1 hw.1.2.1
  have hcq := clQ_ok hT ha.1 ha.2 vrb vrn vro
  have hcb := hcq.1
  refine M.aloadn (pc := 0) 0 rfl rfl dX8_takeClause_0 ?_
  refine M.mV (pc := 1) (c_X8_readWord  (by first | assumption | omega) (by first | assumption | omega) (by first | assumption | omega)) mv_X8_137 [0, 1] rfl rfl rfl 0 rfl rfl rfl rfl (Nat.le_of_ble_eq_true rfl) rfl ⟨(Nat.le_of_ble_eq_true rfl), (Nat.le_of_ble_eq_true rfl)⟩ ⟨(Nat.le_of_ble_eq_true rfl), (Nat.le_of_ble_eq_true rfl)⟩ rfl (fun _ => rfl) dX8_takeClause_1 (fun u1 hu1 => ?_)
  dsimp only [putL, List.set_cons_zero, List.set_cons_succ, Option.toList, List.cons_append, List.nil_append] at hu1 ⊢
  have L87 : ∀ {kd : Int}, (kd = kdW s va (run isLt s va)) → V 0 0 87 [(m, eO 8 [.int (iI vb), .ref aBath, .int (iI vn), .ref aBather, .int (iI vo), .int (iI vm), .ref aMorn, .int (iI vs), .ref aText, .int (iI vt), .int (iI (-1)), .int (iI va), .long (lI (sdw s va (run isLt s va - va).toNat)), .int (iI (run isLt s va)), .int (iI vu), .int (iI vna), .int (iI vrb), .ref aRB, .int (iI vrn), .ref aRN, .int (iI vro), .ref aLow, .ref aHigh, .int (iI (pI (vch = true))), .ref aNeeds, .ref aLikes, .ref aHts, .int (iI vtr), .int (iI vbk), .ref aBook, .ref aImg, .ref aKept]), (aText, eI G 400 gx), (aRB, eI G 8 grb), (aRN, eI G 24 grn)] [some (.ref m), none, none] [.int (iI kd)] := by
    intro kd hkd
    refine M.istoren (pc := 87) 1 rfl (Nat.le_of_ble_eq_true rfl) rfl dX8_takeClause_87 ?_
    dsimp only [List.set_cons_zero, List.set_cons_succ]
    have hkr := kdW_r s va (run isLt s va)
    rw [← hkd] at hkr
    refine M.iloadn (pc := 88) 1 rfl rfl dX8_takeClause_88 ?_
    refine M.if_ge (pc := 89) (tgt := 102) dX8_takeClause_89 (by decide) (by omega) (fun c89 => ?_) (fun c89 => ?_)
    · have L141 : (clQ s va vrb vrn vro = (3, va)) → V 0 0 141 [(m, eO 8 [.int (iI vb), .ref aBath, .int (iI vn), .ref aBather, .int (iI vo), .int (iI vm), .ref aMorn, .int (iI vs), .ref aText, .int (iI vt), .int (iI (-1)), .int (iI va), .long (lI (sdw s va (run isLt s va - va).toNat)), .int (iI (run isLt s va)), .int (iI vu), .int (iI vna), .int (iI vrb), .ref aRB, .int (iI vrn), .ref aRN, .int (iI vro), .ref aLow, .ref aHigh, .int (iI (pI (vch = true))), .ref aNeeds, .ref aLikes, .ref aHts, .int (iI vtr), .int (iI vbk), .ref aBook, .ref aImg, .ref aKept]), (aText, eI G 400 gx), (aRB, eI G 8 grb), (aRN, eI G 24 grn)] [some (.ref m), none, none] [] := by
        intro  hq3
        refine M.aloadn (pc := 141) 0 rfl rfl dX8_takeClause_141 ?_
        refine M.iconst (pc := 142) dX8_takeClause_142 ?_
        refine M.aloadn (pc := 143) 0 rfl rfl dX8_takeClause_143 ?_
        refine M.getf (pc := 144) fg_X8_83 0 rfl rfl dX8_takeClause_144 ?_
        refine M.mV (pc := 147) (c_X8_fails  ) mv_X8_113 [0] rfl rfl rfl 0 rfl rfl rfl rfl (Nat.le_of_ble_eq_true rfl) rfl ⟨(Nat.le_of_ble_eq_true rfl), (Nat.le_of_ble_eq_true rfl)⟩ ⟨(Nat.le_of_ble_eq_true rfl), (Nat.le_of_ble_eq_true rfl)⟩ rfl (fun _ => rfl) dX8_takeClause_147 (fun u147 hu147 => ?_)
        dsimp only [putL, List.set_cons_zero, List.set_cons_succ, Option.toList, List.cons_append, List.nil_append] at hu147 ⊢
        exact EI (va, (sdw s va (run isLt s va - va).toNat), (run isLt s va), vu, vna, vrb, vrn, vro, grb, grn) _ _ _ _ dX8_takeClause_150 (Or.inl rfl) (by rw [hq3]) (by rw [hq3]) (fun w => by rw [hq3] at w; exact absurd (show (3 : Int) = 0 from w) (by decide))
      have L151 : ((kd = 0 → vrb < 2) ∧ (kd = 1 → vrn < 6) ∧ (kd = 2 → vro = 0)) → V 0 0 151 [(m, eO 8 [.int (iI vb), .ref aBath, .int (iI vn), .ref aBather, .int (iI vo), .int (iI vm), .ref aMorn, .int (iI vs), .ref aText, .int (iI vt), .int (iI (-1)), .int (iI va), .long (lI (sdw s va (run isLt s va - va).toNat)), .int (iI (run isLt s va)), .int (iI vu), .int (iI vna), .int (iI vrb), .ref aRB, .int (iI vrn), .ref aRN, .int (iI vro), .ref aLow, .ref aHigh, .int (iI (pI (vch = true))), .ref aNeeds, .ref aLikes, .ref aHts, .int (iI vtr), .int (iI vbk), .ref aBook, .ref aImg, .ref aKept]), (aText, eI G 400 gx), (aRB, eI G 8 grb), (aRN, eI G 24 grn)] [some (.ref m), some (.int (iI kd)), none] [] := by
        intro  hk3
        refine M.aloadn (pc := 151) 0 rfl rfl dX8_takeClause_151 ?_
        refine M.aloadn (pc := 152) 0 rfl rfl dX8_takeClause_152 ?_
        refine M.getf (pc := 153) fg_X8_94 0 rfl rfl dX8_takeClause_153 ?_
        refine M.putf (pc := 156) fp_X8_83 0 rfl rfl rfl (Nat.le_of_ble_eq_true rfl) dX8_takeClause_156 ?_
        dsimp only [List.set_cons_zero, List.set_cons_succ]
        refine M.iconst (pc := 159) dX8_takeClause_159 ?_
        refine M.istoren (pc := 160) 2 rfl (Nat.le_of_ble_eq_true rfl) rfl dX8_takeClause_160 ?_
        dsimp only [List.set_cons_zero, List.set_cons_succ]
        have L202 : ∀ {f y a2 n2 p2 rb2 rn2 ro2 J : Int} {Q : Int × Int} {g2 g3 : Int → Int}, (CLP s vt va vrb vrn vro grb grn Q J a2 rb2 rn2 ro2 g2 g3) → (f = Q.1) → (y = Q.2) → (FOK Q) → V 0 0 202 [(m, eO 8 [.int (iI vb), .ref aBath, .int (iI vn), .ref aBather, .int (iI vo), .int (iI vm), .ref aMorn, .int (iI vs), .ref aText, .int (iI vt), .int (iI y), .int (iI a2), .long (lI (sdw s va (run isLt s va - va).toNat)), .int (iI (run isLt s va)), .int (iI n2), .int (iI p2), .int (iI rb2), .ref aRB, .int (iI rn2), .ref aRN, .int (iI ro2), .ref aLow, .ref aHigh, .int (iI (pI (vch = true))), .ref aNeeds, .ref aLikes, .ref aHts, .int (iI vtr), .int (iI vbk), .ref aBook, .ref aImg, .ref aKept]), (aText, eI G 400 gx), (aRB, eI G 8 g2), (aRN, eI G 24 g3)] [some (.ref m), none, some (.int (iI f))] [] := by
          intro f y a2 n2 p2 rb2 rn2 ro2 J Q g2 g3 hP hf hy hFQ
          refine M.iloadn (pc := 202) 2 rfl rfl dX8_takeClause_202 ?_
          have L225 : ∀ {a3 : Int}, (clQ s va vrb vrn vro = Q) → (Q.1 = 0 → (nS s (a3 + 1), rb2, rn2, ro2, g2, g3) = nextP s (va, vrb, vrn, vro, grb, grn) ∧ (0 ≤ a3 + 1 ∧ a3 + 1 ≤ vt)) → V 0 0 225 [(m, eO 8 [.int (iI vb), .ref aBath, .int (iI vn), .ref aBather, .int (iI vo), .int (iI vm), .ref aMorn, .int (iI vs), .ref aText, .int (iI vt), .int (iI y), .int (iI a3), .long (lI (sdw s va (run isLt s va - va).toNat)), .int (iI (run isLt s va)), .int (iI n2), .int (iI p2), .int (iI rb2), .ref aRB, .int (iI rn2), .ref aRN, .int (iI ro2), .ref aLow, .ref aHigh, .int (iI (pI (vch = true))), .ref aNeeds, .ref aLikes, .ref aHts, .int (iI vtr), .int (iI vbk), .ref aBook, .ref aImg, .ref aKept]), (aText, eI G 400 gx), (aRB, eI G 8 g2), (aRN, eI G 24 g3)] [some (.ref m), none, some (.int (iI f))] [] := by
            intro a3 hq5 hn5
            refine M.aloadn (pc := 225) 0 rfl rfl dX8_takeClause_225 ?_
            refine M.dup (pc := 226) rfl dX8_takeClause_226 ?_
            refine M.getf (pc := 227) fg_X8_83 0 rfl rfl dX8_takeClause_227 ?_
            refine M.iconst (pc := 230) dX8_takeClause_230 ?_
            refine M.iadd (pc := 231) dX8_takeClause_231 ?_
            refine M.putf (pc := 232) fp_X8_83 0 rfl rfl rfl (Nat.le_of_ble_eq_true rfl) dX8_takeClause_232 ?_
            dsimp only [List.set_cons_zero, List.set_cons_succ]
            refine M.iloadn (pc := 235) 2 rfl rfl dX8_takeClause_235 ?_
            exact EI (a3 + 1, (sdw s va (run isLt s va - va).toNat), (run isLt s va), n2, p2, rb2, rn2, ro2, g2, g3) _ _ _ _ dX8_takeClause_236 (Or.inl rfl) (by rw [hq5, hf]) (by rw [hq5, hy]) (fun w => hn5 (by rw [hq5] at w; exact w))
          obtain ⟨hQ, hJ⟩ := id hP
          have hfb := hFQ.1
          refine M.if_ne (pc := 203) (tgt := 225) dX8_takeClause_203 (by decide) (by omega) (fun c203 => ?_) (fun c203 => ?_)
          · exact L225  (by rw [hQ]; exact edQ_n (by omega)) (by intro w; omega)
          · obtain ⟨e1, e2, e3⟩ := hJ (by omega)
            subst e1
            have sJ := nS_ok hT e2.1 e2.2
            have hsJ := hT.r (nS s a2)
            refine M.aloadn (pc := 206) 0 rfl rfl dX8_takeClause_206 ?_
            refine M.mV (pc := 207) (c_X8_here  (by first | assumption | omega) (by first | assumption | omega) (by first | assumption | omega)) mv_X8_86 [0, 1] rfl rfl rfl 0 rfl rfl rfl rfl (Nat.le_of_ble_eq_true rfl) rfl ⟨(Nat.le_of_ble_eq_true rfl), (Nat.le_of_ble_eq_true rfl)⟩ ⟨(Nat.le_of_ble_eq_true rfl), (Nat.le_of_ble_eq_true rfl)⟩ rfl (fun _ => rfl) dX8_takeClause_207 (fun u207 hu207 => ?_)
            dsimp only [putL, List.set_cons_zero, List.set_cons_succ, Option.toList, List.cons_append, List.nil_append] at hu207 ⊢
            refine M.bipush (pc := 210) (by decide +kernel) dX8_takeClause_210 ?_
            refine M.icmp_eq (pc := 212) (tgt := 225) dX8_takeClause_212 (by decide) (by omega) (by omega) (fun c212 => ?_) (fun c212 => ?_)
            · exact L225  (by rw [hQ]; unfold edQ; rw [if_pos (by omega)]; exact fl_same _ _) (by intro w; have hi := hT.in (i := nS s a2) (by omega); exact ⟨e3 (by omega), by omega, by omega⟩)
            · refine M.aloadn (pc := 215) 0 rfl rfl dX8_takeClause_215 ?_
              refine M.iconst (pc := 216) dX8_takeClause_216 ?_
              refine M.aloadn (pc := 217) 0 rfl rfl dX8_takeClause_217 ?_
              refine M.getf (pc := 218) fg_X8_83 0 rfl rfl dX8_takeClause_218 ?_
              refine M.mV (pc := 221) (c_X8_fails  ) mv_X8_113 [0] rfl rfl rfl 0 rfl rfl rfl rfl (Nat.le_of_ble_eq_true rfl) rfl ⟨(Nat.le_of_ble_eq_true rfl), (Nat.le_of_ble_eq_true rfl)⟩ ⟨(Nat.le_of_ble_eq_true rfl), (Nat.le_of_ble_eq_true rfl)⟩ rfl (fun _ => rfl) dX8_takeClause_221 (fun u221 hu221 => ?_)
              dsimp only [putL, List.set_cons_zero, List.set_cons_succ, Option.toList, List.cons_append, List.nil_append] at hu221 ⊢
              have hq1 : clQ s va vrb vrn vro = (1, nS s a2) := by
                rw [hQ]
                unfold edQ
                rw [if_neg c212, fl_f (by omega) (by decide)]
              exact EI (nS s a2, (sdw s va (run isLt s va - va).toNat), (run isLt s va), n2, p2, rb2, rn2, ro2, g2, g3) _ _ _ _ dX8_takeClause_224 (Or.inl rfl) (by rw [hq1]) (by rw [hq1]) (fun w => by rw [hq1] at w; exact absurd (show (1 : Int) = 0 from w) (by decide))
        have L201 : ∀ {f y a2 n2 p2 rb2 rn2 ro2 J : Int} {Q : Int × Int} {g2 g3 : Int → Int}, (CLP s vt va vrb vrn vro grb grn Q J a2 rb2 rn2 ro2 g2 g3) → (f = Q.1) → (y = Q.2) → (FOK Q) → V 0 0 201 [(m, eO 8 [.int (iI vb), .ref aBath, .int (iI vn), .ref aBather, .int (iI vo), .int (iI vm), .ref aMorn, .int (iI vs), .ref aText, .int (iI vt), .int (iI y), .int (iI a2), .long (lI (sdw s va (run isLt s va - va).toNat)), .int (iI (run isLt s va)), .int (iI n2), .int (iI p2), .int (iI rb2), .ref aRB, .int (iI rn2), .ref aRN, .int (iI ro2), .ref aLow, .ref aHigh, .int (iI (pI (vch = true))), .ref aNeeds, .ref aLikes, .ref aHts, .int (iI vtr), .int (iI vbk), .ref aBook, .ref aImg, .ref aKept]), (aText, eI G 400 gx), (aRB, eI G 8 g2), (aRN, eI G 24 g3)] [some (.ref m), none, none] [.int (iI f)] := by
          intro f y a2 n2 p2 rb2 rn2 ro2 J Q g2 g3 hP hf hy hFQ
          refine M.istoren (pc := 201) 2 rfl (Nat.le_of_ble_eq_true rfl) rfl dX8_takeClause_201 ?_
          dsimp only [List.set_cons_zero, List.set_cons_succ]
          exact L202 (J := J) (Q := Q) (by first | assumption | omega) (by first | assumption | omega) (by first | assumption | omega) (by first | assumption | omega)
        refine M.iloadn (pc := 161) 1 rfl rfl dX8_takeClause_161 ?_
        refine M.iconst (pc := 162) dX8_takeClause_162 ?_
        refine M.icmp_ne (pc := 163) (tgt := 186) dX8_takeClause_163 (by decide) (by omega) (by omega) (fun c163 => ?_) (fun c163 => ?_)
        · refine M.iloadn (pc := 186) 1 rfl rfl dX8_takeClause_186 ?_
          refine M.if_ne (pc := 187) (tgt := 197) dX8_takeClause_187 (by decide) (by omega) (fun c187 => ?_) (fun c187 => ?_)
          · refine M.aloadn (pc := 197) 0 rfl rfl dX8_takeClause_197 ?_
            refine M.mV (pc := 198) (c_X8_takeBather (vf := 0) (by first | assumption | omega) (by first | assumption | omega) (by omega) (by have := hk3; omega)) mv_X8_154 [0, 1, 3] rfl rfl rfl 0 rfl rfl rfl rfl (Nat.le_of_ble_eq_true rfl) rfl ⟨(Nat.le_of_ble_eq_true rfl), (Nat.le_of_ble_eq_true rfl)⟩ ⟨(Nat.le_of_ble_eq_true rfl), (Nat.le_of_ble_eq_true rfl)⟩ rfl (fun _ => rfl) dX8_takeClause_198 (fun u198 hu198 => ?_)
            obtain ⟨a198, n198, p198, g198⟩ := u198
            dsimp only [putL, List.set_cons_zero, List.set_cons_succ, Option.toList, List.cons_append, List.nil_append] at hu198 ⊢
            refine M.forget 1 ?_
            dsimp only [List.set_cons_zero, List.set_cons_succ]
            refine M.forget 2 ?_
            dsimp only [List.set_cons_zero, List.set_cons_succ]
            exact L201 (J := (nE s (nE s (nE s (nE s (run isLt s va)))))) (Q := (brN s q0 (run isLt s va))) (by 
      have hk : kdW s va (run isLt s va) = 1 := by omega
      have s1 := nS_ok (i := (run isLt s va)) hT (by omega) (by omega)
      have e1 := nE_ok (i := (run isLt s va)) hT (by omega) (by omega)
      have s2 := nS_ok (i := (nE s (run isLt s va))) hT (by omega) (by omega)
      have e2 := nE_ok (i := (nE s (run isLt s va))) hT (by omega) (by omega)
      have s3 := nS_ok (i := (nE s (nE s (run isLt s va)))) hT (by omega) (by omega)
      have e3 := nE_ok (i := (nE s (nE s (run isLt s va)))) hT (by omega) (by omega)
      have s4 := nS_ok (i := (nE s (nE s (nE s (run isLt s va))))) hT (by omega) (by omega)
      have e4 := nE_ok (i := (nE s (nE s (nE s (run isLt s va))))) hT (by omega) (by omega)
      refine ⟨?_, fun w => ⟨(hu198 w).1, ⟨by omega, by omega⟩, fun _ => ?_⟩⟩
      · rw [clQ_k1 hk, if_neg (by have := hk3; omega), fl_same]; rfl
      · rw [(hu198 w).2]
        exact ((if_neg (show ¬ kdW s va (run isLt s va) = 0 by omega)).trans (if_pos hk)).symm) (by rfl) (by rfl) (by exact brN_ok hT (by omega) (by omega))
          · refine M.aloadn (pc := 190) 0 rfl rfl dX8_takeClause_190 ?_
            refine M.mV (pc := 191) (c_X8_takeBath (vf := 0) (by first | assumption | omega) (by first | assumption | omega) (by omega) (by have := hk3; omega)) mv_X8_151 [0, 1, 2] rfl rfl rfl 0 rfl rfl rfl rfl (Nat.le_of_ble_eq_true rfl) rfl ⟨(Nat.le_of_ble_eq_true rfl), (Nat.le_of_ble_eq_true rfl)⟩ ⟨(Nat.le_of_ble_eq_true rfl), (Nat.le_of_ble_eq_true rfl)⟩ rfl (fun _ => rfl) dX8_takeClause_191 (fun u191 hu191 => ?_)
            obtain ⟨a191, n191, p191, g191⟩ := u191
            dsimp only [putL, List.set_cons_zero, List.set_cons_succ, Option.toList, List.cons_append, List.nil_append] at hu191 ⊢
            refine M.goto (pc := 194) (tgt := 201) dX8_takeClause_194 (by decide) ?_
            refine M.forget 1 ?_
            dsimp only [List.set_cons_zero, List.set_cons_succ]
            refine M.forget 2 ?_
            dsimp only [List.set_cons_zero, List.set_cons_succ]
            exact L201 (J := (nE s (nE s (nE s (nE s (run isLt s va)))))) (Q := (bthN s q0 (run isLt s va))) (by 
      have hk : kdW s va (run isLt s va) = 0 := by omega
      have s1 := nS_ok (i := (run isLt s va)) hT (by omega) (by omega)
      have e1 := nE_ok (i := (run isLt s va)) hT (by omega) (by omega)
      have s2 := nS_ok (i := (nE s (run isLt s va))) hT (by omega) (by omega)
      have e2 := nE_ok (i := (nE s (run isLt s va))) hT (by omega) (by omega)
      have s3 := nS_ok (i := (nE s (nE s (run isLt s va)))) hT (by omega) (by omega)
      have e3 := nE_ok (i := (nE s (nE s (run isLt s va)))) hT (by omega) (by omega)
      have s4 := nS_ok (i := (nE s (nE s (nE s (run isLt s va))))) hT (by omega) (by omega)
      have e4 := nE_ok (i := (nE s (nE s (nE s (run isLt s va))))) hT (by omega) (by omega)
      refine ⟨?_, fun w => ⟨(hu191 w).1, ⟨by omega, by omega⟩, fun _ => ?_⟩⟩
      · rw [clQ_k0 hk, if_neg (by have := hk3; omega), fl_same]; rfl
      · rw [(hu191 w).2]
        exact (if_pos hk).symm) (by rfl) (by rfl) (by exact bthN_ok hT (by omega) (by omega))
        · refine M.aloadn (pc := 166) 0 rfl rfl dX8_takeClause_166 ?_
          refine M.iconst (pc := 167) dX8_takeClause_167 ?_
          refine M.sipush (pc := 168) (by decide +kernel) dX8_takeClause_168 ?_
          refine M.mV (pc := 171) (c_X8_takeNumber (q := q0) (vf := 0) (by first | assumption | omega) (by first | assumption | omega) (by omega) (by rfl) (by first | assumption | omega) (by first | assumption | omega)) mv_X8_124 [0, 1] rfl rfl rfl 0 rfl rfl rfl rfl (Nat.le_of_ble_eq_true rfl) rfl ⟨(Nat.le_of_ble_eq_true rfl), (Nat.le_of_ble_eq_true rfl)⟩ ⟨(Nat.le_of_ble_eq_true rfl), (Nat.le_of_ble_eq_true rfl)⟩ rfl (fun _ => rfl) dX8_takeClause_171 (fun u171 hu171 => ?_)
          obtain ⟨n171, p171⟩ := u171
          dsimp only [putL, List.set_cons_zero, List.set_cons_succ, Option.toList, List.cons_append, List.nil_append] at hu171 ⊢
          refine M.istoren (pc := 174) 2 rfl (Nat.le_of_ble_eq_true rfl) rfl dX8_takeClause_174 ?_
          dsimp only [List.set_cons_zero, List.set_cons_succ]
          refine M.aloadn (pc := 175) 0 rfl rfl dX8_takeClause_175 ?_
          refine M.aloadn (pc := 176) 0 rfl rfl dX8_takeClause_176 ?_
          refine M.getf (pc := 177) fg_X8_120 0 rfl rfl dX8_takeClause_177 ?_
          refine M.putf (pc := 180) fp_X8_148 0 rfl rfl rfl (Nat.le_of_ble_eq_true rfl) dX8_takeClause_180 ?_
          dsimp only [List.set_cons_zero, List.set_cons_succ]
          refine M.goto (pc := 183) (tgt := 202) dX8_takeClause_183 (by decide) ?_
          refine M.forget 1 ?_
          dsimp only [List.set_cons_zero, List.set_cons_succ]
          exact L202 (J := (nE s (run isLt s va))) (Q := (fl q0 (nF s 1 999 (run isLt s va)) (nS s (run isLt s va)))) (by 
      have hk : kdW s va (run isLt s va) = 2 := by omega
      have s1 := nS_ok (i := (run isLt s va)) hT (by omega) (by omega)
      have e1 := nE_ok (i := (run isLt s va)) hT (by omega) (by omega)
      refine ⟨?_, fun w => ⟨rfl, ⟨by omega, by omega⟩, fun _ => ?_⟩⟩
      · rw [clQ_k2 hk, if_pos (hk3.2.2 (by omega)), fl_same]; rfl
      · rw [(hu171 w).1]
        exact ((if_neg (show ¬ kdW s va (run isLt s va) = 0 by omega)).trans (if_neg (show ¬ kdW s va (run isLt s va) = 1 by omega))).symm) (by rfl) (by rfl) (by exact nfl_ok hT q0_ok (by omega) (by omega))
      have hk2 : kd = 0 ∨ kd = 1 ∨ kd = 2 := by omega
      refine M.iloadn (pc := 102) 1 rfl rfl dX8_takeClause_102 ?_
      refine M.if_ne (pc := 103) (tgt := 117) dX8_takeClause_103 (by decide) (by omega) (fun c103 => ?_) (fun c103 => ?_)
      · refine M.iloadn (pc := 117) 1 rfl rfl dX8_takeClause_117 ?_
        refine M.iconst (pc := 118) dX8_takeClause_118 ?_
        refine M.icmp_ne (pc := 119) (tgt := 134) dX8_takeClause_119 (by decide) (by omega) (by omega) (fun c119 => ?_) (fun c119 => ?_)
        · refine M.aloadn (pc := 134) 0 rfl rfl dX8_takeClause_134 ?_
          refine M.getf (pc := 135) fg_X8_148 0 rfl rfl dX8_takeClause_135 ?_
          refine M.if_le (pc := 138) (tgt := 151) dX8_takeClause_138 (by decide) (by omega) (fun c138 => ?_) (fun c138 => ?_)
          · exact L151  (by refine ⟨fun z => by omega, fun z => by omega, fun z => by omega⟩)
          · refine M.forget 1 ?_
            dsimp only [List.set_cons_zero, List.set_cons_succ]
            exact L141  (by rw [clQ_k2 (by omega), if_neg (by omega), q03, odQ_3])
        · refine M.aloadn (pc := 122) 0 rfl rfl dX8_takeClause_122 ?_
          refine M.getf (pc := 123) fg_X8_134 0 rfl rfl dX8_takeClause_123 ?_
          refine M.bipush (pc := 126) (by decide +kernel) dX8_takeClause_126 ?_
          refine M.icmp_ne (pc := 128) (tgt := 151) dX8_takeClause_128 (by decide) (by omega) (by omega) (fun c128 => ?_) (fun c128 => ?_)
          · exact L151  (by refine ⟨fun z => by omega, fun z => by omega, fun z => by omega⟩)
          · refine M.goto (pc := 131) (tgt := 141) dX8_takeClause_131 (by decide) ?_
            refine M.forget 1 ?_
            dsimp only [List.set_cons_zero, List.set_cons_succ]
            exact L141  (by rw [clQ_k1 (by omega), if_pos (by omega), q03, brQ_3])
      · refine M.aloadn (pc := 106) 0 rfl rfl dX8_takeClause_106 ?_
        refine M.getf (pc := 107) fg_X8_127 0 rfl rfl dX8_takeClause_107 ?_
        refine M.iconst (pc := 110) dX8_takeClause_110 ?_
        refine M.icmp_ne (pc := 111) (tgt := 151) dX8_takeClause_111 (by decide) (by omega) (by omega) (fun c111 => ?_) (fun c111 => ?_)
        · exact L151  (by refine ⟨fun z => by omega, fun z => by omega, fun z => by omega⟩)
        · refine M.goto (pc := 114) (tgt := 141) dX8_takeClause_114 (by decide) ?_
          refine M.forget 1 ?_
          dsimp only [List.set_cons_zero, List.set_cons_succ]
          exact L141  (by rw [clQ_k0 (by omega), if_pos (by omega), q03, bthQ_3])
    · refine M.aloadn (pc := 92) 0 rfl rfl dX8_takeClause_92 ?_
      refine M.iconst (pc := 93) dX8_takeClause_93 ?_
      refine M.aloadn (pc := 94) 0 rfl rfl dX8_takeClause_94 ?_
      refine M.getf (pc := 95) fg_X8_83 0 rfl rfl dX8_takeClause_95 ?_
      refine M.mV (pc := 98) (c_X8_fails  ) mv_X8_113 [0] rfl rfl rfl 0 rfl rfl rfl rfl (Nat.le_of_ble_eq_true rfl) rfl ⟨(Nat.le_of_ble_eq_true rfl), (Nat.le_of_ble_eq_true rfl)⟩ ⟨(Nat.le_of_ble_eq_true rfl), (Nat.le_of_ble_eq_true rfl)⟩ rfl (fun _ => rfl) dX8_takeClause_98 (fun u98 hu98 => ?_)
      dsimp only [putL, List.set_cons_zero, List.set_cons_succ, Option.toList, List.cons_append, List.nil_append] at hu98 ⊢
      have hkn := clQ_kn (s := s) (i := va) (nb := vrb) (n := vrn) (o := vro) (by omega)
      exact EI (va, (sdw s va (run isLt s va - va).toNat), (run isLt s va), vu, vna, vrb, vrn, vro, grb, grn) _ _ _ _ dX8_takeClause_101 (Or.inl rfl) (by rw [hkn]) (by rw [hkn]) (fun w => by rw [hkn] at w; exact absurd (show (1 : Int) = 0 from w) (by decide))
  rw [hid]
  refine M.aloadn (pc := 4) 0 rfl rfl dX8_takeClause_4 ?_
  refine M.getf (pc := 5) fg_X8_90 0 rfl rfl dX8_takeClause_5 ?_
  refine M.bipush (pc := 8) (by decide +kernel) dX8_takeClause_8 ?_
  refine M.bipush (pc := 10) (by decide +kernel) dX8_takeClause_10 ?_
  refine M.bipush (pc := 12) (by decide +kernel) dX8_takeClause_12 ?_
  refine M.pS (pc := 14) (c_X8_code  (by first | assumption | omega) (by first | assumption | omega) (by first | assumption | omega)) ms_X8_140 [] rfl rfl rfl rfl (Nat.le_of_ble_eq_true rfl) rfl ⟨(Nat.le_of_ble_eq_true rfl), (Nat.le_of_ble_eq_true rfl)⟩ ⟨(Nat.le_of_ble_eq_true rfl), (Nat.le_of_ble_eq_true rfl)⟩ rfl dX8_takeClause_14 ?_
  refine M.bipush (pc := 17) (by decide +kernel) dX8_takeClause_17 ?_
  refine M.iconst (pc := 19) dX8_takeClause_19 ?_
  refine M.pS (pc := 20) (c_X8_longer  (by first | assumption | omega) (by first | assumption | omega)) ms_X8_144 [] rfl rfl rfl rfl (Nat.le_of_ble_eq_true rfl) rfl ⟨(Nat.le_of_ble_eq_true rfl), (Nat.le_of_ble_eq_true rfl)⟩ ⟨(Nat.le_of_ble_eq_true rfl), (Nat.le_of_ble_eq_true rfl)⟩ rfl dX8_takeClause_20 ?_
  refine M.lcmp (pc := 23) (by omega) (by decide) dX8_takeClause_23 ?_
  refine M.if_ne (pc := 24) (tgt := 31) dX8_takeClause_24 (by decide) (by exact lcR _ _) (fun c24 => ?_) (fun c24 => ?_)
  · refine M.aloadn (pc := 31) 0 rfl rfl dX8_takeClause_31 ?_
    refine M.getf (pc := 32) fg_X8_90 0 rfl rfl dX8_takeClause_32 ?_
    refine M.bipush (pc := 35) (by decide +kernel) dX8_takeClause_35 ?_
    refine M.bipush (pc := 37) (by decide +kernel) dX8_takeClause_37 ?_
    refine M.bipush (pc := 39) (by decide +kernel) dX8_takeClause_39 ?_
    refine M.pS (pc := 41) (c_X8_code  (by first | assumption | omega) (by first | assumption | omega) (by first | assumption | omega)) ms_X8_140 [] rfl rfl rfl rfl (Nat.le_of_ble_eq_true rfl) rfl ⟨(Nat.le_of_ble_eq_true rfl), (Nat.le_of_ble_eq_true rfl)⟩ ⟨(Nat.le_of_ble_eq_true rfl), (Nat.le_of_ble_eq_true rfl)⟩ rfl dX8_takeClause_41 ?_
    refine M.bipush (pc := 44) (by decide +kernel) dX8_takeClause_44 ?_
    refine M.bipush (pc := 46) (by decide +kernel) dX8_takeClause_46 ?_
    refine M.pS (pc := 48) (c_X8_longer  (by first | assumption | omega) (by first | assumption | omega)) ms_X8_144 [] rfl rfl rfl rfl (Nat.le_of_ble_eq_true rfl) rfl ⟨(Nat.le_of_ble_eq_true rfl), (Nat.le_of_ble_eq_true rfl)⟩ ⟨(Nat.le_of_ble_eq_true rfl), (Nat.le_of_ble_eq_true rfl)⟩ rfl dX8_takeClause_48 ?_
    refine M.bipush (pc := 51) (by decide +kernel) dX8_takeClause_51 ?_
    refine M.iconst (pc := 53) dX8_takeClause_53 ?_
    refine M.pS (pc := 54) (c_X8_longer  (by first | assumption | omega) (by first | assumption | omega)) ms_X8_144 [] rfl rfl rfl rfl (Nat.le_of_ble_eq_true rfl) rfl ⟨(Nat.le_of_ble_eq_true rfl), (Nat.le_of_ble_eq_true rfl)⟩ ⟨(Nat.le_of_ble_eq_true rfl), (Nat.le_of_ble_eq_true rfl)⟩ rfl dX8_takeClause_54 ?_
    refine M.lcmp (pc := 57) (by omega) (by decide) dX8_takeClause_57 ?_
    refine M.if_ne (pc := 58) (tgt := 65) dX8_takeClause_58 (by decide) (by exact lcR _ _) (fun c58 => ?_) (fun c58 => ?_)
    · refine M.aloadn (pc := 65) 0 rfl rfl dX8_takeClause_65 ?_
      refine M.getf (pc := 66) fg_X8_90 0 rfl rfl dX8_takeClause_66 ?_
      refine M.bipush (pc := 69) (by decide +kernel) dX8_takeClause_69 ?_
      refine M.bipush (pc := 71) (by decide +kernel) dX8_takeClause_71 ?_
      refine M.bipush (pc := 73) (by decide +kernel) dX8_takeClause_73 ?_
      refine M.pS (pc := 75) (c_X8_code  (by first | assumption | omega) (by first | assumption | omega) (by first | assumption | omega)) ms_X8_140 [] rfl rfl rfl rfl (Nat.le_of_ble_eq_true rfl) rfl ⟨(Nat.le_of_ble_eq_true rfl), (Nat.le_of_ble_eq_true rfl)⟩ ⟨(Nat.le_of_ble_eq_true rfl), (Nat.le_of_ble_eq_true rfl)⟩ rfl dX8_takeClause_75 ?_
      refine M.lcmp (pc := 78) (by omega) (by decide) dX8_takeClause_78 ?_
      refine M.if_ne (pc := 79) (tgt := 86) dX8_takeClause_79 (by decide) (by exact lcR _ _) (fun c79 => ?_) (fun c79 => ?_)
      · refine M.iconst (pc := 86) dX8_takeClause_86 ?_
        exact L87  (by have z1 := lc1 c24; have z2 := lc1 c58; have z3 := lc1 c79; rw [hkd0, if_neg (fun z => z1 (z.trans (by decide))), if_neg (fun z => z2 (z.trans (by decide))), if_neg (fun z => z3 (z.trans (by decide)))])
      · refine M.iconst (pc := 82) dX8_takeClause_82 ?_
        refine M.goto (pc := 83) (tgt := 87) dX8_takeClause_83 (by decide) ?_
        exact L87  (by have z1 := lc1 c24; have z2 := lc1 c58; have z3 := lc0 c79; rw [hkd0, if_neg (fun z => z1 (z.trans (by decide))), if_neg (fun z => z2 (z.trans (by decide))), if_pos (z3.trans (by decide))])
    · refine M.iconst (pc := 61) dX8_takeClause_61 ?_
      refine M.goto (pc := 62) (tgt := 87) dX8_takeClause_62 (by decide) ?_
      exact L87  (by have z1 := lc1 c24; have z2 := lc0 c58; rw [hkd0, if_neg (fun z => z1 (z.trans (by decide))), if_pos (z2.trans (by decide))])
  · refine M.iconst (pc := 27) dX8_takeClause_27 ?_
    refine M.goto (pc := 28) (tgt := 87) dX8_takeClause_28 (by decide) ?_
    exact L87  (by rw [hkd0, if_pos ((lc0 c24).trans (by decide))])
set_option maxHeartbeats 4000000 in
set_option maxRecDepth 100000 in
theorem c_X8_house {l : Launch} {G : GT} {m aBath aBather aMorn aText aRB aRN aLow aHigh aNeeds aLikes aHts aBook aImg aKept : Nat} {vb vn vo vm vs vt vf va vw vu vna vrb vrn vro vtr vbk vsd : Int} {vch : Bool} {gb : Int → Int} {gt : Int → Int} {gx : Int → Int} {grb : Int → Int} {grn : Int → Int} {gz : Int → Int} {s : Int → Int} (hT : TXT s vt) (hsg : ∀ i, 0 ≤ i → i < vt → s i = gx i) : Con l G yX8_house cX8_house 3 (some .int) { frames := 5, cells := 0, slots := 0, locals := 117 } [.ref m] [(m, eO 8 [.int (iI vb), .ref aBath, .int (iI vn), .ref aBather, .int (iI vo), .int (iI vm), .ref aMorn, .int (iI vs), .ref aText, .int (iI vt), .int (iI vf), .int (iI va), .long (lI vsd), .int (iI vw), .int (iI vu), .int (iI vna), .int (iI vrb), .ref aRB, .int (iI vrn), .ref aRN, .int (iI vro), .ref aLow, .ref aHigh, .int (iI (pI (vch = true))), .ref aNeeds, .ref aLikes, .ref aHts, .int (iI vtr), .int (iI vbk), .ref aBook, .ref aImg, .ref aKept]), (aBath, eI G 8 gb), (aBather, eI G 24 gt), (aText, eI G 400 gx), (aRB, eI G 8 grb), (aRN, eI G 24 grn), (aKept, eZ G 2 gz)] (S := Nat × Int × Int × Int × Int × Int × Int × Int × Int × (Int → Int) × (Int → Int) × Int × Int × Int × Int × Int × (Int → Int) × (Int → Int) × (Int → Int) × Unit) (fun u => some (.int (iI (if (endQ s u.1).1 = 0 then pN s u.1 else -10 - (endQ s u.1).1)))) (fun u => [(m, eO 8 [.int (iI u.2.2.2.2.2.2.2.2.2.2.2.1), .ref aBath, .int (iI u.2.2.2.2.2.2.2.2.2.2.2.2.1), .ref aBather, .int (iI u.2.2.2.2.2.2.2.2.2.2.2.2.2.1), .int (iI u.2.2.2.2.2.2.2.2.2.2.2.2.2.2.1), .ref aMorn, .int (iI vs), .ref aText, .int (iI 0), .int (iI (endQ s u.1).2), .int (iI u.2.1), .long (lI u.2.2.1), .int (iI u.2.2.2.1), .int (iI u.2.2.2.2.1), .int (iI u.2.2.2.2.2.1), .int (iI u.2.2.2.2.2.2.1), .ref aRB, .int (iI u.2.2.2.2.2.2.2.1), .ref aRN, .int (iI u.2.2.2.2.2.2.2.2.1), .ref aLow, .ref aHigh, .int (iI (pI (vch = true))), .ref aNeeds, .ref aLikes, .ref aHts, .int (iI vtr), .int (iI u.2.2.2.2.2.2.2.2.2.2.2.2.2.2.2.1), .ref aBook, .ref aImg, .ref aKept]), (aBath, eI G 8 u.2.2.2.2.2.2.2.2.2.2.2.2.2.2.2.2.1), (aBather, eI G 24 u.2.2.2.2.2.2.2.2.2.2.2.2.2.2.2.2.2.1), (aText, eI G 400 gx), (aRB, eI G 8 u.2.2.2.2.2.2.2.2.2.1), (aRN, eI G 24 u.2.2.2.2.2.2.2.2.2.2.1), (aKept, eZ G 2 u.2.2.2.2.2.2.2.2.2.2.2.2.2.2.2.2.2.2.1)]) (fun u => PEND s u.1 ∧ FOK (endQ s u.1) ∧ ((endQ s u.1).1 ≠ 0 → u.2.2.2.2.2.2.2.2.2.2.2.1 = vb ∧ u.2.2.2.2.2.2.2.2.2.2.2.2.1 = vn ∧ u.2.2.2.2.2.2.2.2.2.2.2.2.2.1 = vo ∧ u.2.2.2.2.2.2.2.2.2.2.2.2.2.2.1 = vm ∧ u.2.2.2.2.2.2.2.2.2.2.2.2.2.2.2.1 = vbk ∧ u.2.2.2.2.2.2.2.2.2.2.2.2.2.2.2.2.1 = gb ∧ u.2.2.2.2.2.2.2.2.2.2.2.2.2.2.2.2.2.1 = gt ∧ u.2.2.2.2.2.2.2.2.2.2.2.2.2.2.2.2.2.2.1 = gz) ∧ ((endQ s u.1).1 = 0 → u.2.2.2.2.2.2.2.2.2.2.2.1 = pB s u.1 ∧ u.2.2.2.2.2.2.2.2.2.2.2.2.1 = pN s u.1 ∧ u.2.2.2.2.2.2.2.2.2.2.2.2.2.1 = (if pO s u.1 = 0 then 5 else pO s u.1) ∧ u.2.2.2.2.2.2.2.2.2.2.2.2.2.2.1 = 0 ∧ u.2.2.2.2.2.2.2.2.2.2.2.2.2.2.2.1 = 0 ∧ EQ4 u.2.2.2.2.2.2.2.2.2.2.2.2.2.2.2.2.1 (pFB s u.1) (pB s u.1) ∧ EQ4 u.2.2.2.2.2.2.2.2.2.2.2.2.2.2.2.2.2.1 (pFT s u.1) (pN s u.1) ∧ u.2.2.2.2.2.2.2.2.2.2.2.2.2.2.2.2.2.2.1 0 = 0 ∧ u.2.2.2.2.2.2.2.2.2.2.2.2.2.2.2.2.2.2.1 1 = 0)) := by
  refine Con.mk (by decide +kernel) [some (.ref m), none, none] rfl (Nat.le_of_ble_eq_true rfl) rfl ?_
  intro V M EI EL EV EA
  have hL := hT.1
  have h0S := nS_ok (i := 0) hT (by omega) (by omega)
  refine M.aloadn (pc := 0) 0 rfl rfl dX8_house_0 ?_
  refine M.iconst (pc := 1) dX8_house_1 ?_
  refine M.putf (pc := 2) fp_X8_26 0 rfl rfl rfl (Nat.le_of_ble_eq_true rfl) dX8_house_2 ?_
  dsimp only [List.set_cons_zero, List.set_cons_succ]
  refine M.aloadn (pc := 5) 0 rfl rfl dX8_house_5 ?_
  refine M.iconst (pc := 6) dX8_house_6 ?_
  refine M.putf (pc := 7) fp_X8_83 0 rfl rfl rfl (Nat.le_of_ble_eq_true rfl) dX8_house_7 ?_
  dsimp only [List.set_cons_zero, List.set_cons_succ]
  refine M.aloadn (pc := 10) 0 rfl rfl dX8_house_10 ?_
  refine M.iconst (pc := 11) dX8_house_11 ?_
  refine M.putf (pc := 12) fp_X8_127 0 rfl rfl rfl (Nat.le_of_ble_eq_true rfl) dX8_house_12 ?_
  dsimp only [List.set_cons_zero, List.set_cons_succ]
  refine M.aloadn (pc := 15) 0 rfl rfl dX8_house_15 ?_
  refine M.iconst (pc := 16) dX8_house_16 ?_
  refine M.putf (pc := 17) fp_X8_134 0 rfl rfl rfl (Nat.le_of_ble_eq_true rfl) dX8_house_17 ?_
  dsimp only [List.set_cons_zero, List.set_cons_succ]
  refine M.aloadn (pc := 20) 0 rfl rfl dX8_house_20 ?_
  refine M.iconst (pc := 21) dX8_house_21 ?_
  refine M.putf (pc := 22) fp_X8_148 0 rfl rfl rfl (Nat.le_of_ble_eq_true rfl) dX8_house_22 ?_
  dsimp only [List.set_cons_zero, List.set_cons_succ]
  refine M.iconst (pc := 25) dX8_house_25 ?_
  refine M.istoren (pc := 26) 1 rfl (Nat.le_of_ble_eq_true rfl) rfl dX8_house_26 ?_
  dsimp only [List.set_cons_zero, List.set_cons_succ]
  have L27 : ∀ (fu : Nat) {K : Nat} {f y a2 d2 w2 n2 p2 rb2 rn2 ro2 : Int} {e2 : Int} {g2 g3 : Int → Int}, (RMA s vt K f y a2 rb2 rn2 ro2 e2 g2 g3) → ((K : Int) ≤ 400 ∧ 0 ≤ e2) → (401 - (K : Int) + e2).toNat < fu → V 0 0 27 [(m, eO 8 [.int (iI vb), .ref aBath, .int (iI vn), .ref aBather, .int (iI vo), .int (iI vm), .ref aMorn, .int (iI vs), .ref aText, .int (iI vt), .int (iI y), .int (iI a2), .long (lI d2), .int (iI w2), .int (iI n2), .int (iI p2), .int (iI rb2), .ref aRB, .int (iI rn2), .ref aRN, .int (iI ro2), .ref aLow, .ref aHigh, .int (iI (pI (vch = true))), .ref aNeeds, .ref aLikes, .ref aHts, .int (iI vtr), .int (iI vbk), .ref aBook, .ref aImg, .ref aKept]), (aBath, eI G 8 gb), (aBather, eI G 24 gt), (aText, eI G 400 gx), (aRB, eI G 8 g2), (aRN, eI G 24 g3), (aKept, eZ G 2 gz)] [some (.ref m), some (.int (iI f)), none] [] := by
    intro fu
    induction fu with
    | zero => intro K f y a2 d2 w2 n2 p2 rb2 rn2 ro2 e2 g2 g3 hA hKb hm; exact absurd hm (Nat.not_lt_zero _)
    | succ fu ih27 =>
      intro K f y a2 d2 w2 n2 p2 rb2 rn2 ro2 e2 g2 g3 hA hKb hm27
      have L46 : ∀ {a3 : Int}, (RME s K f y rb2 rn2 ro2 g2 g3) → V 0 0 46 [(m, eO 8 [.int (iI vb), .ref aBath, .int (iI vn), .ref aBather, .int (iI vo), .int (iI vm), .ref aMorn, .int (iI vs), .ref aText, .int (iI vt), .int (iI y), .int (iI a3), .long (lI d2), .int (iI w2), .int (iI n2), .int (iI p2), .int (iI rb2), .ref aRB, .int (iI rn2), .ref aRN, .int (iI ro2), .ref aLow, .ref aHigh, .int (iI (pI (vch = true))), .ref aNeeds, .ref aLikes, .ref aHts, .int (iI vtr), .int (iI vbk), .ref aBook, .ref aImg, .ref aKept]), (aBath, eI G 8 gb), (aBather, eI G 24 gt), (aText, eI G 400 gx), (aRB, eI G 8 g2), (aRN, eI G 24 g3), (aKept, eZ G 2 gz)] [some (.ref m), some (.int (iI f)), none] [] := by
        intro a3 hE
        refine M.aloadn (pc := 46) 0 rfl rfl dX8_house_46 ?_
        refine M.iconst (pc := 47) dX8_house_47 ?_
        refine M.putf (pc := 48) fp_X8_77 0 rfl rfl rfl (Nat.le_of_ble_eq_true rfl) dX8_house_48 ?_
        dsimp only [List.set_cons_zero, List.set_cons_succ]
        have hfb := hE.2.1.1
        refine M.iloadn (pc := 51) 1 rfl rfl dX8_house_51 ?_
        refine M.if_le (pc := 52) (tgt := 60) dX8_house_52 (by decide) (by omega) (fun c52 => ?_) (fun c52 => ?_)
        · obtain ⟨hP1, hF1, hQ1, hBB⟩ := id hE
          have hf1 : f = (endQ s K).1 := congrArg Prod.fst hQ1
          have hy1 : y = (endQ s K).2 := congrArg Prod.snd hQ1
          have hf0 : (endQ s K).1 = 0 := by omega
          obtain ⟨hB1, hB2, hB3, hB4, hB5⟩ := hBB (by omega)
          have hpb2 := pst_b hT hP1.1
          refine M.aloadn (pc := 60) 0 rfl rfl dX8_house_60 ?_
          have L92 : ∀ {od2 : Int}, (od2 = (if pO s K = 0 then 5 else pO s K)) → V 0 0 92 [(m, eO 8 [.int (iI rb2), .ref aBath, .int (iI rn2), .ref aBather, .int (iI vo), .int (iI vm), .ref aMorn, .int (iI vs), .ref aText, .int (iI 0), .int (iI y), .int (iI a3), .long (lI d2), .int (iI w2), .int (iI n2), .int (iI p2), .int (iI rb2), .ref aRB, .int (iI rn2), .ref aRN, .int (iI ro2), .ref aLow, .ref aHigh, .int (iI (pI (vch = true))), .ref aNeeds, .ref aLikes, .ref aHts, .int (iI vtr), .int (iI vbk), .ref aBook, .ref aImg, .ref aKept]), (aBath, eI G 8 gb), (aBather, eI G 24 gt), (aText, eI G 400 gx), (aRB, eI G 8 g2), (aRN, eI G 24 g3), (aKept, eZ G 2 gz)] [some (.ref m), none, none] [.int (iI od2), .ref m] := by
            intro od2 hod
            refine M.putf (pc := 92) fp_X8_16 0 rfl rfl rfl (Nat.le_of_ble_eq_true rfl) dX8_house_92 ?_
            dsimp only [List.set_cons_zero, List.set_cons_succ]
            refine M.iconst (pc := 95) dX8_house_95 ?_
            refine M.istoren (pc := 96) 2 rfl (Nat.le_of_ble_eq_true rfl) rfl dX8_house_96 ?_
            dsimp only [List.set_cons_zero, List.set_cons_succ]
            have L97 : ∀ (fu : Nat) {k : Int} {x1 : Int → Int}, (0 ≤ k ∧ k ≤ 8) → (∀ x, 0 ≤ x → x < k → x1 x = g2 x) → (8 - k).toNat < fu → V 0 0 97 [(m, eO 8 [.int (iI rb2), .ref aBath, .int (iI rn2), .ref aBather, .int (iI od2), .int (iI vm), .ref aMorn, .int (iI vs), .ref aText, .int (iI 0), .int (iI y), .int (iI a3), .long (lI d2), .int (iI w2), .int (iI n2), .int (iI p2), .int (iI rb2), .ref aRB, .int (iI rn2), .ref aRN, .int (iI ro2), .ref aLow, .ref aHigh, .int (iI (pI (vch = true))), .ref aNeeds, .ref aLikes, .ref aHts, .int (iI vtr), .int (iI vbk), .ref aBook, .ref aImg, .ref aKept]), (aBath, eI G 8 x1), (aBather, eI G 24 gt), (aText, eI G 400 gx), (aRB, eI G 8 g2), (aRN, eI G 24 g3), (aKept, eZ G 2 gz)] [some (.ref m), none, some (.int (iI k))] [] := by
              intro fu
              induction fu with
              | zero => intro k x1 hk hx1 hm; exact absurd hm (Nat.not_lt_zero _)
              | succ fu ih97 =>
                intro k x1 hk hx1 hm97
                refine M.iloadn (pc := 97) 2 rfl rfl dX8_house_97 ?_
                refine M.bipush (pc := 98) (by decide +kernel) dX8_house_98 ?_
                refine M.icmp_ge (pc := 100) (tgt := 121) dX8_house_100 (by decide) (by omega) (by omega) (fun c100 => ?_) (fun c100 => ?_)
                · refine M.iconst (pc := 121) dX8_house_121 ?_
                  refine M.istoren (pc := 122) 2 rfl (Nat.le_of_ble_eq_true rfl) rfl dX8_house_122 ?_
                  dsimp only [List.set_cons_zero, List.set_cons_succ]
                  have L123 : ∀ (fu : Nat) {k2 : Int} {x2 : Int → Int}, (0 ≤ k2 ∧ k2 ≤ 24) → (∀ x, 0 ≤ x → x < k2 → x2 x = g3 x) → (24 - k2).toNat < fu → V 0 0 123 [(m, eO 8 [.int (iI rb2), .ref aBath, .int (iI rn2), .ref aBather, .int (iI od2), .int (iI vm), .ref aMorn, .int (iI vs), .ref aText, .int (iI 0), .int (iI y), .int (iI a3), .long (lI d2), .int (iI w2), .int (iI n2), .int (iI p2), .int (iI rb2), .ref aRB, .int (iI rn2), .ref aRN, .int (iI ro2), .ref aLow, .ref aHigh, .int (iI (pI (vch = true))), .ref aNeeds, .ref aLikes, .ref aHts, .int (iI vtr), .int (iI vbk), .ref aBook, .ref aImg, .ref aKept]), (aBath, eI G 8 x1), (aBather, eI G 24 x2), (aText, eI G 400 gx), (aRB, eI G 8 g2), (aRN, eI G 24 g3), (aKept, eZ G 2 gz)] [some (.ref m), none, some (.int (iI k2))] [] := by
                    intro fu
                    induction fu with
                    | zero => intro k2 x2 hk2 hx2 hm; exact absurd hm (Nat.not_lt_zero _)
                    | succ fu ih123 =>
                      intro k2 x2 hk2 hx2 hm123
                      refine M.iloadn (pc := 123) 2 rfl rfl dX8_house_123 ?_
                      refine M.bipush (pc := 124) (by decide +kernel) dX8_house_124 ?_
                      refine M.icmp_ge (pc := 126) (tgt := 147) dX8_house_126 (by decide) (by omega) (by omega) (fun c126 => ?_) (fun c126 => ?_)
                      · refine M.aloadn (pc := 147) 0 rfl rfl dX8_house_147 ?_
                        refine M.iconst (pc := 148) dX8_house_148 ?_
                        refine M.putf (pc := 149) fp_X8_160 0 rfl rfl rfl (Nat.le_of_ble_eq_true rfl) dX8_house_149 ?_
                        dsimp only [List.set_cons_zero, List.set_cons_succ]
                        refine M.aloadn (pc := 152) 0 rfl rfl dX8_house_152 ?_
                        refine M.iconst (pc := 153) dX8_house_153 ?_
                        refine M.putf (pc := 154) fp_X8_163 0 rfl rfl rfl (Nat.le_of_ble_eq_true rfl) dX8_house_154 ?_
                        dsimp only [List.set_cons_zero, List.set_cons_succ]
                        refine M.aloadn (pc := 157) 0 rfl rfl dX8_house_157 ?_
                        refine M.getf (pc := 158) fg_X8_56 0 rfl rfl dX8_house_158 ?_
                        refine M.iconst (pc := 161) dX8_house_161 ?_
                        refine M.iconst (pc := 162) dX8_house_162 ?_
                        refine M.zast (pc := 163) 6 rfl (by omega) (by omega) (by decide +kernel) dX8_house_163 ?_
                        dsimp only [List.set_cons_zero, List.set_cons_succ]
                        refine M.aloadn (pc := 164) 0 rfl rfl dX8_house_164 ?_
                        refine M.getf (pc := 165) fg_X8_56 0 rfl rfl dX8_house_165 ?_
                        refine M.iconst (pc := 168) dX8_house_168 ?_
                        refine M.iconst (pc := 169) dX8_house_169 ?_
                        refine M.zast (pc := 170) 6 rfl (by omega) (by omega) (by decide +kernel) dX8_house_170 ?_
                        dsimp only [List.set_cons_zero, List.set_cons_succ]
                        refine M.aloadn (pc := 171) 0 rfl rfl dX8_house_171 ?_
                        refine M.getf (pc := 172) fg_X8_67 0 rfl rfl dX8_house_172 ?_
                        have hz1 : EQ4 x1 (pFB s K) (pB s K) := fun x h0 h1 => by rw [hx1 x h0 (by have := hpb2.2.1; omega)]; exact hB4 x h0 h1
                        have hz2 : EQ4 x2 (pFT s K) (pN s K) := fun x h0 h1 => by rw [hx2 x h0 (by have := hpb2.2.2.1; omega)]; exact hB5 x h0 h1
                        exact EI (K, a3, d2, w2, n2, p2, rb2, rn2, ro2, g2, g3, rb2, rn2, od2, 0, 0, x1, x2, upZ (upZ gz 0 0) 1 0, ()) _ _ _ _ dX8_house_175 (Or.inl rfl) (by show some (Value.int (iI (if (endQ s K).1 = 0 then pN s K else -10 - (endQ s K).1))) = _; rw [if_pos hf0, hB2]) (by rw [hy1]) (⟨hP1, by rw [← hQ1]; exact hF1, fun w => absurd hf0 w, fun _ => ⟨hB1, hB2, hod, rfl, rfl, hz1, hz2, rfl, rfl⟩⟩)
                      · refine M.aloadn (pc := 129) 0 rfl rfl dX8_house_129 ?_
                        refine M.getf (pc := 130) fg_X8_13 0 rfl rfl dX8_house_130 ?_
                        refine M.iloadn (pc := 133) 2 rfl rfl dX8_house_133 ?_
                        refine M.aloadn (pc := 134) 0 rfl rfl dX8_house_134 ?_
                        refine M.getf (pc := 135) fg_X8_32 0 rfl rfl dX8_house_135 ?_
                        refine M.iloadn (pc := 138) 2 rfl rfl dX8_house_138 ?_
                        refine M.iald (pc := 139) 5 rfl (by omega) (by omega) dX8_house_139 ?_
                        refine M.iast (pc := 140) 2 rfl (by omega) (by omega) dX8_house_140 ?_
                        dsimp only [List.set_cons_zero, List.set_cons_succ]
                        refine M.iinc (pc := 141) (i := 2) rfl rfl dX8_house_141 ?_
                        dsimp only [List.set_cons_zero, List.set_cons_succ]
                        refine M.goto (pc := 144) (tgt := 123) dX8_house_144 (by decide) ?_
                        exact ih123  (by first | assumption | omega) (by intro x h0 h1; by_cases e : x = k2; rw [e, upZ_s]; rw [upZ_n e]; exact hx2 x h0 (by omega)) (by omega)
                  exact L123 _  (by first | assumption | omega) (by intro x _ h; omega) (Nat.lt_succ_self _)
                · refine M.aloadn (pc := 103) 0 rfl rfl dX8_house_103 ?_
                  refine M.getf (pc := 104) fg_X8_7 0 rfl rfl dX8_house_104 ?_
                  refine M.iloadn (pc := 107) 2 rfl rfl dX8_house_107 ?_
                  refine M.aloadn (pc := 108) 0 rfl rfl dX8_house_108 ?_
                  refine M.getf (pc := 109) fg_X8_29 0 rfl rfl dX8_house_109 ?_
                  refine M.iloadn (pc := 112) 2 rfl rfl dX8_house_112 ?_
                  refine M.iald (pc := 113) 4 rfl (by omega) (by omega) dX8_house_113 ?_
                  refine M.iast (pc := 114) 1 rfl (by omega) (by omega) dX8_house_114 ?_
                  dsimp only [List.set_cons_zero, List.set_cons_succ]
                  refine M.iinc (pc := 115) (i := 2) rfl rfl dX8_house_115 ?_
                  dsimp only [List.set_cons_zero, List.set_cons_succ]
                  refine M.goto (pc := 118) (tgt := 97) dX8_house_118 (by decide) ?_
                  exact ih97  (by first | assumption | omega) (by intro x h0 h1; by_cases e : x = k; rw [e, upZ_s]; rw [upZ_n e]; exact hx1 x h0 (by omega)) (by omega)
            exact L97 _  (by first | assumption | omega) (by intro x _ h; omega) (Nat.lt_succ_self _)
          refine M.aloadn (pc := 61) 0 rfl rfl dX8_house_61 ?_
          refine M.getf (pc := 62) fg_X8_127 0 rfl rfl dX8_house_62 ?_
          refine M.putf (pc := 65) fp_X8_60 0 rfl rfl rfl (Nat.le_of_ble_eq_true rfl) dX8_house_65 ?_
          dsimp only [List.set_cons_zero, List.set_cons_succ]
          refine M.aloadn (pc := 68) 0 rfl rfl dX8_house_68 ?_
          refine M.aloadn (pc := 69) 0 rfl rfl dX8_house_69 ?_
          refine M.getf (pc := 70) fg_X8_134 0 rfl rfl dX8_house_70 ?_
          refine M.putf (pc := 73) fp_X8_67 0 rfl rfl rfl (Nat.le_of_ble_eq_true rfl) dX8_house_73 ?_
          dsimp only [List.set_cons_zero, List.set_cons_succ]
          refine M.aloadn (pc := 76) 0 rfl rfl dX8_house_76 ?_
          refine M.aloadn (pc := 77) 0 rfl rfl dX8_house_77 ?_
          refine M.getf (pc := 78) fg_X8_148 0 rfl rfl dX8_house_78 ?_
          have hro9 : InR ro2 := by rw [hB3]; have := hpb2.2.2.2.1; exact ⟨by omega, by omega⟩
          refine M.if_le (pc := 81) (tgt := 91) dX8_house_81 (by decide) (by omega) (fun c81 => ?_) (fun c81 => ?_)
          · refine M.iconst (pc := 91) dX8_house_91 ?_
            refine M.forget 1 ?_
            dsimp only [List.set_cons_zero, List.set_cons_succ]
            exact L92  (by rw [if_pos (by omega)])
          · refine M.aloadn (pc := 84) 0 rfl rfl dX8_house_84 ?_
            refine M.getf (pc := 85) fg_X8_148 0 rfl rfl dX8_house_85 ?_
            refine M.goto (pc := 88) (tgt := 92) dX8_house_88 (by decide) ?_
            refine M.forget 1 ?_
            dsimp only [List.set_cons_zero, List.set_cons_succ]
            exact L92  (by rw [if_neg (by omega)]; exact hB3)
        · refine M.bipush (pc := 55) (by decide +kernel) dX8_house_55 ?_
          refine M.iloadn (pc := 57) 1 rfl rfl dX8_house_57 ?_
          refine M.isub (pc := 58) dX8_house_58 ?_
          obtain ⟨hP1, hF1, hQ1, hB1⟩ := id hE
          have hf1 : f = (endQ s K).1 := congrArg Prod.fst hQ1
          have hy1 : y = (endQ s K).2 := congrArg Prod.snd hQ1
          exact EI (K, a3, d2, w2, n2, p2, rb2, rn2, ro2, g2, g3, vb, vn, vo, vm, vbk, gb, gt, gz, ()) _ _ _ _ dX8_house_59 (Or.inl rfl) (by show some (Value.int (iI (if (endQ s K).1 = 0 then pN s K else -10 - (endQ s K).1))) = _; rw [if_neg (by omega), hf1]) (by rw [hy1]) (⟨hP1, by rw [← hQ1]; exact hF1, fun _ => ⟨rfl, rfl, rfl, rfl, rfl, rfl, rfl, rfl⟩, fun w => absurd (show (endQ s K).1 = 0 from w) (by omega)⟩)
      refine M.iloadn (pc := 27) 1 rfl rfl dX8_house_27 ?_
      have hfr : 0 ≤ f ∧ f ≤ 4 := by
        rcases hA with h | h
        · omega
        · exact h.2.2.1.1
      refine M.if_ne (pc := 28) (tgt := 46) dX8_house_28 (by decide) (by omega) (fun c28 => ?_) (fun c28 => ?_)
      · exact L46  (by rcases hA with h | h; exact absurd h.1 c28; exact ⟨h.2.2.2.1, h.2.2.1, h.2.2.2.2, fun w => absurd w h.1⟩)
      · rcases hA with ⟨q1, q2, q3, q4, q5, q6, q7⟩ | ⟨q1, _⟩
        rotate_left
        · exact absurd (by omega) q1
        have hsA := hT.r (nS s a2)
        have hpb := pst_b hT q6
        refine M.aloadn (pc := 31) 0 rfl rfl dX8_house_31 ?_
        refine M.mV (pc := 32) (c_X8_here  (by first | assumption | omega) (by first | assumption | omega) (by exact q4)) mv_X8_86 [0, 3] rfl rfl rfl 0 rfl rfl rfl rfl (Nat.le_of_ble_eq_true rfl) rfl ⟨(Nat.le_of_ble_eq_true rfl), (Nat.le_of_ble_eq_true rfl)⟩ ⟨(Nat.le_of_ble_eq_true rfl), (Nat.le_of_ble_eq_true rfl)⟩ rfl (fun _ => rfl) dX8_house_32 (fun u32 hu32 => ?_)
        dsimp only [putL, List.set_cons_zero, List.set_cons_succ, Option.toList, List.cons_append, List.nil_append] at hu32 ⊢
        refine M.if_lt (pc := 35) (tgt := 46) dX8_house_35 (by decide) (by omega) (fun c35 => ?_) (fun c35 => ?_)
        · exact L46  (by 
      have e : s (pA s K) = -1 := by rw [← q5]; omega
      refine ⟨⟨q6, fun z => z.1 e⟩, ?_, ?_, fun _ => q7⟩
      · rw [q1, q2]; exact q0_ok
      · unfold endQ; rw [if_pos e, q1, q2]; rfl)
        · have hsN : s (pA s K) ≠ -1 := by rw [← q5]; omega
          have hnB : isB (s (nS s a2)) = false := (nS_ok hT q4.1 q4.2).1.2.2
          have hRB : RMB s K rb2 rn2 ro2 g2 g3 := q7
          obtain ⟨z1, z2, z3, z4, z5⟩ := id q7
          have hyy : y = -1 := q2
          subst hyy
          refine M.aloadn (pc := 38) 0 rfl rfl dX8_house_38 ?_
          refine M.mV (pc := 39) (c_X8_takeClause (vf := 0) (by first | assumption | omega) (by first | assumption | omega) (by have h := nS_ok hT q4.1 q4.2; omega) (by exact hnB) (by first | assumption | omega) (by first | assumption | omega) (by first | assumption | omega)) mv_X8_157 [0, 3, 4, 5] rfl rfl rfl 0 rfl rfl rfl rfl (Nat.le_of_ble_eq_true rfl) rfl ⟨(Nat.le_of_ble_eq_true rfl), (Nat.le_of_ble_eq_true rfl)⟩ ⟨(Nat.le_of_ble_eq_true rfl), (Nat.le_of_ble_eq_true rfl)⟩ rfl (fun _ => rfl) dX8_house_39 (fun u39 hu39 => ?_)
          obtain ⟨a39, d39, w39, n39, p39, rb39, rn39, ro39, g39, h39⟩ := u39
          dsimp only [putL, List.set_cons_zero, List.set_cons_succ, Option.toList, List.cons_append, List.nil_append] at hu39 ⊢
          refine M.istoren (pc := 42) 1 rfl (Nat.le_of_ble_eq_true rfl) rfl dX8_house_42 ?_
          dsimp only [List.set_cons_zero, List.set_cons_succ]
          have hq9 : clQ s (nS s a2) rb2 rn2 ro2 = clQ s (pA s K) rb2 rn2 ro2 := by rw [q5]
          obtain ⟨e9, hA9, hE9, hE8, hK9⟩ := RMA.next (vt := vt) hT hsN q6 hRB hq9 (fun w => by have h := hu39 w; rw [q5] at h; exact h)
          refine M.goto (pc := 43) (tgt := 27) dX8_house_43 (by decide) ?_
          exact ih27 (K := (if (clQ s (nS s a2) rb2 rn2 ro2).1 = 0 then K + 1 else K)) (e2 := e9) (by exact hA9) (by split <;> omega) (by split <;> omega)
  exact L27 _ (K := 0) (e2 := 1) (by exact Or.inl ⟨rfl, rfl, rfl, by omega, rfl, fun j h => absurd h (Nat.not_lt_zero j), rfl, rfl, rfl, fun x h0 h1 => by have h1 : x < 0 * 4 := h1; omega, fun x h0 h1 => by have h1 : x < 0 * 4 := h1; omega⟩) (by exact ⟨by decide, by decide⟩) (Nat.lt_succ_self _)
