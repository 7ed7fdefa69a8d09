/-! the class's reader: signs, numbers, ends of clauses; the house's writers -/
theorem and255_all : ∀ n : Nat, n < 256 → iI ((n : Int) - 128) &&& iI 255 = iI (((n : Int) - 128) % 256) := by decide +kernel
theorem and255 {z : Int} (h : -128 ≤ z ∧ z < 128) : iI z &&& iI 255 = iI (z % 256) := by
  have := and255_all (z + 128).toNat (by omega)
  rw [show (((z + 128).toNat : Nat) : Int) - 128 = z by omega] at this
  exact this
theorem fl_same (q : Int × Int) (p : Int) : fl q 0 p = q := by
  unfold fl
  split
  · rfl
  · rfl
set_option maxHeartbeats 4000000 in
set_option maxRecDepth 100000 in
theorem c_X5_signAt {l : Launch} {G : GT} {r aT : Nat} {L a na : Int} {q : Int × Int} {ot : Bool} {wT s : Int → Int} {i : Int} (hT : TXT s L) (hsg : ∀ i, 0 ≤ i → i < L → s i = wT i % 256) (hwb : ∀ i, -128 ≤ wT i ∧ wT i < 128) (hi : InR i) : ConF l G yX5_signAt cX5_signAt 2 (some .int) { frames := 0, cells := 0, slots := 0, locals := 0 } [.ref r, .int (iI i)] [(r, eO 5 [.ref aT, .int (iI L), .int (iI q.1), .int (iI q.2), .int (iI a), .int (iI na), .int (iI (pI (ot = true)))]), (aT, eB G 400 wT)] (some (.int (iI (s i)))) := by
  refine Con.mk (by decide +kernel) [some (.ref r), some (.int (iI i))] rfl (Nat.le_of_ble_eq_true rfl) rfl ?_
  intro V M EI EL EV EA
  have hL := hT.1
  have L35 : ∀ {z : Int}, (z = s i) → V 0 0 35 [(r, eO 5 [.ref aT, .int (iI L), .int (iI q.1), .int (iI q.2), .int (iI a), .int (iI na), .int (iI (pI (ot = true)))]), (aT, eB G 400 wT)] [some (.ref r), some (.int (iI i))] [.int (iI z)] := by
    intro z hz
    exact EI () _ _ _ _ dX5_signAt_35 (Or.inl rfl) (eqI (by first | exact hz.symm | exact hz)) rfl trivial
  refine M.iloadn (pc := 0) 1 rfl rfl dX5_signAt_0 ?_
  refine M.if_lt (pc := 1) (tgt := 34) dX5_signAt_1 (by decide) (by omega) (fun c1 => ?_) (fun c1 => ?_)
  · refine M.iconst (pc := 34) dX5_signAt_34 ?_
    exact L35  (by exact (hT.2.2 i (by omega)).symm)
  · refine M.iloadn (pc := 4) 1 rfl rfl dX5_signAt_4 ?_
    refine M.aloadn (pc := 5) 0 rfl rfl dX5_signAt_5 ?_
    refine M.getf (pc := 6) fg_X5_19 0 rfl rfl dX5_signAt_6 ?_
    refine M.icmp_ge (pc := 9) (tgt := 34) dX5_signAt_9 (by decide) (by omega) (by omega) (fun c9 => ?_) (fun c9 => ?_)
    · refine M.iconst (pc := 34) dX5_signAt_34 ?_
      exact L35  (by exact (hT.2.2 i (by omega)).symm)
    · refine M.iloadn (pc := 12) 1 rfl rfl dX5_signAt_12 ?_
      refine M.aloadn (pc := 13) 0 rfl rfl dX5_signAt_13 ?_
      refine M.getf (pc := 14) fg_X5_9 0 rfl rfl dX5_signAt_14 ?_
      refine M.alenB (pc := 17) 1 rfl dX5_signAt_17 ?_
      refine M.icmp_ge (pc := 18) (tgt := 34) dX5_signAt_18 (by decide) (by omega) (by omega) (fun c18 => ?_) (fun c18 => ?_)
      · exact absurd c18 (by omega)
      · refine M.aloadn (pc := 21) 0 rfl rfl dX5_signAt_21 ?_
        refine M.getf (pc := 22) fg_X5_9 0 rfl rfl dX5_signAt_22 ?_
        refine M.iloadn (pc := 25) 1 rfl rfl dX5_signAt_25 ?_
        have hw := hwb i
        refine M.bald (pc := 26) 1 rfl (by omega) (by omega) dX5_signAt_26 ?_
        refine M.sipush (pc := 27) (by decide +kernel) dX5_signAt_27 ?_
        refine M.iand (pc := 30) (and255 (hwb i)) dX5_signAt_30 ?_
        refine M.goto (pc := 31) (tgt := 35) dX5_signAt_31 (by decide) ?_
        exact L35  (by exact (hsg i (by omega) (by omega)).symm)
set_option maxHeartbeats 4000000 in
set_option maxRecDepth 100000 in
theorem c_X5_isLetter {l : Launch} {G : GT} {z : Int} (h : InR z) : ConF l G yX5_isLetter cX5_isLetter 1 (some .boolean) { frames := 0, cells := 0, slots := 0, locals := 0 } [.int (iI z)] [] (some (.int (iI (pI (isLt z = true))))) := by
  refine Con.mk (by decide +kernel) [some (.int (iI z))] rfl (Nat.le_of_ble_eq_true rfl) rfl ?_
  intro V M EI EL EV EA
  refine M.iloadn (pc := 0) 0 rfl rfl dX5_isLetter_0 ?_
  refine M.bipush (pc := 1) (by decide +kernel) dX5_isLetter_1 ?_
  refine M.icmp_lt (pc := 3) (tgt := 16) dX5_isLetter_3 (by decide) (by omega) (by omega) (fun c3 => ?_) (fun c3 => ?_)
  · refine M.iconst (pc := 16) dX5_isLetter_16 ?_
    exact EI () _ _ _ _ dX5_isLetter_17 (Or.inr ⟨rfl, by first | exact Or.inl rfl | exact Or.inr rfl | exact pI_01 _⟩) (eqI (by first | exact pI_eq1 (decide_eq_true (by omega)) rfl | exact pI_eq0 (fun z => by have := of_decide_eq_true z; omega) rfl)) rfl trivial
  · refine M.iloadn (pc := 6) 0 rfl rfl dX5_isLetter_6 ?_
    refine M.bipush (pc := 7) (by decide +kernel) dX5_isLetter_7 ?_
    refine M.icmp_gt (pc := 9) (tgt := 16) dX5_isLetter_9 (by decide) (by omega) (by omega) (fun c9 => ?_) (fun c9 => ?_)
    · refine M.iconst (pc := 16) dX5_isLetter_16 ?_
      exact EI () _ _ _ _ dX5_isLetter_17 (Or.inr ⟨rfl, by first | exact Or.inl rfl | exact Or.inr rfl | exact pI_01 _⟩) (eqI (by first | exact pI_eq1 (decide_eq_true (by omega)) rfl | exact pI_eq0 (fun z => by have := of_decide_eq_true z; omega) rfl)) rfl trivial
    · refine M.iconst (pc := 12) dX5_isLetter_12 ?_
      refine M.goto (pc := 13) (tgt := 17) dX5_isLetter_13 (by decide) ?_
      exact EI () _ _ _ _ dX5_isLetter_17 (Or.inr ⟨rfl, by first | exact Or.inl rfl | exact Or.inr rfl | exact pI_01 _⟩) (eqI (by first | exact pI_eq1 (decide_eq_true (by omega)) rfl | exact pI_eq0 (fun z => by have := of_decide_eq_true z; omega) rfl)) rfl trivial
set_option maxHeartbeats 4000000 in
set_option maxRecDepth 100000 in
theorem c_X5_isFigure {l : Launch} {G : GT} {z : Int} (h : InR z) : ConF l G yX5_isFigure cX5_isFigure 1 (some .boolean) { frames := 0, cells := 0, slots := 0, locals := 0 } [.int (iI z)] [] (some (.int (iI (pI (isFg z = true))))) := by
  refine Con.mk (by decide +kernel) [some (.int (iI z))] rfl (Nat.le_of_ble_eq_true rfl) rfl ?_
  intro V M EI EL EV EA
  refine M.iloadn (pc := 0) 0 rfl rfl dX5_isFigure_0 ?_
  refine M.bipush (pc := 1) (by decide +kernel) dX5_isFigure_1 ?_
  refine M.icmp_lt (pc := 3) (tgt := 16) dX5_isFigure_3 (by decide) (by omega) (by omega) (fun c3 => ?_) (fun c3 => ?_)
  · refine M.iconst (pc := 16) dX5_isFigure_16 ?_
    exact EI () _ _ _ _ dX5_isFigure_17 (Or.inr ⟨rfl, by first | exact Or.inl rfl | exact Or.inr rfl | exact pI_01 _⟩) (eqI (by first | exact pI_eq1 (decide_eq_true (by omega)) rfl | exact pI_eq0 (fun z => by have := of_decide_eq_true z; omega) rfl)) rfl trivial
  · refine M.iloadn (pc := 6) 0 rfl rfl dX5_isFigure_6 ?_
    refine M.bipush (pc := 7) (by decide +kernel) dX5_isFigure_7 ?_
    refine M.icmp_gt (pc := 9) (tgt := 16) dX5_isFigure_9 (by decide) (by omega) (by omega) (fun c9 => ?_) (fun c9 => ?_)
    · refine M.iconst (pc := 16) dX5_isFigure_16 ?_
      exact EI () _ _ _ _ dX5_isFigure_17 (Or.inr ⟨rfl, by first | exact Or.inl rfl | exact Or.inr rfl | exact pI_01 _⟩) (eqI (by first | exact pI_eq1 (decide_eq_true (by omega)) rfl | exact pI_eq0 (fun z => by have := of_decide_eq_true z; omega) rfl)) rfl trivial
    · refine M.iconst (pc := 12) dX5_isFigure_12 ?_
      refine M.goto (pc := 13) (tgt := 17) dX5_isFigure_13 (by decide) ?_
      exact EI () _ _ _ _ dX5_isFigure_17 (Or.inr ⟨rfl, by first | exact Or.inl rfl | exact Or.inr rfl | exact pI_01 _⟩) (eqI (by first | exact pI_eq1 (decide_eq_true (by omega)) rfl | exact pI_eq0 (fun z => by have := of_decide_eq_true z; omega) rfl)) rfl trivial
set_option maxHeartbeats 4000000 in
set_option maxRecDepth 100000 in
theorem c_X5_skipBlanks {l : Launch} {G : GT} {r aT : Nat} {L a na : Int} {q : Int × Int} {ot : Bool} {wT s : Int → Int} (hT : TXT s L) (hsg : ∀ i, 0 ≤ i → i < L → s i = wT i % 256) (hwb : ∀ i, -128 ≤ wT i ∧ wT i < 128) (ha : 0 ≤ a ∧ a ≤ 401) : Con l G yX5_skipBlanks cX5_skipBlanks 2 none { frames := 1, cells := 0, slots := 0, locals := 21 } [.ref r] [(r, eO 5 [.ref aT, .int (iI L), .int (iI q.1), .int (iI q.2), .int (iI a), .int (iI na), .int (iI (pI (ot = true)))]), (aT, eB G 400 wT)] (S := Unit) (fun _ => none) (fun _ => [(r, eO 5 [.ref aT, .int (iI L), .int (iI q.1), .int (iI q.2), .int (iI (nS s a)), .int (iI na), .int (iI (pI (ot = true)))]), (aT, eB G 400 wT)]) (fun _ => True) := by
  refine Con.mk (by decide +kernel) [some (.ref r), none] rfl (Nat.le_of_ble_eq_true rfl) rfl ?_
  intro V M EI EL EV EA
  have hL := hT.1
  refine M.iconst (pc := 0) dX5_skipBlanks_0 ?_
  refine M.istoren (pc := 1) 1 rfl (Nat.le_of_ble_eq_true rfl) rfl dX5_skipBlanks_1 ?_
  dsimp only [List.set_cons_zero, List.set_cons_succ]
  have L2 : ∀ (fu : Nat) {k b : Int}, (0 ≤ k ∧ k ≤ 400) → (b = a + k ∧ b ≤ 401) → (∀ j, a ≤ j → j < b → isB (s j) = true) → (400 - k).toNat < fu → V 0 0 2 [(r, eO 5 [.ref aT, .int (iI L), .int (iI q.1), .int (iI q.2), .int (iI b), .int (iI na), .int (iI (pI (ot = true)))]), (aT, eB G 400 wT)] [some (.ref r), some (.int (iI k))] [] := by
    intro fu
    induction fu with
    | zero => intro k b hk hb hrun hm; exact absurd hm (Nat.not_lt_zero _)
    | succ fu ih2 =>
      intro k b hk hb hrun hm2
      have L38 : (nS s a = b) → V 0 0 38 [(r, eO 5 [.ref aT, .int (iI L), .int (iI q.1), .int (iI q.2), .int (iI b), .int (iI na), .int (iI (pI (ot = true)))]), (aT, eB G 400 wT)] [some (.ref r), none] [] := by
        intro  hr
        exact EV () _ _ _ dX5_skipBlanks_38 rfl (rfl) (by rw [hr]) (trivial)
      refine M.iloadn (pc := 2) 1 rfl rfl dX5_skipBlanks_2 ?_
      refine M.sipush (pc := 3) (by decide +kernel) dX5_skipBlanks_3 ?_
      refine M.icmp_ge (pc := 6) (tgt := 38) dX5_skipBlanks_6 (by decide) (by omega) (by omega) (fun c6 => ?_) (fun c6 => ?_)
      · refine M.forget 1 ?_
        dsimp only [List.set_cons_zero, List.set_cons_succ]
        exact L38  (by exact run_eq hT isB1 ha.1 (by omega) hrun (by rw [hT.2.2 b (by omega)]; decide))
      · have hsb := hT.r b
        refine M.aloadn (pc := 9) 0 rfl rfl dX5_skipBlanks_9 ?_
        refine M.aloadn (pc := 10) 0 rfl rfl dX5_skipBlanks_10 ?_
        refine M.getf (pc := 11) fg_X5_30 0 rfl rfl dX5_skipBlanks_11 ?_
        refine M.pV (pc := 14) (c_X5_signAt  (by first | assumption | omega) (by first | assumption | omega) (by first | assumption | omega) (by first | assumption | omega)) mv_X5_44 [0, 1] rfl rfl rfl 0 rfl rfl rfl rfl (Nat.le_of_ble_eq_true rfl) rfl ⟨(Nat.le_of_ble_eq_true rfl), (Nat.le_of_ble_eq_true rfl)⟩ ⟨(Nat.le_of_ble_eq_true rfl), (Nat.le_of_ble_eq_true rfl)⟩ rfl dX5_skipBlanks_14 ?_
        refine M.bipush (pc := 17) (by decide +kernel) dX5_skipBlanks_17 ?_
        refine M.icmp_ne (pc := 19) (tgt := 38) dX5_skipBlanks_19 (by decide) (by omega) (by omega) (fun c19 => ?_) (fun c19 => ?_)
        · refine M.forget 1 ?_
          dsimp only [List.set_cons_zero, List.set_cons_succ]
          exact L38  (by exact run_eq hT isB1 ha.1 (by omega) hrun (fun z => c19 (of_decide_eq_true z)))
        · have hin := hT.in (i := b) (by omega)
          refine M.aloadn (pc := 22) 0 rfl rfl dX5_skipBlanks_22 ?_
          refine M.dup (pc := 23) rfl dX5_skipBlanks_23 ?_
          refine M.getf (pc := 24) fg_X5_30 0 rfl rfl dX5_skipBlanks_24 ?_
          refine M.iconst (pc := 27) dX5_skipBlanks_27 ?_
          refine M.iadd (pc := 28) dX5_skipBlanks_28 ?_
          refine M.putf (pc := 29) fp_X5_30 0 rfl rfl rfl (Nat.le_of_ble_eq_true rfl) dX5_skipBlanks_29 ?_
          dsimp only [List.set_cons_zero, List.set_cons_succ]
          refine M.iinc (pc := 32) (i := 1) rfl rfl dX5_skipBlanks_32 ?_
          dsimp only [List.set_cons_zero, List.set_cons_succ]
          refine M.goto (pc := 35) (tgt := 2) dX5_skipBlanks_35 (by decide) ?_
          exact ih2  (by first | assumption | omega) (by first | assumption | omega) (by intro j h0 h1; rcases (by omega : j < b ∨ j = b) with w | w; exact hrun j h0 w; rw [w]; exact decide_eq_true (by omega)) (by omega)
  exact L2 _  (by first | assumption | omega) (by first | assumption | omega) (by intro j _ h; omega) (Nat.lt_succ_self _)
set_option maxHeartbeats 4000000 in
set_option maxRecDepth 100000 in
theorem c_X5_failIf {l : Launch} {G : GT} {r aT : Nat} {L a na : Int} {q : Int × Int} {ot : Bool} {z f p : Int} (hq : FOK q) (hz : 0 ≤ z ∧ z ≤ 1) (hf : f ≠ 0) : Con l G yX5_failIf cX5_failIf 4 none { frames := 0, cells := 0, slots := 0, locals := 0 } [.ref r, .int (iI z), .int (iI f), .int (iI p)] [(r, eO 5 [.ref aT, .int (iI L), .int (iI q.1), .int (iI q.2), .int (iI a), .int (iI na), .int (iI (pI (ot = true)))])] (S := Unit) (fun _ => none) (fun _ => [(r, eO 5 [.ref aT, .int (iI L), .int (iI (fl q (if z = 0 then 0 else f) p).1), .int (iI (fl q (if z = 0 then 0 else f) p).2), .int (iI a), .int (iI na), .int (iI (pI (ot = true)))])]) (fun _ => True) := by
  refine Con.mk (by decide +kernel) [some (.ref r), some (.int (iI z)), some (.int (iI f)), some (.int (iI p))] rfl (Nat.le_of_ble_eq_true rfl) rfl ?_
  intro V M EI EL EV EA
  have hqb := hq.1
  have L21 : ∀ {x y : Int}, (x = (fl q (if z = 0 then 0 else f) p).1 ∧ y = (fl q (if z = 0 then 0 else f) p).2) → V 0 0 21 [(r, eO 5 [.ref aT, .int (iI L), .int (iI x), .int (iI y), .int (iI a), .int (iI na), .int (iI (pI (ot = true)))])] [some (.ref r), none, none, none] [] := by
    intro x y hxy
    exact EV () _ _ _ dX5_failIf_21 rfl (rfl) (by rw [hxy.1, hxy.2]) (trivial)
  refine M.iloadn (pc := 0) 1 rfl rfl dX5_failIf_0 ?_
  refine M.if_eq (pc := 1) (tgt := 21) dX5_failIf_1 (by decide) (by omega) (fun c1 => ?_) (fun c1 => ?_)
  · refine M.forget 1 ?_
    dsimp only [List.set_cons_zero, List.set_cons_succ]
    refine M.forget 2 ?_
    dsimp only [List.set_cons_zero, List.set_cons_succ]
    refine M.forget 3 ?_
    dsimp only [List.set_cons_zero, List.set_cons_succ]
    exact L21  (by rw [if_pos (by omega), fl_same]; exact ⟨rfl, rfl⟩)
  · refine M.aloadn (pc := 4) 0 rfl rfl dX5_failIf_4 ?_
    refine M.getf (pc := 5) fg_X5_27 0 rfl rfl dX5_failIf_5 ?_
    refine M.if_ne (pc := 8) (tgt := 21) dX5_failIf_8 (by decide) (by omega) (fun c8 => ?_) (fun c8 => ?_)
    · refine M.forget 1 ?_
      dsimp only [List.set_cons_zero, List.set_cons_succ]
      refine M.forget 2 ?_
      dsimp only [List.set_cons_zero, List.set_cons_succ]
      refine M.forget 3 ?_
      dsimp only [List.set_cons_zero, List.set_cons_succ]
      exact L21  (by rw [fl_n (by omega)]; exact ⟨rfl, rfl⟩)
    · refine M.aloadn (pc := 11) 0 rfl rfl dX5_failIf_11 ?_
      refine M.iloadn (pc := 12) 2 rfl rfl dX5_failIf_12 ?_
      refine M.putf (pc := 13) fp_X5_27 0 rfl rfl rfl (Nat.le_of_ble_eq_true rfl) dX5_failIf_13 ?_
      dsimp only [List.set_cons_zero, List.set_cons_succ]
      refine M.aloadn (pc := 16) 0 rfl rfl dX5_failIf_16 ?_
      refine M.iloadn (pc := 17) 3 rfl rfl dX5_failIf_17 ?_
      refine M.putf (pc := 18) fp_X5_15 0 rfl rfl rfl (Nat.le_of_ble_eq_true rfl) dX5_failIf_18 ?_
      dsimp only [List.set_cons_zero, List.set_cons_succ]
      refine M.forget 1 ?_
      dsimp only [List.set_cons_zero, List.set_cons_succ]
      refine M.forget 2 ?_
      dsimp only [List.set_cons_zero, List.set_cons_succ]
      refine M.forget 3 ?_
      dsimp only [List.set_cons_zero, List.set_cons_succ]
      exact L21  (by rw [if_neg (by omega), fl_f (by omega) hf]; exact ⟨rfl, rfl⟩)
set_option maxHeartbeats 4000000 in
set_option maxRecDepth 100000 in
theorem c_X5_readNumber {l : Launch} {G : GT} {r aT : Nat} {L a na : Int} {q : Int × Int} {ot : Bool} {wT s : Int → Int} {i : Int} {lo up : Int} (hT : TXT s L) (hsg : ∀ i, 0 ≤ i → i < L → s i = wT i % 256) (hwb : ∀ i, -128 ≤ wT i ∧ wT i < 128) (hq : FOK q) (ha : 0 ≤ a ∧ a ≤ 401) (hna : 0 ≤ na ∧ na ≤ 401) (hi : 0 ≤ i ∧ i ≤ L) (hai : q.1 = 0 → a = i) (hlo : 0 ≤ lo ∧ lo ≤ 1) (hup : 0 ≤ up ∧ up ≤ 9999) : Con l G yX5_readNumber cX5_readNumber 5 (some .int) { frames := 2, cells := 0, slots := 0, locals := 42 } [.ref r, .int (iI lo), .int (iI up)] [(r, eO 5 [.ref aT, .int (iI L), .int (iI q.1), .int (iI q.2), .int (iI a), .int (iI na), .int (iI (pI (ot = true)))]), (aT, eB G 400 wT)] (S := Int × Int × Int) (fun u => some (.int (iI u.2.2))) (fun u => [(r, eO 5 [.ref aT, .int (iI L), .int (iI (fl q (nF s lo up i) (nS s i)).1), .int (iI (fl q (nF s lo up i) (nS s i)).2), .int (iI u.1), .int (iI u.2.1), .int (iI (pI (ot = true)))]), (aT, eB G 400 wT)]) (fun u => ((fl q (nF s lo up i) (nS s i)).1 = 0 → u.1 = nE s i ∧ u.2.1 = nS s i ∧ u.2.2 = nV s i) ∧ (0 ≤ u.1 ∧ u.1 ≤ 401) ∧ (0 ≤ u.2.1 ∧ u.2.1 ≤ 401) ∧ (-1 ≤ u.2.2 ∧ u.2.2 ≤ 9999)) := by
  refine Con.mk (by decide +kernel) [some (.ref r), some (.int (iI lo)), some (.int (iI up)), none, none] rfl (Nat.le_of_ble_eq_true rfl) rfl ?_
  intro V M EI EL EV EA
  have hL := hT.1
  have hqb := hq.1
  refine M.aloadn (pc := 0) 0 rfl rfl dX5_readNumber_0 ?_
  refine M.getf (pc := 1) fg_X5_27 0 rfl rfl dX5_readNumber_1 ?_
  refine M.if_eq (pc := 4) (tgt := 9) dX5_readNumber_4 (by decide) (by omega) (fun c4 => ?_) (fun c4 => ?_)
  · have hai2 := hai (by omega)
    subst hai2
    have hS := nS_ok hT hi.1 hi.2
    have hE := nE_ok hT hi.1 hi.2
    refine M.aloadn (pc := 9) 0 rfl rfl dX5_readNumber_9 ?_
    refine M.mV (pc := 10) (c_X5_skipBlanks  (by first | assumption | omega) (by first | assumption | omega) (by first | assumption | omega) (by first | assumption | omega)) mv_X5_37 [0, 1] rfl rfl rfl 0 rfl rfl rfl rfl (Nat.le_of_ble_eq_true rfl) rfl ⟨(Nat.le_of_ble_eq_true rfl), (Nat.le_of_ble_eq_true rfl)⟩ ⟨(Nat.le_of_ble_eq_true rfl), (Nat.le_of_ble_eq_true rfl)⟩ rfl (fun _ => rfl) dX5_readNumber_10 (fun u10 hu10 => ?_)
    dsimp only [putL, List.set_cons_zero, List.set_cons_succ, Option.toList, List.cons_append, List.nil_append] at hu10 ⊢
    refine M.aloadn (pc := 13) 0 rfl rfl dX5_readNumber_13 ?_
    refine M.aloadn (pc := 14) 0 rfl rfl dX5_readNumber_14 ?_
    refine M.getf (pc := 15) fg_X5_30 0 rfl rfl dX5_readNumber_15 ?_
    refine M.putf (pc := 18) fp_X5_92 0 rfl rfl rfl (Nat.le_of_ble_eq_true rfl) dX5_readNumber_18 ?_
    dsimp only [List.set_cons_zero, List.set_cons_succ]
    refine M.iconst (pc := 21) dX5_readNumber_21 ?_
    refine M.istoren (pc := 22) 3 rfl (Nat.le_of_ble_eq_true rfl) rfl dX5_readNumber_22 ?_
    dsimp only [List.set_cons_zero, List.set_cons_succ]
    refine M.iconst (pc := 23) dX5_readNumber_23 ?_
    refine M.istore (pc := 24) (i := 4) (Nat.le_of_ble_eq_true rfl) rfl dX5_readNumber_24 ?_
    dsimp only [List.set_cons_zero, List.set_cons_succ]
    have L26 : ∀ (fu : Nat) {k b v : Int}, (0 ≤ k ∧ k ≤ 400) → (nS s a + k = b ∧ b ≤ L) → (∀ j, nS s a ≤ j → j < b → isFg (s j) = true) → (0 ≤ v ∧ v ≤ 9999) → (k ≤ 4 → v = nv s (nS s a) k.toNat) → (400 - k).toNat < fu → V 0 0 26 [(r, eO 5 [.ref aT, .int (iI L), .int (iI q.1), .int (iI q.2), .int (iI b), .int (iI (nS s a)), .int (iI (pI (ot = true)))]), (aT, eB G 400 wT)] [some (.ref r), some (.int (iI lo)), some (.int (iI up)), some (.int (iI v)), some (.int (iI k))] [] := by
      intro fu
      induction fu with
      | zero => intro k b v hk hb hfig hvb hv hm; exact absurd hm (Nat.not_lt_zero _)
      | succ fu ih26 =>
        intro k b v hk hb hfig hvb hv hm26
        have L91 : (b = nE s a) → V 0 0 91 [(r, eO 5 [.ref aT, .int (iI L), .int (iI q.1), .int (iI q.2), .int (iI b), .int (iI (nS s a)), .int (iI (pI (ot = true)))]), (aT, eB G 400 wT)] [some (.ref r), some (.int (iI lo)), some (.int (iI up)), some (.int (iI v)), none] [] := by
          intro  hfin
          subst hfin
          have hk2 : k = nE s a - nS s a := by omega
          have hvV : nE s a - nS s a ≤ 4 → v = nV s a := fun z => by
            have := hv (by omega)
            rw [hk2] at this
            exact this
          refine M.aloadn (pc := 91) 0 rfl rfl dX5_readNumber_91 ?_
          have L108 : ∀ {z : Int}, ((z = 0 ∧ nE s a ≠ nS s a) ∨ (z = 1 ∧ nE s a = nS s a)) → V 0 0 108 [(r, eO 5 [.ref aT, .int (iI L), .int (iI q.1), .int (iI q.2), .int (iI (nE s a)), .int (iI (nS s a)), .int (iI (pI (ot = true)))]), (aT, eB G 400 wT)] [some (.ref r), some (.int (iI lo)), some (.int (iI up)), some (.int (iI v)), none] [.int (iI z), .ref r] := by
            intro z hz
            refine M.iconst (pc := 108) dX5_readNumber_108 ?_
            refine M.aloadn (pc := 109) 0 rfl rfl dX5_readNumber_109 ?_
            refine M.getf (pc := 110) fg_X5_30 0 rfl rfl dX5_readNumber_110 ?_
            refine M.mV (pc := 113) (c_X5_failIf (q := q) (by first | assumption | omega) (by first | assumption | omega) (by omega)) mv_X5_61 [0] rfl rfl rfl 0 rfl rfl rfl rfl (Nat.le_of_ble_eq_true rfl) rfl ⟨(Nat.le_of_ble_eq_true rfl), (Nat.le_of_ble_eq_true rfl)⟩ ⟨(Nat.le_of_ble_eq_true rfl), (Nat.le_of_ble_eq_true rfl)⟩ rfl (fun _ => rfl) dX5_readNumber_113 (fun u113 hu113 => ?_)
            dsimp only [putL, List.set_cons_zero, List.set_cons_succ, Option.toList, List.cons_append, List.nil_append] at hu113 ⊢
            have L145 : ∀ {y : Int}, ((y = 0 ∧ ¬ (4 < nE s a - nS s a ∨ v < lo ∨ up < v)) ∨ (y = 1 ∧ (4 < nE s a - nS s a ∨ v < lo ∨ up < v))) → V 0 0 145 [(r, eO 5 [.ref aT, .int (iI L), .int (iI (fl q (if z = 0 then 0 else 1) (nE s a)).1), .int (iI (fl q (if z = 0 then 0 else 1) (nE s a)).2), .int (iI (nE s a)), .int (iI (nS s a)), .int (iI (pI (ot = true)))]), (aT, eB G 400 wT)] [some (.ref r), none, none, some (.int (iI v)), none] [.int (iI y), .ref r] := by
              intro y hy
              refine M.iconst (pc := 145) dX5_readNumber_145 ?_
              refine M.aloadn (pc := 146) 0 rfl rfl dX5_readNumber_146 ?_
              refine M.getf (pc := 147) fg_X5_92 0 rfl rfl dX5_readNumber_147 ?_
              refine M.mV (pc := 150) (c_X5_failIf (q := (fl q (if z = 0 then 0 else 1) (nE s a))) (by exact fl_ok hq (by split <;> omega) (by omega)) (by first | assumption | omega) (by omega)) mv_X5_61 [0] rfl rfl rfl 0 rfl rfl rfl rfl (Nat.le_of_ble_eq_true rfl) rfl ⟨(Nat.le_of_ble_eq_true rfl), (Nat.le_of_ble_eq_true rfl)⟩ ⟨(Nat.le_of_ble_eq_true rfl), (Nat.le_of_ble_eq_true rfl)⟩ rfl (fun _ => rfl) dX5_readNumber_150 (fun u150 hu150 => ?_)
              dsimp only [putL, List.set_cons_zero, List.set_cons_succ, Option.toList, List.cons_append, List.nil_append] at hu150 ⊢
              refine M.iloadn (pc := 153) 3 rfl rfl dX5_readNumber_153 ?_
              have hfl : fl (fl q (if z = 0 then 0 else 1) (nE s a)) (if y = 0 then 0 else 2) (nS s a) = fl q (nF s lo up a) (nS s a) := by
                rcases hz with ⟨z1, z2⟩ | ⟨z1, z2⟩
                · rw [if_pos z1, fl_same]
                  rcases hy with ⟨y1, y2⟩ | ⟨y1, y2⟩
                  · have e : nF s lo up a = 0 := by
                      have := hvV (by omega)
                      unfold nF
                      rw [if_neg z2, if_neg (by omega)]
                    rw [if_pos y1, e]
                  · have e : nF s lo up a = 2 := by
                      unfold nF
                      rw [if_neg z2, if_pos ?_]
                      by_cases w : 4 < nE s a - nS s a
                      · exact Or.inl w
                      · have := hvV (by omega)
                        omega
                    rw [if_neg (by omega), e]
                · have e : nF s lo up a = 1 := by unfold nF; rw [if_pos z2]
                  rw [if_neg (by omega), e, z2]
                  exact fl_n (by rw [fl_f (by omega) (by omega)]; show (1 : Int) ≠ 0; decide)
              have hnv : (fl q (nF s lo up a) (nS s a)).1 = 0 → v = nV s a := fun w => by
                have h0 := (fl_0 w).2.1
                unfold nF at h0
                split at h0
                · omega
                · split at h0
                  · omega
                  · exact hvV (by omega)
              exact EI (nE s a, nS s a, v) _ _ _ _ dX5_readNumber_154 (Or.inl rfl) (rfl) (by rw [hfl]) (⟨fun w => ⟨rfl, rfl, hnv w⟩, by show 0 ≤ nE s a ∧ nE s a ≤ 401; omega, by show 0 ≤ nS s a ∧ nS s a ≤ 401; omega, by show -1 ≤ v ∧ v ≤ 9999; omega⟩)
            refine M.aloadn (pc := 116) 0 rfl rfl dX5_readNumber_116 ?_
            refine M.aloadn (pc := 117) 0 rfl rfl dX5_readNumber_117 ?_
            refine M.getf (pc := 118) fg_X5_30 0 rfl rfl dX5_readNumber_118 ?_
            refine M.aloadn (pc := 121) 0 rfl rfl dX5_readNumber_121 ?_
            refine M.getf (pc := 122) fg_X5_92 0 rfl rfl dX5_readNumber_122 ?_
            refine M.isub (pc := 125) dX5_readNumber_125 ?_
            refine M.iconst (pc := 126) dX5_readNumber_126 ?_
            refine M.icmp_gt (pc := 127) (tgt := 140) dX5_readNumber_127 (by decide) (by omega) (by omega) (fun c127 => ?_) (fun c127 => ?_)
            · refine M.iconst (pc := 140) dX5_readNumber_140 ?_
              refine M.goto (pc := 141) (tgt := 145) dX5_readNumber_141 (by decide) ?_
              refine M.forget 1 ?_
              dsimp only [List.set_cons_zero, List.set_cons_succ]
              refine M.forget 2 ?_
              dsimp only [List.set_cons_zero, List.set_cons_succ]
              exact L145  (by first | assumption | omega)
            · refine M.iloadn (pc := 130) 3 rfl rfl dX5_readNumber_130 ?_
              refine M.iloadn (pc := 131) 1 rfl rfl dX5_readNumber_131 ?_
              refine M.icmp_lt (pc := 132) (tgt := 140) dX5_readNumber_132 (by decide) (by omega) (by omega) (fun c132 => ?_) (fun c132 => ?_)
              · refine M.iconst (pc := 140) dX5_readNumber_140 ?_
                refine M.goto (pc := 141) (tgt := 145) dX5_readNumber_141 (by decide) ?_
                refine M.forget 1 ?_
                dsimp only [List.set_cons_zero, List.set_cons_succ]
                refine M.forget 2 ?_
                dsimp only [List.set_cons_zero, List.set_cons_succ]
                exact L145  (by first | assumption | omega)
              · refine M.iloadn (pc := 135) 3 rfl rfl dX5_readNumber_135 ?_
                refine M.iloadn (pc := 136) 2 rfl rfl dX5_readNumber_136 ?_
                refine M.icmp_le (pc := 137) (tgt := 144) dX5_readNumber_137 (by decide) (by omega) (by omega) (fun c137 => ?_) (fun c137 => ?_)
                · refine M.iconst (pc := 144) dX5_readNumber_144 ?_
                  refine M.forget 1 ?_
                  dsimp only [List.set_cons_zero, List.set_cons_succ]
                  refine M.forget 2 ?_
                  dsimp only [List.set_cons_zero, List.set_cons_succ]
                  exact L145  (by first | assumption | omega)
                · refine M.iconst (pc := 140) dX5_readNumber_140 ?_
                  refine M.goto (pc := 141) (tgt := 145) dX5_readNumber_141 (by decide) ?_
                  refine M.forget 1 ?_
                  dsimp only [List.set_cons_zero, List.set_cons_succ]
                  refine M.forget 2 ?_
                  dsimp only [List.set_cons_zero, List.set_cons_succ]
                  exact L145  (by first | assumption | omega)
          refine M.aloadn (pc := 92) 0 rfl rfl dX5_readNumber_92 ?_
          refine M.getf (pc := 93) fg_X5_30 0 rfl rfl dX5_readNumber_93 ?_
          refine M.aloadn (pc := 96) 0 rfl rfl dX5_readNumber_96 ?_
          refine M.getf (pc := 97) fg_X5_92 0 rfl rfl dX5_readNumber_97 ?_
          refine M.icmp_ne (pc := 100) (tgt := 107) dX5_readNumber_100 (by decide) (by omega) (by omega) (fun c100 => ?_) (fun c100 => ?_)
          · refine M.iconst (pc := 107) dX5_readNumber_107 ?_
            exact L108  (by first | assumption | omega)
          · refine M.iconst (pc := 103) dX5_readNumber_103 ?_
            refine M.goto (pc := 104) (tgt := 108) dX5_readNumber_104 (by decide) ?_
            exact L108  (by first | assumption | omega)
        refine M.iload (pc := 26) (i := 4) rfl dX5_readNumber_26 ?_
        refine M.sipush (pc := 28) (by decide +kernel) dX5_readNumber_28 ?_
        refine M.icmp_ge (pc := 31) (tgt := 91) dX5_readNumber_31 (by decide) (by omega) (by omega) (fun c31 => ?_) (fun c31 => ?_)
        · refine M.forget 4 ?_
          dsimp only [List.set_cons_zero, List.set_cons_succ]
          exact L91  (by exact (run_eq hT isFg1 (by omega) (by omega) hfig (by rw [hT.2.2 b (by omega)]; decide)).symm)
        · have hsb := hT.r b
          refine M.aloadn (pc := 34) 0 rfl rfl dX5_readNumber_34 ?_
          refine M.aloadn (pc := 35) 0 rfl rfl dX5_readNumber_35 ?_
          refine M.getf (pc := 36) fg_X5_30 0 rfl rfl dX5_readNumber_36 ?_
          refine M.pV (pc := 39) (c_X5_signAt  (by first | assumption | omega) (by first | assumption | omega) (by first | assumption | omega) (by first | assumption | omega)) mv_X5_44 [0, 1] rfl rfl rfl 0 rfl rfl rfl rfl (Nat.le_of_ble_eq_true rfl) rfl ⟨(Nat.le_of_ble_eq_true rfl), (Nat.le_of_ble_eq_true rfl)⟩ ⟨(Nat.le_of_ble_eq_true rfl), (Nat.le_of_ble_eq_true rfl)⟩ rfl dX5_readNumber_39 ?_
          refine M.pS (pc := 42) (c_X5_isFigure  (by first | assumption | omega)) ms_X5_100 [] rfl rfl rfl rfl (Nat.le_of_ble_eq_true rfl) rfl ⟨(Nat.le_of_ble_eq_true rfl), (Nat.le_of_ble_eq_true rfl)⟩ ⟨(Nat.le_of_ble_eq_true rfl), (Nat.le_of_ble_eq_true rfl)⟩ rfl dX5_readNumber_42 ?_
          refine M.if_eqP (pc := 45) (tgt := 91) dX5_readNumber_45 (by decide) (fun c45 => ?_) (fun c45 => ?_)
          · refine M.forget 4 ?_
            dsimp only [List.set_cons_zero, List.set_cons_succ]
            exact L91  (by exact (run_eq hT isFg1 (by omega) (by omega) hfig c45).symm)
          · have hfb := of_decide_eq_true c45
            have hin := hT.in (i := b) (by omega)
            have hnx := nv_s s (nS s a) (k := k) hk.1
            rw [hb.1] at hnx
            have hf2 : ∀ j, nS s a ≤ j → j < b + 1 → isFg (s j) = true := fun j h0 h1 => by
              rcases (by omega : j < b ∨ j = b) with w | w
              · exact hfig j h0 w
              · rw [w]; exact c45
            have hn4 : k < 4 → 0 ≤ nv s (nS s a) (k + 1).toNat ∧ nv s (nS s a) (k + 1).toNat ≤ 9999 := fun z => nv_4 (by omega) (by omega) (fun j h0 h1 => hf2 j h0 (by omega))
            refine M.iload (pc := 48) (i := 4) rfl dX5_readNumber_48 ?_
            refine M.iconst (pc := 50) dX5_readNumber_50 ?_
            have L74 : ∀ {v2 : Int}, (0 ≤ v2 ∧ v2 ≤ 9999) → (k + 1 ≤ 4 → v2 = nv s (nS s a) (k + 1).toNat) → V 0 0 74 [(r, eO 5 [.ref aT, .int (iI L), .int (iI q.1), .int (iI q.2), .int (iI b), .int (iI (nS s a)), .int (iI (pI (ot = true)))]), (aT, eB G 400 wT)] [some (.ref r), some (.int (iI lo)), some (.int (iI up)), none, some (.int (iI k))] [.int (iI v2)] := by
              intro v2 hv2 hv3
              refine M.istoren (pc := 74) 3 rfl (Nat.le_of_ble_eq_true rfl) rfl dX5_readNumber_74 ?_
              dsimp only [List.set_cons_zero, List.set_cons_succ]
              refine M.aloadn (pc := 75) 0 rfl rfl dX5_readNumber_75 ?_
              refine M.dup (pc := 76) rfl dX5_readNumber_76 ?_
              refine M.getf (pc := 77) fg_X5_30 0 rfl rfl dX5_readNumber_77 ?_
              refine M.iconst (pc := 80) dX5_readNumber_80 ?_
              refine M.iadd (pc := 81) dX5_readNumber_81 ?_
              refine M.putf (pc := 82) fp_X5_30 0 rfl rfl rfl (Nat.le_of_ble_eq_true rfl) dX5_readNumber_82 ?_
              dsimp only [List.set_cons_zero, List.set_cons_succ]
              refine M.iinc (pc := 85) (i := 4) rfl rfl dX5_readNumber_85 ?_
              dsimp only [List.set_cons_zero, List.set_cons_succ]
              refine M.goto (pc := 88) (tgt := 26) dX5_readNumber_88 (by decide) ?_
              exact ih26  (by first | assumption | omega) (by first | assumption | omega) (by exact hf2) (by first | assumption | omega) (by first | assumption | omega) (by omega)
            refine M.icmp_ge (pc := 51) (tgt := 73) dX5_readNumber_51 (by decide) (by omega) (by omega) (fun c51 => ?_) (fun c51 => ?_)
            · refine M.iloadn (pc := 73) 3 rfl rfl dX5_readNumber_73 ?_
              refine M.forget 3 ?_
              dsimp only [List.set_cons_zero, List.set_cons_succ]
              exact L74  (by first | assumption | omega) (by first | assumption | omega)
            · refine M.iloadn (pc := 54) 3 rfl rfl dX5_readNumber_54 ?_
              refine M.bipush (pc := 55) (by decide +kernel) dX5_readNumber_55 ?_
              refine M.imul (pc := 57) dX5_readNumber_57 ?_
              refine M.aloadn (pc := 58) 0 rfl rfl dX5_readNumber_58 ?_
              refine M.aloadn (pc := 59) 0 rfl rfl dX5_readNumber_59 ?_
              refine M.getf (pc := 60) fg_X5_30 0 rfl rfl dX5_readNumber_60 ?_
              refine M.pV (pc := 63) (c_X5_signAt  (by first | assumption | omega) (by first | assumption | omega) (by first | assumption | omega) (by first | assumption | omega)) mv_X5_44 [0, 1] rfl rfl rfl 0 rfl rfl rfl rfl (Nat.le_of_ble_eq_true rfl) rfl ⟨(Nat.le_of_ble_eq_true rfl), (Nat.le_of_ble_eq_true rfl)⟩ ⟨(Nat.le_of_ble_eq_true rfl), (Nat.le_of_ble_eq_true rfl)⟩ rfl dX5_readNumber_63 ?_
              refine M.bipush (pc := 66) (by decide +kernel) dX5_readNumber_66 ?_
              refine M.isub (pc := 68) dX5_readNumber_68 ?_
              refine M.iadd (pc := 69) dX5_readNumber_69 ?_
              refine M.goto (pc := 70) (tgt := 74) dX5_readNumber_70 (by decide) ?_
              refine M.forget 3 ?_
              dsimp only [List.set_cons_zero, List.set_cons_succ]
              exact L74  (by have := hv (by omega); have := hn4 (by omega); omega) (by intro _; rw [hnx, ← hv (by omega)])
    exact L26 _  (by first | assumption | omega) (by first | assumption | omega) (by intro j _ h; omega) (by first | assumption | omega) (by intro _; rfl) (Nat.lt_succ_self _)
  · refine M.iconst (pc := 7) dX5_readNumber_7 ?_
    exact EI (a, na, -1) _ _ _ _ dX5_readNumber_8 (Or.inl rfl) (rfl) (by rw [fl_n (by omega)]) (⟨fun z => absurd (by rw [fl_n (by omega)] at z; exact z) (show ¬ q.1 = 0 by omega), ha, hna, by show (-1 : Int) ≤ -1 ∧ (-1 : Int) ≤ 9999; omega⟩)
set_option maxHeartbeats 4000000 in
set_option maxRecDepth 100000 in
theorem c_X5_readEnd {l : Launch} {G : GT} {r aT : Nat} {L a na : Int} {q : Int × Int} {ot : Bool} {wT s : Int → Int} {i : Int} (hT : TXT s L) (hsg : ∀ i, 0 ≤ i → i < L → s i = wT i % 256) (hwb : ∀ i, -128 ≤ wT i ∧ wT i < 128) (hq : FOK q) (ha : 0 ≤ a ∧ a ≤ 401) (hna : 0 ≤ na ∧ na ≤ 401) (hi : 0 ≤ i ∧ i ≤ L) (hai : q.1 = 0 → a = i) : Con l G yX5_readEnd cX5_readEnd 1 none { frames := 2, cells := 0, slots := 0, locals := 42 } [.ref r] [(r, eO 5 [.ref aT, .int (iI L), .int (iI q.1), .int (iI q.2), .int (iI a), .int (iI na), .int (iI (pI (ot = true)))]), (aT, eB G 400 wT)] (S := Int) (fun _ => none) (fun u => [(r, eO 5 [.ref aT, .int (iI L), .int (iI (edQ s q i).1), .int (iI (edQ s q i).2), .int (iI u), .int (iI na), .int (iI (pI (ot = true)))]), (aT, eB G 400 wT)]) (fun u => ((edQ s q i).1 = 0 → u = aft s i) ∧ (0 ≤ u ∧ u ≤ 401)) := by
  refine Con.mk (by decide +kernel) [some (.ref r)] rfl (Nat.le_of_ble_eq_true rfl) rfl ?_
  intro V M EI EL EV EA
  have hL := hT.1
  have hqb := hq.1
  refine M.aloadn (pc := 0) 0 rfl rfl dX5_readEnd_0 ?_
  refine M.getf (pc := 1) fg_X5_27 0 rfl rfl dX5_readEnd_1 ?_
  refine M.if_eq (pc := 4) (tgt := 8) dX5_readEnd_4 (by decide) (by omega) (fun c4 => ?_) (fun c4 => ?_)
  · have hai2 := hai (by omega)
    subst hai2
    have hS := nS_ok hT hi.1 hi.2
    have hsb := hT.r (nS s a)
    refine M.aloadn (pc := 8) 0 rfl rfl dX5_readEnd_8 ?_
    refine M.mV (pc := 9) (c_X5_skipBlanks  (by first | assumption | omega) (by first | assumption | omega) (by first | assumption | omega) (by first | assumption | omega)) mv_X5_37 [0, 1] rfl rfl rfl 0 rfl rfl rfl rfl (Nat.le_of_ble_eq_true rfl) rfl ⟨(Nat.le_of_ble_eq_true rfl), (Nat.le_of_ble_eq_true rfl)⟩ ⟨(Nat.le_of_ble_eq_true rfl), (Nat.le_of_ble_eq_true rfl)⟩ rfl (fun _ => rfl) dX5_readEnd_9 (fun u9 hu9 => ?_)
    dsimp only [putL, List.set_cons_zero, List.set_cons_succ, Option.toList, List.cons_append, List.nil_append] at hu9 ⊢
    have L31 : ∀ {z : Int}, ((z = 0 ∧ s (nS s a) = 59) ∨ (z = 1 ∧ s (nS s a) ≠ 59)) → V 0 0 31 [(r, eO 5 [.ref aT, .int (iI L), .int (iI q.1), .int (iI q.2), .int (iI (nS s a)), .int (iI na), .int (iI (pI (ot = true)))]), (aT, eB G 400 wT)] [some (.ref r)] [.int (iI z), .ref r] := by
      intro z hz
      refine M.iconst (pc := 31) dX5_readEnd_31 ?_
      refine M.aloadn (pc := 32) 0 rfl rfl dX5_readEnd_32 ?_
      refine M.getf (pc := 33) fg_X5_30 0 rfl rfl dX5_readEnd_33 ?_
      refine M.mV (pc := 36) (c_X5_failIf (q := q) (by first | assumption | omega) (by first | assumption | omega) (by omega)) mv_X5_61 [0] rfl rfl rfl 0 rfl rfl rfl rfl (Nat.le_of_ble_eq_true rfl) rfl ⟨(Nat.le_of_ble_eq_true rfl), (Nat.le_of_ble_eq_true rfl)⟩ ⟨(Nat.le_of_ble_eq_true rfl), (Nat.le_of_ble_eq_true rfl)⟩ rfl (fun _ => rfl) dX5_readEnd_36 (fun u36 hu36 => ?_)
      dsimp only [putL, List.set_cons_zero, List.set_cons_succ, Option.toList, List.cons_append, List.nil_append] at hu36 ⊢
      refine M.aloadn (pc := 39) 0 rfl rfl dX5_readEnd_39 ?_
      refine M.dup (pc := 40) rfl dX5_readEnd_40 ?_
      refine M.getf (pc := 41) fg_X5_30 0 rfl rfl dX5_readEnd_41 ?_
      refine M.iconst (pc := 44) dX5_readEnd_44 ?_
      refine M.iadd (pc := 45) dX5_readEnd_45 ?_
      refine M.putf (pc := 46) fp_X5_30 0 rfl rfl rfl (Nat.le_of_ble_eq_true rfl) dX5_readEnd_46 ?_
      dsimp only [List.set_cons_zero, List.set_cons_succ]
      have hfl : fl q (if z = 0 then 0 else 1) (nS s a) = edQ s q a := by
        unfold edQ
        rcases hz with ⟨z1, z2⟩ | ⟨z1, z2⟩
        · rw [if_pos z1, if_pos z2]
        · rw [if_neg (by omega), if_neg z2]
      exact EV (nS s a + 1) _ _ _ dX5_readEnd_49 rfl (rfl) (by rw [hfl]) (⟨fun _ => rfl, by omega⟩)
    refine M.aloadn (pc := 12) 0 rfl rfl dX5_readEnd_12 ?_
    refine M.aloadn (pc := 13) 0 rfl rfl dX5_readEnd_13 ?_
    refine M.aloadn (pc := 14) 0 rfl rfl dX5_readEnd_14 ?_
    refine M.getf (pc := 15) fg_X5_30 0 rfl rfl dX5_readEnd_15 ?_
    refine M.pV (pc := 18) (c_X5_signAt  (by first | assumption | omega) (by first | assumption | omega) (by first | assumption | omega) (by first | assumption | omega)) mv_X5_44 [0, 1] rfl rfl rfl 0 rfl rfl rfl rfl (Nat.le_of_ble_eq_true rfl) rfl ⟨(Nat.le_of_ble_eq_true rfl), (Nat.le_of_ble_eq_true rfl)⟩ ⟨(Nat.le_of_ble_eq_true rfl), (Nat.le_of_ble_eq_true rfl)⟩ rfl dX5_readEnd_18 ?_
    refine M.bipush (pc := 21) (by decide +kernel) dX5_readEnd_21 ?_
    refine M.icmp_eq (pc := 23) (tgt := 30) dX5_readEnd_23 (by decide) (by omega) (by omega) (fun c23 => ?_) (fun c23 => ?_)
    · refine M.iconst (pc := 30) dX5_readEnd_30 ?_
      exact L31  (by first | assumption | omega)
    · refine M.iconst (pc := 26) dX5_readEnd_26 ?_
      refine M.goto (pc := 27) (tgt := 31) dX5_readEnd_27 (by decide) ?_
      exact L31  (by first | assumption | omega)
  · exact EV a _ _ _ dX5_readEnd_7 rfl (rfl) (by show _ = _; unfold edQ; rw [fl_n (by omega)]) (⟨fun z => absurd (by unfold edQ at z; rw [fl_n (by omega)] at z; exact z) (show ¬ q.1 = 0 by omega), ha⟩)
set_option maxHeartbeats 4000000 in
set_option maxRecDepth 100000 in
theorem c_X3_fill {l : Launch} {G : GT} {g N : Nat} {w : Int → Int} {k x1 x2 x3 x4 : Int} (hk : 0 ≤ k ∧ k * 4 + 3 < (N : Int)) (hN : N < 1000000) : Con l G yX3_fill cX3_fill 7 none { frames := 0, cells := 0, slots := 0, locals := 0 } [.ref g, .int (iI k), .int (iI x1), .int (iI x2), .int (iI x3), .int (iI x4)] [(g, eI G N w)] (S := Unit) (fun _ => none) (fun _ => [(g, eI G N (ad4 w k x1 x2 x3 x4))]) (fun _ => True) := by
  refine Con.mk (by decide +kernel) [some (.ref g), some (.int (iI k)), some (.int (iI x1)), some (.int (iI x2)), some (.int (iI x3)), some (.int (iI x4)), none] rfl (Nat.le_of_ble_eq_true rfl) rfl ?_
  intro V M EI EL EV EA
  refine M.iloadn (pc := 0) 1 rfl rfl dX3_fill_0 ?_
  refine M.iconst (pc := 1) dX3_fill_1 ?_
  refine M.imul (pc := 2) dX3_fill_2 ?_
  refine M.istore (pc := 3) (i := 6) (Nat.le_of_ble_eq_true rfl) rfl dX3_fill_3 ?_
  dsimp only [List.set_cons_zero, List.set_cons_succ]
  refine M.iload (pc := 5) (i := 6) rfl dX3_fill_5 ?_
  refine M.if_lt (pc := 7) (tgt := 47) dX3_fill_7 (by decide) (by omega) (fun c7 => ?_) (fun c7 => ?_)
  · exact absurd c7 (by omega)
  · refine M.iload (pc := 10) (i := 6) rfl dX3_fill_10 ?_
    refine M.iconst (pc := 12) dX3_fill_12 ?_
    refine M.iadd (pc := 13) dX3_fill_13 ?_
    refine M.aloadn (pc := 14) 0 rfl rfl dX3_fill_14 ?_
    refine M.alenI (pc := 15) 0 rfl dX3_fill_15 ?_
    refine M.icmp_ge (pc := 16) (tgt := 47) dX3_fill_16 (by decide) (by omega) (by omega) (fun c16 => ?_) (fun c16 => ?_)
    · exact absurd c16 (by omega)
    · refine M.aloadn (pc := 19) 0 rfl rfl dX3_fill_19 ?_
      refine M.iload (pc := 20) (i := 6) rfl dX3_fill_20 ?_
      refine M.iloadn (pc := 22) 2 rfl rfl dX3_fill_22 ?_
      refine M.iast (pc := 23) 0 rfl (by omega) (by omega) dX3_fill_23 ?_
      dsimp only [List.set_cons_zero, List.set_cons_succ]
      refine M.aloadn (pc := 24) 0 rfl rfl dX3_fill_24 ?_
      refine M.iload (pc := 25) (i := 6) rfl dX3_fill_25 ?_
      refine M.iconst (pc := 27) dX3_fill_27 ?_
      refine M.iadd (pc := 28) dX3_fill_28 ?_
      refine M.iloadn (pc := 29) 3 rfl rfl dX3_fill_29 ?_
      refine M.iast (pc := 30) 0 rfl (by omega) (by omega) dX3_fill_30 ?_
      dsimp only [List.set_cons_zero, List.set_cons_succ]
      refine M.aloadn (pc := 31) 0 rfl rfl dX3_fill_31 ?_
      refine M.iload (pc := 32) (i := 6) rfl dX3_fill_32 ?_
      refine M.iconst (pc := 34) dX3_fill_34 ?_
      refine M.iadd (pc := 35) dX3_fill_35 ?_
      refine M.iload (pc := 36) (i := 4) rfl dX3_fill_36 ?_
      refine M.iast (pc := 38) 0 rfl (by omega) (by omega) dX3_fill_38 ?_
      dsimp only [List.set_cons_zero, List.set_cons_succ]
      refine M.aloadn (pc := 39) 0 rfl rfl dX3_fill_39 ?_
      refine M.iload (pc := 40) (i := 6) rfl dX3_fill_40 ?_
      refine M.iconst (pc := 42) dX3_fill_42 ?_
      refine M.iadd (pc := 43) dX3_fill_43 ?_
      refine M.iload (pc := 44) (i := 5) rfl dX3_fill_44 ?_
      refine M.iast (pc := 46) 0 rfl (by omega) (by omega) dX3_fill_46 ?_
      dsimp only [List.set_cons_zero, List.set_cons_succ]
      exact EV () _ _ _ dX3_fill_47 rfl (rfl) (rfl) (trivial)
set_option maxHeartbeats 4000000 in
set_option maxRecDepth 100000 in
theorem c_X3_addBath {l : Launch} {G : GT} {h hb ht : Nat} {fb ft : Int → Int} {nb n od : Int} {x1 x2 x3 x4 : Int} (hnb : 0 ≤ nb ∧ nb < 2) : Con l G yX3_addBath cX3_addBath 5 none { frames := 1, cells := 0, slots := 0, locals := 26 } [.ref h, .int (iI x1), .int (iI x2), .int (iI x3), .int (iI x4)] [(h, eO 3 [.ref hb, .ref ht, .int (iI nb), .int (iI n), .int (iI od)]), (hb, eI G 8 fb), (ht, eI G 24 ft)] (S := Unit) (fun _ => none) (fun _ => [(h, eO 3 [.ref hb, .ref ht, .int (iI (nb + 1)), .int (iI n), .int (iI od)]), (hb, eI G 8 (ad4 fb nb x1 x2 x3 x4)), (ht, eI G 24 ft)]) (fun _ => True) := by
  refine Con.mk (by decide +kernel) [some (.ref h), some (.int (iI x1)), some (.int (iI x2)), some (.int (iI x3)), some (.int (iI x4))] rfl (Nat.le_of_ble_eq_true rfl) rfl ?_
  intro V M EI EL EV EA
  refine M.aloadn (pc := 0) 0 rfl rfl dX3_addBath_0 ?_
  refine M.getf (pc := 1) fg_X3_22 0 rfl rfl dX3_addBath_1 ?_
  refine M.iconst (pc := 4) dX3_addBath_4 ?_
  refine M.icmp_ge (pc := 5) (tgt := 34) dX3_addBath_5 (by decide) (by omega) (by omega) (fun c5 => ?_) (fun c5 => ?_)
  · exact absurd c5 (by omega)
  · refine M.aloadn (pc := 8) 0 rfl rfl dX3_addBath_8 ?_
    refine M.getf (pc := 9) fg_X3_11 0 rfl rfl dX3_addBath_9 ?_
    refine M.aloadn (pc := 12) 0 rfl rfl dX3_addBath_12 ?_
    refine M.getf (pc := 13) fg_X3_22 0 rfl rfl dX3_addBath_13 ?_
    refine M.iloadn (pc := 16) 1 rfl rfl dX3_addBath_16 ?_
    refine M.iloadn (pc := 17) 2 rfl rfl dX3_addBath_17 ?_
    refine M.iloadn (pc := 18) 3 rfl rfl dX3_addBath_18 ?_
    refine M.iload (pc := 19) (i := 4) rfl dX3_addBath_19 ?_
    refine M.mS (pc := 21) (c_X3_fill (N := 8) (by omega) (by omega)) ms_X3_28 [1] rfl rfl rfl rfl (Nat.le_of_ble_eq_true rfl) rfl ⟨(Nat.le_of_ble_eq_true rfl), (Nat.le_of_ble_eq_true rfl)⟩ ⟨(Nat.le_of_ble_eq_true rfl), (Nat.le_of_ble_eq_true rfl)⟩ rfl (fun _ => rfl) dX3_addBath_21 (fun u21 hu21 => ?_)
    dsimp only [putL, List.set_cons_zero, List.set_cons_succ, Option.toList, List.cons_append, List.nil_append] at hu21 ⊢
    refine M.aloadn (pc := 24) 0 rfl rfl dX3_addBath_24 ?_
    refine M.dup (pc := 25) rfl dX3_addBath_25 ?_
    refine M.getf (pc := 26) fg_X3_22 0 rfl rfl dX3_addBath_26 ?_
    refine M.iconst (pc := 29) dX3_addBath_29 ?_
    refine M.iadd (pc := 30) dX3_addBath_30 ?_
    refine M.putf (pc := 31) fp_X3_22 0 rfl rfl rfl (Nat.le_of_ble_eq_true rfl) dX3_addBath_31 ?_
    dsimp only [List.set_cons_zero, List.set_cons_succ]
    exact EV () _ _ _ dX3_addBath_34 rfl (rfl) (rfl) (trivial)
set_option maxHeartbeats 4000000 in
set_option maxRecDepth 100000 in
theorem c_X3_addBather {l : Launch} {G : GT} {h hb ht : Nat} {fb ft : Int → Int} {nb n od : Int} {x1 x2 x3 x4 : Int} (hn : 0 ≤ n ∧ n < 6) : Con l G yX3_addBather cX3_addBather 5 none { frames := 1, cells := 0, slots := 0, locals := 26 } [.ref h, .int (iI x1), .int (iI x2), .int (iI x3), .int (iI x4)] [(h, eO 3 [.ref hb, .ref ht, .int (iI nb), .int (iI n), .int (iI od)]), (hb, eI G 8 fb), (ht, eI G 24 ft)] (S := Unit) (fun _ => none) (fun _ => [(h, eO 3 [.ref hb, .ref ht, .int (iI nb), .int (iI (n + 1)), .int (iI od)]), (hb, eI G 8 fb), (ht, eI G 24 (ad4 ft n x1 x2 x3 x4))]) (fun _ => True) := by
  refine Con.mk (by decide +kernel) [some (.ref h), some (.int (iI x1)), some (.int (iI x2)), some (.int (iI x3)), some (.int (iI x4))] rfl (Nat.le_of_ble_eq_true rfl) rfl ?_
  intro V M EI EL EV EA
  refine M.aloadn (pc := 0) 0 rfl rfl dX3_addBather_0 ?_
  refine M.getf (pc := 1) fg_X3_25 0 rfl rfl dX3_addBather_1 ?_
  refine M.bipush (pc := 4) (by decide +kernel) dX3_addBather_4 ?_
  refine M.icmp_ge (pc := 6) (tgt := 35) dX3_addBather_6 (by decide) (by omega) (by omega) (fun c6 => ?_) (fun c6 => ?_)
  · exact absurd c6 (by omega)
  · refine M.aloadn (pc := 9) 0 rfl rfl dX3_addBather_9 ?_
    refine M.getf (pc := 10) fg_X3_15 0 rfl rfl dX3_addBather_10 ?_
    refine M.aloadn (pc := 13) 0 rfl rfl dX3_addBather_13 ?_
    refine M.getf (pc := 14) fg_X3_25 0 rfl rfl dX3_addBather_14 ?_
    refine M.iloadn (pc := 17) 1 rfl rfl dX3_addBather_17 ?_
    refine M.iloadn (pc := 18) 2 rfl rfl dX3_addBather_18 ?_
    refine M.iloadn (pc := 19) 3 rfl rfl dX3_addBather_19 ?_
    refine M.iload (pc := 20) (i := 4) rfl dX3_addBather_20 ?_
    refine M.mS (pc := 22) (c_X3_fill (N := 24) (by omega) (by omega)) ms_X3_28 [2] rfl rfl rfl rfl (Nat.le_of_ble_eq_true rfl) rfl ⟨(Nat.le_of_ble_eq_true rfl), (Nat.le_of_ble_eq_true rfl)⟩ ⟨(Nat.le_of_ble_eq_true rfl), (Nat.le_of_ble_eq_true rfl)⟩ rfl (fun _ => rfl) dX3_addBather_22 (fun u22 hu22 => ?_)
    dsimp only [putL, List.set_cons_zero, List.set_cons_succ, Option.toList, List.cons_append, List.nil_append] at hu22 ⊢
    refine M.aloadn (pc := 25) 0 rfl rfl dX3_addBather_25 ?_
    refine M.dup (pc := 26) rfl dX3_addBather_26 ?_
    refine M.getf (pc := 27) fg_X3_25 0 rfl rfl dX3_addBather_27 ?_
    refine M.iconst (pc := 30) dX3_addBather_30 ?_
    refine M.iadd (pc := 31) dX3_addBather_31 ?_
    refine M.putf (pc := 32) fp_X3_25 0 rfl rfl rfl (Nat.le_of_ble_eq_true rfl) dX3_addBather_32 ?_
    dsimp only [List.set_cons_zero, List.set_cons_succ]
    exact EV () _ _ _ dX3_addBather_35 rfl (rfl) (rfl) (trivial)
set_option maxHeartbeats 4000000 in
set_option maxRecDepth 100000 in
theorem c_X3_clear {l : Launch} {G : GT} {h hb ht : Nat} {fb ft : Int → Int} {nb n od : Int}  : Con l G yX3_clear cX3_clear 1 none { frames := 0, cells := 0, slots := 0, locals := 0 } [.ref h] [(h, eO 3 [.ref hb, .ref ht, .int (iI nb), .int (iI n), .int (iI od)]), (hb, eI G 8 fb), (ht, eI G 24 ft)] (S := Unit) (fun _ => none) (fun _ => [(h, eO 3 [.ref hb, .ref ht, .int (iI 0), .int (iI 0), .int (iI 5)]), (hb, eI G 8 fb), (ht, eI G 24 ft)]) (fun _ => True) := by
  refine Con.mk (by decide +kernel) [some (.ref h)] rfl (Nat.le_of_ble_eq_true rfl) rfl ?_
  intro V M EI EL EV EA
  refine M.aloadn (pc := 0) 0 rfl rfl dX3_clear_0 ?_
  refine M.iconst (pc := 1) dX3_clear_1 ?_
  refine M.putf (pc := 2) fp_X3_22 0 rfl rfl rfl (Nat.le_of_ble_eq_true rfl) dX3_clear_2 ?_
  dsimp only [List.set_cons_zero, List.set_cons_succ]
  refine M.aloadn (pc := 5) 0 rfl rfl dX3_clear_5 ?_
  refine M.iconst (pc := 6) dX3_clear_6 ?_
  refine M.putf (pc := 7) fp_X3_25 0 rfl rfl rfl (Nat.le_of_ble_eq_true rfl) dX3_clear_7 ?_
  dsimp only [List.set_cons_zero, List.set_cons_succ]
  refine M.aloadn (pc := 10) 0 rfl rfl dX3_clear_10 ?_
  refine M.iconst (pc := 11) dX3_clear_11 ?_
  refine M.putf (pc := 12) fp_X3_18 0 rfl rfl rfl (Nat.le_of_ble_eq_true rfl) dX3_clear_12 ?_
  dsimp only [List.set_cons_zero, List.set_cons_succ]
  exact EV () _ _ _ dX3_clear_15 rfl (rfl) (rfl) (trivial)
