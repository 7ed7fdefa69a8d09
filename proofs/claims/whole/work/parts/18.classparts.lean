/-! the class's cases: what each try parts -/
set_option maxHeartbeats 4000000 in
set_option maxRecDepth 100000 in
theorem c_X0_leadersAt {l : Launch} {G : GT} {t aL aU aP aK aN aH : Nat} {cu cp : Int} {cb : Bool} {wL : Int → Int} {T : Int} (ht0 : 0 ≤ T ∧ T < 128) : ConF l G yX0_leadersAt cX0_leadersAt 2 (some .long) { frames := 0, cells := 0, slots := 0, locals := 0 } [.ref t, .int (iI T)] [(t, eO 0 [.ref aL, .ref aU, .ref aP, .ref aK, .ref aN, .ref aH, .int (iI cu), .int (iI cp), .int (iI (pI (cb = true)))]), (aL, eL G 128 wL)] (some (.long (lI (wL T)))) := by
  refine Con.mk (by decide +kernel) [some (.ref t), some (.int (iI T))] rfl (Nat.le_of_ble_eq_true rfl) rfl ?_
  intro V M EI EL EV EA
  refine M.iloadn (pc := 0) 1 rfl rfl dX0_leadersAt_0 ?_
  refine M.if_lt (pc := 1) (tgt := 22) dX0_leadersAt_1 (by decide) (by omega) (fun c1 => ?_) (fun c1 => ?_)
  · exact absurd c1 (by omega)
  · refine M.iloadn (pc := 4) 1 rfl rfl dX0_leadersAt_4 ?_
    refine M.aloadn (pc := 5) 0 rfl rfl dX0_leadersAt_5 ?_
    refine M.getf (pc := 6) fg_X0_11 0 rfl rfl dX0_leadersAt_6 ?_
    refine M.alenL (pc := 9) 1 rfl dX0_leadersAt_9 ?_
    refine M.icmp_ge (pc := 10) (tgt := 22) dX0_leadersAt_10 (by decide) (by omega) (by omega) (fun c10 => ?_) (fun c10 => ?_)
    · exact absurd c10 (by omega)
    · refine M.aloadn (pc := 13) 0 rfl rfl dX0_leadersAt_13 ?_
      refine M.getf (pc := 14) fg_X0_11 0 rfl rfl dX0_leadersAt_14 ?_
      refine M.iloadn (pc := 17) 1 rfl rfl dX0_leadersAt_17 ?_
      refine M.lald (pc := 18) 1 rfl (by omega) (by omega) dX0_leadersAt_18 ?_
      refine M.goto (pc := 19) (tgt := 23) dX0_leadersAt_19 (by decide) ?_
      exact EL () _ _ _ _ dX0_leadersAt_23 rfl (eqL (by rfl)) rfl trivial
set_option maxHeartbeats 4000000 in
set_option maxRecDepth 100000 in
theorem c_X0_leaderIn {l : Launch} {G : GT} {L c : Int} (hL : 0 ≤ L ∧ L < 9223372036854775808) (hc : 0 ≤ c ∧ c < 13) : ConF l G yX0_leaderIn cX0_leaderIn 3 (some .int) { frames := 0, cells := 0, slots := 0, locals := 0 } [.long (lI L), .int (iI c)] [] (some (.int (iI (L / p16 c % 16)))) := by
  refine Con.mk (by decide +kernel) [some (.long (lI L)), none, some (.int (iI c))] rfl (Nat.le_of_ble_eq_true rfl) rfl ?_
  intro V M EI EL EV EA
  have hdn : 0 ≤ L / p16 c := Int.ediv_nonneg hL.1 (by have := p16_1 c; omega)
  refine M.lloadn (pc := 0) 0 rfl rfl dX0_leaderIn_0 ?_
  refine M.iconst (pc := 1) dX0_leaderIn_1 ?_
  refine M.iloadn (pc := 2) 2 rfl rfl dX0_leaderIn_2 ?_
  refine M.imul (pc := 3) dX0_leaderIn_3 ?_
  refine M.lushr (pc := 4) (lsr_ok hL hc) dX0_leaderIn_4 ?_
  refine M.l2i (pc := 5) dX0_leaderIn_5 ?_
  refine M.bipush (pc := 6) (by decide +kernel) dX0_leaderIn_6 ?_
  refine M.iand (pc := 8) (and15 hdn) dX0_leaderIn_8 ?_
  exact EI () _ _ _ _ dX0_leaderIn_9 (Or.inl rfl) (eqI (by rfl)) rfl trivial
set_option maxHeartbeats 4000000 in
set_option maxRecDepth 100000 in
theorem c_X0_isNew {l : Launch} {G : GT} {t aL aU aP aK aN aH : Nat} {cu cp : Int} {cb : Bool} {wL : Int → Int} {wU : Int → Int} {T : Int} (ht0 : 0 ≤ T ∧ T < 128) (hwL : ∀ x, 0 ≤ wL x ∧ wL x < 4503599627370496) (hcu : 0 ≤ cu ∧ cu ≤ 128) (hwU : ∀ x, 0 ≤ x → x < cu → 0 ≤ wU x ∧ wU x < 128) : Con l G yX0_isNew cX0_isNew 3 (some .boolean) { frames := 1, cells := 0, slots := 0, locals := 21 } [.ref t, .int (iI T)] [(t, eO 0 [.ref aL, .ref aU, .ref aP, .ref aK, .ref aN, .ref aH, .int (iI cu), .int (iI cp), .int (iI (pI (cb = true)))]), (aL, eL G 128 wL), (aU, eI G 128 wU)] (S := Bool) (fun u => some (.int (iI (pI (u = true))))) (fun _ => [(t, eO 0 [.ref aL, .ref aU, .ref aP, .ref aK, .ref aN, .ref aH, .int (iI cu), .int (iI cp), .int (iI (pI (cb = true)))]), (aL, eL G 128 wL), (aU, eI G 128 wU)]) (fun u => u = true ↔ ∀ x, 0 ≤ x → x < cu → wL (wU x) ≠ wL T) := by
  refine Con.mk (by decide +kernel) [some (.ref t), some (.int (iI T)), none] rfl (Nat.le_of_ble_eq_true rfl) rfl ?_
  intro V M EI EL EV EA
  refine M.iconst (pc := 0) dX0_isNew_0 ?_
  refine M.istoren (pc := 1) 2 rfl (Nat.le_of_ble_eq_true rfl) rfl dX0_isNew_1 ?_
  dsimp only [List.set_cons_zero, List.set_cons_succ]
  have L2 : ∀ (fu : Nat) {k : Int}, (0 ≤ k ∧ k ≤ cu) → (∀ x, 0 ≤ x → x < k → wL (wU x) ≠ wL T) → (cu - k).toNat < fu → V 0 0 2 [(t, eO 0 [.ref aL, .ref aU, .ref aP, .ref aK, .ref aN, .ref aH, .int (iI cu), .int (iI cp), .int (iI (pI (cb = true)))]), (aL, eL G 128 wL), (aU, eI G 128 wU)] [some (.ref t), some (.int (iI T)), some (.int (iI k))] [] := by
    intro fu
    induction fu with
    | zero => intro k hk hno hm; exact absurd hm (Nat.not_lt_zero _)
    | succ fu ih2 =>
      intro k hk hno hm2
      refine M.iloadn (pc := 2) 2 rfl rfl dX0_isNew_2 ?_
      refine M.aloadn (pc := 3) 0 rfl rfl dX0_isNew_3 ?_
      refine M.getf (pc := 4) fg_X0_43 0 rfl rfl dX0_isNew_4 ?_
      refine M.icmp_ge (pc := 7) (tgt := 46) dX0_isNew_7 (by decide) (by omega) (by omega) (fun c7 => ?_) (fun c7 => ?_)
      · refine M.iconst (pc := 46) dX0_isNew_46 ?_
        exact EI true _ _ _ _ dX0_isNew_47 (Or.inr ⟨rfl, by first | exact Or.inl rfl | exact Or.inr rfl | exact pI_01 _⟩) (rfl) (rfl) (⟨fun _ x h0 h1 => hno x h0 (by omega), fun _ => rfl⟩)
      · have hk2 := hwU k
        refine M.iloadn (pc := 10) 2 rfl rfl dX0_isNew_10 ?_
        refine M.aloadn (pc := 11) 0 rfl rfl dX0_isNew_11 ?_
        refine M.getf (pc := 12) fg_X0_15 0 rfl rfl dX0_isNew_12 ?_
        refine M.alenI (pc := 15) 2 rfl dX0_isNew_15 ?_
        refine M.icmp_ge (pc := 16) (tgt := 46) dX0_isNew_16 (by decide) (by omega) (by omega) (fun c16 => ?_) (fun c16 => ?_)
        · refine M.iconst (pc := 46) dX0_isNew_46 ?_
          exact EI true _ _ _ _ dX0_isNew_47 (Or.inr ⟨rfl, by first | exact Or.inl rfl | exact Or.inr rfl | exact pI_01 _⟩) (rfl) (rfl) (⟨fun _ x h0 h1 => hno x h0 (by omega), fun _ => rfl⟩)
        · have hu := hwU k hk.1 (by omega)
          have hl1 := hwL (wU k)
          have hl2 := hwL T
          refine M.aloadn (pc := 19) 0 rfl rfl dX0_isNew_19 ?_
          refine M.aloadn (pc := 20) 0 rfl rfl dX0_isNew_20 ?_
          refine M.getf (pc := 21) fg_X0_15 0 rfl rfl dX0_isNew_21 ?_
          refine M.iloadn (pc := 24) 2 rfl rfl dX0_isNew_24 ?_
          refine M.iald (pc := 25) 2 rfl (by omega) (by omega) dX0_isNew_25 ?_
          refine M.pV (pc := 26) (c_X0_leadersAt  (by exact hu)) mv_X0_97 [0, 1] rfl rfl rfl 0 rfl rfl rfl rfl (Nat.le_of_ble_eq_true rfl) rfl ⟨(Nat.le_of_ble_eq_true rfl), (Nat.le_of_ble_eq_true rfl)⟩ ⟨(Nat.le_of_ble_eq_true rfl), (Nat.le_of_ble_eq_true rfl)⟩ rfl dX0_isNew_26 ?_
          refine M.aloadn (pc := 29) 0 rfl rfl dX0_isNew_29 ?_
          refine M.iloadn (pc := 30) 1 rfl rfl dX0_isNew_30 ?_
          refine M.pV (pc := 31) (c_X0_leadersAt  (by first | assumption | omega)) mv_X0_97 [0, 1] rfl rfl rfl 0 rfl rfl rfl rfl (Nat.le_of_ble_eq_true rfl) rfl ⟨(Nat.le_of_ble_eq_true rfl), (Nat.le_of_ble_eq_true rfl)⟩ ⟨(Nat.le_of_ble_eq_true rfl), (Nat.le_of_ble_eq_true rfl)⟩ rfl dX0_isNew_31 ?_
          refine M.lcmp (pc := 34) (by omega) (by omega) dX0_isNew_34 ?_
          refine M.if_ne (pc := 35) (tgt := 40) dX0_isNew_35 (by decide) (by omega) (fun c35 => ?_) (fun c35 => ?_)
          · refine M.iinc (pc := 40) (i := 2) rfl rfl dX0_isNew_40 ?_
            dsimp only [List.set_cons_zero, List.set_cons_succ]
            refine M.goto (pc := 43) (tgt := 2) dX0_isNew_43 (by decide) ?_
            exact ih2  (by first | assumption | omega) (by intro x h0 h1; rcases (by omega : x < k ∨ x = k) with q | q; exact hno x h0 q; rw [q]; omega) (by omega)
          · refine M.iconst (pc := 38) dX0_isNew_38 ?_
            exact EI false _ _ _ _ dX0_isNew_39 (Or.inr ⟨rfl, by first | exact Or.inl rfl | exact Or.inr rfl | exact pI_01 _⟩) (rfl) (rfl) (⟨fun z => absurd z (by decide), fun z => absurd (by omega) (z k hk.1 (by omega))⟩)
  exact L2 _  (by first | assumption | omega) (by intro x _ h; omega) (Nat.lt_succ_self _)
set_option maxHeartbeats 4000000 in
set_option maxRecDepth 100000 in
theorem c_X0_togetherWith {l : Launch} {G : GT} {t aL aU aP aK aN aH : Nat} {cu cp : Int} {cb : Bool} {L c : Int} (hcp : 0 ≤ cp ∧ cp < 8192) (hL : 0 ≤ L ∧ L < 9223372036854775808) (hc : 0 ≤ c ∧ c < 13) : ConF l G yX0_togetherWith cX0_togetherWith 6 (some .int) { frames := 1, cells := 0, slots := 0, locals := 22 } [.ref t, .long (lI L), .int (iI c)] [(t, eO 0 [.ref aL, .ref aU, .ref aP, .ref aK, .ref aN, .ref aH, .int (iI cu), .int (iI cp), .int (iI (pI (cb = true)))])] (some (.int (iI (cm (fun d => decide (c ≤ d) && (tb cp d && decide (L / p16 d % 16 = c))) 13)))) := by
  refine Con.mk (by decide +kernel) [some (.ref t), some (.long (lI L)), none, some (.int (iI c)), none, none] rfl (Nat.le_of_ble_eq_true rfl) rfl ?_
  intro V M EI EL EV EA
  refine M.iconst (pc := 0) dX0_togetherWith_0 ?_
  refine M.istore (pc := 1) (i := 4) (Nat.le_of_ble_eq_true rfl) rfl dX0_togetherWith_1 ?_
  dsimp only [List.set_cons_zero, List.set_cons_succ]
  refine M.iloadn (pc := 3) 3 rfl rfl dX0_togetherWith_3 ?_
  refine M.istore (pc := 4) (i := 5) (Nat.le_of_ble_eq_true rfl) rfl dX0_togetherWith_4 ?_
  dsimp only [List.set_cons_zero, List.set_cons_succ]
  have L6 : ∀ (fu : Nat) {k s : Int}, (c ≤ k ∧ k ≤ 13) → (s = cm (fun d => decide (c ≤ d) && (tb cp d && decide (L / p16 d % 16 = c))) k.toNat) → (13 - k).toNat < fu → V 0 0 6 [(t, eO 0 [.ref aL, .ref aU, .ref aP, .ref aK, .ref aN, .ref aH, .int (iI cu), .int (iI cp), .int (iI (pI (cb = true)))])] [some (.ref t), some (.long (lI L)), none, some (.int (iI c)), some (.int (iI s)), some (.int (iI k))] [] := by
    intro fu
    induction fu with
    | zero => intro k s hk hs2 hm; exact absurd hm (Nat.not_lt_zero _)
    | succ fu ih6 =>
      intro k s hk hs2 hm6
      refine M.iload (pc := 6) (i := 5) rfl dX0_togetherWith_6 ?_
      refine M.bipush (pc := 8) (by decide +kernel) dX0_togetherWith_8 ?_
      refine M.icmp_ge (pc := 10) (tgt := 50) dX0_togetherWith_10 (by decide) (by omega) (by omega) (fun c10 => ?_) (fun c10 => ?_)
      · refine M.iload (pc := 50) (i := 4) rfl dX0_togetherWith_50 ?_
        exact EI () _ _ _ _ dX0_togetherWith_52 (Or.inl rfl) (eqI (by rw [hs2, show k.toNat = 13 by omega])) rfl trivial
      · refine M.aloadn (pc := 13) 0 rfl rfl dX0_togetherWith_13 ?_
        refine M.getf (pc := 14) fg_X0_39 0 rfl rfl dX0_togetherWith_14 ?_
        refine M.iload (pc := 17) (i := 5) rfl dX0_togetherWith_17 ?_
        refine M.pSN (pc := 19) (c_X7_has  (by first | assumption | omega) (by first | assumption | omega) (by first | assumption | omega) (by first | assumption | omega)) ms_X0_82 [] rfl rfl rfl rfl (Nat.le_of_ble_eq_true rfl) rfl ⟨(Nat.le_of_ble_eq_true rfl), (Nat.le_of_ble_eq_true rfl)⟩ ⟨(Nat.le_of_ble_eq_true rfl), (Nat.le_of_ble_eq_true rfl)⟩ rfl dX0_togetherWith_19 ?_
        have hdg : 0 ≤ L / p16 k % 16 ∧ L / p16 k % 16 < 16 := by omega
        refine M.if_eqP (pc := 22) (tgt := 44) dX0_togetherWith_22 (by decide) (fun c22 => ?_) (fun c22 => ?_)
        · refine M.iinc (pc := 44) (i := 5) rfl rfl dX0_togetherWith_44 ?_
          dsimp only [List.set_cons_zero, List.set_cons_succ]
          refine M.goto (pc := 47) (tgt := 6) dX0_togetherWith_47 (by decide) ?_
          exact ih6  (by first | assumption | omega) (by first | rfl | (rw [cm_s _ (by omega), hs2, if_neg (by rw [decide_eq_true hk.1]; simp; intro z; first | exact absurd z c22 | exact c32)]; omega)) (by omega)
        · refine M.lloadn (pc := 25) 1 rfl rfl dX0_togetherWith_25 ?_
          refine M.iload (pc := 26) (i := 5) rfl dX0_togetherWith_26 ?_
          refine M.pS (pc := 28) (c_X0_leaderIn  (by first | assumption | omega) (by first | assumption | omega)) ms_X0_108 [] rfl rfl rfl rfl (Nat.le_of_ble_eq_true rfl) rfl ⟨(Nat.le_of_ble_eq_true rfl), (Nat.le_of_ble_eq_true rfl)⟩ ⟨(Nat.le_of_ble_eq_true rfl), (Nat.le_of_ble_eq_true rfl)⟩ rfl dX0_togetherWith_28 ?_
          refine M.iloadn (pc := 31) 3 rfl rfl dX0_togetherWith_31 ?_
          refine M.icmp_ne (pc := 32) (tgt := 44) dX0_togetherWith_32 (by decide) (by omega) (by omega) (fun c32 => ?_) (fun c32 => ?_)
          · refine M.iinc (pc := 44) (i := 5) rfl rfl dX0_togetherWith_44 ?_
            dsimp only [List.set_cons_zero, List.set_cons_succ]
            refine M.goto (pc := 47) (tgt := 6) dX0_togetherWith_47 (by decide) ?_
            exact ih6  (by first | assumption | omega) (by first | rfl | (rw [cm_s _ (by omega), hs2, if_neg (by rw [decide_eq_true hk.1]; simp; intro z; first | exact absurd z c22 | exact c32)]; omega)) (by omega)
          · refine M.iload (pc := 35) (i := 4) rfl dX0_togetherWith_35 ?_
            refine M.iconst (pc := 37) dX0_togetherWith_37 ?_
            refine M.iload (pc := 38) (i := 5) rfl dX0_togetherWith_38 ?_
            refine M.ishl (pc := 40) (bit_shl1 (by omega) (by omega)) dX0_togetherWith_40 ?_
            refine M.ior (pc := 41) (cm_o1 (p := fun d => decide (c ≤ d) && (tb cp d && decide (L / p16 d % 16 = c))) hs2 (by omega) (by rw [decide_eq_true hk.1, c22, decide_eq_true c32]; rfl)) dX0_togetherWith_41 ?_
            refine M.istore (pc := 42) (i := 4) (Nat.le_of_ble_eq_true rfl) rfl dX0_togetherWith_42 ?_
            dsimp only [List.set_cons_zero, List.set_cons_succ]
            refine M.iinc (pc := 44) (i := 5) rfl rfl dX0_togetherWith_44 ?_
            dsimp only [List.set_cons_zero, List.set_cons_succ]
            refine M.goto (pc := 47) (tgt := 6) dX0_togetherWith_47 (by decide) ?_
            exact ih6  (by first | assumption | omega) (by first | rfl | (rw [cm_s _ (by omega), hs2, if_neg (by rw [decide_eq_true hk.1]; simp; intro z; first | exact absurd z c22 | exact c32)]; omega)) (by omega)
  exact L6 _  (by first | assumption | omega) (by exact (cmNone _ (fun j hj => by rw [decide_eq_false (by omega)]; rfl)).symm) (Nat.lt_succ_self _)
set_option maxHeartbeats 4000000 in
set_option maxRecDepth 100000 in
theorem c_X0_partAlikes {l : Launch} {G : GT} {t aL aU aP aK aN aH : Nat} {cu cp : Int} {cb : Bool} {wK : Int → Int} {S : Int} (hwK : ∀ d, 0 ≤ wK d ∧ wK d < 8192) (hS : 0 ≤ S ∧ S < 8192) : Con l G yX0_partAlikes cX0_partAlikes 3 none { frames := 1, cells := 0, slots := 0, locals := 21 } [.ref t, .int (iI S)] [(t, eO 0 [.ref aL, .ref aU, .ref aP, .ref aK, .ref aN, .ref aH, .int (iI cu), .int (iI cp), .int (iI (pI (cb = true)))]), (aK, eI G 13 wK)] (S := Int → Int) (fun _ => none) (fun u => [(t, eO 0 [.ref aL, .ref aU, .ref aP, .ref aK, .ref aN, .ref aH, .int (iI cu), .int (iI cp), .int (iI (pI (cb = true)))]), (aK, eI G 13 u)]) (fun u => (∀ d, 0 ≤ u d ∧ u d < 8192) ∧ ∀ d, 0 ≤ d → d < 13 → u d = if tb S d = true then land (wK d) S else wK d) := by
  refine Con.mk (by decide +kernel) [some (.ref t), some (.int (iI S)), none] rfl (Nat.le_of_ble_eq_true rfl) rfl ?_
  intro V M EI EL EV EA
  refine M.iconst (pc := 0) dX0_partAlikes_0 ?_
  refine M.istoren (pc := 1) 2 rfl (Nat.le_of_ble_eq_true rfl) rfl dX0_partAlikes_1 ?_
  dsimp only [List.set_cons_zero, List.set_cons_succ]
  have L2 : ∀ (fu : Nat) {k : Int} {w : Int → Int}, (0 ≤ k ∧ k ≤ 13) → (∀ d, 0 ≤ w d ∧ w d < 8192) → (∀ d, 0 ≤ d → d < 13 → w d = if d < k ∧ tb S d = true then land (wK d) S else wK d) → (13 - k).toNat < fu → V 0 0 2 [(t, eO 0 [.ref aL, .ref aU, .ref aP, .ref aK, .ref aN, .ref aH, .int (iI cu), .int (iI cp), .int (iI (pI (cb = true)))]), (aK, eI G 13 w)] [some (.ref t), some (.int (iI S)), some (.int (iI k))] [] := by
    intro fu
    induction fu with
    | zero => intro k w hk hw hwd hm; exact absurd hm (Nat.not_lt_zero _)
    | succ fu ih2 =>
      intro k w hk hw hwd hm2
      refine M.iloadn (pc := 2) 2 rfl rfl dX0_partAlikes_2 ?_
      refine M.aloadn (pc := 3) 0 rfl rfl dX0_partAlikes_3 ?_
      refine M.getf (pc := 4) fg_X0_22 0 rfl rfl dX0_partAlikes_4 ?_
      refine M.alenI (pc := 7) 1 rfl dX0_partAlikes_7 ?_
      refine M.icmp_ge (pc := 8) (tgt := 35) dX0_partAlikes_8 (by decide) (by omega) (by omega) (fun c8 => ?_) (fun c8 => ?_)
      · exact EV w _ _ _ dX0_partAlikes_35 rfl (rfl) (rfl) (⟨hw, fun d d0 d1 => by rw [hwd d d0 d1]; have q : (d < k ∧ tb S d = true) ↔ (tb S d = true) := ⟨fun z => z.2, fun z => ⟨by omega, z⟩⟩; simp only [q]⟩)
      · refine M.iloadn (pc := 11) 1 rfl rfl dX0_partAlikes_11 ?_
        refine M.iloadn (pc := 12) 2 rfl rfl dX0_partAlikes_12 ?_
        refine M.pSN (pc := 13) (c_X7_has  (by first | assumption | omega) (by first | assumption | omega) (by first | assumption | omega) (by first | assumption | omega)) ms_X0_82 [] rfl rfl rfl rfl (Nat.le_of_ble_eq_true rfl) rfl ⟨(Nat.le_of_ble_eq_true rfl), (Nat.le_of_ble_eq_true rfl)⟩ ⟨(Nat.le_of_ble_eq_true rfl), (Nat.le_of_ble_eq_true rfl)⟩ rfl dX0_partAlikes_13 ?_
        refine M.if_eqP (pc := 16) (tgt := 29) dX0_partAlikes_16 (by decide) (fun c16 => ?_) (fun c16 => ?_)
        · refine M.iinc (pc := 29) (i := 2) rfl rfl dX0_partAlikes_29 ?_
          dsimp only [List.set_cons_zero, List.set_cons_succ]
          refine M.goto (pc := 32) (tgt := 2) dX0_partAlikes_32 (by decide) ?_
          exact ih2  (by first | assumption | omega) (by first | exact hw8 | exact hw) (by first | exact hwn | (intro d d0 d1; rw [hwd d d0 d1]; by_cases e : d = k; rw [if_neg (by omega), if_neg (fun z => c16 (by rw [← e]; exact z.2))]; have q : (d < k + 1 ∧ tb S d = true) ↔ (d < k ∧ tb S d = true) := ⟨fun z => ⟨by omega, z.2⟩, fun z => ⟨by omega, z.2⟩⟩; simp only [q])) (by omega)
        · have hkk := hw k
          have hlb := land_b (a := w k) (b := S) hkk.1 hS.1
          have hw8 : ∀ d, 0 ≤ upZ w k (land (w k) S) d ∧ upZ w k (land (w k) S) d < 8192 := fun d => by
            by_cases e : d = k
            · rw [e, upZ_s]; omega
            · rw [upZ_n e]; exact hw d
          have hwn : ∀ d, 0 ≤ d → d < 13 → upZ w k (land (w k) S) d = if d < k + 1 ∧ tb S d = true then land (wK d) S else wK d := fun d d0 d1 => by
            have hd := hwd d d0 d1
            by_cases e : d = k
            · subst e
              rw [if_neg (by omega)] at hd
              rw [upZ_s, if_pos ⟨by omega, c16⟩, hd]
            · rw [upZ_n e, hd]
              have q : (d < k + 1 ∧ tb S d = true) ↔ (d < k ∧ tb S d = true) := ⟨fun z => ⟨by omega, z.2⟩, fun z => ⟨by omega, z.2⟩⟩
              simp only [q]
          refine M.aloadn (pc := 19) 0 rfl rfl dX0_partAlikes_19 ?_
          refine M.getf (pc := 20) fg_X0_22 0 rfl rfl dX0_partAlikes_20 ?_
          refine M.iloadn (pc := 23) 2 rfl rfl dX0_partAlikes_23 ?_
          refine M.dup2 (pc := 24) rfl rfl dX0_partAlikes_24 ?_
          refine M.iald (pc := 25) 1 rfl (by omega) (by omega) dX0_partAlikes_25 ?_
          refine M.iloadn (pc := 26) 1 rfl rfl dX0_partAlikes_26 ?_
          refine M.iand (pc := 27) (land_ok hkk.1 hS.1) dX0_partAlikes_27 ?_
          refine M.iast (pc := 28) 1 rfl (by omega) (by omega) dX0_partAlikes_28 ?_
          dsimp only [List.set_cons_zero, List.set_cons_succ]
          refine M.iinc (pc := 29) (i := 2) rfl rfl dX0_partAlikes_29 ?_
          dsimp only [List.set_cons_zero, List.set_cons_succ]
          refine M.goto (pc := 32) (tgt := 2) dX0_partAlikes_32 (by decide) ?_
          exact ih2  (by first | assumption | omega) (by first | exact hw8 | exact hw) (by first | exact hwn | (intro d d0 d1; rw [hwd d d0 d1]; by_cases e : d = k; rw [if_neg (by omega), if_neg (fun z => c16 (by rw [← e]; exact z.2))]; have q : (d < k + 1 ∧ tb S d = true) ↔ (d < k ∧ tb S d = true) := ⟨fun z => ⟨by omega, z.2⟩, fun z => ⟨by omega, z.2⟩⟩; simp only [q])) (by omega)
  exact L2 _  (by first | assumption | omega) (by exact hwK) (by intro d d0 _; exact (if_neg (by omega)).symm) (Nat.lt_succ_self _)
