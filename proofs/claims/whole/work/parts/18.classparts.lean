/-! the class's cases: what each try parts -/
def PRT (n : Int) (H : Int → Int → Int) (t : Int) (wP : Int → Int) (b : Int) : Prop := ∃ J : Int, (0 ≤ J ∧ J ≤ 13) ∧ (∀ j, 0 ≤ j → j < J → wP (b + j) ≠ 0 ∧ ∃ x, prB n x = true ∧ wP (b + j) = PT H t (cm (prB n) 13) x) ∧ (J < 13 → wP (b + J) = 0) ∧ ∀ x, prB n x = true → ∃ j, (0 ≤ j ∧ j < J) ∧ wP (b + j) = PT H t (cm (prB n) 13) x
theorem me_pr {n x : Int} (hn : 0 ≤ n ∧ n ≤ 6) : me (cm (prB n) 13) x ↔ prB n x = true := by
  constructor
  · intro h
    rw [← cm_13 (prB n) h.1.1 h.1.2]; exact h.2
  · intro h
    have hb := prB_b hn h
    exact ⟨hb, by rw [cm_13 _ hb.1 hb.2]; exact h⟩
theorem PT_nz {n t x : Int} {H : Int → Int → Int} (hn : 0 ≤ n ∧ n ≤ 6) (hx : prB n x = true) : PT H t (cm (prB n) 13) x ≠ 0 := by
  intro e
  have h := (me_PT (H := H) (t := t) (S := cm (prB n) 13) (c := x) (d := x)).mpr ⟨(me_pr hn).mpr hx, rfl⟩
  have h2 := h.2
  rw [e, tb_0] at h2
  exact absurd h2 (by decide)
theorem tg_tb {n t c d : Int} {H : Int → Int → Int} (hn : 0 ≤ n ∧ n ≤ 6) (hd : prB n d = true) : tb (cm (tgF n (LDR n (H t)) c) 13) d = true ↔ leadOf (prB n) (H t) d = c := by
  have hb := prB_b hn hd
  have hl := (leadOf_ok (prB n) (H t) hb.1).1
  rw [cm_13 _ hb.1 hb.2]
  unfold tgF
  rw [LDR_dig hn hb.1 hb.2, show gL (prB n) (H t) d = leadOf (prB n) (H t) d from if_pos hd, hd]
  constructor
  · intro h
    simp only [Bool.and_eq_true, decide_eq_true_eq] at h
    exact h.2.2
  · intro h
    rw [decide_eq_true h, decide_eq_true (by omega)]
    rfl
theorem tg_l {n t c x : Int} {H : Int → Int → Int} (hn : 0 ≤ n ∧ n ≤ 6) (hx : prB n x = true) (h : leadOf (prB n) (H t) x = c) : cm (tgF n (LDR n (H t)) c) 13 = PT H t (cm (prB n) 13) x := by
  rw [← h]
  exact tg_lead hn hx
set_option maxHeartbeats 4000000 in
set_option maxRecDepth 100000 in
theorem c_X0_leadersAt {l : Launch} {G : GT} {t aL aU aP aK aN aH : Nat} {cu cp : Int} {cb : Bool} {wL : Int → Int} {T : Int} (ht0 : 0 ≤ T ∧ T < 128) : ConF l G yX0_leadersAt cX0_leadersAt 2 (some .long) { frames := 0, cells := 0, slots := 0, locals := 0 } [.ref t, .int (iI T)] [(t, eO 0 [.ref aL, .ref aU, .ref aP, .ref aK, .ref aN, .ref aH, .int (iI cu), .int (iI cp), .int (iI (pI (cb = true)))]), (aL, eL G 128 wL)] (some (.long (lI (wL T)))) := by
  refine Con.mk (by decide +kernel) [some (.ref t), some (.int (iI T))] rfl (Nat.le_of_ble_eq_true rfl) rfl ?_
  intro V M EI EL EV EA
  refine M.iloadn (pc := 0) 1 rfl rfl dX0_leadersAt_0 ?_
  refine M.if_lt (pc := 1) (tgt := 22) dX0_leadersAt_1 (by decide) (by omega) (fun c1 => ?_) (fun c1 => ?_)
  · exact absurd c1 (by omega)
  · refine M.iloadn (pc := 4) 1 rfl rfl dX0_leadersAt_4 ?_
    refine M.aloadn (pc := 5) 0 rfl rfl dX0_leadersAt_5 ?_
    refine M.getf (pc := 6) fg_X0_11 0 rfl rfl dX0_leadersAt_6 ?_
    refine M.alenL (pc := 9) 1 rfl dX0_leadersAt_9 ?_
    refine M.icmp_ge (pc := 10) (tgt := 22) dX0_leadersAt_10 (by decide) (by omega) (by omega) (fun c10 => ?_) (fun c10 => ?_)
    · exact absurd c10 (by omega)
    · refine M.aloadn (pc := 13) 0 rfl rfl dX0_leadersAt_13 ?_
      refine M.getf (pc := 14) fg_X0_11 0 rfl rfl dX0_leadersAt_14 ?_
      refine M.iloadn (pc := 17) 1 rfl rfl dX0_leadersAt_17 ?_
      refine M.lald (pc := 18) 1 rfl (by omega) (by omega) dX0_leadersAt_18 ?_
      refine M.goto (pc := 19) (tgt := 23) dX0_leadersAt_19 (by decide) ?_
      exact EL () _ _ _ _ dX0_leadersAt_23 rfl (eqL (by rfl)) rfl trivial
set_option maxHeartbeats 4000000 in
set_option maxRecDepth 100000 in
theorem c_X0_leaderIn {l : Launch} {G : GT} {L c : Int} (hL : 0 ≤ L ∧ L < 9223372036854775808) (hc : 0 ≤ c ∧ c < 13) : ConF l G yX0_leaderIn cX0_leaderIn 3 (some .int) { frames := 0, cells := 0, slots := 0, locals := 0 } [.long (lI L), .int (iI c)] [] (some (.int (iI (L / p16 c % 16)))) := by
  refine Con.mk (by decide +kernel) [some (.long (lI L)), none, some (.int (iI c))] rfl (Nat.le_of_ble_eq_true rfl) rfl ?_
  intro V M EI EL EV EA
  have hdn : 0 ≤ L / p16 c := Int.ediv_nonneg hL.1 (by have := p16_1 c; omega)
  refine M.lloadn (pc := 0) 0 rfl rfl dX0_leaderIn_0 ?_
  refine M.iconst (pc := 1) dX0_leaderIn_1 ?_
  refine M.iloadn (pc := 2) 2 rfl rfl dX0_leaderIn_2 ?_
  refine M.imul (pc := 3) dX0_leaderIn_3 ?_
  refine M.lushr (pc := 4) (lsr_ok hL hc) dX0_leaderIn_4 ?_
  refine M.l2i (pc := 5) dX0_leaderIn_5 ?_
  refine M.bipush (pc := 6) (by decide +kernel) dX0_leaderIn_6 ?_
  refine M.iand (pc := 8) (and15 hdn) dX0_leaderIn_8 ?_
  exact EI () _ _ _ _ dX0_leaderIn_9 (Or.inl rfl) (eqI (by rfl)) rfl trivial
set_option maxHeartbeats 4000000 in
set_option maxRecDepth 100000 in
theorem c_X0_isNew {l : Launch} {G : GT} {t aL aU aP aK aN aH : Nat} {cu cp : Int} {cb : Bool} {wL : Int → Int} {wU : Int → Int} {T : Int} (ht0 : 0 ≤ T ∧ T < 128) (hwL : ∀ x, 0 ≤ wL x ∧ wL x < 4503599627370496) (hcu : 0 ≤ cu ∧ cu ≤ 128) (hwU : ∀ x, 0 ≤ x → x < cu → 0 ≤ wU x ∧ wU x < 128) : Con l G yX0_isNew cX0_isNew 3 (some .boolean) { frames := 1, cells := 0, slots := 0, locals := 21 } [.ref t, .int (iI T)] [(t, eO 0 [.ref aL, .ref aU, .ref aP, .ref aK, .ref aN, .ref aH, .int (iI cu), .int (iI cp), .int (iI (pI (cb = true)))]), (aL, eL G 128 wL), (aU, eI G 128 wU)] (S := Bool) (fun u => some (.int (iI (pI (u = true))))) (fun _ => [(t, eO 0 [.ref aL, .ref aU, .ref aP, .ref aK, .ref aN, .ref aH, .int (iI cu), .int (iI cp), .int (iI (pI (cb = true)))]), (aL, eL G 128 wL), (aU, eI G 128 wU)]) (fun u => u = true ↔ ∀ x, 0 ≤ x → x < cu → wL (wU x) ≠ wL T) := by
  refine Con.mk (by decide +kernel) [some (.ref t), some (.int (iI T)), none] rfl (Nat.le_of_ble_eq_true rfl) rfl ?_
  intro V M EI EL EV EA
  refine M.iconst (pc := 0) dX0_isNew_0 ?_
  refine M.istoren (pc := 1) 2 rfl (Nat.le_of_ble_eq_true rfl) rfl dX0_isNew_1 ?_
  dsimp only [List.set_cons_zero, List.set_cons_succ]
  have L2 : ∀ (fu : Nat) {k : Int}, (0 ≤ k ∧ k ≤ cu) → (∀ x, 0 ≤ x → x < k → wL (wU x) ≠ wL T) → (cu - k).toNat < fu → V 0 0 2 [(t, eO 0 [.ref aL, .ref aU, .ref aP, .ref aK, .ref aN, .ref aH, .int (iI cu), .int (iI cp), .int (iI (pI (cb = true)))]), (aL, eL G 128 wL), (aU, eI G 128 wU)] [some (.ref t), some (.int (iI T)), some (.int (iI k))] [] := by
    intro fu
    induction fu with
    | zero => intro k hk hno hm; exact absurd hm (Nat.not_lt_zero _)
    | succ fu ih2 =>
      intro k hk hno hm2
      refine M.iloadn (pc := 2) 2 rfl rfl dX0_isNew_2 ?_
      refine M.aloadn (pc := 3) 0 rfl rfl dX0_isNew_3 ?_
      refine M.getf (pc := 4) fg_X0_43 0 rfl rfl dX0_isNew_4 ?_
      refine M.icmp_ge (pc := 7) (tgt := 46) dX0_isNew_7 (by decide) (by omega) (by omega) (fun c7 => ?_) (fun c7 => ?_)
      · refine M.iconst (pc := 46) dX0_isNew_46 ?_
        exact EI true _ _ _ _ dX0_isNew_47 (Or.inr ⟨rfl, by first | exact Or.inl rfl | exact Or.inr rfl | exact pI_01 _⟩) (rfl) (rfl) (⟨fun _ x h0 h1 => hno x h0 (by omega), fun _ => rfl⟩)
      · have hk2 := hwU k
        refine M.iloadn (pc := 10) 2 rfl rfl dX0_isNew_10 ?_
        refine M.aloadn (pc := 11) 0 rfl rfl dX0_isNew_11 ?_
        refine M.getf (pc := 12) fg_X0_15 0 rfl rfl dX0_isNew_12 ?_
        refine M.alenI (pc := 15) 2 rfl dX0_isNew_15 ?_
        refine M.icmp_ge (pc := 16) (tgt := 46) dX0_isNew_16 (by decide) (by omega) (by omega) (fun c16 => ?_) (fun c16 => ?_)
        · refine M.iconst (pc := 46) dX0_isNew_46 ?_
          exact EI true _ _ _ _ dX0_isNew_47 (Or.inr ⟨rfl, by first | exact Or.inl rfl | exact Or.inr rfl | exact pI_01 _⟩) (rfl) (rfl) (⟨fun _ x h0 h1 => hno x h0 (by omega), fun _ => rfl⟩)
        · have hu := hwU k hk.1 (by omega)
          have hl1 := hwL (wU k)
          have hl2 := hwL T
          refine M.aloadn (pc := 19) 0 rfl rfl dX0_isNew_19 ?_
          refine M.aloadn (pc := 20) 0 rfl rfl dX0_isNew_20 ?_
          refine M.getf (pc := 21) fg_X0_15 0 rfl rfl dX0_isNew_21 ?_
          refine M.iloadn (pc := 24) 2 rfl rfl dX0_isNew_24 ?_
          refine M.iald (pc := 25) 2 rfl (by omega) (by omega) dX0_isNew_25 ?_
          refine M.pV (pc := 26) (c_X0_leadersAt  (by exact hu)) mv_X0_97 [0, 1] rfl rfl rfl 0 rfl rfl rfl rfl (Nat.le_of_ble_eq_true rfl) rfl ⟨(Nat.le_of_ble_eq_true rfl), (Nat.le_of_ble_eq_true rfl)⟩ ⟨(Nat.le_of_ble_eq_true rfl), (Nat.le_of_ble_eq_true rfl)⟩ rfl dX0_isNew_26 ?_
          refine M.aloadn (pc := 29) 0 rfl rfl dX0_isNew_29 ?_
          refine M.iloadn (pc := 30) 1 rfl rfl dX0_isNew_30 ?_
          refine M.pV (pc := 31) (c_X0_leadersAt  (by first | assumption | omega)) mv_X0_97 [0, 1] rfl rfl rfl 0 rfl rfl rfl rfl (Nat.le_of_ble_eq_true rfl) rfl ⟨(Nat.le_of_ble_eq_true rfl), (Nat.le_of_ble_eq_true rfl)⟩ ⟨(Nat.le_of_ble_eq_true rfl), (Nat.le_of_ble_eq_true rfl)⟩ rfl dX0_isNew_31 ?_
          refine M.lcmp (pc := 34) (by omega) (by omega) dX0_isNew_34 ?_
          refine M.if_ne (pc := 35) (tgt := 40) dX0_isNew_35 (by decide) (by omega) (fun c35 => ?_) (fun c35 => ?_)
          · refine M.iinc (pc := 40) (i := 2) rfl rfl dX0_isNew_40 ?_
            dsimp only [List.set_cons_zero, List.set_cons_succ]
            refine M.goto (pc := 43) (tgt := 2) dX0_isNew_43 (by decide) ?_
            exact ih2  (by first | assumption | omega) (by intro x h0 h1; rcases (by omega : x < k ∨ x = k) with q | q; exact hno x h0 q; rw [q]; omega) (by omega)
          · refine M.iconst (pc := 38) dX0_isNew_38 ?_
            exact EI false _ _ _ _ dX0_isNew_39 (Or.inr ⟨rfl, by first | exact Or.inl rfl | exact Or.inr rfl | exact pI_01 _⟩) (rfl) (rfl) (⟨fun z => absurd z (by decide), fun z => absurd (by omega) (z k hk.1 (by omega))⟩)
  exact L2 _  (by first | assumption | omega) (by intro x _ h; omega) (Nat.lt_succ_self _)
set_option maxHeartbeats 4000000 in
set_option maxRecDepth 100000 in
theorem c_X0_togetherWith {l : Launch} {G : GT} {t aL aU aP aK aN aH : Nat} {cu cp : Int} {cb : Bool} {L c : Int} (hcp : 0 ≤ cp ∧ cp < 8192) (hL : 0 ≤ L ∧ L < 9223372036854775808) (hc : 0 ≤ c ∧ c < 13) : ConF l G yX0_togetherWith cX0_togetherWith 6 (some .int) { frames := 1, cells := 0, slots := 0, locals := 22 } [.ref t, .long (lI L), .int (iI c)] [(t, eO 0 [.ref aL, .ref aU, .ref aP, .ref aK, .ref aN, .ref aH, .int (iI cu), .int (iI cp), .int (iI (pI (cb = true)))])] (some (.int (iI (cm (fun d => decide (c ≤ d) && (tb cp d && decide (L / p16 d % 16 = c))) 13)))) := by
  refine Con.mk (by decide +kernel) [some (.ref t), some (.long (lI L)), none, some (.int (iI c)), none, none] rfl (Nat.le_of_ble_eq_true rfl) rfl ?_
  intro V M EI EL EV EA
  refine M.iconst (pc := 0) dX0_togetherWith_0 ?_
  refine M.istore (pc := 1) (i := 4) (Nat.le_of_ble_eq_true rfl) rfl dX0_togetherWith_1 ?_
  dsimp only [List.set_cons_zero, List.set_cons_succ]
  refine M.iloadn (pc := 3) 3 rfl rfl dX0_togetherWith_3 ?_
  refine M.istore (pc := 4) (i := 5) (Nat.le_of_ble_eq_true rfl) rfl dX0_togetherWith_4 ?_
  dsimp only [List.set_cons_zero, List.set_cons_succ]
  have L6 : ∀ (fu : Nat) {k s : Int}, (c ≤ k ∧ k ≤ 13) → (s = cm (fun d => decide (c ≤ d) && (tb cp d && decide (L / p16 d % 16 = c))) k.toNat) → (13 - k).toNat < fu → V 0 0 6 [(t, eO 0 [.ref aL, .ref aU, .ref aP, .ref aK, .ref aN, .ref aH, .int (iI cu), .int (iI cp), .int (iI (pI (cb = true)))])] [some (.ref t), some (.long (lI L)), none, some (.int (iI c)), some (.int (iI s)), some (.int (iI k))] [] := by
    intro fu
    induction fu with
    | zero => intro k s hk hs2 hm; exact absurd hm (Nat.not_lt_zero _)
    | succ fu ih6 =>
      intro k s hk hs2 hm6
      refine M.iload (pc := 6) (i := 5) rfl dX0_togetherWith_6 ?_
      refine M.bipush (pc := 8) (by decide +kernel) dX0_togetherWith_8 ?_
      refine M.icmp_ge (pc := 10) (tgt := 50) dX0_togetherWith_10 (by decide) (by omega) (by omega) (fun c10 => ?_) (fun c10 => ?_)
      · refine M.iload (pc := 50) (i := 4) rfl dX0_togetherWith_50 ?_
        exact EI () _ _ _ _ dX0_togetherWith_52 (Or.inl rfl) (eqI (by rw [hs2, show k.toNat = 13 by omega])) rfl trivial
      · refine M.aloadn (pc := 13) 0 rfl rfl dX0_togetherWith_13 ?_
        refine M.getf (pc := 14) fg_X0_39 0 rfl rfl dX0_togetherWith_14 ?_
        refine M.iload (pc := 17) (i := 5) rfl dX0_togetherWith_17 ?_
        refine M.pSN (pc := 19) (c_X7_has  (by first | assumption | omega) (by first | assumption | omega) (by first | assumption | omega) (by first | assumption | omega)) ms_X0_82 [] rfl rfl rfl rfl (Nat.le_of_ble_eq_true rfl) rfl ⟨(Nat.le_of_ble_eq_true rfl), (Nat.le_of_ble_eq_true rfl)⟩ ⟨(Nat.le_of_ble_eq_true rfl), (Nat.le_of_ble_eq_true rfl)⟩ rfl dX0_togetherWith_19 ?_
        have hdg : 0 ≤ L / p16 k % 16 ∧ L / p16 k % 16 < 16 := by omega
        refine M.if_eqP (pc := 22) (tgt := 44) dX0_togetherWith_22 (by decide) (fun c22 => ?_) (fun c22 => ?_)
        · refine M.iinc (pc := 44) (i := 5) rfl rfl dX0_togetherWith_44 ?_
          dsimp only [List.set_cons_zero, List.set_cons_succ]
          refine M.goto (pc := 47) (tgt := 6) dX0_togetherWith_47 (by decide) ?_
          exact ih6  (by first | assumption | omega) (by first | rfl | (rw [cm_s _ (by omega), hs2, if_neg (by rw [decide_eq_true hk.1]; simp; intro z; first | exact absurd z c22 | exact c32)]; omega)) (by omega)
        · refine M.lloadn (pc := 25) 1 rfl rfl dX0_togetherWith_25 ?_
          refine M.iload (pc := 26) (i := 5) rfl dX0_togetherWith_26 ?_
          refine M.pS (pc := 28) (c_X0_leaderIn  (by first | assumption | omega) (by first | assumption | omega)) ms_X0_108 [] rfl rfl rfl rfl (Nat.le_of_ble_eq_true rfl) rfl ⟨(Nat.le_of_ble_eq_true rfl), (Nat.le_of_ble_eq_true rfl)⟩ ⟨(Nat.le_of_ble_eq_true rfl), (Nat.le_of_ble_eq_true rfl)⟩ rfl dX0_togetherWith_28 ?_
          refine M.iloadn (pc := 31) 3 rfl rfl dX0_togetherWith_31 ?_
          refine M.icmp_ne (pc := 32) (tgt := 44) dX0_togetherWith_32 (by decide) (by omega) (by omega) (fun c32 => ?_) (fun c32 => ?_)
          · refine M.iinc (pc := 44) (i := 5) rfl rfl dX0_togetherWith_44 ?_
            dsimp only [List.set_cons_zero, List.set_cons_succ]
            refine M.goto (pc := 47) (tgt := 6) dX0_togetherWith_47 (by decide) ?_
            exact ih6  (by first | assumption | omega) (by first | rfl | (rw [cm_s _ (by omega), hs2, if_neg (by rw [decide_eq_true hk.1]; simp; intro z; first | exact absurd z c22 | exact c32)]; omega)) (by omega)
          · refine M.iload (pc := 35) (i := 4) rfl dX0_togetherWith_35 ?_
            refine M.iconst (pc := 37) dX0_togetherWith_37 ?_
            refine M.iload (pc := 38) (i := 5) rfl dX0_togetherWith_38 ?_
            refine M.ishl (pc := 40) (bit_shl1 (by omega) (by omega)) dX0_togetherWith_40 ?_
            refine M.ior (pc := 41) (cm_o1 (p := fun d => decide (c ≤ d) && (tb cp d && decide (L / p16 d % 16 = c))) hs2 (by omega) (by rw [decide_eq_true hk.1, c22, decide_eq_true c32]; rfl)) dX0_togetherWith_41 ?_
            refine M.istore (pc := 42) (i := 4) (Nat.le_of_ble_eq_true rfl) rfl dX0_togetherWith_42 ?_
            dsimp only [List.set_cons_zero, List.set_cons_succ]
            refine M.iinc (pc := 44) (i := 5) rfl rfl dX0_togetherWith_44 ?_
            dsimp only [List.set_cons_zero, List.set_cons_succ]
            refine M.goto (pc := 47) (tgt := 6) dX0_togetherWith_47 (by decide) ?_
            exact ih6  (by first | assumption | omega) (by first | rfl | (rw [cm_s _ (by omega), hs2, if_neg (by rw [decide_eq_true hk.1]; simp; intro z; first | exact absurd z c22 | exact c32)]; omega)) (by omega)
  exact L6 _  (by first | assumption | omega) (by exact (cmNone _ (fun j hj => by rw [decide_eq_false (by omega)]; rfl)).symm) (Nat.lt_succ_self _)
set_option maxHeartbeats 4000000 in
set_option maxRecDepth 100000 in
theorem c_X0_partAlikes {l : Launch} {G : GT} {t aL aU aP aK aN aH : Nat} {cu cp : Int} {cb : Bool} {wK : Int → Int} {S : Int} (hwK : ∀ d, 0 ≤ wK d ∧ wK d < 8192) (hS : 0 ≤ S ∧ S < 8192) : Con l G yX0_partAlikes cX0_partAlikes 3 none { frames := 1, cells := 0, slots := 0, locals := 21 } [.ref t, .int (iI S)] [(t, eO 0 [.ref aL, .ref aU, .ref aP, .ref aK, .ref aN, .ref aH, .int (iI cu), .int (iI cp), .int (iI (pI (cb = true)))]), (aK, eI G 13 wK)] (S := Int → Int) (fun _ => none) (fun u => [(t, eO 0 [.ref aL, .ref aU, .ref aP, .ref aK, .ref aN, .ref aH, .int (iI cu), .int (iI cp), .int (iI (pI (cb = true)))]), (aK, eI G 13 u)]) (fun u => (∀ d, 0 ≤ u d ∧ u d < 8192) ∧ ∀ d, 0 ≤ d → d < 13 → u d = if tb S d = true then land (wK d) S else wK d) := by
  refine Con.mk (by decide +kernel) [some (.ref t), some (.int (iI S)), none] rfl (Nat.le_of_ble_eq_true rfl) rfl ?_
  intro V M EI EL EV EA
  refine M.iconst (pc := 0) dX0_partAlikes_0 ?_
  refine M.istoren (pc := 1) 2 rfl (Nat.le_of_ble_eq_true rfl) rfl dX0_partAlikes_1 ?_
  dsimp only [List.set_cons_zero, List.set_cons_succ]
  have L2 : ∀ (fu : Nat) {k : Int} {w : Int → Int}, (0 ≤ k ∧ k ≤ 13) → (∀ d, 0 ≤ w d ∧ w d < 8192) → (∀ d, 0 ≤ d → d < 13 → w d = if d < k ∧ tb S d = true then land (wK d) S else wK d) → (13 - k).toNat < fu → V 0 0 2 [(t, eO 0 [.ref aL, .ref aU, .ref aP, .ref aK, .ref aN, .ref aH, .int (iI cu), .int (iI cp), .int (iI (pI (cb = true)))]), (aK, eI G 13 w)] [some (.ref t), some (.int (iI S)), some (.int (iI k))] [] := by
    intro fu
    induction fu with
    | zero => intro k w hk hw hwd hm; exact absurd hm (Nat.not_lt_zero _)
    | succ fu ih2 =>
      intro k w hk hw hwd hm2
      refine M.iloadn (pc := 2) 2 rfl rfl dX0_partAlikes_2 ?_
      refine M.aloadn (pc := 3) 0 rfl rfl dX0_partAlikes_3 ?_
      refine M.getf (pc := 4) fg_X0_22 0 rfl rfl dX0_partAlikes_4 ?_
      refine M.alenI (pc := 7) 1 rfl dX0_partAlikes_7 ?_
      refine M.icmp_ge (pc := 8) (tgt := 35) dX0_partAlikes_8 (by decide) (by omega) (by omega) (fun c8 => ?_) (fun c8 => ?_)
      · exact EV w _ _ _ dX0_partAlikes_35 rfl (rfl) (rfl) (⟨hw, fun d d0 d1 => by rw [hwd d d0 d1]; have q : (d < k ∧ tb S d = true) ↔ (tb S d = true) := ⟨fun z => z.2, fun z => ⟨by omega, z⟩⟩; simp only [q]⟩)
      · refine M.iloadn (pc := 11) 1 rfl rfl dX0_partAlikes_11 ?_
        refine M.iloadn (pc := 12) 2 rfl rfl dX0_partAlikes_12 ?_
        refine M.pSN (pc := 13) (c_X7_has  (by first | assumption | omega) (by first | assumption | omega) (by first | assumption | omega) (by first | assumption | omega)) ms_X0_82 [] rfl rfl rfl rfl (Nat.le_of_ble_eq_true rfl) rfl ⟨(Nat.le_of_ble_eq_true rfl), (Nat.le_of_ble_eq_true rfl)⟩ ⟨(Nat.le_of_ble_eq_true rfl), (Nat.le_of_ble_eq_true rfl)⟩ rfl dX0_partAlikes_13 ?_
        refine M.if_eqP (pc := 16) (tgt := 29) dX0_partAlikes_16 (by decide) (fun c16 => ?_) (fun c16 => ?_)
        · refine M.iinc (pc := 29) (i := 2) rfl rfl dX0_partAlikes_29 ?_
          dsimp only [List.set_cons_zero, List.set_cons_succ]
          refine M.goto (pc := 32) (tgt := 2) dX0_partAlikes_32 (by decide) ?_
          exact ih2  (by first | assumption | omega) (by first | exact hw8 | exact hw) (by first | exact hwn | (intro d d0 d1; rw [hwd d d0 d1]; by_cases e : d = k; rw [if_neg (by omega), if_neg (fun z => c16 (by rw [← e]; exact z.2))]; have q : (d < k + 1 ∧ tb S d = true) ↔ (d < k ∧ tb S d = true) := ⟨fun z => ⟨by omega, z.2⟩, fun z => ⟨by omega, z.2⟩⟩; simp only [q])) (by omega)
        · have hkk := hw k
          have hlb := land_b (a := w k) (b := S) hkk.1 hS.1
          have hw8 : ∀ d, 0 ≤ upZ w k (land (w k) S) d ∧ upZ w k (land (w k) S) d < 8192 := fun d => by
            by_cases e : d = k
            · rw [e, upZ_s]; omega
            · rw [upZ_n e]; exact hw d
          have hwn : ∀ d, 0 ≤ d → d < 13 → upZ w k (land (w k) S) d = if d < k + 1 ∧ tb S d = true then land (wK d) S else wK d := fun d d0 d1 => by
            have hd := hwd d d0 d1
            by_cases e : d = k
            · subst e
              rw [if_neg (by omega)] at hd
              rw [upZ_s, if_pos ⟨by omega, c16⟩, hd]
            · rw [upZ_n e, hd]
              have q : (d < k + 1 ∧ tb S d = true) ↔ (d < k ∧ tb S d = true) := ⟨fun z => ⟨by omega, z.2⟩, fun z => ⟨by omega, z.2⟩⟩
              simp only [q]
          refine M.aloadn (pc := 19) 0 rfl rfl dX0_partAlikes_19 ?_
          refine M.getf (pc := 20) fg_X0_22 0 rfl rfl dX0_partAlikes_20 ?_
          refine M.iloadn (pc := 23) 2 rfl rfl dX0_partAlikes_23 ?_
          refine M.dup2 (pc := 24) rfl rfl dX0_partAlikes_24 ?_
          refine M.iald (pc := 25) 1 rfl (by omega) (by omega) dX0_partAlikes_25 ?_
          refine M.iloadn (pc := 26) 1 rfl rfl dX0_partAlikes_26 ?_
          refine M.iand (pc := 27) (land_ok hkk.1 hS.1) dX0_partAlikes_27 ?_
          refine M.iast (pc := 28) 1 rfl (by omega) (by omega) dX0_partAlikes_28 ?_
          dsimp only [List.set_cons_zero, List.set_cons_succ]
          refine M.iinc (pc := 29) (i := 2) rfl rfl dX0_partAlikes_29 ?_
          dsimp only [List.set_cons_zero, List.set_cons_succ]
          refine M.goto (pc := 32) (tgt := 2) dX0_partAlikes_32 (by decide) ?_
          exact ih2  (by first | assumption | omega) (by first | exact hw8 | exact hw) (by first | exact hwn | (intro d d0 d1; rw [hwd d d0 d1]; by_cases e : d = k; rw [if_neg (by omega), if_neg (fun z => c16 (by rw [← e]; exact z.2))]; have q : (d < k + 1 ∧ tb S d = true) ↔ (d < k ∧ tb S d = true) := ⟨fun z => ⟨by omega, z.2⟩, fun z => ⟨by omega, z.2⟩⟩; simp only [q])) (by omega)
  exact L2 _  (by first | assumption | omega) (by exact hwK) (by intro d d0 _; exact (if_neg (by omega)).symm) (Nat.lt_succ_self _)
set_option maxHeartbeats 4000000 in
set_option maxRecDepth 100000 in
theorem c_X0_addUseful {l : Launch} {G : GT} {t aL aU aP aK aN aH : Nat} {cu cp : Int} {cb : Bool} {wL : Int → Int} {wU : Int → Int} {wP : Int → Int} {wK : Int → Int} {H : Int → Int → Int} {n T : Int} (hn : 0 ≤ n ∧ n ≤ 6) (hcp : cp = cm (prB n) 13) (ht0 : 0 ≤ T ∧ T < 128) (hwL : ∀ x, 0 ≤ wL x ∧ wL x < 4503599627370496) (hcu : 0 ≤ cu ∧ cu < 128) (hLt : wL T = LDR n (H T)) (hwK : ∀ d, 0 ≤ wK d ∧ wK d < 8192) : Con l G yX0_addUseful cX0_addUseful 5 none { frames := 2, cells := 0, slots := 0, locals := 47 } [.ref t, .int (iI T)] [(t, eO 0 [.ref aL, .ref aU, .ref aP, .ref aK, .ref aN, .ref aH, .int (iI cu), .int (iI cp), .int (iI (pI (cb = true)))]), (aL, eL G 128 wL), (aU, eI G 128 wU), (aP, eI G 1664 wP), (aK, eI G 13 wK)] (S := (Int → Int) × (Int → Int)) (fun _ => none) (fun u => [(t, eO 0 [.ref aL, .ref aU, .ref aP, .ref aK, .ref aN, .ref aH, .int (iI (cu + 1)), .int (iI cp), .int (iI (pI (cb = true)))]), (aL, eL G 128 wL), (aU, eI G 128 (upZ wU cu T)), (aP, eI G 1664 u.1), (aK, eI G 13 u.2)]) (fun u => (∀ x, x < cu * 13 → u.1 x = wP x) ∧ PRT n H T u.1 (cu * 13) ∧ (∀ d, 0 ≤ u.2 d ∧ u.2 d < 8192) ∧ ∀ d, prB n d = true → u.2 d = land (wK d) (PT H T (cm (prB n) 13) d)) := by
  refine Con.mk (by decide +kernel) [some (.ref t), some (.int (iI T)), none, none, none] rfl (Nat.le_of_ble_eq_true rfl) rfl ?_
  intro V M EI EL EV EA
  have hpb := cm_13b (prB n)
  have hcp2 : 0 ≤ cp ∧ cp < 8192 := by rw [hcp]; exact hpb
  refine M.aloadn (pc := 0) 0 rfl rfl dX0_addUseful_0 ?_
  refine M.getf (pc := 1) fg_X0_43 0 rfl rfl dX0_addUseful_1 ?_
  refine M.aloadn (pc := 4) 0 rfl rfl dX0_addUseful_4 ?_
  refine M.getf (pc := 5) fg_X0_15 0 rfl rfl dX0_addUseful_5 ?_
  refine M.alenI (pc := 8) 2 rfl dX0_addUseful_8 ?_
  refine M.icmp_lt (pc := 9) (tgt := 13) dX0_addUseful_9 (by decide) (by omega) (by omega) (fun c9 => ?_) (fun c9 => ?_)
  · refine M.aloadn (pc := 13) 0 rfl rfl dX0_addUseful_13 ?_
    refine M.getf (pc := 14) fg_X0_15 0 rfl rfl dX0_addUseful_14 ?_
    refine M.aloadn (pc := 17) 0 rfl rfl dX0_addUseful_17 ?_
    refine M.getf (pc := 18) fg_X0_43 0 rfl rfl dX0_addUseful_18 ?_
    refine M.iloadn (pc := 21) 1 rfl rfl dX0_addUseful_21 ?_
    refine M.iast (pc := 22) 2 rfl (by omega) (by omega) dX0_addUseful_22 ?_
    dsimp only [List.set_cons_zero, List.set_cons_succ]
    refine M.aloadn (pc := 23) 0 rfl rfl dX0_addUseful_23 ?_
    refine M.getf (pc := 24) fg_X0_43 0 rfl rfl dX0_addUseful_24 ?_
    refine M.bipush (pc := 27) (by decide +kernel) dX0_addUseful_27 ?_
    refine M.imul (pc := 29) dX0_addUseful_29 ?_
    refine M.istoren (pc := 30) 2 rfl (Nat.le_of_ble_eq_true rfl) rfl dX0_addUseful_30 ?_
    dsimp only [List.set_cons_zero, List.set_cons_succ]
    refine M.aloadn (pc := 31) 0 rfl rfl dX0_addUseful_31 ?_
    refine M.dup (pc := 32) rfl dX0_addUseful_32 ?_
    refine M.getf (pc := 33) fg_X0_43 0 rfl rfl dX0_addUseful_33 ?_
    refine M.iconst (pc := 36) dX0_addUseful_36 ?_
    refine M.iadd (pc := 37) dX0_addUseful_37 ?_
    refine M.putf (pc := 38) fp_X0_43 0 rfl rfl rfl (Nat.le_of_ble_eq_true rfl) dX0_addUseful_38 ?_
    dsimp only [List.set_cons_zero, List.set_cons_succ]
    refine M.iconst (pc := 41) dX0_addUseful_41 ?_
    refine M.istoren (pc := 42) 3 rfl (Nat.le_of_ble_eq_true rfl) rfl dX0_addUseful_42 ?_
    dsimp only [List.set_cons_zero, List.set_cons_succ]
    have L43 : ∀ (fu : Nat) {c J : Int} {p k : Int → Int}, (0 ≤ c ∧ c ≤ 13) → (0 ≤ J ∧ J ≤ c) → (∀ x, x < cu * 13 → p x = wP x) → (∀ j, 0 ≤ j → j < J → p (cu * 13 + j) ≠ 0 ∧ ∃ x, prB n x = true ∧ p (cu * 13 + j) = PT H T (cm (prB n) 13) x) → (∀ x, prB n x = true → leadOf (prB n) (H T) x < c → ∃ j, (0 ≤ j ∧ j < J) ∧ p (cu * 13 + j) = PT H T (cm (prB n) 13) x) → (∀ d, 0 ≤ k d ∧ k d < 8192) → (∀ d, prB n d = true → k d = if leadOf (prB n) (H T) d < c then land (wK d) (PT H T (cm (prB n) 13) d) else wK d) → (13 - c).toNat < fu → V 0 0 43 [(t, eO 0 [.ref aL, .ref aU, .ref aP, .ref aK, .ref aN, .ref aH, .int (iI (cu + 1)), .int (iI cp), .int (iI (pI (cb = true)))]), (aL, eL G 128 wL), (aU, eI G 128 (upZ wU cu T)), (aP, eI G 1664 p), (aK, eI G 13 k)] [some (.ref t), some (.int (iI T)), some (.int (iI (cu * 13 + J))), some (.int (iI c)), none] [] := by
      intro fu
      induction fu with
      | zero => intro c J p k hc hJ hpf hpj hpx hk8 hkd hm; exact absurd hm (Nat.not_lt_zero _)
      | succ fu ih43 =>
        intro c J p k hc hJ hpf hpj hpx hk8 hkd hm43
        refine M.iloadn (pc := 43) 3 rfl rfl dX0_addUseful_43 ?_
        refine M.bipush (pc := 44) (by decide +kernel) dX0_addUseful_44 ?_
        refine M.icmp_ge (pc := 46) (tgt := 98) dX0_addUseful_46 (by decide) (by omega) (by omega) (fun c46 => ?_) (fun c46 => ?_)
        · have L125 : ∀ {p3 : Int → Int}, (∀ x, x < cu * 13 → p3 x = wP x) → (PRT n H T p3 (cu * 13)) → V 0 0 125 [(t, eO 0 [.ref aL, .ref aU, .ref aP, .ref aK, .ref aN, .ref aH, .int (iI (cu + 1)), .int (iI cp), .int (iI (pI (cb = true)))]), (aL, eL G 128 wL), (aU, eI G 128 (upZ wU cu T)), (aP, eI G 1664 p3), (aK, eI G 13 k)] [some (.ref t), some (.int (iI T)), none, some (.int (iI c)), none] [] := by
            intro p3 hpf3 hpt3
            
            exact EV (p3, k) _ _ _ dX0_addUseful_125 rfl (rfl) (rfl) (⟨hpf3, hpt3, hk8, fun d hd => by show k d = _; rw [hkd d hd, if_pos (by have := (leadOf_ok (prB n) (H T) (prB_b hn hd).1).1; have := prB_b hn hd; omega)]⟩)
          refine M.iloadn (pc := 98) 2 rfl rfl dX0_addUseful_98 ?_
          refine M.aloadn (pc := 99) 0 rfl rfl dX0_addUseful_99 ?_
          refine M.getf (pc := 100) fg_X0_43 0 rfl rfl dX0_addUseful_100 ?_
          refine M.bipush (pc := 103) (by decide +kernel) dX0_addUseful_103 ?_
          refine M.imul (pc := 105) dX0_addUseful_105 ?_
          refine M.icmp_ge (pc := 106) (tgt := 125) dX0_addUseful_106 (by decide) (by omega) (by omega) (fun c106 => ?_) (fun c106 => ?_)
          · refine M.forget 2 ?_
            dsimp only [List.set_cons_zero, List.set_cons_succ]
            exact L125 (p3 := p) (by exact hpf) (by exact ⟨J, ⟨hJ.1, by omega⟩, hpj, fun z => by omega, fun x hx => hpx x hx (by have := (leadOf_ok (prB n) (H T) (prB_b hn hx).1).1; have := prB_b hn hx; omega)⟩)
          · refine M.iloadn (pc := 109) 2 rfl rfl dX0_addUseful_109 ?_
            refine M.aloadn (pc := 110) 0 rfl rfl dX0_addUseful_110 ?_
            refine M.getf (pc := 111) fg_X0_19 0 rfl rfl dX0_addUseful_111 ?_
            refine M.alenI (pc := 114) 3 rfl dX0_addUseful_114 ?_
            refine M.icmp_ge (pc := 115) (tgt := 125) dX0_addUseful_115 (by decide) (by omega) (by omega) (fun c115 => ?_) (fun c115 => ?_)
            · exact absurd c115 (by omega)
            · refine M.aloadn (pc := 118) 0 rfl rfl dX0_addUseful_118 ?_
              refine M.getf (pc := 119) fg_X0_19 0 rfl rfl dX0_addUseful_119 ?_
              refine M.iloadn (pc := 122) 2 rfl rfl dX0_addUseful_122 ?_
              refine M.iconst (pc := 123) dX0_addUseful_123 ?_
              refine M.iast (pc := 124) 3 rfl (by omega) (by omega) dX0_addUseful_124 ?_
              dsimp only [List.set_cons_zero, List.set_cons_succ]
              refine M.forget 2 ?_
              dsimp only [List.set_cons_zero, List.set_cons_succ]
              exact L125 (p3 := (upZ p (cu * 13 + J) 0)) (by intro x h; rw [upZ_n (by omega)]; exact hpf x h) (by exact ⟨J, ⟨hJ.1, by omega⟩, fun j h0 h1 => by rw [upZ_n (by omega)]; exact hpj j h0 h1, fun _ => upZ_s _ _ _, fun x hx => by obtain ⟨j, h1, h2⟩ := hpx x hx (by have := (leadOf_ok (prB n) (H T) (prB_b hn hx).1).1; have := prB_b hn hx; omega); exact ⟨j, h1, by rw [upZ_n (by omega)]; exact h2⟩⟩)
        · have L92 : ∀ {J2 : Int} {p2 k2 : Int → Int}, (0 ≤ J2 ∧ J2 ≤ c + 1) → (∀ x, x < cu * 13 → p2 x = wP x) → (∀ j, 0 ≤ j → j < J2 → p2 (cu * 13 + j) ≠ 0 ∧ ∃ x, prB n x = true ∧ p2 (cu * 13 + j) = PT H T (cm (prB n) 13) x) → (∀ x, prB n x = true → leadOf (prB n) (H T) x < c + 1 → ∃ j, (0 ≤ j ∧ j < J2) ∧ p2 (cu * 13 + j) = PT H T (cm (prB n) 13) x) → (∀ d, 0 ≤ k2 d ∧ k2 d < 8192) → (∀ d, prB n d = true → k2 d = if leadOf (prB n) (H T) d < c + 1 then land (wK d) (PT H T (cm (prB n) 13) d) else wK d) → V 0 0 92 [(t, eO 0 [.ref aL, .ref aU, .ref aP, .ref aK, .ref aN, .ref aH, .int (iI (cu + 1)), .int (iI cp), .int (iI (pI (cb = true)))]), (aL, eL G 128 wL), (aU, eI G 128 (upZ wU cu T)), (aP, eI G 1664 p2), (aK, eI G 13 k2)] [some (.ref t), some (.int (iI T)), some (.int (iI (cu * 13 + J2))), some (.int (iI c)), none] [] := by
            intro J2 p2 k2 hJ2 hpf2 hpj2 hpx2 hk82 hkd2
            
            refine M.iinc (pc := 92) (i := 3) rfl rfl dX0_addUseful_92 ?_
            dsimp only [List.set_cons_zero, List.set_cons_succ]
            refine M.goto (pc := 95) (tgt := 43) dX0_addUseful_95 (by decide) ?_
            exact ih43  (by first | assumption | omega) (by exact hJ2) (by exact hpf2) (by exact hpj2) (by exact hpx2) (by exact hk82) (by exact hkd2) (by omega)
          refine M.aloadn (pc := 49) 0 rfl rfl dX0_addUseful_49 ?_
          refine M.aloadn (pc := 50) 0 rfl rfl dX0_addUseful_50 ?_
          refine M.iloadn (pc := 51) 1 rfl rfl dX0_addUseful_51 ?_
          refine M.pV (pc := 52) (c_X0_leadersAt  (by first | assumption | omega)) mv_X0_97 [0, 1] rfl rfl rfl 0 rfl rfl rfl rfl (Nat.le_of_ble_eq_true rfl) rfl ⟨(Nat.le_of_ble_eq_true rfl), (Nat.le_of_ble_eq_true rfl)⟩ ⟨(Nat.le_of_ble_eq_true rfl), (Nat.le_of_ble_eq_true rfl)⟩ rfl dX0_addUseful_52 ?_
          refine M.iloadn (pc := 55) 3 rfl rfl dX0_addUseful_55 ?_
          refine M.pV (pc := 56) (c_X0_togetherWith  (by exact hcp2) (by have := hwL T; omega) (by first | assumption | omega)) mv_X0_101 [0] rfl rfl rfl 0 rfl rfl rfl rfl (Nat.le_of_ble_eq_true rfl) rfl ⟨(Nat.le_of_ble_eq_true rfl), (Nat.le_of_ble_eq_true rfl)⟩ ⟨(Nat.le_of_ble_eq_true rfl), (Nat.le_of_ble_eq_true rfl)⟩ rfl dX0_addUseful_56 ?_
          have hcg : cm (fun d => decide (c ≤ d) && (tb cp d && decide (wL T / p16 d % 16 = c))) 13 = cm (tgF n (LDR n (H T)) c) 13 := cm_ext 13 (fun j hj => by
            unfold tgF
            rw [hcp, cm_13 _ (by omega) (by omega), hLt])
          obtain ⟨tg, htg⟩ : ∃ tg, tg = cm (tgF n (LDR n (H T)) c) 13 := ⟨_, rfl⟩
          rw [hcg, ← htg]
          have htb : 0 ≤ tg ∧ tg < 8192 := by rw [htg]; exact cm_13b _
          have htt : ∀ d, prB n d = true → (tb tg d = true ↔ leadOf (prB n) (H T) d = c) := fun d hd => by rw [htg]; exact tg_tb hn hd
          have htl : ∀ d, prB n d = true → leadOf (prB n) (H T) d = c → tg = PT H T (cm (prB n) 13) d := fun d hd h => by rw [htg]; exact tg_l hn hd h
          refine M.istore (pc := 59) (i := 4) (Nat.le_of_ble_eq_true rfl) rfl dX0_addUseful_59 ?_
          dsimp only [List.set_cons_zero, List.set_cons_succ]
          refine M.iload (pc := 61) (i := 4) rfl dX0_addUseful_61 ?_
          refine M.if_eq (pc := 63) (tgt := 92) dX0_addUseful_63 (by decide) (by omega) (fun c63 => ?_) (fun c63 => ?_)
          · refine M.forget 4 ?_
            dsimp only [List.set_cons_zero, List.set_cons_succ]
            exact L92 (J2 := J) (p2 := p) (k2 := k) (by first | assumption | omega) (by exact hpf) (by exact hpj) (by intro x hx h; rcases (by omega : leadOf (prB n) (H T) x < c ∨ leadOf (prB n) (H T) x = c) with q | q; exact hpx x hx q; exact absurd (c63 ▸ (htl x hx q).symm) (PT_nz hn hx)) (by exact hk8) (by intro d hd; rw [hkd d hd]; have q : leadOf (prB n) (H T) d ≠ c := (fun z => absurd (c63 ▸ (htl d hd z).symm) (PT_nz hn hd)); have e : (leadOf (prB n) (H T) d < c + 1) ↔ (leadOf (prB n) (H T) d < c) := (by omega); simp only [e])
          · refine M.iloadn (pc := 66) 2 rfl rfl dX0_addUseful_66 ?_
            refine M.aloadn (pc := 67) 0 rfl rfl dX0_addUseful_67 ?_
            refine M.getf (pc := 68) fg_X0_19 0 rfl rfl dX0_addUseful_68 ?_
            refine M.alenI (pc := 71) 3 rfl dX0_addUseful_71 ?_
            refine M.icmp_ge (pc := 72) (tgt := 92) dX0_addUseful_72 (by decide) (by omega) (by omega) (fun c72 => ?_) (fun c72 => ?_)
            · exact absurd c72 (by omega)
            · refine M.aloadn (pc := 75) 0 rfl rfl dX0_addUseful_75 ?_
              refine M.getf (pc := 76) fg_X0_19 0 rfl rfl dX0_addUseful_76 ?_
              refine M.iloadn (pc := 79) 2 rfl rfl dX0_addUseful_79 ?_
              refine M.iload (pc := 80) (i := 4) rfl dX0_addUseful_80 ?_
              refine M.iast (pc := 82) 3 rfl (by omega) (by omega) dX0_addUseful_82 ?_
              dsimp only [List.set_cons_zero, List.set_cons_succ]
              refine M.iinc (pc := 83) (i := 2) rfl rfl dX0_addUseful_83 ?_
              dsimp only [List.set_cons_zero, List.set_cons_succ]
              refine M.aloadn (pc := 86) 0 rfl rfl dX0_addUseful_86 ?_
              refine M.iload (pc := 87) (i := 4) rfl dX0_addUseful_87 ?_
              refine M.mV (pc := 89) (c_X0_partAlikes  (by exact hk8) (by exact htb)) mv_X0_105 [0, 4] rfl rfl rfl 0 rfl rfl rfl rfl (Nat.le_of_ble_eq_true rfl) rfl ⟨(Nat.le_of_ble_eq_true rfl), (Nat.le_of_ble_eq_true rfl)⟩ ⟨(Nat.le_of_ble_eq_true rfl), (Nat.le_of_ble_eq_true rfl)⟩ rfl (fun _ => rfl) dX0_addUseful_89 (fun u89 hu89 => ?_)
              dsimp only [putL, List.set_cons_zero, List.set_cons_succ, Option.toList, List.cons_append, List.nil_append] at hu89 ⊢
              refine M.forget 4 ?_
              dsimp only [List.set_cons_zero, List.set_cons_succ]
              rw [show cu * 13 + J + 1 = cu * 13 + (J + 1) by omega]
              exact L92 (J2 := (J + 1)) (p2 := (upZ p (cu * 13 + J) tg)) (k2 := u89) (by first | assumption | omega) (by intro x h; rw [upZ_n (by omega)]; exact hpf x h) (by intro j h0 h1; rcases (by omega : j < J ∨ j = J) with q | q; rw [upZ_n (by omega)]; exact hpj j h0 q; rw [q, upZ_s]; exact ⟨c63, (tg_ex (t := T) (H := H) (c := c) hn (by rw [← htg]; exact c63)).elim (fun x hx => ⟨x, hx.1, htl x hx.1 hx.2⟩)⟩) (by intro x hx h; rcases (by omega : leadOf (prB n) (H T) x < c ∨ leadOf (prB n) (H T) x = c) with q | q; (obtain ⟨j, h1, h2⟩ := hpx x hx q; exact ⟨j, ⟨h1.1, by omega⟩, by rw [upZ_n (by omega)]; exact h2⟩); exact ⟨J, ⟨by omega, by omega⟩, by rw [upZ_s]; exact htl x hx q⟩) (by exact hu89.1) (by intro d hd; have hb := prB_b hn hd; rw [hu89.2 d hb.1 hb.2, hkd d hd]; by_cases q : leadOf (prB n) (H T) d = c; rw [if_pos ((htt d hd).mpr q), if_neg (by omega), if_pos (by omega), htl d hd q]; rw [if_neg (fun z => q ((htt d hd).mp z))]; have e : (leadOf (prB n) (H T) d < c + 1) ↔ (leadOf (prB n) (H T) d < c) := (by omega); simp only [e])
    rw [show cu * 13 = cu * 13 + 0 by omega]
    exact L43 _ (J := 0) (p := wP) (k := wK) (by first | assumption | omega) (by first | assumption | omega) (by intro x _; rfl) (by intro j _ h; omega) (by intro x hx h; have := (leadOf_ok (prB n) (H T) (prB_b hn hx).1).1; omega) (by exact hwK) (by intro d hd; have := (leadOf_ok (prB n) (H T) (prB_b hn hd).1).1; exact (if_neg (by omega)).symm) (Nat.lt_succ_self _)
  · exact absurd c9 (by omega)
