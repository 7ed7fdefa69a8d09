/-! the class's reader: words, clauses, the whole text -/
theorem c_J0_charAtI {l : Launch} {G : GT} {Z : ZT} {i : Nat} {k : Int} (hi : i < 3) (hk : 0 ≤ k ∧ k < (lenJ.getD i 0 : Nat)) : ConFS l G Z yJ0_charAt_5068e cJ0_charAt_5068e 2 (some .char) { frames := 3, cells := 0, slots := 0, locals := 64 } [.ref (Z.1 i), .int (iI k)] [] (some (.int (iI (chJ i k.toNat)))) := by
  obtain ⟨j, rfl⟩ := Int.eq_ofNat_of_zero_le hk.1
  exact c_J0_charAt hi (by omega)
def WIS (s : Int → Int) (w : Nat) (i e : Int) : Prop := e - i = (lenJ.getD w 0 : Nat) ∧ ∀ k : Int, 0 ≤ k → k < (lenJ.getD w 0 : Nat) → s (i + k) = chJ w k.toNat
theorem WIS_0 {s : Int → Int} {i e : Int} : WIS s 0 i e ↔ e - i = 4 ∧ s i = 98 ∧ s (i + 1) = 97 ∧ s (i + 2) = 116 ∧ s (i + 3) = 104 := by
  constructor
  · rintro ⟨h, g⟩
    refine ⟨h, ?_, g 1 (by decide) (by decide), g 2 (by decide) (by decide), g 3 (by decide) (by decide)⟩
    have := g 0 (by decide) (by decide)
    rw [Int.add_zero] at this
    exact this
  · rintro ⟨h, g0, g1, g2, g3⟩
    refine ⟨h, fun k k0 k1 => ?_⟩
    have k1 : k < 4 := k1
    rcases (by omega : k = 0 ∨ k = 1 ∨ k = 2 ∨ k = 3) with rfl | rfl | rfl | rfl
    · rw [Int.add_zero]; exact g0
    · exact g1
    · exact g2
    · exact g3
theorem WIS_1 {s : Int → Int} {i e : Int} : WIS s 1 i e ↔ e - i = 6 ∧ s i = 98 ∧ s (i + 1) = 97 ∧ s (i + 2) = 116 ∧ s (i + 3) = 104 ∧ s (i + 4) = 101 ∧ s (i + 5) = 114 := by
  constructor
  · rintro ⟨h, g⟩
    refine ⟨h, ?_, g 1 (by decide) (by decide), g 2 (by decide) (by decide), g 3 (by decide) (by decide), g 4 (by decide) (by decide), g 5 (by decide) (by decide)⟩
    have := g 0 (by decide) (by decide)
    rw [Int.add_zero] at this
    exact this
  · rintro ⟨h, g0, g1, g2, g3, g4, g5⟩
    refine ⟨h, fun k k0 k1 => ?_⟩
    have k1 : k < 6 := k1
    rcases (by omega : k = 0 ∨ k = 1 ∨ k = 2 ∨ k = 3 ∨ k = 4 ∨ k = 5) with rfl | rfl | rfl | rfl | rfl | rfl
    · rw [Int.add_zero]; exact g0
    · exact g1
    · exact g2
    · exact g3
    · exact g4
    · exact g5
theorem WIS_2 {s : Int → Int} {i e : Int} : WIS s 2 i e ↔ e - i = 3 ∧ s i = 111 ∧ s (i + 1) = 100 ∧ s (i + 2) = 100 := by
  constructor
  · rintro ⟨h, g⟩
    refine ⟨h, ?_, g 1 (by decide) (by decide), g 2 (by decide) (by decide)⟩
    have := g 0 (by decide) (by decide)
    rw [Int.add_zero] at this
    exact this
  · rintro ⟨h, g0, g1, g2⟩
    refine ⟨h, fun k k0 k1 => ?_⟩
    have k1 : k < 3 := k1
    rcases (by omega : k = 0 ∨ k = 1 ∨ k = 2) with rfl | rfl | rfl
    · rw [Int.add_zero]; exact g0
    · exact g1
    · exact g2
theorem kdW_0 {s : Int → Int} {i e : Int} (h : WIS s 0 i e) : kdW s i e = 0 := if_pos (WIS_0.mp h)
theorem kdW_1 {s : Int → Int} {i e : Int} (h0 : ¬ WIS s 0 i e) (h : WIS s 1 i e) : kdW s i e = 1 := (if_neg (fun z => h0 (WIS_0.mpr z))).trans (if_pos (WIS_1.mp h))
theorem kdW_2 {s : Int → Int} {i e : Int} (h0 : ¬ WIS s 0 i e) (h1 : ¬ WIS s 1 i e) (h : WIS s 2 i e) : kdW s i e = 2 := (if_neg (fun z => h0 (WIS_0.mpr z))).trans ((if_neg (fun z => h1 (WIS_1.mpr z))).trans (if_pos (WIS_2.mp h)))
theorem kdW_n {s : Int → Int} {i e : Int} (h0 : ¬ WIS s 0 i e) (h1 : ¬ WIS s 1 i e) (h : ¬ WIS s 2 i e) : kdW s i e = -1 := (if_neg (fun z => h0 (WIS_0.mpr z))).trans ((if_neg (fun z => h1 (WIS_1.mpr z))).trans (if_neg (fun z => h (WIS_2.mpr z))))
/-- what a clause makes of the house and the place -/
def CLR (s : Int → Int) (i nb n o od : Int) (ot : Bool) (fb ft : Int → Int) (at' nb' n' od' : Int) (ot' : Bool) (fb' ft' : Int → Int) : Prop :=
  ((clQ s i nb n o).1 = 0 → ∃ o' : Int, ((ot' = true ↔ o' ≠ 0) ∧ od' = if o' = 0 then 5 else o') ∧ (nS s at', nb', n', o', fb', ft') = nextP s (i, nb, n, o, fb, ft)) ∧
  ((clQ s i nb n o).1 ≠ 0 → nb' = nb ∧ n' = n ∧ fb' = fb ∧ ft' = ft ∧ od' = od ∧ ot' = ot)
set_option maxHeartbeats 4000000 in
set_option maxRecDepth 100000 in
theorem c_X5_wordIs {l : Launch} {G : GT} {r aT : Nat} {L a na : Int} {q : Int × Int} {ot : Bool} {wT s : Int → Int} {i : Int} {w : Nat} {Z : ZT} (hT : TXT s L) (hsg : ∀ i, 0 ≤ i → i < L → s i = wT i % 256) (hwb : ∀ i, -128 ≤ wT i ∧ wT i < 128) (hi : w < 3) (ha : 0 ≤ a ∧ a ≤ 401) (hi2 : 0 ≤ i ∧ i ≤ L) : ConS l G Z yX5_wordIs cX5_wordIs 4 (some .boolean) { frames := 4, cells := 0, slots := 0, locals := 85 } [.ref r, .ref (Z.1 w), .int (iI i)] [(r, eO 5 [.ref aT, .int (iI L), .int (iI q.1), .int (iI q.2), .int (iI a), .int (iI na), .int (iI (pI (ot = true)))]), (aT, eB G 400 wT)] (S := Bool) (fun u => some (.int (iI (pI (u = true))))) (fun _ => [(r, eO 5 [.ref aT, .int (iI L), .int (iI q.1), .int (iI q.2), .int (iI a), .int (iI na), .int (iI (pI (ot = true)))]), (aT, eB G 400 wT)]) (fun u => u = true ↔ WIS s w i a) := by
  refine ConS.mk (by decide +kernel) [some (.ref r), some (.ref (Z.1 w)), some (.int (iI i)), none] rfl (Nat.le_of_ble_eq_true rfl) rfl ?_
  intro V MS EI EL EV EA EN
  have M := MS.m
  have hL := hT.1
  have hl6 := lenJ_b w hi
  refine M.aloadn (pc := 0) 0 rfl rfl dX5_wordIs_0 ?_
  refine M.getf (pc := 1) fg_X5_30 0 rfl rfl dX5_wordIs_1 ?_
  refine M.iloadn (pc := 4) 2 rfl rfl dX5_wordIs_4 ?_
  refine M.isub (pc := 5) dX5_wordIs_5 ?_
  refine M.aloadn (pc := 6) 1 rfl rfl dX5_wordIs_6 ?_
  refine MS.pK (pc := 7) (c_J0_length hi) mv_X5_103 [] rfl rfl hi rfl rfl rfl rfl (Nat.le_of_ble_eq_true rfl) rfl ⟨(Nat.le_of_ble_eq_true rfl), (Nat.le_of_ble_eq_true rfl)⟩ ⟨(Nat.le_of_ble_eq_true rfl), (Nat.le_of_ble_eq_true rfl)⟩ rfl dX5_wordIs_7 ?_
  refine M.icmp_eq (pc := 10) (tgt := 15) dX5_wordIs_10 (by decide) (by omega) (by omega) (fun c10 => ?_) (fun c10 => ?_)
  · refine M.iconst (pc := 15) dX5_wordIs_15 ?_
    refine M.istoren (pc := 16) 3 rfl (Nat.le_of_ble_eq_true rfl) rfl dX5_wordIs_16 ?_
    dsimp only [List.set_cons_zero, List.set_cons_succ]
    have L17 : ∀ (fu : Nat) {k : Int}, (0 ≤ k ∧ k ≤ (lenJ.getD w 0 : Nat)) → (∀ j, 0 ≤ j → j < k → s (i + j) = chJ w j.toNat) → ((lenJ.getD w 0 : Nat) - k : Int).toNat < fu → V 0 0 17 [(r, eO 5 [.ref aT, .int (iI L), .int (iI q.1), .int (iI q.2), .int (iI a), .int (iI na), .int (iI (pI (ot = true)))]), (aT, eB G 400 wT)] [some (.ref r), some (.ref (Z.1 w)), some (.int (iI i)), some (.int (iI k))] [] := by
      intro fu
      induction fu with
      | zero => intro k hk heq hm; exact absurd hm (Nat.not_lt_zero _)
      | succ fu ih17 =>
        intro k hk heq hm17
        refine M.iloadn (pc := 17) 3 rfl rfl dX5_wordIs_17 ?_
        refine M.aloadn (pc := 18) 1 rfl rfl dX5_wordIs_18 ?_
        refine MS.pK (pc := 19) (c_J0_length hi) mv_X5_103 [] rfl rfl hi rfl rfl rfl rfl (Nat.le_of_ble_eq_true rfl) rfl ⟨(Nat.le_of_ble_eq_true rfl), (Nat.le_of_ble_eq_true rfl)⟩ ⟨(Nat.le_of_ble_eq_true rfl), (Nat.le_of_ble_eq_true rfl)⟩ rfl dX5_wordIs_19 ?_
        refine M.icmp_ge (pc := 22) (tgt := 48) dX5_wordIs_22 (by decide) (by omega) (by omega) (fun c22 => ?_) (fun c22 => ?_)
        · refine M.iconst (pc := 48) dX5_wordIs_48 ?_
          exact EI true _ _ _ _ dX5_wordIs_49 (Or.inr ⟨rfl, by first | exact Or.inl rfl | exact Or.inr rfl | exact pI_01 _⟩) (rfl) (rfl) (⟨fun _ => ⟨by omega, fun j h0 h1 => heq j h0 (by omega)⟩, fun _ => rfl⟩)
        · refine M.aloadn (pc := 25) 0 rfl rfl dX5_wordIs_25 ?_
          refine M.iloadn (pc := 26) 2 rfl rfl dX5_wordIs_26 ?_
          refine M.iloadn (pc := 27) 3 rfl rfl dX5_wordIs_27 ?_
          refine M.iadd (pc := 28) dX5_wordIs_28 ?_
          refine M.pV (pc := 29) (c_X5_signAt  (by first | assumption | omega) (by first | assumption | omega) (by first | assumption | omega) (by first | assumption | omega)) mv_X5_44 [0, 1] rfl rfl rfl 0 rfl rfl rfl rfl (Nat.le_of_ble_eq_true rfl) rfl ⟨(Nat.le_of_ble_eq_true rfl), (Nat.le_of_ble_eq_true rfl)⟩ ⟨(Nat.le_of_ble_eq_true rfl), (Nat.le_of_ble_eq_true rfl)⟩ rfl dX5_wordIs_29 ?_
          refine M.aloadn (pc := 32) 1 rfl rfl dX5_wordIs_32 ?_
          refine M.iloadn (pc := 33) 3 rfl rfl dX5_wordIs_33 ?_
          refine MS.pK (pc := 34) (c_J0_charAtI hi (by omega)) mv_X5_108 [] rfl rfl hi rfl rfl rfl rfl (Nat.le_of_ble_eq_true rfl) rfl ⟨(Nat.le_of_ble_eq_true rfl), (Nat.le_of_ble_eq_true rfl)⟩ ⟨(Nat.le_of_ble_eq_true rfl), (Nat.le_of_ble_eq_true rfl)⟩ rfl dX5_wordIs_34 ?_
          have hsb := hT.r (i + k)
          have hch := (chJ_ok w hi k.toNat (by omega)).2
          refine M.icmp_eq (pc := 37) (tgt := 42) dX5_wordIs_37 (by decide) (by omega) (by omega) (fun c37 => ?_) (fun c37 => ?_)
          · refine M.iinc (pc := 42) (i := 3) rfl rfl dX5_wordIs_42 ?_
            dsimp only [List.set_cons_zero, List.set_cons_succ]
            refine M.goto (pc := 45) (tgt := 17) dX5_wordIs_45 (by decide) ?_
            exact ih17  (by first | assumption | omega) (by intro j h0 h1; rcases (by omega : j < k ∨ j = k) with q | q; exact heq j h0 q; rw [q]; omega) (by omega)
          · refine M.iconst (pc := 40) dX5_wordIs_40 ?_
            exact EI false _ _ _ _ dX5_wordIs_41 (Or.inr ⟨rfl, by first | exact Or.inl rfl | exact Or.inr rfl | exact pI_01 _⟩) (rfl) (rfl) (⟨fun z => absurd z (by decide), fun z => absurd (z.2 k hk.1 (by omega)) (by omega)⟩)
    exact L17 _  (by first | assumption | omega) (by intro j _ h; omega) (Nat.lt_succ_self _)
  · refine M.iconst (pc := 13) dX5_wordIs_13 ?_
    exact EI false _ _ _ _ dX5_wordIs_14 (Or.inr ⟨rfl, by first | exact Or.inl rfl | exact Or.inr rfl | exact pI_01 _⟩) (rfl) (rfl) (⟨fun z => absurd z (by decide), fun z => absurd z.1 (by omega)⟩)
set_option maxHeartbeats 4000000 in
set_option maxRecDepth 100000 in
theorem c_X5_readClause {l : Launch} {G : GT} {r aT : Nat} {L a na : Int} {q : Int × Int} {ot : Bool} {wT s : Int → Int} {i o : Int} {h hb ht : Nat} {fb ft : Int → Int} {nb n od : Int} {Z : ZT} (hT : TXT s L) (hsg : ∀ i, 0 ≤ i → i < L → s i = wT i % 256) (hwb : ∀ i, -128 ≤ wT i ∧ wT i < 128) (hna : 0 ≤ na ∧ na ≤ 401) (hi : 0 ≤ i ∧ i ≤ L) (hnb : 0 ≤ nb ∧ nb ≤ 2) (hn : 0 ≤ n ∧ n ≤ 6) (hot : ot = true ↔ o ≠ 0) (hob : 0 ≤ o ∧ o ≤ 999) (hod : od = if o = 0 then 5 else o) : ConS l G Z yX5_readClause cX5_readClause 4 none { frames := 5, cells := 0, slots := 0, locals := 108 } [.ref r, .ref h] [(r, eO 5 [.ref aT, .int (iI L), .int (iI 0), .int (iI (-1)), .int (iI i), .int (iI na), .int (iI (pI (ot = true)))]), (aT, eB G 400 wT), (h, eO 3 [.ref hb, .ref ht, .int (iI nb), .int (iI n), .int (iI od)]), (hb, eI G 8 fb), (ht, eI G 24 ft)] (S := Int × Int × Int × Int × Int × Bool × (Int → Int) × (Int → Int)) (fun _ => none) (fun u => [(r, eO 5 [.ref aT, .int (iI L), .int (iI (clQ s i nb n o).1), .int (iI (clQ s i nb n o).2), .int (iI u.1), .int (iI u.2.1), .int (iI (pI (u.2.2.2.2.2.1 = true)))]), (aT, eB G 400 wT), (h, eO 3 [.ref hb, .ref ht, .int (iI u.2.2.1), .int (iI u.2.2.2.1), .int (iI u.2.2.2.2.1)]), (hb, eI G 8 u.2.2.2.2.2.2.1), (ht, eI G 24 u.2.2.2.2.2.2.2)]) (fun u => CLR s i nb n o od ot fb ft u.1 u.2.2.1 u.2.2.2.1 u.2.2.2.2.1 u.2.2.2.2.2.1 u.2.2.2.2.2.2.1 u.2.2.2.2.2.2.2 ∧ (0 ≤ u.1 ∧ u.1 ≤ 401) ∧ (0 ≤ u.2.1 ∧ u.2.1 ≤ 401)) := by
  refine ConS.mk (by decide +kernel) [some (.ref r), some (.ref h), none, none] rfl (Nat.le_of_ble_eq_true rfl) rfl ?_
  intro V MS EI EL EV EA EN
  have M := MS.m
  have hL := hT.1
  have hw := wd_ok hT hi.1 hi.2
  have hq0 : FOK q0 := ⟨⟨by decide, by decide⟩, by decide, by decide⟩
  refine M.aloadn (pc := 0) 0 rfl rfl dX5_readClause_0 ?_
  refine M.getf (pc := 1) fg_X5_30 0 rfl rfl dX5_readClause_1 ?_
  refine M.istoren (pc := 4) 2 rfl (Nat.le_of_ble_eq_true rfl) rfl dX5_readClause_4 ?_
  dsimp only [List.set_cons_zero, List.set_cons_succ]
  refine M.iconst (pc := 5) dX5_readClause_5 ?_
  refine M.istoren (pc := 6) 3 rfl (Nat.le_of_ble_eq_true rfl) rfl dX5_readClause_6 ?_
  dsimp only [List.set_cons_zero, List.set_cons_succ]
  have L7 : ∀ (fu : Nat) {k b : Int}, (0 ≤ k ∧ k ≤ 400) → (b = i + k ∧ b ≤ L) → (∀ j, i ≤ j → j < b → isLt (s j) = true) → (400 - k).toNat < fu → V 0 0 7 [(r, eO 5 [.ref aT, .int (iI L), .int (iI 0), .int (iI (-1)), .int (iI b), .int (iI na), .int (iI (pI (ot = true)))]), (aT, eB G 400 wT), (h, eO 3 [.ref hb, .ref ht, .int (iI nb), .int (iI n), .int (iI od)]), (hb, eI G 8 fb), (ht, eI G 24 ft)] [some (.ref r), some (.ref h), some (.int (iI i)), some (.int (iI k))] [] := by
    intro fu
    induction fu with
    | zero => intro k b hk hbk hrun hm; exact absurd hm (Nat.not_lt_zero _)
    | succ fu ih7 =>
      intro k b hk hbk hrun hm7
      have L44 : (run isLt s i = b) → V 0 0 44 [(r, eO 5 [.ref aT, .int (iI L), .int (iI 0), .int (iI (-1)), .int (iI b), .int (iI na), .int (iI (pI (ot = true)))]), (aT, eB G 400 wT), (h, eO 3 [.ref hb, .ref ht, .int (iI nb), .int (iI n), .int (iI od)]), (hb, eI G 8 fb), (ht, eI G 24 ft)] [some (.ref r), some (.ref h), some (.int (iI i)), none] [] := by
        intro  he
        subst he
        refine M.aloadn (pc := 44) 0 rfl rfl dX5_readClause_44 ?_
        have L154 : ∀ {a2 m2 b2 n2 d2 : Int} {t2 : Bool} {f2 g2 : Int → Int}, (CLR s i nb n o od ot fb ft a2 b2 n2 d2 t2 f2 g2 ∧ (0 ≤ a2 ∧ a2 ≤ 401) ∧ (0 ≤ m2 ∧ m2 ≤ 401)) → V 0 0 154 [(r, eO 5 [.ref aT, .int (iI L), .int (iI (clQ s i nb n o).1), .int (iI (clQ s i nb n o).2), .int (iI a2), .int (iI m2), .int (iI (pI (t2 = true)))]), (aT, eB G 400 wT), (h, eO 3 [.ref hb, .ref ht, .int (iI b2), .int (iI n2), .int (iI d2)]), (hb, eI G 8 f2), (ht, eI G 24 g2)] [some (.ref r), none, none, none] [] := by
          intro a2 m2 b2 n2 d2 t2 f2 g2 hres
          exact EV (a2, m2, b2, n2, d2, t2, f2, g2) _ _ _ dX5_readClause_154 rfl (rfl) (rfl) (hres)
        refine MS.ldcS (pc := 45) (tx := "bath") (q := Z.1 0) (fun A U h => h.2.2.2.1) dX5_readClause_45 ?_
        refine M.iloadn (pc := 47) 2 rfl rfl dX5_readClause_47 ?_
        refine MS.mV (pc := 48) (c_X5_wordIs (q := q0) (w := 0) (by first | assumption | omega) (by first | assumption | omega) (by first | assumption | omega) (by decide) (by omega) (by first | assumption | omega)) mv_X5_54 [0, 1] rfl rfl rfl 0 rfl rfl rfl rfl (Nat.le_of_ble_eq_true rfl) rfl ⟨(Nat.le_of_ble_eq_true rfl), (Nat.le_of_ble_eq_true rfl)⟩ ⟨(Nat.le_of_ble_eq_true rfl), (Nat.le_of_ble_eq_true rfl)⟩ rfl (fun _ => rfl) dX5_readClause_48 (fun u48 hu48 => ?_)
        dsimp only [putL, List.set_cons_zero, List.set_cons_succ, Option.toList, List.cons_append, List.nil_append] at hu48 ⊢
        refine M.if_eqP (pc := 51) (tgt := 81) dX5_readClause_51 (by decide) (fun c51 => ?_) (fun c51 => ?_)
        · refine M.aloadn (pc := 81) 0 rfl rfl dX5_readClause_81 ?_
          refine MS.ldcS (pc := 82) (tx := "bather") (q := Z.1 1) (fun A U h => h.2.2.2.2.1) dX5_readClause_82 ?_
          refine M.iloadn (pc := 84) 2 rfl rfl dX5_readClause_84 ?_
          refine MS.mV (pc := 85) (c_X5_wordIs (q := q0) (w := 1) (by first | assumption | omega) (by first | assumption | omega) (by first | assumption | omega) (by decide) (by omega) (by first | assumption | omega)) mv_X5_54 [0, 1] rfl rfl rfl 0 rfl rfl rfl rfl (Nat.le_of_ble_eq_true rfl) rfl ⟨(Nat.le_of_ble_eq_true rfl), (Nat.le_of_ble_eq_true rfl)⟩ ⟨(Nat.le_of_ble_eq_true rfl), (Nat.le_of_ble_eq_true rfl)⟩ rfl (fun _ => rfl) dX5_readClause_85 (fun u85 hu85 => ?_)
          dsimp only [putL, List.set_cons_zero, List.set_cons_succ, Option.toList, List.cons_append, List.nil_append] at hu85 ⊢
          refine M.if_eqP (pc := 88) (tgt := 119) dX5_readClause_88 (by decide) (fun c88 => ?_) (fun c88 => ?_)
          · refine M.aloadn (pc := 119) 0 rfl rfl dX5_readClause_119 ?_
            refine MS.ldcS (pc := 120) (tx := "odd") (q := Z.1 2) (fun A U h => h.2.2.2.2.2) dX5_readClause_120 ?_
            refine M.iloadn (pc := 122) 2 rfl rfl dX5_readClause_122 ?_
            refine MS.mV (pc := 123) (c_X5_wordIs (q := q0) (w := 2) (by first | assumption | omega) (by first | assumption | omega) (by first | assumption | omega) (by decide) (by omega) (by first | assumption | omega)) mv_X5_54 [0, 1] rfl rfl rfl 0 rfl rfl rfl rfl (Nat.le_of_ble_eq_true rfl) rfl ⟨(Nat.le_of_ble_eq_true rfl), (Nat.le_of_ble_eq_true rfl)⟩ ⟨(Nat.le_of_ble_eq_true rfl), (Nat.le_of_ble_eq_true rfl)⟩ rfl (fun _ => rfl) dX5_readClause_123 (fun u123 hu123 => ?_)
            dsimp only [putL, List.set_cons_zero, List.set_cons_succ, Option.toList, List.cons_append, List.nil_append] at hu123 ⊢
            refine M.if_eqP (pc := 126) (tgt := 147) dX5_readClause_126 (by decide) (fun c126 => ?_) (fun c126 => ?_)
            · have k3 := kdW_n (fun z => c51 (hu48.mpr z)) (fun z => c88 (hu85.mpr z)) (fun z => c126 (hu123.mpr z))
              have k0 : ¬ kdW s i (run isLt s i) = 0 := by omega
              have k1 : ¬ kdW s i (run isLt s i) = 1 := by omega
              have k2 : ¬ kdW s i (run isLt s i) = 2 := by omega
              have hw := hi
              refine M.aloadn (pc := 147) 0 rfl rfl dX5_readClause_147 ?_
              refine M.iconst (pc := 148) dX5_readClause_148 ?_
              refine M.iconst (pc := 149) dX5_readClause_149 ?_
              refine M.iloadn (pc := 150) 2 rfl rfl dX5_readClause_150 ?_
              refine M.mV (pc := 151) (c_X5_failIf (q := q0) (by exact hq0) (by omega) (by omega)) mv_X5_61 [0] rfl rfl rfl 0 rfl rfl rfl rfl (Nat.le_of_ble_eq_true rfl) rfl ⟨(Nat.le_of_ble_eq_true rfl), (Nat.le_of_ble_eq_true rfl)⟩ ⟨(Nat.le_of_ble_eq_true rfl), (Nat.le_of_ble_eq_true rfl)⟩ rfl (fun _ => rfl) dX5_readClause_151 (fun u151 hu151 => ?_)
              dsimp only [putL, List.set_cons_zero, List.set_cons_succ, Option.toList, List.cons_append, List.nil_append] at hu151 ⊢
              refine M.forget 1 ?_
              dsimp only [List.set_cons_zero, List.set_cons_succ]
              refine M.forget 2 ?_
              dsimp only [List.set_cons_zero, List.set_cons_succ]
              have ec : clQ s i nb n o = fl q0 (if (1 : Int) = 0 then 0 else 1) i := ((if_neg k0).trans ((if_neg k1).trans (if_neg k2))).trans (by rw [if_neg (by decide)])
              rw [← ec]
              have hrs : CLR s i nb n o od ot fb ft (run isLt s i) nb n od ot fb ft ∧ (0 ≤ (run isLt s i) ∧ (run isLt s i) ≤ 401) ∧ (0 ≤ na ∧ na ≤ 401) := by
                refine ⟨⟨fun z => ?_, fun z => ⟨rfl, rfl, rfl, rfl, rfl, rfl⟩⟩, by omega, hna⟩
                rw [ec, fl_f rfl (by decide)] at z
                have z : (if (1 : Int) = 0 then (0 : Int) else 1) = 0 := z
                exact absurd z (by decide)
              exact L154  (by exact hrs)
            · have k2 := kdW_2 (fun z => c51 (hu48.mpr z)) (fun z => c88 (hu85.mpr z)) (hu123.mp c126)
              have k0 : ¬ kdW s i (run isLt s i) = 0 := by omega
              have k1 : ¬ kdW s i (run isLt s i) = 1 := by omega
              have hpo := pI_01 (ot = true)
              refine M.aloadn (pc := 129) 0 rfl rfl dX5_readClause_129 ?_
              refine M.aloadn (pc := 130) 0 rfl rfl dX5_readClause_130 ?_
              refine M.getf (pc := 131) fg_X5_33 0 rfl rfl dX5_readClause_131 ?_
              refine M.iconst (pc := 134) dX5_readClause_134 ?_
              refine M.iloadn (pc := 135) 2 rfl rfl dX5_readClause_135 ?_
              refine M.mV (pc := 136) (c_X5_failIf (q := q0) (by exact hq0) (by rcases hpo with w | w <;> omega) (by omega)) mv_X5_61 [0] rfl rfl rfl 0 rfl rfl rfl rfl (Nat.le_of_ble_eq_true rfl) rfl ⟨(Nat.le_of_ble_eq_true rfl), (Nat.le_of_ble_eq_true rfl)⟩ ⟨(Nat.le_of_ble_eq_true rfl), (Nat.le_of_ble_eq_true rfl)⟩ rfl (fun _ => rfl) dX5_readClause_136 (fun u136 hu136 => ?_)
              dsimp only [putL, List.set_cons_zero, List.set_cons_succ, Option.toList, List.cons_append, List.nil_append] at hu136 ⊢
              have ez : fl q0 (if pI (ot = true) = 0 then 0 else 3) i = (fl q0 (if o = 0 then 0 else 3) i) := by
                congr 1
                by_cases z : ot = true
                · rw [if_neg (by rw [pI_t z]; decide), if_neg (hot.mp z)]
                · rw [if_pos (pI_f z), if_pos (Classical.byContradiction (fun w => z (hot.mpr w)))]
              rw [ez]
              refine M.aloadn (pc := 139) 0 rfl rfl dX5_readClause_139 ?_
              refine M.aloadn (pc := 140) 1 rfl rfl dX5_readClause_140 ?_
              refine M.mV (pc := 141) (c_X5_readOdd (q := (fl q0 (if o = 0 then 0 else 3) i)) (i := (run isLt s i)) (by first | assumption | omega) (by first | assumption | omega) (by first | assumption | omega) (by exact fl_ok hq0 (by split <;> omega) (by omega)) (by omega) (by exact hna) (by omega) (by exact fun _ => rfl)) mv_X5_78 [0, 1, 2] rfl rfl rfl 0 rfl rfl rfl rfl (Nat.le_of_ble_eq_true rfl) rfl ⟨(Nat.le_of_ble_eq_true rfl), (Nat.le_of_ble_eq_true rfl)⟩ ⟨(Nat.le_of_ble_eq_true rfl), (Nat.le_of_ble_eq_true rfl)⟩ rfl (fun _ => rfl) dX5_readClause_141 (fun u141 hu141 => ?_)
              obtain ⟨a141, m141, o141, t141⟩ := u141
              dsimp only [putL, List.set_cons_zero, List.set_cons_succ, Option.toList, List.cons_append, List.nil_append] at hu141 ⊢
              have ec : clQ s i nb n o = odQ s (fl q0 (if o = 0 then 0 else 3) i) (run isLt s i) := (if_neg k0).trans ((if_neg k1).trans (if_pos k2))
              refine M.goto (pc := 144) (tgt := 154) dX5_readClause_144 (by decide) ?_
              refine M.forget 1 ?_
              dsimp only [List.set_cons_zero, List.set_cons_succ]
              refine M.forget 2 ?_
              dsimp only [List.set_cons_zero, List.set_cons_succ]
              rw [← ec]
              have hrs : CLR s i nb n o od ot fb ft a141 nb n o141 t141 fb ft ∧ (0 ≤ a141 ∧ a141 ≤ 401) ∧ (0 ≤ m141 ∧ m141 ≤ 401) := by
                refine ⟨⟨fun z => ?_, fun z => ?_⟩, hu141.2.2⟩
                · have z2 := hu141.1 (by rw [← ec]; exact z)
                  have en : nextP s (i, nb, n, o, fb, ft) = _ := (if_neg k0).trans (if_neg k1)
                  have z3 := nV_ok (odQ_0 (s := s) (by rw [← ec]; exact z)).2.1
                  rw [z2.2.1, z2.2.2]
                  exact ⟨nV s (run isLt s i), ⟨⟨fun _ => by omega, fun _ => rfl⟩, by rw [if_neg (by omega)]⟩, by rw [en, z2.1]⟩
                · have z2 := hu141.2.1 (by rw [← ec]; exact z)
                  exact ⟨rfl, rfl, rfl, rfl, z2.1, z2.2⟩
              exact L154  (by exact hrs)
          · have k1 := kdW_1 (fun z => c51 (hu48.mpr z)) (hu85.mp c88)
            have k0 : ¬ kdW s i (run isLt s i) = 0 := by omega
            refine M.aloadn (pc := 91) 0 rfl rfl dX5_readClause_91 ?_
            have L106 : ∀ {z : Int}, ((z = 0 ∧ n ≠ 6) ∨ (z = 1 ∧ n = 6)) → V 0 0 106 [(r, eO 5 [.ref aT, .int (iI L), .int (iI 0), .int (iI (-1)), .int (iI (run isLt s i)), .int (iI na), .int (iI (pI (ot = true)))]), (aT, eB G 400 wT), (h, eO 3 [.ref hb, .ref ht, .int (iI nb), .int (iI n), .int (iI od)]), (hb, eI G 8 fb), (ht, eI G 24 ft)] [some (.ref r), some (.ref h), some (.int (iI i)), none] [.int (iI z), .ref r] := by
              intro z hz
              refine M.iconst (pc := 106) dX5_readClause_106 ?_
              refine M.iloadn (pc := 107) 2 rfl rfl dX5_readClause_107 ?_
              refine M.mV (pc := 108) (c_X5_failIf (q := q0) (by exact hq0) (by first | assumption | omega) (by omega)) mv_X5_61 [0] rfl rfl rfl 0 rfl rfl rfl rfl (Nat.le_of_ble_eq_true rfl) rfl ⟨(Nat.le_of_ble_eq_true rfl), (Nat.le_of_ble_eq_true rfl)⟩ ⟨(Nat.le_of_ble_eq_true rfl), (Nat.le_of_ble_eq_true rfl)⟩ rfl (fun _ => rfl) dX5_readClause_108 (fun u108 hu108 => ?_)
              dsimp only [putL, List.set_cons_zero, List.set_cons_succ, Option.toList, List.cons_append, List.nil_append] at hu108 ⊢
              have ez : fl q0 (if z = 0 then 0 else 3) i = (fl q0 (if n = 6 then 3 else 0) i) := by
                congr 1
                rcases hz with ⟨z1, z2⟩ | ⟨z1, z2⟩
                · rw [if_pos z1, if_neg (by omega)]
                · rw [if_neg (by omega), if_pos (by omega)]
              rw [ez]
              refine M.aloadn (pc := 111) 0 rfl rfl dX5_readClause_111 ?_
              refine M.aloadn (pc := 112) 1 rfl rfl dX5_readClause_112 ?_
              refine M.mV (pc := 113) (c_X5_readBather (q := (fl q0 (if n = 6 then 3 else 0) i)) (i := (run isLt s i)) (by first | assumption | omega) (by first | assumption | omega) (by first | assumption | omega) (by exact fl_ok hq0 (by split <;> omega) (by omega)) (by omega) (by exact hna) (by omega) (by exact fun _ => rfl) (by first | assumption | omega) (by exact fun z => by have := fl_q0 z; split at this <;> omega)) mv_X5_73 [0, 1, 2, 3, 4] rfl rfl rfl 0 rfl rfl rfl rfl (Nat.le_of_ble_eq_true rfl) rfl ⟨(Nat.le_of_ble_eq_true rfl), (Nat.le_of_ble_eq_true rfl)⟩ ⟨(Nat.le_of_ble_eq_true rfl), (Nat.le_of_ble_eq_true rfl)⟩ rfl (fun _ => rfl) dX5_readClause_113 (fun u113 hu113 => ?_)
              obtain ⟨a113, m113, b113, f113⟩ := u113
              dsimp only [putL, List.set_cons_zero, List.set_cons_succ, Option.toList, List.cons_append, List.nil_append] at hu113 ⊢
              have ec : clQ s i nb n o = brQ s (fl q0 (if n = 6 then 3 else 0) i) (run isLt s i) := (if_neg k0).trans (if_pos k1)
              refine M.goto (pc := 116) (tgt := 154) dX5_readClause_116 (by decide) ?_
              refine M.forget 1 ?_
              dsimp only [List.set_cons_zero, List.set_cons_succ]
              refine M.forget 2 ?_
              dsimp only [List.set_cons_zero, List.set_cons_succ]
              rw [← ec]
              have hrs : CLR s i nb n o od ot fb ft a113 nb b113 od ot fb f113 ∧ (0 ≤ a113 ∧ a113 ≤ 401) ∧ (0 ≤ m113 ∧ m113 ≤ 401) := by
                refine ⟨⟨fun z => ?_, fun z => ?_⟩, hu113.2.2⟩
                · have z2 := hu113.1 (by rw [← ec]; exact z)
                  have en : nextP s (i, nb, n, o, fb, ft) = _ := (if_neg k0).trans (if_pos k1)
                  exact ⟨o, ⟨hot, hod⟩, by rw [en, z2.1, z2.2.1, z2.2.2]⟩
                · have z2 := hu113.2.1 (by rw [← ec]; exact z)
                  exact ⟨rfl, z2.1, rfl, z2.2, rfl, rfl⟩
              exact L154  (by exact hrs)
            refine M.aloadn (pc := 92) 1 rfl rfl dX5_readClause_92 ?_
            refine M.getf (pc := 93) fg_X5_70 2 rfl rfl dX5_readClause_93 ?_
            refine M.bipush (pc := 96) (by decide +kernel) dX5_readClause_96 ?_
            refine M.icmp_lt (pc := 98) (tgt := 105) dX5_readClause_98 (by decide) (by omega) (by omega) (fun c98 => ?_) (fun c98 => ?_)
            · refine M.iconst (pc := 105) dX5_readClause_105 ?_
              exact L106  (by first | assumption | omega)
            · refine M.iconst (pc := 101) dX5_readClause_101 ?_
              refine M.goto (pc := 102) (tgt := 106) dX5_readClause_102 (by decide) ?_
              exact L106  (by first | assumption | omega)
        · have k0 := kdW_0 (hu48.mp c51)
          refine M.aloadn (pc := 54) 0 rfl rfl dX5_readClause_54 ?_
          have L68 : ∀ {z : Int}, ((z = 0 ∧ nb ≠ 2) ∨ (z = 1 ∧ nb = 2)) → V 0 0 68 [(r, eO 5 [.ref aT, .int (iI L), .int (iI 0), .int (iI (-1)), .int (iI (run isLt s i)), .int (iI na), .int (iI (pI (ot = true)))]), (aT, eB G 400 wT), (h, eO 3 [.ref hb, .ref ht, .int (iI nb), .int (iI n), .int (iI od)]), (hb, eI G 8 fb), (ht, eI G 24 ft)] [some (.ref r), some (.ref h), some (.int (iI i)), none] [.int (iI z), .ref r] := by
            intro z hz
            refine M.iconst (pc := 68) dX5_readClause_68 ?_
            refine M.iloadn (pc := 69) 2 rfl rfl dX5_readClause_69 ?_
            refine M.mV (pc := 70) (c_X5_failIf (q := q0) (by exact hq0) (by first | assumption | omega) (by omega)) mv_X5_61 [0] rfl rfl rfl 0 rfl rfl rfl rfl (Nat.le_of_ble_eq_true rfl) rfl ⟨(Nat.le_of_ble_eq_true rfl), (Nat.le_of_ble_eq_true rfl)⟩ ⟨(Nat.le_of_ble_eq_true rfl), (Nat.le_of_ble_eq_true rfl)⟩ rfl (fun _ => rfl) dX5_readClause_70 (fun u70 hu70 => ?_)
            dsimp only [putL, List.set_cons_zero, List.set_cons_succ, Option.toList, List.cons_append, List.nil_append] at hu70 ⊢
            have ez : fl q0 (if z = 0 then 0 else 3) i = (fl q0 (if nb = 2 then 3 else 0) i) := by
              congr 1
              rcases hz with ⟨z1, z2⟩ | ⟨z1, z2⟩
              · rw [if_pos z1, if_neg (by omega)]
              · rw [if_neg (by omega), if_pos (by omega)]
            rw [ez]
            refine M.aloadn (pc := 73) 0 rfl rfl dX5_readClause_73 ?_
            refine M.aloadn (pc := 74) 1 rfl rfl dX5_readClause_74 ?_
            refine M.mV (pc := 75) (c_X5_readBath (q := (fl q0 (if nb = 2 then 3 else 0) i)) (i := (run isLt s i)) (by first | assumption | omega) (by first | assumption | omega) (by first | assumption | omega) (by exact fl_ok hq0 (by split <;> omega) (by omega)) (by omega) (by exact hna) (by omega) (by exact fun _ => rfl) (by first | assumption | omega) (by exact fun z => by have := fl_q0 z; split at this <;> omega)) mv_X5_65 [0, 1, 2, 3, 4] rfl rfl rfl 0 rfl rfl rfl rfl (Nat.le_of_ble_eq_true rfl) rfl ⟨(Nat.le_of_ble_eq_true rfl), (Nat.le_of_ble_eq_true rfl)⟩ ⟨(Nat.le_of_ble_eq_true rfl), (Nat.le_of_ble_eq_true rfl)⟩ rfl (fun _ => rfl) dX5_readClause_75 (fun u75 hu75 => ?_)
            obtain ⟨a75, m75, b75, f75⟩ := u75
            dsimp only [putL, List.set_cons_zero, List.set_cons_succ, Option.toList, List.cons_append, List.nil_append] at hu75 ⊢
            have ec : clQ s i nb n o = bthQ s (fl q0 (if nb = 2 then 3 else 0) i) (run isLt s i) := if_pos k0
            refine M.goto (pc := 78) (tgt := 154) dX5_readClause_78 (by decide) ?_
            refine M.forget 1 ?_
            dsimp only [List.set_cons_zero, List.set_cons_succ]
            refine M.forget 2 ?_
            dsimp only [List.set_cons_zero, List.set_cons_succ]
            rw [← ec]
            have hrs : CLR s i nb n o od ot fb ft a75 b75 n od ot f75 ft ∧ (0 ≤ a75 ∧ a75 ≤ 401) ∧ (0 ≤ m75 ∧ m75 ≤ 401) := by
              refine ⟨⟨fun z => ?_, fun z => ?_⟩, hu75.2.2⟩
              · have z2 := hu75.1 (by rw [← ec]; exact z)
                have en : nextP s (i, nb, n, o, fb, ft) = _ := if_pos k0
                exact ⟨o, ⟨hot, hod⟩, by rw [en, z2.1, z2.2.1, z2.2.2]⟩
              · have z2 := hu75.2.1 (by rw [← ec]; exact z)
                exact ⟨z2.1, rfl, z2.2, rfl, rfl, rfl⟩
            exact L154  (by exact hrs)
          refine M.aloadn (pc := 55) 1 rfl rfl dX5_readClause_55 ?_
          refine M.getf (pc := 56) fg_X5_58 2 rfl rfl dX5_readClause_56 ?_
          refine M.iconst (pc := 59) dX5_readClause_59 ?_
          refine M.icmp_lt (pc := 60) (tgt := 67) dX5_readClause_60 (by decide) (by omega) (by omega) (fun c60 => ?_) (fun c60 => ?_)
          · refine M.iconst (pc := 67) dX5_readClause_67 ?_
            exact L68  (by first | assumption | omega)
          · refine M.iconst (pc := 63) dX5_readClause_63 ?_
            refine M.goto (pc := 64) (tgt := 68) dX5_readClause_64 (by decide) ?_
            exact L68  (by first | assumption | omega)
      refine M.iloadn (pc := 7) 3 rfl rfl dX5_readClause_7 ?_
      refine M.sipush (pc := 8) (by decide +kernel) dX5_readClause_8 ?_
      refine M.icmp_ge (pc := 11) (tgt := 44) dX5_readClause_11 (by decide) (by omega) (by omega) (fun c11 => ?_) (fun c11 => ?_)
      · refine M.forget 3 ?_
        dsimp only [List.set_cons_zero, List.set_cons_succ]
        exact L44  (by exact run_eq hT isLt1 hi.1 (by omega) hrun (by rw [hT.2.2 b (by omega)]; decide))
      · refine M.aloadn (pc := 14) 0 rfl rfl dX5_readClause_14 ?_
        refine M.aloadn (pc := 15) 0 rfl rfl dX5_readClause_15 ?_
        refine M.getf (pc := 16) fg_X5_30 0 rfl rfl dX5_readClause_16 ?_
        have hsb := hT.r b
        refine M.pV (pc := 19) (c_X5_signAt (q := q0) (by first | assumption | omega) (by first | assumption | omega) (by first | assumption | omega) (by first | assumption | omega)) mv_X5_44 [0, 1] rfl rfl rfl 0 rfl rfl rfl rfl (Nat.le_of_ble_eq_true rfl) rfl ⟨(Nat.le_of_ble_eq_true rfl), (Nat.le_of_ble_eq_true rfl)⟩ ⟨(Nat.le_of_ble_eq_true rfl), (Nat.le_of_ble_eq_true rfl)⟩ rfl dX5_readClause_19 ?_
        refine M.pS (pc := 22) (c_X5_isLetter  (by first | assumption | omega)) ms_X5_48 [] rfl rfl rfl rfl (Nat.le_of_ble_eq_true rfl) rfl ⟨(Nat.le_of_ble_eq_true rfl), (Nat.le_of_ble_eq_true rfl)⟩ ⟨(Nat.le_of_ble_eq_true rfl), (Nat.le_of_ble_eq_true rfl)⟩ rfl dX5_readClause_22 ?_
        refine M.if_eqP (pc := 25) (tgt := 44) dX5_readClause_25 (by decide) (fun c25 => ?_) (fun c25 => ?_)
        · refine M.forget 3 ?_
          dsimp only [List.set_cons_zero, List.set_cons_succ]
          exact L44  (by exact run_eq hT isLt1 hi.1 (by omega) hrun c25)
        · have hlb := of_decide_eq_true c25
          have hin := hT.in (i := b) (by omega)
          refine M.aloadn (pc := 28) 0 rfl rfl dX5_readClause_28 ?_
          refine M.dup (pc := 29) rfl dX5_readClause_29 ?_
          refine M.getf (pc := 30) fg_X5_30 0 rfl rfl dX5_readClause_30 ?_
          refine M.iconst (pc := 33) dX5_readClause_33 ?_
          refine M.iadd (pc := 34) dX5_readClause_34 ?_
          refine M.putf (pc := 35) fp_X5_30 0 rfl rfl rfl (Nat.le_of_ble_eq_true rfl) dX5_readClause_35 ?_
          dsimp only [List.set_cons_zero, List.set_cons_succ]
          refine M.iinc (pc := 38) (i := 3) rfl rfl dX5_readClause_38 ?_
          dsimp only [List.set_cons_zero, List.set_cons_succ]
          refine M.goto (pc := 41) (tgt := 7) dX5_readClause_41 (by decide) ?_
          exact ih7  (by first | assumption | omega) (by first | assumption | omega) (by intro j h0 h1; rcases (by omega : j < b ∨ j = b) with w | w; exact hrun j h0 w; rw [w]; exact c25) (by omega)
  exact L7 _  (by first | assumption | omega) (by first | assumption | omega) (by intro j _ h; omega) (Nat.lt_succ_self _)
