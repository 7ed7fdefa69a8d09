/-! the class's reader: clauses -/
set_option maxHeartbeats 4000000 in
set_option maxRecDepth 100000 in
theorem c_X5_readBath {l : Launch} {G : GT} {r aT : Nat} {L a na : Int} {q : Int × Int} {ot : Bool} {wT s : Int → Int} {i : Int} {h hb ht : Nat} {fb ft : Int → Int} {nb n od : Int} (hT : TXT s L) (hsg : ∀ i, 0 ≤ i → i < L → s i = wT i % 256) (hwb : ∀ i, -128 ≤ wT i ∧ wT i < 128) (hq : FOK q) (ha : 0 ≤ a ∧ a ≤ 401) (hna : 0 ≤ na ∧ na ≤ 401) (hi : 0 ≤ i ∧ i ≤ L) (hai : q.1 = 0 → a = i) (hnb : 0 ≤ nb ∧ nb ≤ 2) (hnb2 : q.1 = 0 → nb < 2) : Con l G yX5_readBath cX5_readBath 6 none { frames := 3, cells := 0, slots := 0, locals := 66 } [.ref r, .ref h] [(r, eO 5 [.ref aT, .int (iI L), .int (iI q.1), .int (iI q.2), .int (iI a), .int (iI na), .int (iI (pI (ot = true)))]), (aT, eB G 400 wT), (h, eO 3 [.ref hb, .ref ht, .int (iI nb), .int (iI n), .int (iI od)]), (hb, eI G 8 fb), (ht, eI G 24 ft)] (S := Int × Int × Int × (Int → Int)) (fun _ => none) (fun u => [(r, eO 5 [.ref aT, .int (iI L), .int (iI (bthQ s q i).1), .int (iI (bthQ s q i).2), .int (iI u.1), .int (iI u.2.1), .int (iI (pI (ot = true)))]), (aT, eB G 400 wT), (h, eO 3 [.ref hb, .ref ht, .int (iI u.2.2.1), .int (iI n), .int (iI od)]), (hb, eI G 8 u.2.2.2), (ht, eI G 24 ft)]) (fun u => (((bthQ s q i).1 = 0 → u.1 = aft s (nE s (nE s (nE s (nE s i)))) ∧ u.2.2.1 = nb + 1 ∧ u.2.2.2 = ad4 fb nb (nV s i) (nV s (nE s i)) (nV s (nE s (nE s i))) (nV s (nE s (nE s (nE s i))))) ∧ ((bthQ s q i).1 ≠ 0 → u.2.2.1 = nb ∧ u.2.2.2 = fb) ∧ (0 ≤ u.1 ∧ u.1 ≤ 401) ∧ (0 ≤ u.2.1 ∧ u.2.1 ≤ 401))) := by
  refine Con.mk (by decide +kernel) [some (.ref r), some (.ref h), none, none, none, none] rfl (Nat.le_of_ble_eq_true rfl) rfl ?_
  intro V M EI EL EV EA
  have hL := hT.1
  have hqb := hq.1
  have s1 := nS_ok hT hi.1 hi.2
  have e1 := nE_ok hT hi.1 hi.2
  have s2 := nS_ok (i := (nE s i)) hT (by omega) (by omega)
  have e2 := nE_ok (i := (nE s i)) hT (by omega) (by omega)
  have s3 := nS_ok (i := (nE s (nE s i))) hT (by omega) (by omega)
  have e3 := nE_ok (i := (nE s (nE s i))) hT (by omega) (by omega)
  have s4 := nS_ok (i := (nE s (nE s (nE s i)))) hT (by omega) (by omega)
  have e4 := nE_ok (i := (nE s (nE s (nE s i)))) hT (by omega) (by omega)
  have s5 := nS_ok (i := (nE s (nE s (nE s (nE s i))))) hT (by omega) (by omega)
  have g1 : FOK (fl q (nF s 1 99 i) (nS s i)) := fl_ok hq (by have := nF_b s 1 99 i; omega) (by omega)
  have g2 : FOK (fl (fl q (nF s 1 99 i) (nS s i)) (nF s 1 99 (nE s i)) (nS s (nE s i))) := fl_ok g1 (by have := nF_b s 1 99 (nE s i); omega) (by omega)
  have g3 : FOK (fl (fl (fl q (nF s 1 99 i) (nS s i)) (nF s 1 99 (nE s i)) (nS s (nE s i))) (nF s 0 9999 (nE s (nE s i))) (nS s (nE s (nE s i)))) := fl_ok g2 (by have := nF_b s 0 9999 (nE s (nE s i)); omega) (by omega)
  have g4 : FOK (fl (fl (fl (fl q (nF s 1 99 i) (nS s i)) (nF s 1 99 (nE s i)) (nS s (nE s i))) (nF s 0 9999 (nE s (nE s i))) (nS s (nE s (nE s i)))) (nF s 0 99 (nE s (nE s (nE s i)))) (nS s (nE s (nE s (nE s i))))) := fl_ok g3 (by have := nF_b s 0 99 (nE s (nE s (nE s i))); omega) (by omega)
  have g5 : FOK (bthQ s q i) := fl_ok g4 (by split <;> omega) (by omega)
  have g5b := g5.1
  refine M.aloadn (pc := 0) 0 rfl rfl dX5_readBath_0 ?_
  refine M.iconst (pc := 1) dX5_readBath_1 ?_
  refine M.bipush (pc := 2) (by decide +kernel) dX5_readBath_2 ?_
  refine M.mV (pc := 4) (c_X5_readNumber (q := q) (i := i) (by first | assumption | omega) (by first | assumption | omega) (by first | assumption | omega) (by first | assumption | omega) (by first | assumption | omega) (by first | assumption | omega) (by first | assumption | omega) (by first | assumption | omega) (by first | assumption | omega) (by first | assumption | omega)) mv_X5_81 [0, 1] rfl rfl rfl 0 rfl rfl rfl rfl (Nat.le_of_ble_eq_true rfl) rfl ⟨(Nat.le_of_ble_eq_true rfl), (Nat.le_of_ble_eq_true rfl)⟩ ⟨(Nat.le_of_ble_eq_true rfl), (Nat.le_of_ble_eq_true rfl)⟩ rfl (fun _ => rfl) dX5_readBath_4 (fun u4 hu4 => ?_)
  obtain ⟨a4, m4, v4⟩ := u4
  dsimp only [putL, List.set_cons_zero, List.set_cons_succ, Option.toList, List.cons_append, List.nil_append] at hu4 ⊢
  refine M.istoren (pc := 7) 2 rfl (Nat.le_of_ble_eq_true rfl) rfl dX5_readBath_7 ?_
  dsimp only [List.set_cons_zero, List.set_cons_succ]
  refine M.aloadn (pc := 8) 0 rfl rfl dX5_readBath_8 ?_
  refine M.iconst (pc := 9) dX5_readBath_9 ?_
  refine M.bipush (pc := 10) (by decide +kernel) dX5_readBath_10 ?_
  refine M.mV (pc := 12) (c_X5_readNumber (q := (fl q (nF s 1 99 i) (nS s i))) (i := (nE s i)) (by first | assumption | omega) (by first | assumption | omega) (by first | assumption | omega) (by exact g1) (by exact hu4.2.1) (by exact hu4.2.2.1) (by omega) (by exact fun z => (hu4.1 z).1) (by first | assumption | omega) (by first | assumption | omega)) mv_X5_81 [0, 1] rfl rfl rfl 0 rfl rfl rfl rfl (Nat.le_of_ble_eq_true rfl) rfl ⟨(Nat.le_of_ble_eq_true rfl), (Nat.le_of_ble_eq_true rfl)⟩ ⟨(Nat.le_of_ble_eq_true rfl), (Nat.le_of_ble_eq_true rfl)⟩ rfl (fun _ => rfl) dX5_readBath_12 (fun u12 hu12 => ?_)
  obtain ⟨a12, m12, v12⟩ := u12
  dsimp only [putL, List.set_cons_zero, List.set_cons_succ, Option.toList, List.cons_append, List.nil_append] at hu12 ⊢
  refine M.istoren (pc := 15) 3 rfl (Nat.le_of_ble_eq_true rfl) rfl dX5_readBath_15 ?_
  dsimp only [List.set_cons_zero, List.set_cons_succ]
  refine M.aloadn (pc := 16) 0 rfl rfl dX5_readBath_16 ?_
  refine M.iconst (pc := 17) dX5_readBath_17 ?_
  refine M.sipush (pc := 18) (by decide +kernel) dX5_readBath_18 ?_
  refine M.mV (pc := 21) (c_X5_readNumber (q := (fl (fl q (nF s 1 99 i) (nS s i)) (nF s 1 99 (nE s i)) (nS s (nE s i)))) (i := (nE s (nE s i))) (by first | assumption | omega) (by first | assumption | omega) (by first | assumption | omega) (by exact g2) (by exact hu12.2.1) (by exact hu12.2.2.1) (by omega) (by exact fun z => (hu12.1 z).1) (by first | assumption | omega) (by first | assumption | omega)) mv_X5_81 [0, 1] rfl rfl rfl 0 rfl rfl rfl rfl (Nat.le_of_ble_eq_true rfl) rfl ⟨(Nat.le_of_ble_eq_true rfl), (Nat.le_of_ble_eq_true rfl)⟩ ⟨(Nat.le_of_ble_eq_true rfl), (Nat.le_of_ble_eq_true rfl)⟩ rfl (fun _ => rfl) dX5_readBath_21 (fun u21 hu21 => ?_)
  obtain ⟨a21, m21, v21⟩ := u21
  dsimp only [putL, List.set_cons_zero, List.set_cons_succ, Option.toList, List.cons_append, List.nil_append] at hu21 ⊢
  refine M.istore (pc := 24) (i := 4) (Nat.le_of_ble_eq_true rfl) rfl dX5_readBath_24 ?_
  dsimp only [List.set_cons_zero, List.set_cons_succ]
  refine M.aloadn (pc := 26) 0 rfl rfl dX5_readBath_26 ?_
  refine M.iconst (pc := 27) dX5_readBath_27 ?_
  refine M.bipush (pc := 28) (by decide +kernel) dX5_readBath_28 ?_
  refine M.mV (pc := 30) (c_X5_readNumber (q := (fl (fl (fl q (nF s 1 99 i) (nS s i)) (nF s 1 99 (nE s i)) (nS s (nE s i))) (nF s 0 9999 (nE s (nE s i))) (nS s (nE s (nE s i))))) (i := (nE s (nE s (nE s i)))) (by first | assumption | omega) (by first | assumption | omega) (by first | assumption | omega) (by exact g3) (by exact hu21.2.1) (by exact hu21.2.2.1) (by omega) (by exact fun z => (hu21.1 z).1) (by first | assumption | omega) (by first | assumption | omega)) mv_X5_81 [0, 1] rfl rfl rfl 0 rfl rfl rfl rfl (Nat.le_of_ble_eq_true rfl) rfl ⟨(Nat.le_of_ble_eq_true rfl), (Nat.le_of_ble_eq_true rfl)⟩ ⟨(Nat.le_of_ble_eq_true rfl), (Nat.le_of_ble_eq_true rfl)⟩ rfl (fun _ => rfl) dX5_readBath_30 (fun u30 hu30 => ?_)
  obtain ⟨a30, m30, v30⟩ := u30
  dsimp only [putL, List.set_cons_zero, List.set_cons_succ, Option.toList, List.cons_append, List.nil_append] at hu30 ⊢
  refine M.istore (pc := 33) (i := 5) (Nat.le_of_ble_eq_true rfl) rfl dX5_readBath_33 ?_
  dsimp only [List.set_cons_zero, List.set_cons_succ]
  refine M.aloadn (pc := 35) 0 rfl rfl dX5_readBath_35 ?_
  refine M.mV (pc := 36) (c_X5_readEnd (q := (fl (fl (fl (fl q (nF s 1 99 i) (nS s i)) (nF s 1 99 (nE s i)) (nS s (nE s i))) (nF s 0 9999 (nE s (nE s i))) (nS s (nE s (nE s i)))) (nF s 0 99 (nE s (nE s (nE s i)))) (nS s (nE s (nE s (nE s i)))))) (i := (nE s (nE s (nE s (nE s i))))) (by first | assumption | omega) (by first | assumption | omega) (by first | assumption | omega) (by exact g4) (by exact hu30.2.1) (by exact hu30.2.2.1) (by omega) (by exact fun z => (hu30.1 z).1)) mv_X5_85 [0, 1] rfl rfl rfl 0 rfl rfl rfl rfl (Nat.le_of_ble_eq_true rfl) rfl ⟨(Nat.le_of_ble_eq_true rfl), (Nat.le_of_ble_eq_true rfl)⟩ ⟨(Nat.le_of_ble_eq_true rfl), (Nat.le_of_ble_eq_true rfl)⟩ rfl (fun _ => rfl) dX5_readBath_36 (fun u36 hu36 => ?_)
  dsimp only [putL, List.set_cons_zero, List.set_cons_succ, Option.toList, List.cons_append, List.nil_append] at hu36 ⊢
  have hu36b : ((bthQ s q i).1 = 0 → u36 = aft s (nE s (nE s (nE s (nE s i))))) ∧ (0 ≤ u36 ∧ u36 ≤ 401) := hu36
  refine M.aloadn (pc := 39) 0 rfl rfl dX5_readBath_39 ?_
  change V 0 0 40 [(r, eO 5 [.ref aT, .int (iI L), .int (iI (bthQ s q i).1), .int (iI (bthQ s q i).2), .int (iI u36), .int (iI m30), .int (iI (pI (ot = true)))]), (aT, eB G 400 wT), (h, eO 3 [.ref hb, .ref ht, .int (iI nb), .int (iI n), .int (iI od)]), (hb, eI G 8 fb), (ht, eI G 24 ft)] _ _
  refine M.getf (pc := 40) fg_X5_27 0 rfl rfl dX5_readBath_40 ?_
  have L56 : ∀ {b2 : Int} {f2 : Int → Int}, ((((bthQ s q i).1 = 0 → u36 = aft s (nE s (nE s (nE s (nE s i)))) ∧ b2 = nb + 1 ∧ f2 = ad4 fb nb (nV s i) (nV s (nE s i)) (nV s (nE s (nE s i))) (nV s (nE s (nE s (nE s i))))) ∧ ((bthQ s q i).1 ≠ 0 → b2 = nb ∧ f2 = fb) ∧ (0 ≤ u36 ∧ u36 ≤ 401) ∧ (0 ≤ m30 ∧ m30 ≤ 401))) → V 0 0 56 [(r, eO 5 [.ref aT, .int (iI L), .int (iI (bthQ s q i).1), .int (iI (bthQ s q i).2), .int (iI u36), .int (iI m30), .int (iI (pI (ot = true)))]), (aT, eB G 400 wT), (h, eO 3 [.ref hb, .ref ht, .int (iI b2), .int (iI n), .int (iI od)]), (hb, eI G 8 f2), (ht, eI G 24 ft)] [some (.ref r), some (.ref h), none, none, none, none] [] := by
    intro b2 f2 hres
    exact EV (u36, m30, b2, f2) _ _ _ dX5_readBath_56 rfl (rfl) (rfl) (hres)
  refine M.if_ne (pc := 43) (tgt := 56) dX5_readBath_43 (by decide) (by omega) (fun c43 => ?_) (fun c43 => ?_)
  · refine M.forget 2 ?_
    dsimp only [List.set_cons_zero, List.set_cons_succ]
    refine M.forget 3 ?_
    dsimp only [List.set_cons_zero, List.set_cons_succ]
    refine M.forget 4 ?_
    dsimp only [List.set_cons_zero, List.set_cons_succ]
    refine M.forget 5 ?_
    dsimp only [List.set_cons_zero, List.set_cons_succ]
    exact L56  (by exact ⟨fun z => absurd z c43, fun _ => ⟨rfl, rfl⟩, hu36b.2, hu30.2.2.1⟩)
  · have hbq := bthQ_0 c43
    have hq4 := (edQ_0 c43).1
    have hq3 := (fl_0 hq4).1
    have hq2 := (fl_0 hq3).1
    have hq1 := (fl_0 hq2).1
    have w1 := (hu4.1 hq1).2.2
    have w2 := (hu12.1 hq2).2.2
    have w3 := (hu21.1 hq3).2.2
    have w4 := (hu30.1 hq4).2.2
    have hnb3 := hnb2 hbq.1
    refine M.aloadn (pc := 46) 1 rfl rfl dX5_readBath_46 ?_
    refine M.iloadn (pc := 47) 2 rfl rfl dX5_readBath_47 ?_
    refine M.iloadn (pc := 48) 3 rfl rfl dX5_readBath_48 ?_
    refine M.iload (pc := 49) (i := 4) rfl dX5_readBath_49 ?_
    refine M.iload (pc := 51) (i := 5) rfl dX5_readBath_51 ?_
    refine M.mV (pc := 53) (c_X3_addBath  (by omega)) mv_X5_88 [2, 3, 4] rfl rfl rfl 2 rfl rfl rfl rfl (Nat.le_of_ble_eq_true rfl) rfl ⟨(Nat.le_of_ble_eq_true rfl), (Nat.le_of_ble_eq_true rfl)⟩ ⟨(Nat.le_of_ble_eq_true rfl), (Nat.le_of_ble_eq_true rfl)⟩ rfl (fun _ => rfl) dX5_readBath_53 (fun u53 hu53 => ?_)
    dsimp only [putL, List.set_cons_zero, List.set_cons_succ, Option.toList, List.cons_append, List.nil_append] at hu53 ⊢
    refine M.forget 2 ?_
    dsimp only [List.set_cons_zero, List.set_cons_succ]
    refine M.forget 3 ?_
    dsimp only [List.set_cons_zero, List.set_cons_succ]
    refine M.forget 4 ?_
    dsimp only [List.set_cons_zero, List.set_cons_succ]
    refine M.forget 5 ?_
    dsimp only [List.set_cons_zero, List.set_cons_succ]
    exact L56  (by exact ⟨fun z => ⟨hu36b.1 z, rfl, by rw [w1, w2, w3, w4]⟩, fun z => absurd c43 z, hu36b.2, hu30.2.2.1⟩)
set_option maxHeartbeats 4000000 in
set_option maxRecDepth 100000 in
theorem c_X5_readBather {l : Launch} {G : GT} {r aT : Nat} {L a na : Int} {q : Int × Int} {ot : Bool} {wT s : Int → Int} {i : Int} {h hb ht : Nat} {fb ft : Int → Int} {nb n od : Int} (hT : TXT s L) (hsg : ∀ i, 0 ≤ i → i < L → s i = wT i % 256) (hwb : ∀ i, -128 ≤ wT i ∧ wT i < 128) (hq : FOK q) (ha : 0 ≤ a ∧ a ≤ 401) (hna : 0 ≤ na ∧ na ≤ 401) (hi : 0 ≤ i ∧ i ≤ L) (hai : q.1 = 0 → a = i) (hn : 0 ≤ n ∧ n ≤ 6) (hn2 : q.1 = 0 → n < 6) : Con l G yX5_readBather cX5_readBather 6 none { frames := 3, cells := 0, slots := 0, locals := 66 } [.ref r, .ref h] [(r, eO 5 [.ref aT, .int (iI L), .int (iI q.1), .int (iI q.2), .int (iI a), .int (iI na), .int (iI (pI (ot = true)))]), (aT, eB G 400 wT), (h, eO 3 [.ref hb, .ref ht, .int (iI nb), .int (iI n), .int (iI od)]), (hb, eI G 8 fb), (ht, eI G 24 ft)] (S := Int × Int × Int × (Int → Int)) (fun _ => none) (fun u => [(r, eO 5 [.ref aT, .int (iI L), .int (iI (brQ s q i).1), .int (iI (brQ s q i).2), .int (iI u.1), .int (iI u.2.1), .int (iI (pI (ot = true)))]), (aT, eB G 400 wT), (h, eO 3 [.ref hb, .ref ht, .int (iI nb), .int (iI u.2.2.1), .int (iI od)]), (hb, eI G 8 fb), (ht, eI G 24 u.2.2.2)]) (fun u => (((brQ s q i).1 = 0 → u.1 = aft s (nE s (nE s (nE s (nE s i)))) ∧ u.2.2.1 = n + 1 ∧ u.2.2.2 = ad4 ft n (nV s i) (nV s (nE s i)) (nV s (nE s (nE s i))) (nV s (nE s (nE s (nE s i))))) ∧ ((brQ s q i).1 ≠ 0 → u.2.2.1 = n ∧ u.2.2.2 = ft) ∧ (0 ≤ u.1 ∧ u.1 ≤ 401) ∧ (0 ≤ u.2.1 ∧ u.2.1 ≤ 401))) := by
  refine Con.mk (by decide +kernel) [some (.ref r), some (.ref h), none, none, none, none] rfl (Nat.le_of_ble_eq_true rfl) rfl ?_
  intro V M EI EL EV EA
  have hL := hT.1
  have hqb := hq.1
  have s1 := nS_ok hT hi.1 hi.2
  have e1 := nE_ok hT hi.1 hi.2
  have s2 := nS_ok (i := (nE s i)) hT (by omega) (by omega)
  have e2 := nE_ok (i := (nE s i)) hT (by omega) (by omega)
  have s3 := nS_ok (i := (nE s (nE s i))) hT (by omega) (by omega)
  have e3 := nE_ok (i := (nE s (nE s i))) hT (by omega) (by omega)
  have s4 := nS_ok (i := (nE s (nE s (nE s i)))) hT (by omega) (by omega)
  have e4 := nE_ok (i := (nE s (nE s (nE s i)))) hT (by omega) (by omega)
  have s5 := nS_ok (i := (nE s (nE s (nE s (nE s i))))) hT (by omega) (by omega)
  have g1 : FOK (fl q (nF s 1 999 i) (nS s i)) := fl_ok hq (by have := nF_b s 1 999 i; omega) (by omega)
  have g2 : FOK (fl (fl q (nF s 1 999 i) (nS s i)) (nF s 1 999 (nE s i)) (nS s (nE s i))) := fl_ok g1 (by have := nF_b s 1 999 (nE s i); omega) (by omega)
  have g3 : FOK (fl (fl (fl q (nF s 1 999 i) (nS s i)) (nF s 1 999 (nE s i)) (nS s (nE s i))) (if (nV s (nE s i)) < (nV s i) then 4 else 0) (nS s (nE s i))) := fl_ok g2 (by split <;> omega) (by omega)
  have g4 : FOK (fl (fl (fl (fl q (nF s 1 999 i) (nS s i)) (nF s 1 999 (nE s i)) (nS s (nE s i))) (if (nV s (nE s i)) < (nV s i) then 4 else 0) (nS s (nE s i))) (nF s 1 999 (nE s (nE s i))) (nS s (nE s (nE s i)))) := fl_ok g3 (by have := nF_b s 1 999 (nE s (nE s i)); omega) (by omega)
  have g5 : FOK (fl (fl (fl (fl (fl q (nF s 1 999 i) (nS s i)) (nF s 1 999 (nE s i)) (nS s (nE s i))) (if (nV s (nE s i)) < (nV s i) then 4 else 0) (nS s (nE s i))) (nF s 1 999 (nE s (nE s i))) (nS s (nE s (nE s i)))) (if (nV s (nE s (nE s i))) < (nV s i) ∨ (nV s (nE s i)) < (nV s (nE s (nE s i))) then 4 else 0) (nS s (nE s (nE s i)))) := fl_ok g4 (by split <;> omega) (by omega)
  have g6 : FOK (fl (fl (fl (fl (fl (fl q (nF s 1 999 i) (nS s i)) (nF s 1 999 (nE s i)) (nS s (nE s i))) (if (nV s (nE s i)) < (nV s i) then 4 else 0) (nS s (nE s i))) (nF s 1 999 (nE s (nE s i))) (nS s (nE s (nE s i)))) (if (nV s (nE s (nE s i))) < (nV s i) ∨ (nV s (nE s i)) < (nV s (nE s (nE s i))) then 4 else 0) (nS s (nE s (nE s i)))) (nF s 0 100 (nE s (nE s (nE s i)))) (nS s (nE s (nE s (nE s i))))) := fl_ok g5 (by have := nF_b s 0 100 (nE s (nE s (nE s i))); omega) (by omega)
  have g7 : FOK (brQ s q i) := fl_ok g6 (by split <;> omega) (by omega)
  have g7b := g7.1
  refine M.aloadn (pc := 0) 0 rfl rfl dX5_readBather_0 ?_
  refine M.iconst (pc := 1) dX5_readBather_1 ?_
  refine M.sipush (pc := 2) (by decide +kernel) dX5_readBather_2 ?_
  refine M.mV (pc := 5) (c_X5_readNumber (q := q) (i := i) (by first | assumption | omega) (by first | assumption | omega) (by first | assumption | omega) (by first | assumption | omega) (by first | assumption | omega) (by first | assumption | omega) (by first | assumption | omega) (by first | assumption | omega) (by first | assumption | omega) (by first | assumption | omega)) mv_X5_81 [0, 1] rfl rfl rfl 0 rfl rfl rfl rfl (Nat.le_of_ble_eq_true rfl) rfl ⟨(Nat.le_of_ble_eq_true rfl), (Nat.le_of_ble_eq_true rfl)⟩ ⟨(Nat.le_of_ble_eq_true rfl), (Nat.le_of_ble_eq_true rfl)⟩ rfl (fun _ => rfl) dX5_readBather_5 (fun u5 hu5 => ?_)
  obtain ⟨a5, m5, v5⟩ := u5
  dsimp only [putL, List.set_cons_zero, List.set_cons_succ, Option.toList, List.cons_append, List.nil_append] at hu5 ⊢
  refine M.istoren (pc := 8) 2 rfl (Nat.le_of_ble_eq_true rfl) rfl dX5_readBather_8 ?_
  dsimp only [List.set_cons_zero, List.set_cons_succ]
  refine M.aloadn (pc := 9) 0 rfl rfl dX5_readBather_9 ?_
  refine M.iconst (pc := 10) dX5_readBather_10 ?_
  refine M.sipush (pc := 11) (by decide +kernel) dX5_readBather_11 ?_
  refine M.mV (pc := 14) (c_X5_readNumber (q := (fl q (nF s 1 999 i) (nS s i))) (i := (nE s i)) (by first | assumption | omega) (by first | assumption | omega) (by first | assumption | omega) (by exact g1) (by exact hu5.2.1) (by exact hu5.2.2.1) (by omega) (by exact fun z => (hu5.1 z).1) (by first | assumption | omega) (by first | assumption | omega)) mv_X5_81 [0, 1] rfl rfl rfl 0 rfl rfl rfl rfl (Nat.le_of_ble_eq_true rfl) rfl ⟨(Nat.le_of_ble_eq_true rfl), (Nat.le_of_ble_eq_true rfl)⟩ ⟨(Nat.le_of_ble_eq_true rfl), (Nat.le_of_ble_eq_true rfl)⟩ rfl (fun _ => rfl) dX5_readBather_14 (fun u14 hu14 => ?_)
  obtain ⟨a14, m14, v14⟩ := u14
  dsimp only [putL, List.set_cons_zero, List.set_cons_succ, Option.toList, List.cons_append, List.nil_append] at hu14 ⊢
  refine M.istoren (pc := 17) 3 rfl (Nat.le_of_ble_eq_true rfl) rfl dX5_readBather_17 ?_
  dsimp only [List.set_cons_zero, List.set_cons_succ]
  have L29 : ∀ {z : Int}, ((z = 0 ∧ v5 ≤ v14) ∨ (z = 1 ∧ v14 < v5)) → V 0 0 29 [(r, eO 5 [.ref aT, .int (iI L), .int (iI ((fl (fl q (nF s 1 999 i) (nS s i)) (nF s 1 999 (nE s i)) (nS s (nE s i)))).1), .int (iI ((fl (fl q (nF s 1 999 i) (nS s i)) (nF s 1 999 (nE s i)) (nS s (nE s i)))).2), .int (iI a14), .int (iI m14), .int (iI (pI (ot = true)))]), (aT, eB G 400 wT), (h, eO 3 [.ref hb, .ref ht, .int (iI nb), .int (iI n), .int (iI od)]), (hb, eI G 8 fb), (ht, eI G 24 ft)] [some (.ref r), some (.ref h), some (.int (iI v5)), some (.int (iI v14)), none, none] [.int (iI z), .ref r] := by
    intro z hz
    refine M.iconst (pc := 29) dX5_readBather_29 ?_
    refine M.aloadn (pc := 30) 0 rfl rfl dX5_readBather_30 ?_
    refine M.getf (pc := 31) fg_X5_92 0 rfl rfl dX5_readBather_31 ?_
    refine M.mV (pc := 34) (c_X5_failIf (q := (fl (fl q (nF s 1 999 i) (nS s i)) (nF s 1 999 (nE s i)) (nS s (nE s i)))) (by exact g2) (by first | assumption | omega) (by omega)) mv_X5_61 [0] rfl rfl rfl 0 rfl rfl rfl rfl (Nat.le_of_ble_eq_true rfl) rfl ⟨(Nat.le_of_ble_eq_true rfl), (Nat.le_of_ble_eq_true rfl)⟩ ⟨(Nat.le_of_ble_eq_true rfl), (Nat.le_of_ble_eq_true rfl)⟩ rfl (fun _ => rfl) dX5_readBather_34 (fun u34 hu34 => ?_)
    dsimp only [putL, List.set_cons_zero, List.set_cons_succ, Option.toList, List.cons_append, List.nil_append] at hu34 ⊢
    have e3 : fl (fl (fl q (nF s 1 999 i) (nS s i)) (nF s 1 999 (nE s i)) (nS s (nE s i))) (if z = 0 then 0 else 4) m14 = (fl (fl (fl q (nF s 1 999 i) (nS s i)) (nF s 1 999 (nE s i)) (nS s (nE s i))) (if (nV s (nE s i)) < (nV s i) then 4 else 0) (nS s (nE s i))) := by
      by_cases w : ((fl (fl q (nF s 1 999 i) (nS s i)) (nF s 1 999 (nE s i)) (nS s (nE s i)))).1 = 0
      · have w1 := (hu5.1 (fl_0 w).1).2.2
        have w2 := hu14.1 w
        have ez : (if z = 0 then (0 : Int) else 4) = (if (nV s (nE s i)) < (nV s i) then 4 else 0) := by
          rcases hz with ⟨z1, z2⟩ | ⟨z1, z2⟩
          · rw [if_pos z1, if_neg (by omega)]
          · rw [if_neg (by omega), if_pos (by omega)]
        rw [w2.2.1, ez]
      · rw [fl_n w, fl_n w]
    rw [e3]
    refine M.aloadn (pc := 37) 0 rfl rfl dX5_readBather_37 ?_
    refine M.iconst (pc := 38) dX5_readBather_38 ?_
    refine M.sipush (pc := 39) (by decide +kernel) dX5_readBather_39 ?_
    refine M.mV (pc := 42) (c_X5_readNumber (q := (fl (fl (fl q (nF s 1 999 i) (nS s i)) (nF s 1 999 (nE s i)) (nS s (nE s i))) (if (nV s (nE s i)) < (nV s i) then 4 else 0) (nS s (nE s i)))) (i := (nE s (nE s i))) (by first | assumption | omega) (by first | assumption | omega) (by first | assumption | omega) (by exact g3) (by exact hu14.2.1) (by exact hu14.2.2.1) (by omega) (by exact fun z => (hu14.1 (fl_0 z).1).1) (by first | assumption | omega) (by first | assumption | omega)) mv_X5_81 [0, 1] rfl rfl rfl 0 rfl rfl rfl rfl (Nat.le_of_ble_eq_true rfl) rfl ⟨(Nat.le_of_ble_eq_true rfl), (Nat.le_of_ble_eq_true rfl)⟩ ⟨(Nat.le_of_ble_eq_true rfl), (Nat.le_of_ble_eq_true rfl)⟩ rfl (fun _ => rfl) dX5_readBather_42 (fun u42 hu42 => ?_)
    obtain ⟨a42, m42, v42⟩ := u42
    dsimp only [putL, List.set_cons_zero, List.set_cons_succ, Option.toList, List.cons_append, List.nil_append] at hu42 ⊢
    refine M.istore (pc := 45) (i := 4) (Nat.le_of_ble_eq_true rfl) rfl dX5_readBather_45 ?_
    dsimp only [List.set_cons_zero, List.set_cons_succ]
    have L65 : ∀ {y : Int}, ((y = 0 ∧ ¬ (v42 < v5 ∨ v14 < v42)) ∨ (y = 1 ∧ (v42 < v5 ∨ v14 < v42))) → V 0 0 65 [(r, eO 5 [.ref aT, .int (iI L), .int (iI ((fl (fl (fl (fl q (nF s 1 999 i) (nS s i)) (nF s 1 999 (nE s i)) (nS s (nE s i))) (if (nV s (nE s i)) < (nV s i) then 4 else 0) (nS s (nE s i))) (nF s 1 999 (nE s (nE s i))) (nS s (nE s (nE s i))))).1), .int (iI ((fl (fl (fl (fl q (nF s 1 999 i) (nS s i)) (nF s 1 999 (nE s i)) (nS s (nE s i))) (if (nV s (nE s i)) < (nV s i) then 4 else 0) (nS s (nE s i))) (nF s 1 999 (nE s (nE s i))) (nS s (nE s (nE s i))))).2), .int (iI a42), .int (iI m42), .int (iI (pI (ot = true)))]), (aT, eB G 400 wT), (h, eO 3 [.ref hb, .ref ht, .int (iI nb), .int (iI n), .int (iI od)]), (hb, eI G 8 fb), (ht, eI G 24 ft)] [some (.ref r), some (.ref h), some (.int (iI v5)), some (.int (iI v14)), some (.int (iI v42)), none] [.int (iI y), .ref r] := by
      intro y hy
      refine M.iconst (pc := 65) dX5_readBather_65 ?_
      refine M.aloadn (pc := 66) 0 rfl rfl dX5_readBather_66 ?_
      refine M.getf (pc := 67) fg_X5_92 0 rfl rfl dX5_readBather_67 ?_
      refine M.mV (pc := 70) (c_X5_failIf (q := (fl (fl (fl (fl q (nF s 1 999 i) (nS s i)) (nF s 1 999 (nE s i)) (nS s (nE s i))) (if (nV s (nE s i)) < (nV s i) then 4 else 0) (nS s (nE s i))) (nF s 1 999 (nE s (nE s i))) (nS s (nE s (nE s i))))) (by exact g4) (by first | assumption | omega) (by omega)) mv_X5_61 [0] rfl rfl rfl 0 rfl rfl rfl rfl (Nat.le_of_ble_eq_true rfl) rfl ⟨(Nat.le_of_ble_eq_true rfl), (Nat.le_of_ble_eq_true rfl)⟩ ⟨(Nat.le_of_ble_eq_true rfl), (Nat.le_of_ble_eq_true rfl)⟩ rfl (fun _ => rfl) dX5_readBather_70 (fun u70 hu70 => ?_)
      dsimp only [putL, List.set_cons_zero, List.set_cons_succ, Option.toList, List.cons_append, List.nil_append] at hu70 ⊢
      have e5 : fl (fl (fl (fl (fl q (nF s 1 999 i) (nS s i)) (nF s 1 999 (nE s i)) (nS s (nE s i))) (if (nV s (nE s i)) < (nV s i) then 4 else 0) (nS s (nE s i))) (nF s 1 999 (nE s (nE s i))) (nS s (nE s (nE s i)))) (if y = 0 then 0 else 4) m42 = (fl (fl (fl (fl (fl q (nF s 1 999 i) (nS s i)) (nF s 1 999 (nE s i)) (nS s (nE s i))) (if (nV s (nE s i)) < (nV s i) then 4 else 0) (nS s (nE s i))) (nF s 1 999 (nE s (nE s i))) (nS s (nE s (nE s i)))) (if (nV s (nE s (nE s i))) < (nV s i) ∨ (nV s (nE s i)) < (nV s (nE s (nE s i))) then 4 else 0) (nS s (nE s (nE s i)))) := by
        by_cases w : ((fl (fl (fl (fl q (nF s 1 999 i) (nS s i)) (nF s 1 999 (nE s i)) (nS s (nE s i))) (if (nV s (nE s i)) < (nV s i) then 4 else 0) (nS s (nE s i))) (nF s 1 999 (nE s (nE s i))) (nS s (nE s (nE s i))))).1 = 0
        · have w0 := (fl_0 (fl_0 w).1).1
          have w1 := (hu5.1 (fl_0 w0).1).2.2
          have w2 := hu14.1 w0
          have w3 := hu42.1 w
          have ey : (if y = 0 then (0 : Int) else 4) = (if (nV s (nE s (nE s i))) < (nV s i) ∨ (nV s (nE s i)) < (nV s (nE s (nE s i))) then 4 else 0) := by
            rcases hy with ⟨z1, z2⟩ | ⟨z1, z2⟩
            · rw [if_pos z1, if_neg (by omega)]
            · rw [if_neg (by omega), if_pos (by omega)]
          rw [w3.2.1, ey]
        · rw [fl_n w, fl_n w]
      rw [e5]
      refine M.aloadn (pc := 73) 0 rfl rfl dX5_readBather_73 ?_
      refine M.iconst (pc := 74) dX5_readBather_74 ?_
      refine M.bipush (pc := 75) (by decide +kernel) dX5_readBather_75 ?_
      refine M.mV (pc := 77) (c_X5_readNumber (q := (fl (fl (fl (fl (fl q (nF s 1 999 i) (nS s i)) (nF s 1 999 (nE s i)) (nS s (nE s i))) (if (nV s (nE s i)) < (nV s i) then 4 else 0) (nS s (nE s i))) (nF s 1 999 (nE s (nE s i))) (nS s (nE s (nE s i)))) (if (nV s (nE s (nE s i))) < (nV s i) ∨ (nV s (nE s i)) < (nV s (nE s (nE s i))) then 4 else 0) (nS s (nE s (nE s i))))) (i := (nE s (nE s (nE s i)))) (by first | assumption | omega) (by first | assumption | omega) (by first | assumption | omega) (by exact g5) (by exact hu42.2.1) (by exact hu42.2.2.1) (by omega) (by exact fun z => (hu42.1 (fl_0 z).1).1) (by first | assumption | omega) (by first | assumption | omega)) mv_X5_81 [0, 1] rfl rfl rfl 0 rfl rfl rfl rfl (Nat.le_of_ble_eq_true rfl) rfl ⟨(Nat.le_of_ble_eq_true rfl), (Nat.le_of_ble_eq_true rfl)⟩ ⟨(Nat.le_of_ble_eq_true rfl), (Nat.le_of_ble_eq_true rfl)⟩ rfl (fun _ => rfl) dX5_readBather_77 (fun u77 hu77 => ?_)
      obtain ⟨a77, m77, v77⟩ := u77
      dsimp only [putL, List.set_cons_zero, List.set_cons_succ, Option.toList, List.cons_append, List.nil_append] at hu77 ⊢
      refine M.istore (pc := 80) (i := 5) (Nat.le_of_ble_eq_true rfl) rfl dX5_readBather_80 ?_
      dsimp only [List.set_cons_zero, List.set_cons_succ]
      refine M.aloadn (pc := 82) 0 rfl rfl dX5_readBather_82 ?_
      refine M.mV (pc := 83) (c_X5_readEnd (q := (fl (fl (fl (fl (fl (fl q (nF s 1 999 i) (nS s i)) (nF s 1 999 (nE s i)) (nS s (nE s i))) (if (nV s (nE s i)) < (nV s i) then 4 else 0) (nS s (nE s i))) (nF s 1 999 (nE s (nE s i))) (nS s (nE s (nE s i)))) (if (nV s (nE s (nE s i))) < (nV s i) ∨ (nV s (nE s i)) < (nV s (nE s (nE s i))) then 4 else 0) (nS s (nE s (nE s i)))) (nF s 0 100 (nE s (nE s (nE s i)))) (nS s (nE s (nE s (nE s i)))))) (i := (nE s (nE s (nE s (nE s i))))) (by first | assumption | omega) (by first | assumption | omega) (by first | assumption | omega) (by exact g6) (by exact hu77.2.1) (by exact hu77.2.2.1) (by omega) (by exact fun z => (hu77.1 z).1)) mv_X5_85 [0, 1] rfl rfl rfl 0 rfl rfl rfl rfl (Nat.le_of_ble_eq_true rfl) rfl ⟨(Nat.le_of_ble_eq_true rfl), (Nat.le_of_ble_eq_true rfl)⟩ ⟨(Nat.le_of_ble_eq_true rfl), (Nat.le_of_ble_eq_true rfl)⟩ rfl (fun _ => rfl) dX5_readBather_83 (fun u83 hu83 => ?_)
      dsimp only [putL, List.set_cons_zero, List.set_cons_succ, Option.toList, List.cons_append, List.nil_append] at hu83 ⊢
      have hu83b : ((brQ s q i).1 = 0 → u83 = aft s (nE s (nE s (nE s (nE s i))))) ∧ (0 ≤ u83 ∧ u83 ≤ 401) := hu83
      refine M.aloadn (pc := 86) 0 rfl rfl dX5_readBather_86 ?_
      change V 0 0 87 [(r, eO 5 [.ref aT, .int (iI L), .int (iI (brQ s q i).1), .int (iI (brQ s q i).2), .int (iI u83), .int (iI m77), .int (iI (pI (ot = true)))]), (aT, eB G 400 wT), (h, eO 3 [.ref hb, .ref ht, .int (iI nb), .int (iI n), .int (iI od)]), (hb, eI G 8 fb), (ht, eI G 24 ft)] _ _
      refine M.getf (pc := 87) fg_X5_27 0 rfl rfl dX5_readBather_87 ?_
      have L103 : ∀ {b2 : Int} {f2 : Int → Int}, ((((brQ s q i).1 = 0 → u83 = aft s (nE s (nE s (nE s (nE s i)))) ∧ b2 = n + 1 ∧ f2 = ad4 ft n (nV s i) (nV s (nE s i)) (nV s (nE s (nE s i))) (nV s (nE s (nE s (nE s i))))) ∧ ((brQ s q i).1 ≠ 0 → b2 = n ∧ f2 = ft) ∧ (0 ≤ u83 ∧ u83 ≤ 401) ∧ (0 ≤ m77 ∧ m77 ≤ 401))) → V 0 0 103 [(r, eO 5 [.ref aT, .int (iI L), .int (iI (brQ s q i).1), .int (iI (brQ s q i).2), .int (iI u83), .int (iI m77), .int (iI (pI (ot = true)))]), (aT, eB G 400 wT), (h, eO 3 [.ref hb, .ref ht, .int (iI nb), .int (iI b2), .int (iI od)]), (hb, eI G 8 fb), (ht, eI G 24 f2)] [some (.ref r), some (.ref h), none, none, none, none] [] := by
        intro b2 f2 hres
        exact EV (u83, m77, b2, f2) _ _ _ dX5_readBather_103 rfl (rfl) (rfl) (hres)
      refine M.if_ne (pc := 90) (tgt := 103) dX5_readBather_90 (by decide) (by omega) (fun c90 => ?_) (fun c90 => ?_)
      · refine M.forget 2 ?_
        dsimp only [List.set_cons_zero, List.set_cons_succ]
        refine M.forget 3 ?_
        dsimp only [List.set_cons_zero, List.set_cons_succ]
        refine M.forget 4 ?_
        dsimp only [List.set_cons_zero, List.set_cons_succ]
        refine M.forget 5 ?_
        dsimp only [List.set_cons_zero, List.set_cons_succ]
        exact L103  (by exact ⟨fun z => absurd z c90, fun _ => ⟨rfl, rfl⟩, hu83b.2, hu77.2.2.1⟩)
      · have hbq := brQ_0 c90
        have hq6 := (edQ_0 c90).1
        have hq5 := (fl_0 hq6).1
        have hq4 := (fl_0 hq5).1
        have hq3 := (fl_0 hq4).1
        have hq2 := (fl_0 hq3).1
        have hq1 := (fl_0 hq2).1
        have w1 := (hu5.1 hq1).2.2
        have w2 := (hu14.1 hq2).2.2
        have w3 := (hu42.1 hq4).2.2
        have w4 := (hu77.1 hq6).2.2
        have hn3 := hn2 hbq.1
        refine M.aloadn (pc := 93) 1 rfl rfl dX5_readBather_93 ?_
        refine M.iloadn (pc := 94) 2 rfl rfl dX5_readBather_94 ?_
        refine M.iloadn (pc := 95) 3 rfl rfl dX5_readBather_95 ?_
        refine M.iload (pc := 96) (i := 4) rfl dX5_readBather_96 ?_
        refine M.iload (pc := 98) (i := 5) rfl dX5_readBather_98 ?_
        refine M.mV (pc := 100) (c_X3_addBather  (by omega)) mv_X5_95 [2, 3, 4] rfl rfl rfl 2 rfl rfl rfl rfl (Nat.le_of_ble_eq_true rfl) rfl ⟨(Nat.le_of_ble_eq_true rfl), (Nat.le_of_ble_eq_true rfl)⟩ ⟨(Nat.le_of_ble_eq_true rfl), (Nat.le_of_ble_eq_true rfl)⟩ rfl (fun _ => rfl) dX5_readBather_100 (fun u100 hu100 => ?_)
        dsimp only [putL, List.set_cons_zero, List.set_cons_succ, Option.toList, List.cons_append, List.nil_append] at hu100 ⊢
        refine M.forget 2 ?_
        dsimp only [List.set_cons_zero, List.set_cons_succ]
        refine M.forget 3 ?_
        dsimp only [List.set_cons_zero, List.set_cons_succ]
        refine M.forget 4 ?_
        dsimp only [List.set_cons_zero, List.set_cons_succ]
        refine M.forget 5 ?_
        dsimp only [List.set_cons_zero, List.set_cons_succ]
        exact L103  (by exact ⟨fun z => ⟨hu83b.1 z, rfl, by rw [w1, w2, w3, w4]⟩, fun z => absurd c90 z, hu83b.2, hu77.2.2.1⟩)
    refine M.aloadn (pc := 47) 0 rfl rfl dX5_readBather_47 ?_
    refine M.iload (pc := 48) (i := 4) rfl dX5_readBather_48 ?_
    refine M.iloadn (pc := 50) 2 rfl rfl dX5_readBather_50 ?_
    refine M.icmp_lt (pc := 51) (tgt := 60) dX5_readBather_51 (by decide) (by omega) (by omega) (fun c51 => ?_) (fun c51 => ?_)
    · refine M.iconst (pc := 60) dX5_readBather_60 ?_
      refine M.goto (pc := 61) (tgt := 65) dX5_readBather_61 (by decide) ?_
      exact L65  (by first | assumption | omega)
    · refine M.iload (pc := 54) (i := 4) rfl dX5_readBather_54 ?_
      refine M.iloadn (pc := 56) 3 rfl rfl dX5_readBather_56 ?_
      refine M.icmp_le (pc := 57) (tgt := 64) dX5_readBather_57 (by decide) (by omega) (by omega) (fun c57 => ?_) (fun c57 => ?_)
      · refine M.iconst (pc := 64) dX5_readBather_64 ?_
        exact L65  (by first | assumption | omega)
      · refine M.iconst (pc := 60) dX5_readBather_60 ?_
        refine M.goto (pc := 61) (tgt := 65) dX5_readBather_61 (by decide) ?_
        exact L65  (by first | assumption | omega)
  refine M.aloadn (pc := 18) 0 rfl rfl dX5_readBather_18 ?_
  refine M.iloadn (pc := 19) 3 rfl rfl dX5_readBather_19 ?_
  refine M.iloadn (pc := 20) 2 rfl rfl dX5_readBather_20 ?_
  refine M.icmp_ge (pc := 21) (tgt := 28) dX5_readBather_21 (by decide) (by omega) (by omega) (fun c21 => ?_) (fun c21 => ?_)
  · refine M.iconst (pc := 28) dX5_readBather_28 ?_
    exact L29  (by first | assumption | omega)
  · refine M.iconst (pc := 24) dX5_readBather_24 ?_
    refine M.goto (pc := 25) (tgt := 29) dX5_readBather_25 (by decide) ?_
    exact L29  (by first | assumption | omega)
set_option maxHeartbeats 4000000 in
set_option maxRecDepth 100000 in
theorem c_X5_readOdd {l : Launch} {G : GT} {r aT : Nat} {L a na : Int} {q : Int × Int} {ot : Bool} {wT s : Int → Int} {i : Int} {h hb ht : Nat} {nb n od : Int} (hT : TXT s L) (hsg : ∀ i, 0 ≤ i → i < L → s i = wT i % 256) (hwb : ∀ i, -128 ≤ wT i ∧ wT i < 128) (hq : FOK q) (ha : 0 ≤ a ∧ a ≤ 401) (hna : 0 ≤ na ∧ na ≤ 401) (hi : 0 ≤ i ∧ i ≤ L) (hai : q.1 = 0 → a = i) : Con l G yX5_readOdd cX5_readOdd 3 none { frames := 3, cells := 0, slots := 0, locals := 66 } [.ref r, .ref h] [(r, eO 5 [.ref aT, .int (iI L), .int (iI q.1), .int (iI q.2), .int (iI a), .int (iI na), .int (iI (pI (ot = true)))]), (aT, eB G 400 wT), (h, eO 3 [.ref hb, .ref ht, .int (iI nb), .int (iI n), .int (iI od)])] (S := Int × Int × Int × Bool) (fun _ => none) (fun u => [(r, eO 5 [.ref aT, .int (iI L), .int (iI (odQ s q i).1), .int (iI (odQ s q i).2), .int (iI u.1), .int (iI u.2.1), .int (iI (pI (u.2.2.2 = true)))]), (aT, eB G 400 wT), (h, eO 3 [.ref hb, .ref ht, .int (iI nb), .int (iI n), .int (iI u.2.2.1)])]) (fun u => (((odQ s q i).1 = 0 → u.1 = aft s (nE s i) ∧ u.2.2.1 = (nV s i) ∧ u.2.2.2 = true) ∧ ((odQ s q i).1 ≠ 0 → u.2.2.1 = od ∧ u.2.2.2 = ot) ∧ (0 ≤ u.1 ∧ u.1 ≤ 401) ∧ (0 ≤ u.2.1 ∧ u.2.1 ≤ 401))) := by
  refine Con.mk (by decide +kernel) [some (.ref r), some (.ref h), none] rfl (Nat.le_of_ble_eq_true rfl) rfl ?_
  intro V M EI EL EV EA
  have hL := hT.1
  have hqb := hq.1
  have s1 := nS_ok hT hi.1 hi.2
  have e1 := nE_ok hT hi.1 hi.2
  have s2 := nS_ok (i := (nE s i)) hT (by omega) (by omega)
  have e2 := nE_ok (i := (nE s i)) hT (by omega) (by omega)
  have s3 := nS_ok (i := (nE s (nE s i))) hT (by omega) (by omega)
  have e3 := nE_ok (i := (nE s (nE s i))) hT (by omega) (by omega)
  have s4 := nS_ok (i := (nE s (nE s (nE s i)))) hT (by omega) (by omega)
  have e4 := nE_ok (i := (nE s (nE s (nE s i)))) hT (by omega) (by omega)
  have s5 := nS_ok (i := (nE s (nE s (nE s (nE s i))))) hT (by omega) (by omega)
  have g1 : FOK (fl q (nF s 1 999 i) (nS s i)) := fl_ok hq (by have := nF_b s 1 999 i; omega) (by omega)
  have g2 : FOK (odQ s q i) := fl_ok g1 (by split <;> omega) (by omega)
  have g2b := g2.1
  refine M.aloadn (pc := 0) 0 rfl rfl dX5_readOdd_0 ?_
  refine M.iconst (pc := 1) dX5_readOdd_1 ?_
  refine M.sipush (pc := 2) (by decide +kernel) dX5_readOdd_2 ?_
  refine M.mV (pc := 5) (c_X5_readNumber (q := q) (i := i) (by first | assumption | omega) (by first | assumption | omega) (by first | assumption | omega) (by first | assumption | omega) (by first | assumption | omega) (by first | assumption | omega) (by first | assumption | omega) (by first | assumption | omega) (by first | assumption | omega) (by first | assumption | omega)) mv_X5_81 [0, 1] rfl rfl rfl 0 rfl rfl rfl rfl (Nat.le_of_ble_eq_true rfl) rfl ⟨(Nat.le_of_ble_eq_true rfl), (Nat.le_of_ble_eq_true rfl)⟩ ⟨(Nat.le_of_ble_eq_true rfl), (Nat.le_of_ble_eq_true rfl)⟩ rfl (fun _ => rfl) dX5_readOdd_5 (fun u5 hu5 => ?_)
  obtain ⟨a5, m5, v5⟩ := u5
  dsimp only [putL, List.set_cons_zero, List.set_cons_succ, Option.toList, List.cons_append, List.nil_append] at hu5 ⊢
  refine M.istoren (pc := 8) 2 rfl (Nat.le_of_ble_eq_true rfl) rfl dX5_readOdd_8 ?_
  dsimp only [List.set_cons_zero, List.set_cons_succ]
  refine M.aloadn (pc := 9) 0 rfl rfl dX5_readOdd_9 ?_
  refine M.mV (pc := 10) (c_X5_readEnd (q := (fl q (nF s 1 999 i) (nS s i))) (i := (nE s i)) (by first | assumption | omega) (by first | assumption | omega) (by first | assumption | omega) (by exact g1) (by exact hu5.2.1) (by exact hu5.2.2.1) (by omega) (by exact fun z => (hu5.1 z).1)) mv_X5_85 [0, 1] rfl rfl rfl 0 rfl rfl rfl rfl (Nat.le_of_ble_eq_true rfl) rfl ⟨(Nat.le_of_ble_eq_true rfl), (Nat.le_of_ble_eq_true rfl)⟩ ⟨(Nat.le_of_ble_eq_true rfl), (Nat.le_of_ble_eq_true rfl)⟩ rfl (fun _ => rfl) dX5_readOdd_10 (fun u10 hu10 => ?_)
  dsimp only [putL, List.set_cons_zero, List.set_cons_succ, Option.toList, List.cons_append, List.nil_append] at hu10 ⊢
  have hu10b : ((odQ s q i).1 = 0 → u10 = aft s (nE s i)) ∧ (0 ≤ u10 ∧ u10 ≤ 401) := hu10
  refine M.aloadn (pc := 13) 0 rfl rfl dX5_readOdd_13 ?_
  change V 0 0 14 [(r, eO 5 [.ref aT, .int (iI L), .int (iI (odQ s q i).1), .int (iI (odQ s q i).2), .int (iI u10), .int (iI m5), .int (iI (pI (ot = true)))]), (aT, eB G 400 wT), (h, eO 3 [.ref hb, .ref ht, .int (iI nb), .int (iI n), .int (iI od)])] _ _
  refine M.getf (pc := 14) fg_X5_27 0 rfl rfl dX5_readOdd_14 ?_
  have L30 : ∀ {o2 : Int} {t2 : Bool}, ((((odQ s q i).1 = 0 → u10 = aft s (nE s i) ∧ o2 = (nV s i) ∧ t2 = true) ∧ ((odQ s q i).1 ≠ 0 → o2 = od ∧ t2 = ot) ∧ (0 ≤ u10 ∧ u10 ≤ 401) ∧ (0 ≤ m5 ∧ m5 ≤ 401))) → V 0 0 30 [(r, eO 5 [.ref aT, .int (iI L), .int (iI (odQ s q i).1), .int (iI (odQ s q i).2), .int (iI u10), .int (iI m5), .int (iI (pI (t2 = true)))]), (aT, eB G 400 wT), (h, eO 3 [.ref hb, .ref ht, .int (iI nb), .int (iI n), .int (iI o2)])] [some (.ref r), some (.ref h), none] [] := by
    intro o2 t2 hres
    exact EV (u10, m5, o2, t2) _ _ _ dX5_readOdd_30 rfl (rfl) (rfl) (hres)
  refine M.if_ne (pc := 17) (tgt := 30) dX5_readOdd_17 (by decide) (by omega) (fun c17 => ?_) (fun c17 => ?_)
  · refine M.forget 2 ?_
    dsimp only [List.set_cons_zero, List.set_cons_succ]
    exact L30  (by exact ⟨fun z => absurd z c17, fun _ => ⟨rfl, rfl⟩, hu10b.2, hu5.2.2.1⟩)
  · have w1 := (hu5.1 (edQ_0 c17).1).2.2
    refine M.aloadn (pc := 20) 1 rfl rfl dX5_readOdd_20 ?_
    refine M.iloadn (pc := 21) 2 rfl rfl dX5_readOdd_21 ?_
    refine M.putf (pc := 22) fp_X5_98 2 rfl rfl rfl (Nat.le_of_ble_eq_true rfl) dX5_readOdd_22 ?_
    dsimp only [List.set_cons_zero, List.set_cons_succ]
    refine M.aloadn (pc := 25) 0 rfl rfl dX5_readOdd_25 ?_
    refine M.iconst (pc := 26) dX5_readOdd_26 ?_
    refine M.putfZ (pc := 27) (true) (by rfl) fp_X5_33 0 rfl (Nat.le_of_ble_eq_true rfl) dX5_readOdd_27 ?_
    dsimp only [List.set_cons_zero, List.set_cons_succ]
    refine M.forget 2 ?_
    dsimp only [List.set_cons_zero, List.set_cons_succ]
    exact L30  (by exact ⟨fun z => ⟨hu10b.1 z, w1, rfl⟩, fun z => absurd c17 z, hu10b.2, hu5.2.2.1⟩)
