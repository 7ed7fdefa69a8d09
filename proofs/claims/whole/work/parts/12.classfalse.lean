/-! the fewest that are false: the class's search -/
theorem nxt_i {x : Int} (h0 : 0 < x) (h1 : x < 4096) : (x < ((nxt x.toNat : Nat) : Int) ∧ ((nxt x.toNat : Nat) : Int) < 8192) ∧ cnt ((nxt x.toNat : Nat) : Int) = cnt x ∧ ∀ s, x < s → s < ((nxt x.toNat : Nat) : Int) → cnt s ≠ cnt x := by
  obtain ⟨a1, a2, a3, a4⟩ := nxt_ok (n := x.toNat) (by omega) (by omega)
  refine ⟨⟨by omega, by omega⟩, ?_, fun s g0 g1 => ?_⟩
  · unfold cnt
    rw [Int.toNat_natCast, a3]
  · have := a4 s.toNat (by omega) (by omega)
    unfold cnt
    omega
theorem nxt_eq {x : Int} (h0 : 0 < x) (h1 : x < 4096) : nxt x.toNat = (x + p2 (ctz x)).toNat ||| (((x + p2 (ctz x)).toNat ^^^ x.toNat) / 2 ^ (2 + ctz x).toNat) := by
  unfold nxt ctz p2
  rw [Int.toNat_natCast]
  have e1 : (x + ((2 ^ ctzN 13 x.toNat : Nat) : Int)).toNat = x.toNat + 2 ^ ctzN 13 x.toNat := by
    generalize 2 ^ ctzN 13 x.toNat = q
    omega
  have e2 : (2 + ((ctzN 13 x.toNat : Nat) : Int)).toNat = 2 + ctzN 13 x.toNat := by omega
  rw [e1, e2]
theorem p2_nn (k : Int) : 0 ≤ p2 k := Int.natCast_nonneg _
theorem low_cnt {k s : Int} (h0 : 0 ≤ s) (h1 : s < 4096) (h : cnt s = k) : p2 k - 1 ≤ s := by
  have := allB_p pop_least s.toNat (by omega)
  have h2 := Nat.le_of_ble_eq_true this
  unfold cnt at h
  unfold p2
  rw [show k.toNat = popc s.toNat by omega]
  omega
theorem cnt_p2 {k : Int} (h0 : 0 ≤ k) (h1 : k ≤ 12) : cnt (p2 k - 1) = k := by
  have h := pop_all k.toNat (by omega)
  unfold cnt p2
  rw [show (((2 ^ k.toNat : Nat) : Int) - 1).toNat = 2 ^ k.toNat - 1 by omega, h]
  omega
theorem cnt_0 {s : Int} (h0 : 0 ≤ s) (h1 : s < 8192) (h : cnt s = 0) : s = 0 := by
  have := allB_p pop_0 s.toNat (by omega)
  unfold cnt at h
  simp at this
  omega
theorem tb_all {c m : Int} (h0 : 0 ≤ c) (h2 : 0 ≤ m) (h3 : m < c) : tb (p2 c - 1) m = true := by
  have := tb_cmp (c := c) (wo := 0) (m := m) (by omega) (by unfold p2; have := Nat.pow_pos (n := c.toNat) (by decide : 0 < 2); generalize 2 ^ c.toNat = q at this ⊢; omega) h2 h3
  rw [Int.sub_zero, tb_0] at this
  exact this
theorem p2_mono {a b : Int} (h0 : 0 ≤ a) (h : a ≤ b) : p2 a ≤ p2 b := by
  unfold p2
  have := Nat.pow_le_pow_right (n := 2) (by omega) (by omega : a.toNat ≤ b.toNat)
  generalize 2 ^ a.toNat = x at this ⊢
  generalize 2 ^ b.toNat = y at this ⊢
  omega
/-- what the cores say -/
def CO (n c : Int) (U V Sm L Gm : Int → Int) (gc : Int → Int) (k : Int) : Prop := ∀ i, 0 ≤ i → i < k → (0 ≤ gc i ∧ gc i < p2 c) ∧ Cl n c U V Sm L Gm (gc i)
theorem CO.up {n c : Int} {U V Sm L Gm : Int → Int} {gc : Int → Int} {k x : Int} (h : CO n c U V Sm L Gm gc k) (hx : (0 ≤ x ∧ x < p2 c) ∧ Cl n c U V Sm L Gm x) : CO n c U V Sm L Gm (upZ gc k x) (k + 1) := by
  intro i h0 h1
  by_cases e : i = k
  · subst e; rw [upZ_s]; exact hx
  · rw [upZ_n e]; exact h i h0 (by omega)
set_option maxHeartbeats 4000000 in
set_option maxRecDepth 100000 in
theorem c_X2_nextOfLikeCount {l : Launch} {G : GT} {x y : Int} (hx : 0 ≤ x ∧ x < 4096) (hy : 0 ≤ y ∧ y < 4096) : ConF l G yX2_nextOfLikeCount cX2_nextOfLikeCount 4 (some .int) { frames := 1, cells := 0, slots := 0, locals := 21 } [.int (iI x), .int (iI y)] [] (some (.int (iI (if x = 0 then y + 1 else ((nxt x.toNat : Nat) : Int))))) := by
  refine Con.mk (by decide +kernel) [some (.int (iI x)), some (.int (iI y)), none, none] rfl (Nat.le_of_ble_eq_true rfl) rfl ?_
  intro V M EI EL EV EA
  refine M.iloadn (pc := 0) 0 rfl rfl dX2_nextOfLikeCount_0 ?_
  refine M.if_ne (pc := 1) (tgt := 8) dX2_nextOfLikeCount_1 (by decide) (by omega) (fun c1 => ?_) (fun c1 => ?_)
  · have hpb := p2_12 (ntz_mask (by omega : 0 < x) (by omega)).2.2
    obtain ⟨hl1, hl2⟩ := low_ok (by omega : 0 < x) (by omega)
    have hct := (ntz_mask (by omega : 0 < x) (by omega)).2
    refine M.iloadn (pc := 8) 0 rfl rfl dX2_nextOfLikeCount_8 ?_
    refine M.iloadn (pc := 9) 0 rfl rfl dX2_nextOfLikeCount_9 ?_
    refine M.ineg (pc := 10) dX2_nextOfLikeCount_10 ?_
    refine M.iand (pc := 11) (hl1) dX2_nextOfLikeCount_11 ?_
    refine M.istoren (pc := 12) 2 rfl (Nat.le_of_ble_eq_true rfl) rfl dX2_nextOfLikeCount_12 ?_
    dsimp only [List.set_cons_zero, List.set_cons_succ]
    refine M.iloadn (pc := 13) 0 rfl rfl dX2_nextOfLikeCount_13 ?_
    refine M.iloadn (pc := 14) 2 rfl rfl dX2_nextOfLikeCount_14 ?_
    refine M.iadd (pc := 15) dX2_nextOfLikeCount_15 ?_
    refine M.istoren (pc := 16) 3 rfl (Nat.le_of_ble_eq_true rfl) rfl dX2_nextOfLikeCount_16 ?_
    dsimp only [List.set_cons_zero, List.set_cons_succ]
    refine M.iloadn (pc := 17) 3 rfl rfl dX2_nextOfLikeCount_17 ?_
    refine M.iloadn (pc := 18) 3 rfl rfl dX2_nextOfLikeCount_18 ?_
    refine M.iloadn (pc := 19) 0 rfl rfl dX2_nextOfLikeCount_19 ?_
    refine M.ixor (pc := 20) ((by have e := nI_xor (x + p2 (ctz x)).toNat x.toNat; rw [← iI_nat, ← iI_nat, ← iI_nat, Int.toNat_of_nonneg (by omega), Int.toNat_of_nonneg (by omega)] at e; exact e)) dX2_nextOfLikeCount_20 ?_
    refine M.iconst (pc := 21) dX2_nextOfLikeCount_21 ?_
    refine M.iloadn (pc := 22) 2 rfl rfl dX2_nextOfLikeCount_22 ?_
    refine M.pS (pc := 23) (c_J6_numberOfTrailingZeros_0f7a4  (by omega)) ms_X2_62 [] rfl rfl rfl rfl (Nat.le_of_ble_eq_true rfl) rfl ⟨(Nat.le_of_ble_eq_true rfl), (Nat.le_of_ble_eq_true rfl)⟩ ⟨(Nat.le_of_ble_eq_true rfl), (Nat.le_of_ble_eq_true rfl)⟩ rfl dX2_nextOfLikeCount_23 ?_
    rw [hl2]
    refine M.iadd (pc := 26) dX2_nextOfLikeCount_26 ?_
    refine M.iushr (pc := 27) (bit_ushr (by omega) (by have hb : (x + p2 (ctz x)).toNat ^^^ x.toNat < 2 ^ 13 := Nat.xor_lt_two_pow (by omega) (by omega); omega) (by omega) (by omega)) dX2_nextOfLikeCount_27 ?_
    refine M.ior (pc := 28) ((by rw [Int.toNat_natCast]; have e := nI_or (x + p2 (ctz x)).toNat (((x + p2 (ctz x)).toNat ^^^ x.toNat) / 2 ^ (2 + ctz x).toNat); rw [← nxt_eq (by omega) (by omega), ← iI_nat, ← iI_nat, ← iI_nat, Int.toNat_of_nonneg (by omega)] at e; exact e)) dX2_nextOfLikeCount_28 ?_
    exact EI () _ _ _ _ dX2_nextOfLikeCount_29 (Or.inl rfl) (eqI (by exact if_neg c1)) rfl trivial
  · refine M.iloadn (pc := 4) 1 rfl rfl dX2_nextOfLikeCount_4 ?_
    refine M.iconst (pc := 5) dX2_nextOfLikeCount_5 ?_
    refine M.iadd (pc := 6) dX2_nextOfLikeCount_6 ?_
    exact EI () _ _ _ _ dX2_nextOfLikeCount_7 (Or.inl rfl) (eqI (by exact if_pos c1)) rfl trivial
set_option maxHeartbeats 4000000 in
set_option maxRecDepth 100000 in
theorem c_X2_coreOf {l : Launch} {G : GT} {f fcr : Nat} {fcc ffo : Int} {ffd : Bool} {gc : Int → Int} {e eLo eUp eSe eLe eGr : Nat} {gl gu gs gL gG : Int → Int} {ecl : Bool} {h hb ht : Nat} {fb ft : Int → Int} {nb n od : Int} {c : Int} {Sm L Gm : Int → Int} {T : Int} (hT : HT ft) (hn : 0 ≤ n ∧ n ≤ 6) (hc : 0 ≤ c ∧ c ≤ 12) (hU : ∀ k, 0 ≤ k → k < n → ft (k * 4 + 0) ≤ ft (k * 4 + 1)) (hd : DA n c Sm L Gm gs gL gG) (hTT : 0 ≤ T ∧ T < p2 c) (hCl : Cl n c (fU ft) (fV ft) Sm L Gm T) : Con l G yX2_coreOf cX2_coreOf 5 (some .int) { frames := 3, cells := 0, slots := 0, locals := 77 } [.ref f, .ref h, .int (iI T)] [(f, eO 2 [.ref e, .ref fcr, .int (iI fcc), .int (iI (pI (ffd = true))), .int (iI ffo)]), (e, eO 1 [.ref eLo, .ref eUp, .ref eSe, .ref eLe, .ref eGr, .int (iI (pI (ecl = true)))]), (eLo, eI G 6 gl), (eUp, eI G 6 gu), (eSe, eI G 12 gs), (eLe, eI G 12 gL), (eGr, eI G 12 gG), (fcr, eI G 924 gc), (h, eO 3 [.ref hb, .ref ht, .int (iI nb), .int (iI n), .int (iI od)]), (hb, eI G 8 fb), (ht, eI G 24 ft)] (S := Int × (Int → Int) × (Int → Int)) (fun u => some (.int (iI u.1))) (fun u => [(f, eO 2 [.ref e, .ref fcr, .int (iI fcc), .int (iI (pI (ffd = true))), .int (iI ffo)]), (e, eO 1 [.ref eLo, .ref eUp, .ref eSe, .ref eLe, .ref eGr, .int (iI (pI (ecl = true)))]), (eLo, eI G 6 u.2.1), (eUp, eI G 6 u.2.2), (eSe, eI G 12 gs), (eLe, eI G 12 gL), (eGr, eI G 12 gG), (fcr, eI G 924 gc), (h, eO 3 [.ref hb, .ref ht, .int (iI nb), .int (iI n), .int (iI od)]), (hb, eI G 8 fb), (ht, eI G 24 ft)]) (fun u => (0 ≤ u.1 ∧ u.1 < p2 c) ∧ Cl n c (fU ft) (fV ft) Sm L Gm u.1) := by
  refine Con.mk (by decide +kernel) [some (.ref f), some (.ref h), some (.int (iI T)), none, none] rfl (Nat.le_of_ble_eq_true rfl) rfl ?_
  intro V M EI EL EV EA
  have hp12 := p2_12 hc.2
  refine M.iloadn (pc := 0) 2 rfl rfl dX2_coreOf_0 ?_
  refine M.istoren (pc := 1) 3 rfl (Nat.le_of_ble_eq_true rfl) rfl dX2_coreOf_1 ?_
  dsimp only [List.set_cons_zero, List.set_cons_succ]
  refine M.iconst (pc := 2) dX2_coreOf_2 ?_
  refine M.istore (pc := 3) (i := 4) (Nat.le_of_ble_eq_true rfl) rfl dX2_coreOf_3 ?_
  dsimp only [List.set_cons_zero, List.set_cons_succ]
  have L5 : ∀ (fu : Nat) {k x : Int} {l u : Int → Int}, (0 ≤ k ∧ k ≤ 12) → (0 ≤ x ∧ x < p2 c) → (Cl n c (fU ft) (fV ft) Sm L Gm x) → (12 - k).toNat < fu → V 0 0 5 [(f, eO 2 [.ref e, .ref fcr, .int (iI fcc), .int (iI (pI (ffd = true))), .int (iI ffo)]), (e, eO 1 [.ref eLo, .ref eUp, .ref eSe, .ref eLe, .ref eGr, .int (iI (pI (ecl = true)))]), (eLo, eI G 6 l), (eUp, eI G 6 u), (eSe, eI G 12 gs), (eLe, eI G 12 gL), (eGr, eI G 12 gG), (fcr, eI G 924 gc), (h, eO 3 [.ref hb, .ref ht, .int (iI nb), .int (iI n), .int (iI od)]), (hb, eI G 8 fb), (ht, eI G 24 ft)] [some (.ref f), some (.ref h), some (.int (iI T)), some (.int (iI x)), some (.int (iI k))] [] := by
    intro fu
    induction fu with
    | zero => intro k x l u hk hx hxc hm; exact absurd hm (Nat.not_lt_zero _)
    | succ fu ih5 =>
      intro k x l u hk hx hxc hm5
      refine M.iload (pc := 5) (i := 4) rfl dX2_coreOf_5 ?_
      refine M.bipush (pc := 7) (by decide +kernel) dX2_coreOf_7 ?_
      refine M.icmp_ge (pc := 9) (tgt := 55) dX2_coreOf_9 (by decide) (by omega) (by omega) (fun c9 => ?_) (fun c9 => ?_)
      · refine M.iloadn (pc := 55) 3 rfl rfl dX2_coreOf_55 ?_
        exact EI (_, _, _) _ _ _ _ dX2_coreOf_56 (Or.inl rfl) (rfl) (rfl) (⟨hx, hxc⟩)
      · have L49 : ∀ {x2 : Int} {l2 u2 : Int → Int}, (0 ≤ x2 ∧ x2 < p2 c) → (Cl n c (fU ft) (fV ft) Sm L Gm x2) → V 0 0 49 [(f, eO 2 [.ref e, .ref fcr, .int (iI fcc), .int (iI (pI (ffd = true))), .int (iI ffo)]), (e, eO 1 [.ref eLo, .ref eUp, .ref eSe, .ref eLe, .ref eGr, .int (iI (pI (ecl = true)))]), (eLo, eI G 6 l2), (eUp, eI G 6 u2), (eSe, eI G 12 gs), (eLe, eI G 12 gL), (eGr, eI G 12 gG), (fcr, eI G 924 gc), (h, eO 3 [.ref hb, .ref ht, .int (iI nb), .int (iI n), .int (iI od)]), (hb, eI G 8 fb), (ht, eI G 24 ft)] [some (.ref f), some (.ref h), some (.int (iI T)), some (.int (iI x2)), some (.int (iI k))] [] := by
          intro x2 l2 u2 hx2 hxc2
          refine M.iinc (pc := 49) (i := 4) rfl rfl dX2_coreOf_49 ?_
          dsimp only [List.set_cons_zero, List.set_cons_succ]
          refine M.goto (pc := 52) (tgt := 5) dX2_coreOf_52 (by decide) ?_
          exact ih5  (by first | assumption | omega) (by first | assumption | omega) (by first | assumption | omega) (by omega)
        have hpk := p2_nn k
        have han := andn_b (b := p2 k) hx.1
        refine M.iloadn (pc := 12) 3 rfl rfl dX2_coreOf_12 ?_
        refine M.iload (pc := 13) (i := 4) rfl dX2_coreOf_13 ?_
        refine M.pSN (pc := 15) (c_X7_has  (by first | assumption | omega) (by first | assumption | omega) (by first | assumption | omega) (by first | assumption | omega)) ms_X2_58 [] rfl rfl rfl rfl (Nat.le_of_ble_eq_true rfl) rfl ⟨(Nat.le_of_ble_eq_true rfl), (Nat.le_of_ble_eq_true rfl)⟩ ⟨(Nat.le_of_ble_eq_true rfl), (Nat.le_of_ble_eq_true rfl)⟩ rfl dX2_coreOf_15 ?_
        refine M.if_eqP (pc := 18) (tgt := 49) dX2_coreOf_18 (by decide) (fun c18 => ?_) (fun c18 => ?_)
        · exact L49  (by first | assumption | omega) (by first | assumption | omega)
        · refine M.aloadn (pc := 21) 0 rfl rfl dX2_coreOf_21 ?_
          refine M.getf (pc := 22) fg_X2_12 0 rfl rfl dX2_coreOf_22 ?_
          refine M.aloadn (pc := 25) 1 rfl rfl dX2_coreOf_25 ?_
          refine M.iloadn (pc := 26) 3 rfl rfl dX2_coreOf_26 ?_
          refine M.iconst (pc := 27) dX2_coreOf_27 ?_
          refine M.iload (pc := 28) (i := 4) rfl dX2_coreOf_28 ?_
          refine M.ishl (pc := 30) (bit_shl1 hk.1 (by omega)) dX2_coreOf_30 ?_
          refine M.iconst (pc := 31) dX2_coreOf_31 ?_
          refine M.ixor (pc := 32) (iI_of _) dX2_coreOf_32 ?_
          refine M.iand (pc := 33) (andn_ok hx.1 hpk) dX2_coreOf_33 ?_
          refine M.mV (pc := 34) (c_X1_stands (n := n) (c := c) (Sm := Sm) (L := L) (Gm := Gm) (by first | assumption | omega) (by first | assumption | omega) (by first | assumption | omega) (by first | assumption | omega) (by first | assumption | omega) (by omega)) mv_X2_50 [1, 2, 3, 4, 5, 6, 8, 9, 10] rfl rfl rfl 1 rfl rfl rfl rfl (Nat.le_of_ble_eq_true rfl) rfl ⟨(Nat.le_of_ble_eq_true rfl), (Nat.le_of_ble_eq_true rfl)⟩ ⟨(Nat.le_of_ble_eq_true rfl), (Nat.le_of_ble_eq_true rfl)⟩ rfl (fun _ => rfl) dX2_coreOf_34 (fun u34 hu34 => ?_)
          obtain ⟨t34, l34, h34⟩ := u34
          dsimp only [putL, List.set_cons_zero, List.set_cons_succ, Option.toList, List.cons_append, List.nil_append] at hu34 ⊢
          refine M.if_neP (pc := 37) (tgt := 49) dX2_coreOf_37 (by decide) (fun c37 => ?_) (fun c37 => ?_)
          · exact L49  (by first | assumption | omega) (by first | assumption | omega)
          · refine M.iloadn (pc := 40) 3 rfl rfl dX2_coreOf_40 ?_
            refine M.iconst (pc := 41) dX2_coreOf_41 ?_
            refine M.iload (pc := 42) (i := 4) rfl dX2_coreOf_42 ?_
            refine M.ishl (pc := 44) (bit_shl1 hk.1 (by omega)) dX2_coreOf_44 ?_
            refine M.iconst (pc := 45) dX2_coreOf_45 ?_
            refine M.ixor (pc := 46) (iI_of _) dX2_coreOf_46 ?_
            refine M.iand (pc := 47) (andn_ok hx.1 hpk) dX2_coreOf_47 ?_
            refine M.istoren (pc := 48) 3 rfl (Nat.le_of_ble_eq_true rfl) rfl dX2_coreOf_48 ?_
            dsimp only [List.set_cons_zero, List.set_cons_succ]
            exact L49  (by first | assumption | omega) (by exact hu34.2.elim (fun z => z.2) (fun z => absurd z.1 c37))
  exact L5 _  (by first | assumption | omega) (by first | assumption | omega) (by first | assumption | omega) (Nat.lt_succ_self _)
set_option maxHeartbeats 4000000 in
set_option maxRecDepth 100000 in
theorem c_X2_isFree {l : Launch} {G : GT} {f fcr : Nat} {fcc ffo : Int} {ffd : Bool} {gc : Int → Int} {e eLo eUp eSe eLe eGr : Nat} {gl gu gs gL gG : Int → Int} {ecl : Bool} {h hb ht : Nat} {fb ft : Int → Int} {nb n od : Int} {c : Int} {Sm L Gm : Int → Int} {x : Int} (hT : HT ft) (hn : 0 ≤ n ∧ n ≤ 6) (hc : 0 ≤ c ∧ c ≤ 12) (hU : ∀ k, 0 ≤ k → k < n → ft (k * 4 + 0) ≤ ft (k * 4 + 1)) (hd : DA n c Sm L Gm gs gL gG) (hx : 0 ≤ x ∧ x < p2 c) (hcc : 0 ≤ fcc ∧ fcc ≤ 924) (hCO : CO n c (fU ft) (fV ft) Sm L Gm gc fcc) : Con l G yX2_isFree cX2_isFree 5 (some .boolean) { frames := 4, cells := 0, slots := 0, locals := 101 } [.ref f, .ref h, .int (iI x), .int (iI (p2 c - 1))] [(f, eO 2 [.ref e, .ref fcr, .int (iI fcc), .int (iI (pI (ffd = true))), .int (iI ffo)]), (e, eO 1 [.ref eLo, .ref eUp, .ref eSe, .ref eLe, .ref eGr, .int (iI (pI (ecl = true)))]), (eLo, eI G 6 gl), (eUp, eI G 6 gu), (eSe, eI G 12 gs), (eLe, eI G 12 gL), (eGr, eI G 12 gG), (fcr, eI G 924 gc), (h, eO 3 [.ref hb, .ref ht, .int (iI nb), .int (iI n), .int (iI od)]), (hb, eI G 8 fb), (ht, eI G 24 ft)] (S := Bool × Int × (Int → Int) × (Int → Int) × (Int → Int)) (fun u => some (.int (iI (pI (u.1 = true))))) (fun u => [(f, eO 2 [.ref e, .ref fcr, .int (iI u.2.1), .int (iI (pI (ffd = true))), .int (iI ffo)]), (e, eO 1 [.ref eLo, .ref eUp, .ref eSe, .ref eLe, .ref eGr, .int (iI (pI (ecl = true)))]), (eLo, eI G 6 u.2.2.2.1), (eUp, eI G 6 u.2.2.2.2), (eSe, eI G 12 gs), (eLe, eI G 12 gL), (eGr, eI G 12 gG), (fcr, eI G 924 u.2.2.1), (h, eO 3 [.ref hb, .ref ht, .int (iI nb), .int (iI n), .int (iI od)]), (hb, eI G 8 fb), (ht, eI G 24 ft)]) (fun u => ((u.1 = true ∧ ¬ Cl n c (fU ft) (fV ft) Sm L Gm (p2 c - 1 - x)) ∨ (u.1 = false ∧ Cl n c (fU ft) (fV ft) Sm L Gm (p2 c - 1 - x))) ∧ (0 ≤ u.2.1 ∧ u.2.1 ≤ 924) ∧ CO n c (fU ft) (fV ft) Sm L Gm u.2.2.1 u.2.1) := by
  refine Con.mk (by decide +kernel) [some (.ref f), some (.ref h), some (.int (iI x)), some (.int (iI (p2 c - 1))), none] rfl (Nat.le_of_ble_eq_true rfl) rfl ?_
  intro V M EI EL EV EA
  have hp12 := p2_12 hc.2
  have han := andn_b (a := p2 c - 1) (b := x) (by omega)
  have hcl : Cl n c (fU ft) (fV ft) Sm L Gm (andn (p2 c - 1) x) ↔ Cl n c (fU ft) (fV ft) Sm L Gm (p2 c - 1 - x) := Cl.congr (fun m h0 h1 => by rw [tb_andn, tb_all hc.1 h0 h1, tb_cmp hx.1 hx.2 h0 h1]; simp)
  refine M.iconst (pc := 0) dX2_isFree_0 ?_
  refine M.istore (pc := 1) (i := 4) (Nat.le_of_ble_eq_true rfl) rfl dX2_isFree_1 ?_
  dsimp only [List.set_cons_zero, List.set_cons_succ]
  have L3 : ∀ (fu : Nat) {i : Int}, (0 ≤ i ∧ i ≤ 924) → (1000 - i).toNat < fu → V 0 0 3 [(f, eO 2 [.ref e, .ref fcr, .int (iI fcc), .int (iI (pI (ffd = true))), .int (iI ffo)]), (e, eO 1 [.ref eLo, .ref eUp, .ref eSe, .ref eLe, .ref eGr, .int (iI (pI (ecl = true)))]), (eLo, eI G 6 gl), (eUp, eI G 6 gu), (eSe, eI G 12 gs), (eLe, eI G 12 gL), (eGr, eI G 12 gG), (fcr, eI G 924 gc), (h, eO 3 [.ref hb, .ref ht, .int (iI nb), .int (iI n), .int (iI od)]), (hb, eI G 8 fb), (ht, eI G 24 ft)] [some (.ref f), some (.ref h), some (.int (iI x)), some (.int (iI (p2 c - 1))), some (.int (iI i))] [] := by
    intro fu
    induction fu with
    | zero => intro i hi hm; exact absurd hm (Nat.not_lt_zero _)
    | succ fu ih3 =>
      intro i hi hm3
      refine M.iload (pc := 3) (i := 4) rfl dX2_isFree_3 ?_
      refine M.aloadn (pc := 5) 0 rfl rfl dX2_isFree_5 ?_
      refine M.getf (pc := 6) fg_X2_34 0 rfl rfl dX2_isFree_6 ?_
      refine M.icmp_ge (pc := 9) (tgt := 42) dX2_isFree_9 (by decide) (by omega) (by omega) (fun c9 => ?_) (fun c9 => ?_)
      · refine M.aloadn (pc := 42) 0 rfl rfl dX2_isFree_42 ?_
        refine M.getf (pc := 43) fg_X2_12 0 rfl rfl dX2_isFree_43 ?_
        refine M.aloadn (pc := 46) 1 rfl rfl dX2_isFree_46 ?_
        refine M.iloadn (pc := 47) 3 rfl rfl dX2_isFree_47 ?_
        refine M.iloadn (pc := 48) 2 rfl rfl dX2_isFree_48 ?_
        refine M.iconst (pc := 49) dX2_isFree_49 ?_
        refine M.ixor (pc := 50) (iI_of _) dX2_isFree_50 ?_
        refine M.iand (pc := 51) (andn_ok (by omega) hx.1) dX2_isFree_51 ?_
        refine M.mV (pc := 52) (c_X1_stands (n := n) (c := c) (Sm := Sm) (L := L) (Gm := Gm) (by first | assumption | omega) (by first | assumption | omega) (by first | assumption | omega) (by first | assumption | omega) (by first | assumption | omega) (by omega)) mv_X2_50 [1, 2, 3, 4, 5, 6, 8, 9, 10] rfl rfl rfl 1 rfl rfl rfl rfl (Nat.le_of_ble_eq_true rfl) rfl ⟨(Nat.le_of_ble_eq_true rfl), (Nat.le_of_ble_eq_true rfl)⟩ ⟨(Nat.le_of_ble_eq_true rfl), (Nat.le_of_ble_eq_true rfl)⟩ rfl (fun _ => rfl) dX2_isFree_52 (fun u52 hu52 => ?_)
        obtain ⟨t52, l52, h52⟩ := u52
        dsimp only [putL, List.set_cons_zero, List.set_cons_succ, Option.toList, List.cons_append, List.nil_append] at hu52 ⊢
        refine M.if_eqP (pc := 55) (tgt := 60) dX2_isFree_55 (by decide) (fun c55 => ?_) (fun c55 => ?_)
        · refine M.aloadn (pc := 60) 0 rfl rfl dX2_isFree_60 ?_
          refine M.getf (pc := 61) fg_X2_34 0 rfl rfl dX2_isFree_61 ?_
          refine M.aloadn (pc := 64) 0 rfl rfl dX2_isFree_64 ?_
          refine M.getf (pc := 65) fg_X2_18 0 rfl rfl dX2_isFree_65 ?_
          refine M.alenI (pc := 68) 7 rfl dX2_isFree_68 ?_
          refine M.icmp_ge (pc := 69) (tgt := 101) dX2_isFree_69 (by decide) (by omega) (by omega) (fun c69 => ?_) (fun c69 => ?_)
          · refine M.iconst (pc := 101) dX2_isFree_101 ?_
            exact EI (false, _, _, _, _) _ _ _ _ dX2_isFree_102 (Or.inr ⟨rfl, by first | exact Or.inl rfl | exact Or.inr rfl | exact pI_01 _⟩) (eqI (pI_f (by simp))) (rfl) (by first | exact ⟨Or.inr ⟨rfl, hcl.mp (hu52.2.elim (fun z => z.2) (fun z => absurd z.1 c55))⟩, ⟨(by omega : 0 ≤ fcc + 1), (by omega : fcc + 1 ≤ 924)⟩, hCO.up hu87⟩ | exact ⟨Or.inr ⟨rfl, hcl.mp (hu52.2.elim (fun z => z.2) (fun z => absurd z.1 c55))⟩, hcc, hCO⟩)
          · refine M.aloadn (pc := 72) 0 rfl rfl dX2_isFree_72 ?_
            refine M.getf (pc := 73) fg_X2_18 0 rfl rfl dX2_isFree_73 ?_
            refine M.aloadn (pc := 76) 0 rfl rfl dX2_isFree_76 ?_
            refine M.getf (pc := 77) fg_X2_34 0 rfl rfl dX2_isFree_77 ?_
            refine M.aloadn (pc := 80) 0 rfl rfl dX2_isFree_80 ?_
            refine M.aloadn (pc := 81) 1 rfl rfl dX2_isFree_81 ?_
            refine M.iloadn (pc := 82) 3 rfl rfl dX2_isFree_82 ?_
            refine M.iloadn (pc := 83) 2 rfl rfl dX2_isFree_83 ?_
            refine M.iconst (pc := 84) dX2_isFree_84 ?_
            refine M.ixor (pc := 85) (iI_of _) dX2_isFree_85 ?_
            refine M.iand (pc := 86) (andn_ok (by omega) hx.1) dX2_isFree_86 ?_
            refine M.mV (pc := 87) (c_X2_coreOf (n := n) (c := c) (Sm := Sm) (L := L) (Gm := Gm) (by first | assumption | omega) (by first | assumption | omega) (by first | assumption | omega) (by first | assumption | omega) (by first | assumption | omega) (by omega) (by exact hu52.2.elim (fun z => z.2) (fun z => absurd z.1 c55))) mv_X2_54 [0, 1, 2, 3, 4, 5, 6, 7, 8, 9, 10] rfl rfl rfl 0 rfl rfl rfl rfl (Nat.le_of_ble_eq_true rfl) rfl ⟨(Nat.le_of_ble_eq_true rfl), (Nat.le_of_ble_eq_true rfl)⟩ ⟨(Nat.le_of_ble_eq_true rfl), (Nat.le_of_ble_eq_true rfl)⟩ rfl (fun _ => rfl) dX2_isFree_87 (fun u87 hu87 => ?_)
            obtain ⟨r87, l87, h87⟩ := u87
            dsimp only [putL, List.set_cons_zero, List.set_cons_succ, Option.toList, List.cons_append, List.nil_append] at hu87 ⊢
            refine M.iast (pc := 90) 7 rfl (by omega) (by omega) dX2_isFree_90 ?_
            dsimp only [List.set_cons_zero, List.set_cons_succ]
            refine M.aloadn (pc := 91) 0 rfl rfl dX2_isFree_91 ?_
            refine M.dup (pc := 92) rfl dX2_isFree_92 ?_
            refine M.getf (pc := 93) fg_X2_34 0 rfl rfl dX2_isFree_93 ?_
            refine M.iconst (pc := 96) dX2_isFree_96 ?_
            refine M.iadd (pc := 97) dX2_isFree_97 ?_
            refine M.putf (pc := 98) fp_X2_34 0 rfl rfl rfl (Nat.le_of_ble_eq_true rfl) dX2_isFree_98 ?_
            dsimp only [List.set_cons_zero, List.set_cons_succ]
            refine M.iconst (pc := 101) dX2_isFree_101 ?_
            exact EI (false, _, _, _, _) _ _ _ _ dX2_isFree_102 (Or.inr ⟨rfl, by first | exact Or.inl rfl | exact Or.inr rfl | exact pI_01 _⟩) (eqI (pI_f (by simp))) (rfl) (by first | exact ⟨Or.inr ⟨rfl, hcl.mp (hu52.2.elim (fun z => z.2) (fun z => absurd z.1 c55))⟩, ⟨(by omega : 0 ≤ fcc + 1), (by omega : fcc + 1 ≤ 924)⟩, hCO.up hu87⟩ | exact ⟨Or.inr ⟨rfl, hcl.mp (hu52.2.elim (fun z => z.2) (fun z => absurd z.1 c55))⟩, hcc, hCO⟩)
        · refine M.iconst (pc := 58) dX2_isFree_58 ?_
          exact EI (true, _, _, _, _) _ _ _ _ dX2_isFree_59 (Or.inr ⟨rfl, by first | exact Or.inl rfl | exact Or.inr rfl | exact pI_01 _⟩) (eqI (pI_t rfl)) (rfl) (⟨Or.inl ⟨rfl, fun z => hu52.2.elim (fun y => absurd (y.1.symm.trans c55) (by decide)) (fun y => hcl.mpr z ⟨_, _, y.2.1⟩)⟩, hcc, hCO⟩)
      · refine M.iload (pc := 12) (i := 4) rfl dX2_isFree_12 ?_
        refine M.aloadn (pc := 14) 0 rfl rfl dX2_isFree_14 ?_
        refine M.getf (pc := 15) fg_X2_18 0 rfl rfl dX2_isFree_15 ?_
        refine M.alenI (pc := 18) 7 rfl dX2_isFree_18 ?_
        refine M.icmp_ge (pc := 19) (tgt := 42) dX2_isFree_19 (by decide) (by omega) (by omega) (fun c19 => ?_) (fun c19 => ?_)
        · refine M.aloadn (pc := 42) 0 rfl rfl dX2_isFree_42 ?_
          refine M.getf (pc := 43) fg_X2_12 0 rfl rfl dX2_isFree_43 ?_
          refine M.aloadn (pc := 46) 1 rfl rfl dX2_isFree_46 ?_
          refine M.iloadn (pc := 47) 3 rfl rfl dX2_isFree_47 ?_
          refine M.iloadn (pc := 48) 2 rfl rfl dX2_isFree_48 ?_
          refine M.iconst (pc := 49) dX2_isFree_49 ?_
          refine M.ixor (pc := 50) (iI_of _) dX2_isFree_50 ?_
          refine M.iand (pc := 51) (andn_ok (by omega) hx.1) dX2_isFree_51 ?_
          refine M.mV (pc := 52) (c_X1_stands (n := n) (c := c) (Sm := Sm) (L := L) (Gm := Gm) (by first | assumption | omega) (by first | assumption | omega) (by first | assumption | omega) (by first | assumption | omega) (by first | assumption | omega) (by omega)) mv_X2_50 [1, 2, 3, 4, 5, 6, 8, 9, 10] rfl rfl rfl 1 rfl rfl rfl rfl (Nat.le_of_ble_eq_true rfl) rfl ⟨(Nat.le_of_ble_eq_true rfl), (Nat.le_of_ble_eq_true rfl)⟩ ⟨(Nat.le_of_ble_eq_true rfl), (Nat.le_of_ble_eq_true rfl)⟩ rfl (fun _ => rfl) dX2_isFree_52 (fun u52 hu52 => ?_)
          obtain ⟨t52, l52, h52⟩ := u52
          dsimp only [putL, List.set_cons_zero, List.set_cons_succ, Option.toList, List.cons_append, List.nil_append] at hu52 ⊢
          refine M.if_eqP (pc := 55) (tgt := 60) dX2_isFree_55 (by decide) (fun c55 => ?_) (fun c55 => ?_)
          · refine M.aloadn (pc := 60) 0 rfl rfl dX2_isFree_60 ?_
            refine M.getf (pc := 61) fg_X2_34 0 rfl rfl dX2_isFree_61 ?_
            refine M.aloadn (pc := 64) 0 rfl rfl dX2_isFree_64 ?_
            refine M.getf (pc := 65) fg_X2_18 0 rfl rfl dX2_isFree_65 ?_
            refine M.alenI (pc := 68) 7 rfl dX2_isFree_68 ?_
            refine M.icmp_ge (pc := 69) (tgt := 101) dX2_isFree_69 (by decide) (by omega) (by omega) (fun c69 => ?_) (fun c69 => ?_)
            · refine M.iconst (pc := 101) dX2_isFree_101 ?_
              exact EI (false, _, _, _, _) _ _ _ _ dX2_isFree_102 (Or.inr ⟨rfl, by first | exact Or.inl rfl | exact Or.inr rfl | exact pI_01 _⟩) (eqI (pI_f (by simp))) (rfl) (by first | exact ⟨Or.inr ⟨rfl, hcl.mp (hu52.2.elim (fun z => z.2) (fun z => absurd z.1 c55))⟩, ⟨(by omega : 0 ≤ fcc + 1), (by omega : fcc + 1 ≤ 924)⟩, hCO.up hu87⟩ | exact ⟨Or.inr ⟨rfl, hcl.mp (hu52.2.elim (fun z => z.2) (fun z => absurd z.1 c55))⟩, hcc, hCO⟩)
            · refine M.aloadn (pc := 72) 0 rfl rfl dX2_isFree_72 ?_
              refine M.getf (pc := 73) fg_X2_18 0 rfl rfl dX2_isFree_73 ?_
              refine M.aloadn (pc := 76) 0 rfl rfl dX2_isFree_76 ?_
              refine M.getf (pc := 77) fg_X2_34 0 rfl rfl dX2_isFree_77 ?_
              refine M.aloadn (pc := 80) 0 rfl rfl dX2_isFree_80 ?_
              refine M.aloadn (pc := 81) 1 rfl rfl dX2_isFree_81 ?_
              refine M.iloadn (pc := 82) 3 rfl rfl dX2_isFree_82 ?_
              refine M.iloadn (pc := 83) 2 rfl rfl dX2_isFree_83 ?_
              refine M.iconst (pc := 84) dX2_isFree_84 ?_
              refine M.ixor (pc := 85) (iI_of _) dX2_isFree_85 ?_
              refine M.iand (pc := 86) (andn_ok (by omega) hx.1) dX2_isFree_86 ?_
              refine M.mV (pc := 87) (c_X2_coreOf (n := n) (c := c) (Sm := Sm) (L := L) (Gm := Gm) (by first | assumption | omega) (by first | assumption | omega) (by first | assumption | omega) (by first | assumption | omega) (by first | assumption | omega) (by omega) (by exact hu52.2.elim (fun z => z.2) (fun z => absurd z.1 c55))) mv_X2_54 [0, 1, 2, 3, 4, 5, 6, 7, 8, 9, 10] rfl rfl rfl 0 rfl rfl rfl rfl (Nat.le_of_ble_eq_true rfl) rfl ⟨(Nat.le_of_ble_eq_true rfl), (Nat.le_of_ble_eq_true rfl)⟩ ⟨(Nat.le_of_ble_eq_true rfl), (Nat.le_of_ble_eq_true rfl)⟩ rfl (fun _ => rfl) dX2_isFree_87 (fun u87 hu87 => ?_)
              obtain ⟨r87, l87, h87⟩ := u87
              dsimp only [putL, List.set_cons_zero, List.set_cons_succ, Option.toList, List.cons_append, List.nil_append] at hu87 ⊢
              refine M.iast (pc := 90) 7 rfl (by omega) (by omega) dX2_isFree_90 ?_
              dsimp only [List.set_cons_zero, List.set_cons_succ]
              refine M.aloadn (pc := 91) 0 rfl rfl dX2_isFree_91 ?_
              refine M.dup (pc := 92) rfl dX2_isFree_92 ?_
              refine M.getf (pc := 93) fg_X2_34 0 rfl rfl dX2_isFree_93 ?_
              refine M.iconst (pc := 96) dX2_isFree_96 ?_
              refine M.iadd (pc := 97) dX2_isFree_97 ?_
              refine M.putf (pc := 98) fp_X2_34 0 rfl rfl rfl (Nat.le_of_ble_eq_true rfl) dX2_isFree_98 ?_
              dsimp only [List.set_cons_zero, List.set_cons_succ]
              refine M.iconst (pc := 101) dX2_isFree_101 ?_
              exact EI (false, _, _, _, _) _ _ _ _ dX2_isFree_102 (Or.inr ⟨rfl, by first | exact Or.inl rfl | exact Or.inr rfl | exact pI_01 _⟩) (eqI (pI_f (by simp))) (rfl) (by first | exact ⟨Or.inr ⟨rfl, hcl.mp (hu52.2.elim (fun z => z.2) (fun z => absurd z.1 c55))⟩, ⟨(by omega : 0 ≤ fcc + 1), (by omega : fcc + 1 ≤ 924)⟩, hCO.up hu87⟩ | exact ⟨Or.inr ⟨rfl, hcl.mp (hu52.2.elim (fun z => z.2) (fun z => absurd z.1 c55))⟩, hcc, hCO⟩)
          · refine M.iconst (pc := 58) dX2_isFree_58 ?_
            exact EI (true, _, _, _, _) _ _ _ _ dX2_isFree_59 (Or.inr ⟨rfl, by first | exact Or.inl rfl | exact Or.inr rfl | exact pI_01 _⟩) (eqI (pI_t rfl)) (rfl) (⟨Or.inl ⟨rfl, fun z => hu52.2.elim (fun y => absurd (y.1.symm.trans c55) (by decide)) (fun y => hcl.mpr z ⟨_, _, y.2.1⟩)⟩, hcc, hCO⟩)
        · have hci := hCO i hi.1 (by omega)
          refine M.aloadn (pc := 22) 0 rfl rfl dX2_isFree_22 ?_
          refine M.getf (pc := 23) fg_X2_18 0 rfl rfl dX2_isFree_23 ?_
          refine M.iload (pc := 26) (i := 4) rfl dX2_isFree_26 ?_
          refine M.iald (pc := 28) 7 rfl (by omega) (by omega) dX2_isFree_28 ?_
          refine M.iloadn (pc := 29) 2 rfl rfl dX2_isFree_29 ?_
          refine M.iand (pc := 30) (land_ok hci.1.1 hx.1) dX2_isFree_30 ?_
          refine M.if_ne (pc := 31) (tgt := 36) dX2_isFree_31 (by decide) (by (have := land_b hci.1.1 hx.1); omega) (fun c31 => ?_) (fun c31 => ?_)
          · refine M.iinc (pc := 36) (i := 4) rfl rfl dX2_isFree_36 ?_
            dsimp only [List.set_cons_zero, List.set_cons_succ]
            refine M.goto (pc := 39) (tgt := 3) dX2_isFree_39 (by decide) ?_
            exact ih3  (by first | assumption | omega) (by omega)
          · refine M.iconst (pc := 34) dX2_isFree_34 ?_
            exact EI (false, _, _, _, _) _ _ _ _ dX2_isFree_35 (Or.inr ⟨rfl, by first | exact Or.inl rfl | exact Or.inr rfl | exact pI_01 _⟩) (eqI (pI_f (by simp))) (rfl) (⟨Or.inr ⟨rfl, hcl.mp (hci.2.mono (fun m h0 h1 h2 => by rw [tb_andn, tb_all hc.1 h0 h1, land_0 c31 m h2]; rfl))⟩, hcc, hCO⟩)
  exact L3 _  (by first | assumption | omega) (Nat.lt_succ_self _)
/-- between the sizes of sets: nothing is found yet (c's all stands there), or what was found is it -/
def FSo (c i : Int) (P : Int → Prop) (F : Int) : Prop := (F = p2 c - 1 ∧ ∀ t, 0 ≤ t → t < p2 c → cnt t < i → P t) ∨ (F ≠ p2 c - 1 ∧ IsF c P F)
/-- within a size -/
def FSi (c i s : Int) (P : Int → Prop) (F : Int) : Prop := (F = p2 c - 1 ∧ (∀ t, 0 ≤ t → t < p2 c → cnt t < i → P t) ∧ ∀ t, 0 ≤ t → t < p2 c → t < s → cnt t = i → P t) ∨ (F ≠ p2 c - 1 ∧ IsF c P F)
theorem FSo.start {c i F : Int} {P : Int → Prop} (hc : c ≤ 12) (h : FSo c i P F) : FSi c i (p2 i - 1) P F := by
  have hp := p2_12 hc
  rcases h with ⟨e, h1⟩ | h1
  · exact Or.inl ⟨e, h1, fun t a b d g => absurd d (by have := low_cnt a (by omega) g; omega)⟩
  · exact Or.inr h1
theorem FSo.fin {c i F : Int} {P : Int → Prop} (hc : 0 ≤ c ∧ c ≤ 12) (hP : ¬ P (p2 c - 1)) (h : FSo c i P F) (hx : c ≤ i ∨ F ≠ p2 c - 1) : IsF c P F := by
  have hp := p2_12 hc.2
  rcases h with ⟨e, h1⟩ | h1
  · have hci : c ≤ i := hx.elim id (fun z => absurd e z)
    have hcc := cnt_p2 hc.1 hc.2
    subst e
    refine ⟨⟨by omega, by omega⟩, hP, fun t a b g => ?_⟩
    rcases (by omega : cnt t < i ∨ i ≤ cnt t) with z | z
    · exact absurd (h1 t a b z) g
    · rcases (by omega : c < cnt t ∨ cnt t = c) with w | w
      · exact Or.inl (by omega)
      · exact Or.inr ⟨by omega, low_cnt a (by omega) w⟩
  · exact h1.2
theorem FSi.at {c i s F : Int} {P : Int → Prop} (h : FSi c i s P F) (e : F = p2 c - 1) : (∀ t, 0 ≤ t → t < p2 c → cnt t < i → P t) ∧ ∀ t, 0 ≤ t → t < p2 c → t < s → cnt t = i → P t := by
  rcases h with ⟨_, h1⟩ | ⟨h1, _⟩
  · exact h1
  · exact absurd e h1
theorem FSi.out {c i s F : Int} {P : Int → Prop} (h : FSi c i s P F) (hx : p2 c ≤ s ∨ F ≠ p2 c - 1) : FSo c (i + 1) P F := by
  rcases h with ⟨e, h1, h2⟩ | h1
  · have hs : p2 c ≤ s := hx.elim id (fun z => absurd e z)
    refine Or.inl ⟨e, fun t a b g => ?_⟩
    rcases (by omega : cnt t < i ∨ cnt t = i) with q | q
    · exact h1 t a b q
    · exact h2 t a b (by omega) q
  · exact Or.inr h1
theorem FSi.next {c i s s2 F : Int} {P : Int → Prop} (hc : 0 ≤ c ∧ c ≤ 12) (hi : i < c) (hs : 0 ≤ s ∧ s < p2 c) (hcs : cnt s = i) (h1 : ∀ t, 0 ≤ t → t < p2 c → cnt t < i → P t) (h2 : ∀ t, 0 ≤ t → t < p2 c → t < s → cnt t = i → P t) (hnx : ∀ t, s < t → t < s2 → t < p2 c → cnt t ≠ i) (hF : (F = p2 c - 1 ∧ P s) ∨ (F = s ∧ ¬ P s)) : FSi c i s2 P F := by
  rcases hF with ⟨e, q⟩ | ⟨e, q⟩
  · refine Or.inl ⟨e, h1, fun t a b d g => ?_⟩
    rcases (by omega : t < s ∨ t = s ∨ s < t) with w | w | w
    · exact h2 t a b w g
    · rw [w]; exact q
    · exact absurd g (hnx t w d b)
  · subst e
    refine Or.inr ⟨fun z => ?_, hs, q, fun t a b g => ?_⟩
    · have hcc := cnt_p2 hc.1 hc.2
      rw [← z] at hcc
      omega
    · rcases (by omega : cnt t < i ∨ i < cnt t ∨ cnt t = i) with w | w | w
      · exact absurd (h1 t a b w) g
      · exact Or.inl (by omega)
      · refine Or.inr ⟨by omega, ?_⟩
        rcases (by omega : t < F ∨ F ≤ t) with y | y
        · exact absurd (h2 t a b y w) g
        · exact y
set_option maxHeartbeats 4000000 in
set_option maxRecDepth 100000 in
theorem c_X2_fewest {l : Launch} {G : GT} {f fcr : Nat} {fcc ffo : Int} {ffd : Bool} {gc : Int → Int} {e eLo eUp eSe eLe eGr : Nat} {gl gu gs gL gG : Int → Int} {ecl : Bool} {h hb ht : Nat} {fb ft : Int → Int} {nb n od : Int} {r rc : Nat} {gm : Int → Int} {c : Int} (hB : HB fb) (hT : HT ft) (hnb : 0 ≤ nb ∧ nb ≤ 2) (hn : 0 ≤ n ∧ n ≤ 6) (hc : 0 ≤ c ∧ c ≤ 12) (hM : HM gm c nb n) (hU : ∀ k, 0 ≤ k → k < n → ft (k * 4 + 0) ≤ ft (k * 4 + 1)) (hfd : ffd = true → IsF c (fun s => Cl n c (fU ft) (fV ft) (mS gm) (mL fb gm) (mG fb gm) (p2 c - 1 - s)) ffo) : Con l G yX2_fewest cX2_fewest 7 (some .int) { frames := 5, cells := 0, slots := 0, locals := 125 } [.ref f, .ref h, .ref r] [(f, eO 2 [.ref e, .ref fcr, .int (iI fcc), .int (iI (pI (ffd = true))), .int (iI ffo)]), (e, eO 1 [.ref eLo, .ref eUp, .ref eSe, .ref eLe, .ref eGr, .int (iI (pI (ecl = true)))]), (eLo, eI G 6 gl), (eUp, eI G 6 gu), (eSe, eI G 12 gs), (eLe, eI G 12 gL), (eGr, eI G 12 gG), (fcr, eI G 924 gc), (h, eO 3 [.ref hb, .ref ht, .int (iI nb), .int (iI n), .int (iI od)]), (hb, eI G 8 fb), (ht, eI G 24 ft), (r, eO 6 [.ref rc, .int (iI c)]), (rc, eI G 48 gm)] (S := Int × Int × Bool × (Int → Int) × (Int → Int) × (Int → Int) × (Int → Int) × (Int → Int) × (Int → Int)) (fun u => some (.int (iI u.1))) (fun u => [(f, eO 2 [.ref e, .ref fcr, .int (iI u.2.1), .int (iI (pI (u.2.2.1 = true))), .int (iI u.1)]), (e, eO 1 [.ref eLo, .ref eUp, .ref eSe, .ref eLe, .ref eGr, .int (iI (pI (ecl = true)))]), (eLo, eI G 6 u.2.2.2.2.1), (eUp, eI G 6 u.2.2.2.2.2.1), (eSe, eI G 12 u.2.2.2.2.2.2.1), (eLe, eI G 12 u.2.2.2.2.2.2.2.1), (eGr, eI G 12 u.2.2.2.2.2.2.2.2), (fcr, eI G 924 u.2.2.2.1), (h, eO 3 [.ref hb, .ref ht, .int (iI nb), .int (iI n), .int (iI od)]), (hb, eI G 8 fb), (ht, eI G 24 ft), (r, eO 6 [.ref rc, .int (iI c)]), (rc, eI G 48 gm)]) (fun u => u.2.2.1 = true ∧ IsF c (fun s => Cl n c (fU ft) (fV ft) (mS gm) (mL fb gm) (mG fb gm) (p2 c - 1 - s)) u.1) := by
  refine Con.mk (by decide +kernel) [some (.ref f), some (.ref h), some (.ref r), none, none, none, none] rfl (Nat.le_of_ble_eq_true rfl) rfl ?_
  intro V M EI EL EV EA
  have hp12 := p2_12 hc.2
  have hcb : ∀ s, 0 ≤ cnt s := fun s => by unfold cnt; omega
  have hUV : ∀ k, 0 ≤ k → k < n → fU ft k ≤ fV ft k := hU
  have hno : ¬ (fun s => Cl n c (fU ft) (fV ft) (mS gm) (mL fb gm) (mG fb gm) (p2 c - 1 - s)) (p2 c - 1) := by
    show ¬ Cl n c (fU ft) (fV ft) (mS gm) (mL fb gm) (mG fb gm) (p2 c - 1 - (p2 c - 1))
    rw [show p2 c - 1 - (p2 c - 1) = 0 by omega]
    exact Cl.none hUV (fun m _ _ => tb_0 m)
  refine M.aloadn (pc := 0) 0 rfl rfl dX2_fewest_0 ?_
  refine M.getf (pc := 1) fg_X2_22 0 rfl rfl dX2_fewest_1 ?_
  refine M.if_eqP (pc := 4) (tgt := 12) dX2_fewest_4 (by decide) (fun c4 => ?_) (fun c4 => ?_)
  · refine M.aloadn (pc := 12) 0 rfl rfl dX2_fewest_12 ?_
    refine M.getf (pc := 13) fg_X2_12 0 rfl rfl dX2_fewest_13 ?_
    refine M.aloadn (pc := 16) 1 rfl rfl dX2_fewest_16 ?_
    refine M.aloadn (pc := 17) 2 rfl rfl dX2_fewest_17 ?_
    refine M.mV (pc := 18) (c_X1_load  (by first | assumption | omega) (by first | assumption | omega) (by first | assumption | omega) (by first | assumption | omega) (by first | assumption | omega)) mv_X2_30 [1, 2, 3, 4, 5, 6, 8, 9, 10, 11, 12] rfl rfl rfl 1 rfl rfl rfl rfl (Nat.le_of_ble_eq_true rfl) rfl ⟨(Nat.le_of_ble_eq_true rfl), (Nat.le_of_ble_eq_true rfl)⟩ ⟨(Nat.le_of_ble_eq_true rfl), (Nat.le_of_ble_eq_true rfl)⟩ rfl (fun _ => rfl) dX2_fewest_18 (fun u18 hu18 => ?_)
    obtain ⟨s18, q18, g18⟩ := u18
    dsimp only [putL, List.set_cons_zero, List.set_cons_succ, Option.toList, List.cons_append, List.nil_append] at hu18 ⊢
    refine M.aloadn (pc := 21) 0 rfl rfl dX2_fewest_21 ?_
    refine M.iconst (pc := 22) dX2_fewest_22 ?_
    refine M.putf (pc := 23) fp_X2_34 0 rfl rfl rfl (Nat.le_of_ble_eq_true rfl) dX2_fewest_23 ?_
    dsimp only [List.set_cons_zero, List.set_cons_succ]
    refine M.aloadn (pc := 26) 0 rfl rfl dX2_fewest_26 ?_
    refine M.iconst (pc := 27) dX2_fewest_27 ?_
    refine M.putfZ (pc := 28) (true) (by rfl) fp_X2_22 0 rfl (Nat.le_of_ble_eq_true rfl) dX2_fewest_28 ?_
    dsimp only [List.set_cons_zero, List.set_cons_succ]
    refine M.iconst (pc := 31) dX2_fewest_31 ?_
    refine M.aloadn (pc := 32) 2 rfl rfl dX2_fewest_32 ?_
    refine M.getf (pc := 33) fg_X2_37 11 rfl rfl dX2_fewest_33 ?_
    refine M.ishl (pc := 36) (bit_shl1 hc.1 (by omega)) dX2_fewest_36 ?_
    refine M.iconst (pc := 37) dX2_fewest_37 ?_
    refine M.isub (pc := 38) dX2_fewest_38 ?_
    refine M.istoren (pc := 39) 3 rfl (Nat.le_of_ble_eq_true rfl) rfl dX2_fewest_39 ?_
    dsimp only [List.set_cons_zero, List.set_cons_succ]
    refine M.aloadn (pc := 40) 0 rfl rfl dX2_fewest_40 ?_
    refine M.iloadn (pc := 41) 3 rfl rfl dX2_fewest_41 ?_
    refine M.putf (pc := 42) fp_X2_26 0 rfl rfl rfl (Nat.le_of_ble_eq_true rfl) dX2_fewest_42 ?_
    dsimp only [List.set_cons_zero, List.set_cons_succ]
    refine M.iconst (pc := 45) dX2_fewest_45 ?_
    refine M.istore (pc := 46) (i := 4) (Nat.le_of_ble_eq_true rfl) rfl dX2_fewest_46 ?_
    dsimp only [List.set_cons_zero, List.set_cons_succ]
    have L48 : ∀ (fu : Nat) {i k F : Int} {g l u : Int → Int}, (0 ≤ i ∧ i ≤ c) → (-1 ≤ F ∧ F < 8192) → (0 ≤ k ∧ k ≤ 924) → (CO n c (fU ft) (fV ft) (mS gm) (mL fb gm) (mG fb gm) g k) → (FSo c i (fun s => Cl n c (fU ft) (fV ft) (mS gm) (mL fb gm) (mG fb gm) (p2 c - 1 - s)) F) → (c + 2 - i).toNat < fu → V 0 0 48 [(f, eO 2 [.ref e, .ref fcr, .int (iI k), .int (iI (pI (true = true))), .int (iI F)]), (e, eO 1 [.ref eLo, .ref eUp, .ref eSe, .ref eLe, .ref eGr, .int (iI (pI (ecl = true)))]), (eLo, eI G 6 l), (eUp, eI G 6 u), (eSe, eI G 12 s18), (eLe, eI G 12 q18), (eGr, eI G 12 g18), (fcr, eI G 924 g), (h, eO 3 [.ref hb, .ref ht, .int (iI nb), .int (iI n), .int (iI od)]), (hb, eI G 8 fb), (ht, eI G 24 ft), (r, eO 6 [.ref rc, .int (iI c)]), (rc, eI G 48 gm)] [some (.ref f), some (.ref h), some (.ref r), some (.int (iI (p2 c - 1))), some (.int (iI i)), none, none] [] := by
      intro fu
      induction fu with
      | zero => intro i k F g l u hi hF0 hk hco hP hm; exact absurd hm (Nat.not_lt_zero _)
      | succ fu ih48 =>
        intro i k F g l u hi hF0 hk hco hP hm48
        refine M.iload (pc := 48) (i := 4) rfl dX2_fewest_48 ?_
        refine M.aloadn (pc := 50) 2 rfl rfl dX2_fewest_50 ?_
        refine M.getf (pc := 51) fg_X2_37 11 rfl rfl dX2_fewest_51 ?_
        refine M.icmp_ge (pc := 54) (tgt := 137) dX2_fewest_54 (by decide) (by omega) (by omega) (fun c54 => ?_) (fun c54 => ?_)
        · refine M.aloadn (pc := 137) 0 rfl rfl dX2_fewest_137 ?_
          refine M.getf (pc := 138) fg_X2_26 0 rfl rfl dX2_fewest_138 ?_
          have hFF : IsF c (fun s => Cl n c (fU ft) (fV ft) (mS gm) (mL fb gm) (mG fb gm) (p2 c - 1 - s)) F := hP.fin hc hno (by omega)
          exact EI (_, _, _, _, _, _, _, _, _) _ _ _ _ dX2_fewest_141 (Or.inl rfl) (rfl) (rfl) (⟨rfl, hFF⟩)
        · refine M.aloadn (pc := 57) 0 rfl rfl dX2_fewest_57 ?_
          refine M.getf (pc := 58) fg_X2_26 0 rfl rfl dX2_fewest_58 ?_
          refine M.iloadn (pc := 61) 3 rfl rfl dX2_fewest_61 ?_
          refine M.icmp_ne (pc := 62) (tgt := 137) dX2_fewest_62 (by decide) (by omega) (by omega) (fun c62 => ?_) (fun c62 => ?_)
          · refine M.aloadn (pc := 137) 0 rfl rfl dX2_fewest_137 ?_
            refine M.getf (pc := 138) fg_X2_26 0 rfl rfl dX2_fewest_138 ?_
            have hFF : IsF c (fun s => Cl n c (fU ft) (fV ft) (mS gm) (mL fb gm) (mG fb gm) (p2 c - 1 - s)) F := hP.fin hc hno (by omega)
            exact EI (_, _, _, _, _, _, _, _, _) _ _ _ _ dX2_fewest_141 (Or.inl rfl) (rfl) (rfl) (⟨rfl, hFF⟩)
          · have hpi := p2_mono hi.1 (by omega : i ≤ c)
            have hpi1 := (p2_12 (by omega : i ≤ 12)).1
            refine M.iconst (pc := 65) dX2_fewest_65 ?_
            refine M.iload (pc := 66) (i := 4) rfl dX2_fewest_66 ?_
            refine M.ishl (pc := 68) (bit_shl1 hi.1 (by omega)) dX2_fewest_68 ?_
            refine M.iconst (pc := 69) dX2_fewest_69 ?_
            refine M.isub (pc := 70) dX2_fewest_70 ?_
            refine M.istore (pc := 71) (i := 5) (Nat.le_of_ble_eq_true rfl) rfl dX2_fewest_71 ?_
            dsimp only [List.set_cons_zero, List.set_cons_succ]
            refine M.iconst (pc := 73) dX2_fewest_73 ?_
            refine M.istore (pc := 74) (i := 6) (Nat.le_of_ble_eq_true rfl) rfl dX2_fewest_74 ?_
            dsimp only [List.set_cons_zero, List.set_cons_succ]
            have L76 : ∀ (fu : Nat) {s tn k2 F2 : Int} {g2 l2 u2 : Int → Int}, (0 ≤ s ∧ s < 8192) → (0 ≤ tn ∧ tn ≤ s) → (-1 ≤ F2 ∧ F2 < 8192) → (s < p2 c → cnt s = i) → (0 ≤ k2 ∧ k2 ≤ 924) → (CO n c (fU ft) (fV ft) (mS gm) (mL fb gm) (mG fb gm) g2 k2) → (FSi c i s (fun s => Cl n c (fU ft) (fV ft) (mS gm) (mL fb gm) (mG fb gm) (p2 c - 1 - s)) F2) → (8192 - s).toNat < fu → V 0 0 76 [(f, eO 2 [.ref e, .ref fcr, .int (iI k2), .int (iI (pI (true = true))), .int (iI F2)]), (e, eO 1 [.ref eLo, .ref eUp, .ref eSe, .ref eLe, .ref eGr, .int (iI (pI (ecl = true)))]), (eLo, eI G 6 l2), (eUp, eI G 6 u2), (eSe, eI G 12 s18), (eLe, eI G 12 q18), (eGr, eI G 12 g18), (fcr, eI G 924 g2), (h, eO 3 [.ref hb, .ref ht, .int (iI nb), .int (iI n), .int (iI od)]), (hb, eI G 8 fb), (ht, eI G 24 ft), (r, eO 6 [.ref rc, .int (iI c)]), (rc, eI G 48 gm)] [some (.ref f), some (.ref h), some (.ref r), some (.int (iI (p2 c - 1))), some (.int (iI i)), some (.int (iI s)), some (.int (iI tn))] [] := by
              intro fu
              induction fu with
              | zero => intro s tn k2 F2 g2 l2 u2 hs htn hF2 hcs hk2 hco2 hQ hm; exact absurd hm (Nat.not_lt_zero _)
              | succ fu ih76 =>
                intro s tn k2 F2 g2 l2 u2 hs htn hF2 hcs hk2 hco2 hQ hm76
                refine M.iload (pc := 76) (i := 6) rfl dX2_fewest_76 ?_
                refine M.iloadn (pc := 78) 3 rfl rfl dX2_fewest_78 ?_
                refine M.icmp_gt (pc := 79) (tgt := 131) dX2_fewest_79 (by decide) (by omega) (by omega) (fun c79 => ?_) (fun c79 => ?_)
                · refine M.iinc (pc := 131) (i := 4) rfl rfl dX2_fewest_131 ?_
                  dsimp only [List.set_cons_zero, List.set_cons_succ]
                  refine M.goto (pc := 134) (tgt := 48) dX2_fewest_134 (by decide) ?_
                  refine M.forget 5 ?_
                  dsimp only [List.set_cons_zero, List.set_cons_succ]
                  refine M.forget 6 ?_
                  dsimp only [List.set_cons_zero, List.set_cons_succ]
                  exact ih48  (by omega) (by exact hF2) (by exact hk2) (by exact hco2) (by exact hQ.out (by omega)) (by omega)
                · refine M.iload (pc := 82) (i := 5) rfl dX2_fewest_82 ?_
                  refine M.iloadn (pc := 84) 3 rfl rfl dX2_fewest_84 ?_
                  refine M.icmp_gt (pc := 85) (tgt := 131) dX2_fewest_85 (by decide) (by omega) (by omega) (fun c85 => ?_) (fun c85 => ?_)
                  · refine M.iinc (pc := 131) (i := 4) rfl rfl dX2_fewest_131 ?_
                    dsimp only [List.set_cons_zero, List.set_cons_succ]
                    refine M.goto (pc := 134) (tgt := 48) dX2_fewest_134 (by decide) ?_
                    refine M.forget 5 ?_
                    dsimp only [List.set_cons_zero, List.set_cons_succ]
                    refine M.forget 6 ?_
                    dsimp only [List.set_cons_zero, List.set_cons_succ]
                    exact ih48  (by omega) (by exact hF2) (by exact hk2) (by exact hco2) (by exact hQ.out (by omega)) (by omega)
                  · refine M.aloadn (pc := 88) 0 rfl rfl dX2_fewest_88 ?_
                    refine M.getf (pc := 89) fg_X2_26 0 rfl rfl dX2_fewest_89 ?_
                    refine M.iloadn (pc := 92) 3 rfl rfl dX2_fewest_92 ?_
                    refine M.icmp_ne (pc := 93) (tgt := 131) dX2_fewest_93 (by decide) (by omega) (by omega) (fun c93 => ?_) (fun c93 => ?_)
                    · refine M.iinc (pc := 131) (i := 4) rfl rfl dX2_fewest_131 ?_
                      dsimp only [List.set_cons_zero, List.set_cons_succ]
                      refine M.goto (pc := 134) (tgt := 48) dX2_fewest_134 (by decide) ?_
                      refine M.forget 5 ?_
                      dsimp only [List.set_cons_zero, List.set_cons_succ]
                      refine M.forget 6 ?_
                      dsimp only [List.set_cons_zero, List.set_cons_succ]
                      exact ih48  (by omega) (by exact hF2) (by exact hk2) (by exact hco2) (by exact hQ.out (by omega)) (by omega)
                    · have hq12 := hQ.at (by omega)
                      have hcs2 := hcs (by omega)
                      refine M.aloadn (pc := 96) 0 rfl rfl dX2_fewest_96 ?_
                      refine M.aloadn (pc := 97) 0 rfl rfl dX2_fewest_97 ?_
                      refine M.aloadn (pc := 98) 1 rfl rfl dX2_fewest_98 ?_
                      refine M.iload (pc := 99) (i := 5) rfl dX2_fewest_99 ?_
                      refine M.iloadn (pc := 101) 3 rfl rfl dX2_fewest_101 ?_
                      refine M.mV (pc := 102) (c_X2_isFree (n := n) (c := c) (Sm := mS gm) (L := mL fb gm) (Gm := mG fb gm) (by first | assumption | omega) (by first | assumption | omega) (by first | assumption | omega) (by first | assumption | omega) (by exact DA.of hB hnb.2 hc.2 hM hu18) (by omega) (by first | assumption | omega) (by first | assumption | omega)) mv_X2_42 [0, 1, 2, 3, 4, 5, 6, 7, 8, 9, 10] rfl rfl rfl 0 rfl rfl rfl rfl (Nat.le_of_ble_eq_true rfl) rfl ⟨(Nat.le_of_ble_eq_true rfl), (Nat.le_of_ble_eq_true rfl)⟩ ⟨(Nat.le_of_ble_eq_true rfl), (Nat.le_of_ble_eq_true rfl)⟩ rfl (fun _ => rfl) dX2_fewest_102 (fun u102 hu102 => ?_)
                      obtain ⟨t102, k102, g102, l102, h102⟩ := u102
                      dsimp only [putL, List.set_cons_zero, List.set_cons_succ, Option.toList, List.cons_append, List.nil_append] at hu102 ⊢
                      have L114 : ∀ {F3 : Int}, ((F3 = p2 c - 1 ∧ (fun s => Cl n c (fU ft) (fV ft) (mS gm) (mL fb gm) (mG fb gm) (p2 c - 1 - s)) s) ∨ (F3 = s ∧ ¬ (fun s => Cl n c (fU ft) (fV ft) (mS gm) (mL fb gm) (mG fb gm) (p2 c - 1 - s)) s)) → V 0 0 114 [(f, eO 2 [.ref e, .ref fcr, .int (iI k102), .int (iI (pI (true = true))), .int (iI F2)]), (e, eO 1 [.ref eLo, .ref eUp, .ref eSe, .ref eLe, .ref eGr, .int (iI (pI (ecl = true)))]), (eLo, eI G 6 l102), (eUp, eI G 6 h102), (eSe, eI G 12 s18), (eLe, eI G 12 q18), (eGr, eI G 12 g18), (fcr, eI G 924 g102), (h, eO 3 [.ref hb, .ref ht, .int (iI nb), .int (iI n), .int (iI od)]), (hb, eI G 8 fb), (ht, eI G 24 ft), (r, eO 6 [.ref rc, .int (iI c)]), (rc, eI G 48 gm)] [some (.ref f), some (.ref h), some (.ref r), some (.int (iI (p2 c - 1))), some (.int (iI i)), some (.int (iI s)), some (.int (iI tn))] [.int (iI F3), .ref f] := by
                        intro F3 hF3
                        refine M.putf (pc := 114) fp_X2_26 0 rfl rfl rfl (Nat.le_of_ble_eq_true rfl) dX2_fewest_114 ?_
                        dsimp only [List.set_cons_zero, List.set_cons_succ]
                        refine M.iload (pc := 117) (i := 5) rfl dX2_fewest_117 ?_
                        refine M.iloadn (pc := 119) 3 rfl rfl dX2_fewest_119 ?_
                        refine M.pS (pc := 120) (c_X2_nextOfLikeCount  (by omega) (by first | assumption | omega)) ms_X2_46 [] rfl rfl rfl rfl (Nat.le_of_ble_eq_true rfl) rfl ⟨(Nat.le_of_ble_eq_true rfl), (Nat.le_of_ble_eq_true rfl)⟩ ⟨(Nat.le_of_ble_eq_true rfl), (Nat.le_of_ble_eq_true rfl)⟩ rfl dX2_fewest_120 ?_
                        obtain ⟨s2, hs2⟩ : ∃ s2, s2 = if s = 0 then p2 c - 1 + 1 else ((nxt s.toNat : Nat) : Int) := ⟨_, rfl⟩
                        rw [← hs2]
                        have hnx : (s < s2 ∧ s2 < 8192) ∧ (s2 < p2 c → cnt s2 = i) ∧ ∀ t, s < t → t < s2 → t < p2 c → cnt t ≠ i := by
                          by_cases e : s = 0
                          · rw [if_pos e] at hs2
                            have hi0 : i = 0 := by have := hcs2; rw [e] at this; rw [← this]; decide +kernel
                            exact ⟨⟨by omega, by omega⟩, fun z => by omega, fun t h0 h1 h2 h3 => by have := cnt_0 (s := t) (by omega) (by omega) (by omega); omega⟩
                          · rw [if_neg e] at hs2
                            obtain ⟨n1, n2, n3⟩ := nxt_i (x := s) (by omega) (by omega)
                            rw [← hs2] at n1 n2 n3
                            exact ⟨n1, fun _ => by omega, fun t h0 h1 _ h3 => n3 t h0 h1 (by omega)⟩
                        have hF3b : -1 ≤ F3 ∧ F3 < 8192 := by
                          rcases hF3 with ⟨z, _⟩ | ⟨z, _⟩ <;> omega
                        refine M.istore (pc := 123) (i := 5) (Nat.le_of_ble_eq_true rfl) rfl dX2_fewest_123 ?_
                        dsimp only [List.set_cons_zero, List.set_cons_succ]
                        refine M.iinc (pc := 125) (i := 6) rfl rfl dX2_fewest_125 ?_
                        dsimp only [List.set_cons_zero, List.set_cons_succ]
                        refine M.goto (pc := 128) (tgt := 76) dX2_fewest_128 (by decide) ?_
                        exact ih76  (by exact ⟨by omega, hnx.1.2⟩) (by omega) (by exact hF3b) (by exact hnx.2.1) (by exact hu102.2.1) (by exact hu102.2.2) (by exact FSi.next hc (by omega) ⟨hs.1, by omega⟩ hcs2 hq12.1 hq12.2 hnx.2.2 hF3) (by omega)
                      refine M.if_eqP (pc := 105) (tgt := 113) dX2_fewest_105 (by decide) (fun c105 => ?_) (fun c105 => ?_)
                      · refine M.iloadn (pc := 113) 3 rfl rfl dX2_fewest_113 ?_
                        exact L114  (by exact Or.inl ⟨rfl, hu102.1.elim (fun z => absurd z.1 c105) (fun z => z.2)⟩)
                      · refine M.iload (pc := 108) (i := 5) rfl dX2_fewest_108 ?_
                        refine M.goto (pc := 110) (tgt := 114) dX2_fewest_110 (by decide) ?_
                        exact L114  (by exact Or.inr ⟨rfl, hu102.1.elim (fun z => z.2) (fun z => absurd (z.1.symm.trans c105) (by decide))⟩)
            exact L76 _  (by omega) (by omega) (by omega) (by exact fun _ => cnt_p2 hi.1 (by omega)) (by first | assumption | omega) (by exact hco) (by exact hP.start hc.2) (Nat.lt_succ_self _)
    exact L48 _  (by omega) (by omega) (by omega) (by intro i _ h; omega) (by exact Or.inl ⟨rfl, fun t _ _ h => absurd h (by have := hcb t; omega)⟩) (Nat.lt_succ_self _)
  · refine M.aloadn (pc := 7) 0 rfl rfl dX2_fewest_7 ?_
    refine M.getf (pc := 8) fg_X2_26 0 rfl rfl dX2_fewest_8 ?_
    exact EI (_, _, _, _, _, _, _, _, _) _ _ _ _ dX2_fewest_11 (Or.inl rfl) (rfl) (rfl) (⟨c4, hfd c4⟩)
