/-! the class's cases: merged sets, enough tries -/
def bor (a b : Int) : Int := ((a.toNat ||| b.toNat : Nat) : Int)
theorem bor_ok {a b : Int} (ha : 0 ≤ a) (hb : 0 ≤ b) : iI a ||| iI b = iI (bor a b) := by
  obtain ⟨x, rfl⟩ := Int.eq_ofNat_of_zero_le ha
  obtain ⟨y, rfl⟩ := Int.eq_ofNat_of_zero_le hb
  rw [iI_nat, iI_nat, nI_or, ← iI_nat]
  rfl
theorem tb_bor (a b m : Int) : tb (bor a b) m = (tb a m || tb b m) := by
  show (bor a b).toNat.testBit m.toNat = (a.toNat.testBit m.toNat || b.toNat.testBit m.toNat)
  unfold bor
  rw [Int.toNat_natCast, Nat.testBit_or]
theorem bor_b {a b : Int} (ha : 0 ≤ a ∧ a < 8192) (hb : 0 ≤ b ∧ b < 8192) : 0 ≤ bor a b ∧ bor a b < 8192 := by
  have h : a.toNat ||| b.toNat < 2 ^ 13 := Nat.or_lt_two_pow (by omega) (by omega)
  unfold bor
  omega
theorem low8_all : allB (fun n => n == 0 || ((iI (n : Int) &&& iI (-(n : Int))) == iI ((2 ^ ctzN 13 n : Nat) : Int) && n.testBit (ctzN 13 n) && allB (fun d => !n.testBit d) (ctzN 13 n) && Nat.blt (ctzN 13 n) 13)) 8192 = true := by decide +kernel
theorem low8 {x : Int} (h0 : 0 < x) (h1 : x < 8192) : iI x &&& iI (-x) = iI (p2 (ctz x)) ∧ me x (ctz x) := by
  obtain ⟨n, rfl⟩ := Int.eq_ofNat_of_zero_le (by omega : 0 ≤ x)
  have h := allB_p low8_all n (by omega)
  have hn : (n == 0) = false := by simp; omega
  simp only [hn, Bool.false_or, Bool.and_eq_true, beq_iff_eq] at h
  obtain ⟨⟨⟨a1, a2⟩, a3⟩, a4⟩ := h
  have a5 : ctzN 13 n < 13 := Nat.le_of_ble_eq_true a4
  refine ⟨a1, ⟨?_, ?_⟩, ?_⟩
  · unfold ctz; omega
  · unfold ctz; rw [Int.toNat_natCast]; omega
  · show n.testBit (ctz (n : Int)).toNat = true
    unfold ctz
    rw [Int.toNat_natCast, Int.toNat_natCast]
    exact a2
def sub1 (S : Int) : Int := ((S.toNat &&& (S.toNat - 1) : Nat) : Int)
theorem one_all : allB (fun n => (iI (n : Int) &&& iI ((n : Int) - 1)) == iI ((n &&& (n - 1) : Nat) : Int) && Nat.blt (n &&& (n - 1)) 8192 && (if (n &&& (n - 1)) == 0 then n == 0 || n == 2 ^ ctzN 13 n else n.testBit (ctzN 13 n) && n.testBit (ctzN 13 (n &&& (n - 1))) && ctzN 13 n != ctzN 13 (n &&& (n - 1)) && Nat.blt (ctzN 13 n) 13 && Nat.blt (ctzN 13 (n &&& (n - 1))) 13)) 8192 = true := by decide +kernel
theorem one_ok {S : Int} (hS : 0 ≤ S ∧ S < 8192) : iI S &&& iI (S - 1) = iI (sub1 S) ∧ (0 ≤ sub1 S ∧ sub1 S < 8192) ∧ (sub1 S = 0 → ∀ c d, me S c → me S d → c = d) ∧ (sub1 S ≠ 0 → ∃ c d, me S c ∧ me S d ∧ c ≠ d) := by
  obtain ⟨n, rfl⟩ := Int.eq_ofNat_of_zero_le hS.1
  have h := allB_p one_all n (by omega)
  simp only [Bool.and_eq_true, beq_iff_eq] at h
  obtain ⟨⟨a1, a2⟩, a3⟩ := h
  have a4 : n &&& (n - 1) < 8192 := Nat.le_of_ble_eq_true a2
  have e : sub1 (n : Int) = ((n &&& (n - 1) : Nat) : Int) := rfl
  refine ⟨a1, by omega, fun z c d hc hd => ?_, fun z => ?_⟩
  · have z2 : n &&& (n - 1) = 0 := by omega
    rw [if_pos z2] at a3
    simp only [Bool.or_eq_true, beq_iff_eq] at a3
    have hc2 : n.testBit c.toNat = true := hc.2
    have hd2 : n.testBit d.toNat = true := hd.2
    rcases a3 with q | q
    · rw [q, Nat.zero_testBit] at hc2; exact absurd hc2 (by decide)
    · generalize ctzN 13 n = j at q
      rw [q, Nat.testBit_two_pow] at hc2 hd2
      have := of_decide_eq_true hc2
      have := of_decide_eq_true hd2
      have := hc.1; have := hd.1
      omega
  · have z2 : ¬ (n &&& (n - 1)) = 0 := by omega
    rw [if_neg z2] at a3
    simp only [Bool.and_eq_true, bne_iff_ne, ne_eq] at a3
    obtain ⟨⟨⟨⟨b1, b2⟩, b3⟩, b4⟩, b5⟩ := a3
    have b6 : ctzN 13 n < 13 := Nat.le_of_ble_eq_true b4
    have b7 : ctzN 13 (n &&& (n - 1)) < 13 := Nat.le_of_ble_eq_true b5
    exact ⟨(ctzN 13 n : Nat), (ctzN 13 (n &&& (n - 1)) : Nat), ⟨by omega, b1⟩, ⟨by omega, b2⟩, by omega⟩
theorem shr4 {x : Int} (h0 : 0 ≤ x) (h1 : x < 2147483648) : iI x >>> (iI 4 &&& 31) = iI (x / 16) := by
  have h := bit_shr (k := 4) h0 h1 (by omega) (by omega)
  rw [h]
  congr 1
  have : (4 : Int).toNat = 4 := rfl
  rw [this]
  omega
theorem sh4_all : ∀ b, b < 16 → nI b <<< (iI 4 &&& 31) = nI (b * 16) := by decide +kernel
theorem or4_all : ∀ a, a < 16 → ∀ b, b < 16 → nI a ||| nI (b * 16) = nI (a + b * 16) := by decide +kernel
theorem sh4 {b : Int} (h : 0 ≤ b ∧ b < 16) : iI b <<< (iI 4 &&& 31) = iI (b * 16) := by
  obtain ⟨x, rfl⟩ := Int.eq_ofNat_of_zero_le h.1
  have := sh4_all x (by omega)
  rw [← iI_nat, ← iI_nat] at this
  exact this
theorem or4 {a b : Int} (ha : 0 ≤ a ∧ a < 16) (h : 0 ≤ b ∧ b < 16) : iI a ||| iI (b * 16) = iI (a + b * 16) := by
  obtain ⟨x, rfl⟩ := Int.eq_ofNat_of_zero_le h.1
  obtain ⟨y, rfl⟩ := Int.eq_ofNat_of_zero_le ha.1
  have := or4_all y (by omega) x (by omega)
  rw [← iI_nat, ← iI_nat, ← iI_nat] at this
  exact this
theorem AL.symm {vt : Int → Prop} {H : Int → Int → Int} {c d : Int} (h : AL vt H c d) : AL vt H d c := fun t ht => (h t ht).symm
theorem AL.trans {vt : Int → Prop} {H : Int → Int → Int} {c d e : Int} (h : AL vt H c d) (h2 : AL vt H d e) : AL vt H c e := fun t ht => (h t ht).trans (h2 t ht)
theorem alM_eq {vt : Int → Prop} {H : Int → Int → Int} {pr : Int → Bool} {c d : Int} (h : AL vt H c d) : alM vt H pr c = alM vt H pr d := by
  refine cm_ext 13 (fun j hj => ?_)
  by_cases p : pr (j : Int) = true
  · by_cases q : AL vt H c (j : Int)
    · rw [alB_t.mpr ⟨p, q⟩, alB_t.mpr ⟨p, h.symm.trans q⟩]
    · rw [Bool.eq_false_iff.mpr (fun z => q (alB_t.mp z).2), Bool.eq_false_iff.mpr (fun z => q (h.trans (alB_t.mp z).2))]
  · rw [Bool.eq_false_iff.mpr (fun z => p (alB_t.mp z).1), Bool.eq_false_iff.mpr (fun z => p (alB_t.mp z).1)]
/-- the least that is alike -/
noncomputable def lo (vt : Int → Prop) (H : Int → Int → Int) (pr : Int → Bool) (c : Int) : Int := ctz (alM vt H pr c)
theorem alM_pos {vt : Int → Prop} {H : Int → Int → Int} {n c : Int} (hn : 0 ≤ n ∧ n ≤ 6) (hc : prB n c = true) : 0 < alM vt H (prB n) c ∧ alM vt H (prB n) c < 8192 := by
  have hb := prB_b hn hc
  have h13 : 0 ≤ alM vt H (prB n) c ∧ alM vt H (prB n) c < 8192 := cm_13b _
  have h2 := (alM_t (vt := vt) (H := H) (pr := prB n) (d := c) hb.1 hb.2).mpr ⟨hc, fun _ _ => rfl⟩
  refine ⟨?_, h13.2⟩
  rcases (by omega : 0 < alM vt H (prB n) c ∨ alM vt H (prB n) c = 0) with q | q
  · exact q
  · rw [q, tb_0] at h2; exact absurd h2 (by decide)
theorem lo_ok {vt : Int → Prop} {H : Int → Int → Int} {n c : Int} (hn : 0 ≤ n ∧ n ≤ 6) (hc : prB n c = true) : (0 ≤ lo vt H (prB n) c ∧ lo vt H (prB n) c < 13) ∧ prB n (lo vt H (prB n) c) = true ∧ AL vt H c (lo vt H (prB n) c) := by
  have hp := alM_pos (vt := vt) (H := H) hn hc
  have h := (low8 hp.1 hp.2).2
  exact ⟨h.1, (alM_t h.1.1 h.1.2).mp h.2⟩
theorem merged_ok {vt : Int → Prop} {H : Int → Int → Int} {n S u : Int} (hn : 0 ≤ n ∧ n ≤ 6) (hS : ∀ d, me S d → prB n d = true) (hu : ∀ d, 0 ≤ d → d < 13 → (tb u d = true ↔ ∃ c, (0 ≤ c ∧ c < 13) ∧ tb S c = true ∧ d = lo vt H (prB n) c)) : MGD n vt H u ∧ EQV vt H S u := by
  refine ⟨⟨fun d hd => ?_, fun c d hc hd hcd => ?_⟩, fun c hc => ?_, fun d hd => ?_⟩
  · obtain ⟨c, h1, h2, h3⟩ := (hu d hd.1.1 hd.1.2).mp hd.2
    rw [h3]; exact (lo_ok hn (hS c ⟨h1, h2⟩)).2.1
  · obtain ⟨c', h1, h2, h3⟩ := (hu c hc.1.1 hc.1.2).mp hc.2
    obtain ⟨d', g1, g2, g3⟩ := (hu d hd.1.1 hd.1.2).mp hd.2
    have k1 := (lo_ok (vt := vt) (H := H) hn (hS c' ⟨h1, h2⟩)).2.2
    have k2 := (lo_ok (vt := vt) (H := H) hn (hS d' ⟨g1, g2⟩)).2.2
    rw [← h3] at k1
    rw [← g3] at k2
    have k3 : AL vt H c' d' := k1.trans (hcd.trans k2.symm)
    rw [h3, g3]
    unfold lo
    rw [alM_eq k3]
  · have h := lo_ok (vt := vt) (H := H) hn (hS c hc)
    exact ⟨_, ⟨h.1, (hu _ h.1.1 h.1.2).mpr ⟨c, hc.1, hc.2, rfl⟩⟩, h.2.2⟩
  · obtain ⟨c, h1, h2, h3⟩ := (hu d hd.1.1 hd.1.2).mp hd.2
    have h := lo_ok (vt := vt) (H := H) hn (hS c ⟨h1, h2⟩)
    exact ⟨c, ⟨h1, h2⟩, by rw [h3]; exact h.2.2.symm⟩
set_option maxHeartbeats 4000000 in
set_option maxRecDepth 100000 in
theorem c_X0_alikeTo {l : Launch} {G : GT} {t aL aU aP aK aN aH : Nat} {cu cp : Int} {cb : Bool} {wK : Int → Int} {c : Int} (hc : 0 ≤ c ∧ c < 13) : ConF l G yX0_alikeTo cX0_alikeTo 2 (some .int) { frames := 0, cells := 0, slots := 0, locals := 0 } [.ref t, .int (iI c)] [(t, eO 0 [.ref aL, .ref aU, .ref aP, .ref aK, .ref aN, .ref aH, .int (iI cu), .int (iI cp), .int (iI (pI (cb = true)))]), (aK, eI G 13 wK)] (some (.int (iI (wK c)))) := by
  refine Con.mk (by decide +kernel) [some (.ref t), some (.int (iI c))] rfl (Nat.le_of_ble_eq_true rfl) rfl ?_
  intro V M EI EL EV EA
  refine M.iloadn (pc := 0) 1 rfl rfl dX0_alikeTo_0 ?_
  refine M.if_lt (pc := 1) (tgt := 22) dX0_alikeTo_1 (by decide) (by omega) (fun c1 => ?_) (fun c1 => ?_)
  · exact absurd c1 (by omega)
  · refine M.iloadn (pc := 4) 1 rfl rfl dX0_alikeTo_4 ?_
    refine M.aloadn (pc := 5) 0 rfl rfl dX0_alikeTo_5 ?_
    refine M.getf (pc := 6) fg_X0_22 0 rfl rfl dX0_alikeTo_6 ?_
    refine M.alenI (pc := 9) 1 rfl dX0_alikeTo_9 ?_
    refine M.icmp_ge (pc := 10) (tgt := 22) dX0_alikeTo_10 (by decide) (by omega) (by omega) (fun c10 => ?_) (fun c10 => ?_)
    · exact absurd c10 (by omega)
    · refine M.aloadn (pc := 13) 0 rfl rfl dX0_alikeTo_13 ?_
      refine M.getf (pc := 14) fg_X0_22 0 rfl rfl dX0_alikeTo_14 ?_
      refine M.iloadn (pc := 17) 1 rfl rfl dX0_alikeTo_17 ?_
      refine M.iald (pc := 18) 1 rfl (by omega) (by omega) dX0_alikeTo_18 ?_
      refine M.goto (pc := 19) (tgt := 23) dX0_alikeTo_19 (by decide) ?_
      exact EI () _ _ _ _ dX0_alikeTo_23 (Or.inl rfl) (eqI (by rfl)) rfl trivial
set_option maxHeartbeats 4000000 in
set_option maxRecDepth 100000 in
theorem c_X0_merged {l : Launch} {G : GT} {t aL aU aP aK aN aH : Nat} {cu cp : Int} {cb : Bool} {wK : Int → Int} {S n : Int} {vt : Int → Prop} {H : Int → Int → Int} (hn : 0 ≤ n ∧ n ≤ 6) (hS : SET (prB n) S) (hK : ∀ d, prB n d = true → wK d = alM vt H (prB n) d) : Con l G yX0_merged cX0_merged 4 (some .int) { frames := 1, cells := 0, slots := 0, locals := 21 } [.ref t, .int (iI S)] [(t, eO 0 [.ref aL, .ref aU, .ref aP, .ref aK, .ref aN, .ref aH, .int (iI cu), .int (iI cp), .int (iI (pI (cb = true)))]), (aK, eI G 13 wK)] (S := Int) (fun u => some (.int (iI u))) (fun _ => [(t, eO 0 [.ref aL, .ref aU, .ref aP, .ref aK, .ref aN, .ref aH, .int (iI cu), .int (iI cp), .int (iI (pI (cb = true)))]), (aK, eI G 13 wK)]) (fun u => (0 ≤ u ∧ u < 8192) ∧ MGD n vt H u ∧ EQV vt H S u) := by
  refine Con.mk (by decide +kernel) [some (.ref t), some (.int (iI S)), none, none] rfl (Nat.le_of_ble_eq_true rfl) rfl ?_
  intro V M EI EL EV EA
  have hSb := hS.1
  refine M.iconst (pc := 0) dX0_merged_0 ?_
  refine M.istoren (pc := 1) 2 rfl (Nat.le_of_ble_eq_true rfl) rfl dX0_merged_1 ?_
  dsimp only [List.set_cons_zero, List.set_cons_succ]
  refine M.iconst (pc := 2) dX0_merged_2 ?_
  refine M.istoren (pc := 3) 3 rfl (Nat.le_of_ble_eq_true rfl) rfl dX0_merged_3 ?_
  dsimp only [List.set_cons_zero, List.set_cons_succ]
  have L4 : ∀ (fu : Nat) {k s : Int}, (0 ≤ k ∧ k ≤ 13) → (0 ≤ s ∧ s < 8192) → (∀ d, 0 ≤ d → d < 13 → (tb s d = true ↔ ∃ c, (0 ≤ c ∧ c < k) ∧ tb S c = true ∧ d = lo vt H (prB n) c)) → (13 - k).toNat < fu → V 0 0 4 [(t, eO 0 [.ref aL, .ref aU, .ref aP, .ref aK, .ref aN, .ref aH, .int (iI cu), .int (iI cp), .int (iI (pI (cb = true)))]), (aK, eI G 13 wK)] [some (.ref t), some (.int (iI S)), some (.int (iI s)), some (.int (iI k))] [] := by
    intro fu
    induction fu with
    | zero => intro k s hk hs1 hs2 hm; exact absurd hm (Nat.not_lt_zero _)
    | succ fu ih4 =>
      intro k s hk hs1 hs2 hm4
      refine M.iloadn (pc := 4) 3 rfl rfl dX0_merged_4 ?_
      refine M.bipush (pc := 5) (by decide +kernel) dX0_merged_5 ?_
      refine M.icmp_ge (pc := 7) (tgt := 39) dX0_merged_7 (by decide) (by omega) (by omega) (fun c7 => ?_) (fun c7 => ?_)
      · refine M.iloadn (pc := 39) 2 rfl rfl dX0_merged_39 ?_
        have e13 : k = 13 := by omega
        rw [e13] at hs2
        have hmo := merged_ok hn hS.2 hs2
        exact EI s _ _ _ _ dX0_merged_40 (Or.inl rfl) (rfl) (rfl) (⟨hs1, hmo⟩)
      · refine M.iloadn (pc := 10) 1 rfl rfl dX0_merged_10 ?_
        refine M.iloadn (pc := 11) 3 rfl rfl dX0_merged_11 ?_
        refine M.pSN (pc := 12) (c_X7_has  (by first | assumption | omega) (by first | assumption | omega) (by first | assumption | omega) (by first | assumption | omega)) ms_X0_82 [] rfl rfl rfl rfl (Nat.le_of_ble_eq_true rfl) rfl ⟨(Nat.le_of_ble_eq_true rfl), (Nat.le_of_ble_eq_true rfl)⟩ ⟨(Nat.le_of_ble_eq_true rfl), (Nat.le_of_ble_eq_true rfl)⟩ rfl dX0_merged_12 ?_
        refine M.if_eqP (pc := 15) (tgt := 33) dX0_merged_15 (by decide) (fun c15 => ?_) (fun c15 => ?_)
        · refine M.iinc (pc := 33) (i := 3) rfl rfl dX0_merged_33 ?_
          dsimp only [List.set_cons_zero, List.set_cons_succ]
          refine M.goto (pc := 36) (tgt := 4) dX0_merged_36 (by decide) ?_
          exact ih4  (by first | assumption | omega) (by first | exact hs1 | exact hbb) (by first | exact hst | (intro d d0 d1; rw [hs2 d d0 d1]; exact ⟨fun ⟨c, h1, h2⟩ => ⟨c, ⟨h1.1, by omega⟩, h2⟩, fun ⟨c, h1, h2, h3⟩ => ⟨c, ⟨h1.1, by have : c ≠ k := (fun z => c15 (by rw [← z]; exact h2)); omega⟩, h2, h3⟩⟩)) (by omega)
        · have hpk : prB n k = true := hS.2 k ⟨⟨hk.1, by omega⟩, c15⟩
          have hlk := lo_ok (vt := vt) (H := H) hn hpk
          have hpp := alM_pos (vt := vt) (H := H) hn hpk
          have hlw := low8 hpp.1 hpp.2
          have hpl : 0 ≤ p2 (lo vt H (prB n) k) ∧ p2 (lo vt H (prB n) k) < 8192 := by
            have := p2_12 (k := lo vt H (prB n) k) (by omega)
            omega
          have hbb := bor_b hs1 hpl
          have hst : ∀ d, 0 ≤ d → d < 13 → (tb (bor s (p2 (lo vt H (prB n) k))) d = true ↔ ∃ c, (0 ≤ c ∧ c < k + 1) ∧ tb S c = true ∧ d = lo vt H (prB n) c) := by
            intro d d0 d1
            rw [tb_bor, Bool.or_eq_true, hs2 d d0 d1, tb_p2 hlk.1.1 d0, decide_eq_true_eq]
            constructor
            · rintro (⟨c, h1, h2⟩ | z)
              · exact ⟨c, ⟨h1.1, by omega⟩, h2⟩
              · exact ⟨k, ⟨hk.1, by omega⟩, c15, z.symm⟩
            · rintro ⟨c, h1, h2, h3⟩
              rcases (by omega : c < k ∨ c = k) with q | q
              · exact Or.inl ⟨c, ⟨h1.1, q⟩, h2, h3⟩
              · exact Or.inr (by rw [h3, q])
          refine M.iloadn (pc := 18) 2 rfl rfl dX0_merged_18 ?_
          refine M.aloadn (pc := 19) 0 rfl rfl dX0_merged_19 ?_
          refine M.iloadn (pc := 20) 3 rfl rfl dX0_merged_20 ?_
          refine M.pV (pc := 21) (c_X0_alikeTo  (by first | assumption | omega)) mv_X0_111 [0, 1] rfl rfl rfl 0 rfl rfl rfl rfl (Nat.le_of_ble_eq_true rfl) rfl ⟨(Nat.le_of_ble_eq_true rfl), (Nat.le_of_ble_eq_true rfl)⟩ ⟨(Nat.le_of_ble_eq_true rfl), (Nat.le_of_ble_eq_true rfl)⟩ rfl dX0_merged_21 ?_
          refine M.aloadn (pc := 24) 0 rfl rfl dX0_merged_24 ?_
          refine M.iloadn (pc := 25) 3 rfl rfl dX0_merged_25 ?_
          refine M.pV (pc := 26) (c_X0_alikeTo  (by first | assumption | omega)) mv_X0_111 [0, 1] rfl rfl rfl 0 rfl rfl rfl rfl (Nat.le_of_ble_eq_true rfl) rfl ⟨(Nat.le_of_ble_eq_true rfl), (Nat.le_of_ble_eq_true rfl)⟩ ⟨(Nat.le_of_ble_eq_true rfl), (Nat.le_of_ble_eq_true rfl)⟩ rfl dX0_merged_26 ?_
          rw [hK k hpk]
          refine M.ineg (pc := 29) dX0_merged_29 ?_
          refine M.iand (pc := 30) (hlw.1) dX0_merged_30 ?_
          refine M.ior (pc := 31) (bor_ok hs1.1 hpl.1) dX0_merged_31 ?_
          refine M.istoren (pc := 32) 2 rfl (Nat.le_of_ble_eq_true rfl) rfl dX0_merged_32 ?_
          dsimp only [List.set_cons_zero, List.set_cons_succ]
          refine M.iinc (pc := 33) (i := 3) rfl rfl dX0_merged_33 ?_
          dsimp only [List.set_cons_zero, List.set_cons_succ]
          refine M.goto (pc := 36) (tgt := 4) dX0_merged_36 (by decide) ?_
          exact ih4  (by first | assumption | omega) (by first | exact hs1 | exact hbb) (by first | exact hst | (intro d d0 d1; rw [hs2 d d0 d1]; exact ⟨fun ⟨c, h1, h2⟩ => ⟨c, ⟨h1.1, by omega⟩, h2⟩, fun ⟨c, h1, h2, h3⟩ => ⟨c, ⟨h1.1, by have : c ≠ k := (fun z => c15 (by rw [← z]; exact h2)); omega⟩, h2, h3⟩⟩)) (by omega)
  exact L4 _  (by first | assumption | omega) (by first | assumption | omega) (by intro d d0 d1; rw [tb_0]; exact ⟨fun z => absurd z (by decide), fun ⟨c, h1, _⟩ => by omega⟩) (Nat.lt_succ_self _)
