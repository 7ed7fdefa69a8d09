/-! the class's calls: draws, images, the house -/
theorem land_31 {a : Int} (h0 : 0 ≤ a) (h1 : a < 9223372036854775808) : lI a &&& lI 2147483647 = lI (a % 2147483648) := by
  rw [← Int64.toBitVec_inj]
  show (BitVec.ofInt 64 a) &&& (BitVec.ofInt 64 2147483647) = BitVec.ofInt 64 (a % 2147483648)
  apply BitVec.eq_of_toNat_eq
  rw [BitVec.toNat_and, BitVec.toNat_ofInt, BitVec.toNat_ofInt, BitVec.toNat_ofInt]
  rw [show ((2147483647 : Int) % ((2 ^ 64 : Nat) : Int)).toNat = 2 ^ 31 - 1 by decide, Nat.and_two_pow_sub_one_eq_mod]
  rw [show ((2 ^ 64 : Nat) : Int) = 18446744073709551616 by decide, show (2 ^ 31 : Nat) = 2147483648 by decide]
  omega
theorem HM.dms {g : Int → Int} {s c nb n b : Int} {gb gt : Int → Int} (hV : HV gb nb) (hT : HVT gt n) (hn : 0 ≤ n ∧ n ≤ 6) (hb : 0 ≤ b ∧ b < nb) (hs : 0 ≤ s ∧ s < 2147483648) (hc : 0 ≤ c ∧ c ≤ 12) (hM : HM g c nb n) : HM (dmS gb gt n b (s, c, g)).2.2 (dmS gb gt n b (s, c, g)).2.1 nb n := by
  unfold dmS
  by_cases q : c < 12
  · rw [if_pos (show (s, c, g).2.1 < 12 from q)]
    have hd := (dsS_b (gt := gt) (s := s) hs n.toNat).2
    rw [show ((n.toNat : Nat) : Int) = n by omega] at hd
    have hsb := sizeS_b (S := (dsS gt s n.toNat).2) hT hn.1 hn.2 (by omega : (n.toNat : Int) ≤ n)
    have hv : 0 ≤ drV (dsS gt s n.toNat).1 4 ∧ drV (dsS gt s n.toNat).1 4 < 4 := ⟨Int.emod_nonneg _ (by decide), Int.emod_lt_of_pos _ (by decide)⟩
    have hh := hHei_v hV hb.1 hb.2 (hr := drV (dsS gt s n.toNat).1 4) (s := sizeS gt n.toNat (dsS gt s n.toNat).2) (B := 5994) hv.1 hsb.1 hsb.2
    have h := hM.rwG (M := 12) (b := b) (h := drV (dsS gt s n.toNat).1 4) (S := (dsS gt s n.toNat).2) (v := hHei gb b (drV (dsS gt s n.toNat).1 4) (sizeS gt n.toNat (dsS gt s n.toNat).2)) hc.1 hc.2
    have r := (aRef_0 (vb := nb) (vn := n) (b := b) (h := drV (dsS gt s n.toNat).1 4) (S := (dsS gt s n.toNat).2) (v := hHei gb b (drV (dsS gt s n.toNat).1 4) (sizeS gt n.toNat (dsS gt s n.toNat).2)) (M := 12) hc.2).mpr ⟨⟨hb, hd⟩, ⟨by omega, by omega⟩, q⟩
    rw [rwN_0 r, rwG_0 r] at h
    exact h
  · rw [if_neg (show ¬ (s, c, g).2.1 < 12 from q)]
    exact hM
theorem HM.dmn {g : Int → Int} {s c nb n b : Int} {gb gt : Int → Int} (hV : HV gb nb) (hT : HVT gt n) (hn : 0 ≤ n ∧ n ≤ 6) (hb : 0 ≤ b ∧ b < nb) (hs : 0 ≤ s ∧ s < 2147483648) (hc : 0 ≤ c ∧ c ≤ 12) (hM : HM g c nb n) : ∀ k : Nat, HM (dmN gb gt n b (s, c, g) k).2.2 (dmN gb gt n b (s, c, g) k).2.1 nb n := by
  intro k
  induction k with
  | zero => exact hM
  | succ k ih =>
    have q := dmN_b (gb := gb) (gt := gt) (vn := n) (b := b) (q := (s, c, g)) hs hc k
    exact HM.dms (g := (dmN gb gt n b (s, c, g) k).2.2) (s := (dmN gb gt n b (s, c, g) k).1) (c := (dmN gb gt n b (s, c, g) k).2.1) hV hT hn hb q.1 q.2 ih
def kpI (i j a b : Int) : Int := if i = j then a else b
def kpB (i j : Int) (k : Bool) : Bool := decide (i = j) || k
theorem kpI_y {i j a b : Int} (h : i = j) : kpI i j a b = a := if_pos h
theorem kpI_n {i j a b : Int} (h : i ≠ j) : kpI i j a b = b := if_neg h
theorem kpB_y {i j : Int} {k : Bool} (h : i = j) : kpB i j k = true := by unfold kpB; rw [decide_eq_true h]; rfl
theorem kpB_n {i j : Int} {k : Bool} (h : i ≠ j) : kpB i j k = k := by unfold kpB; rw [decide_eq_false h]; rfl
def KPC (i j : Int) (gm g u : Int → Int) : Prop := (i = j → ∀ x, 0 ≤ x → x < 48 → u x = gm x) ∧ (i ≠ j → u = g)
def kz (i : Int) (k0 k1 : Bool) : Int := if i = 0 then pI (k0 = true) else if i = 1 then pI (k1 = true) else 0
/-- which image one goes back to: 0, 1, none (2) -/
def gbW (i : Int) (k0 k1 : Bool) : Int := if i = 0 ∧ k0 = true then 0 else if i = 1 ∧ k1 = true then 1 else 2
def gbX (w a0 a1 b : Int) : Int := if w = 0 then a0 else if w = 1 then a1 else b
def GBC (w : Int) (g0 g1 gm u : Int → Int) : Prop := (w = 0 → ∀ x, 0 ≤ x → x < 48 → u x = g0 x) ∧ (w = 1 → ∀ x, 0 ≤ x → x < 48 → u x = g1 x) ∧ (w ≠ 0 → w ≠ 1 → u = gm)
theorem HM.eq {g u : Int → Int} {c nb n : Int} (hM : HM g c nb n) (hc : c ≤ 12) (h : ∀ x, 0 ≤ x → x < 48 → u x = g x) : HM u c nb n := by
  intro m h0 h1
  rw [h _ (by omega) (by omega), h _ (by omega) (by omega), h _ (by omega) (by omega), h _ (by omega) (by omega)]
  exact hM m h0 h1
/-- what is read is a house -/
theorem HV_ad4 {fb : Int → Int} {nb a b c d : Int} (h : HV fb nb) (h0 : 0 ≤ nb) (ha : 1 ≤ a ∧ a ≤ 99) (hb : 1 ≤ b ∧ b ≤ 99) (hc : 0 ≤ c ∧ c ≤ 9999) (hd : 0 ≤ d ∧ d ≤ 99) : HV (ad4 fb nb a b c d) (nb + 1) := by
  intro k k0 k1
  by_cases e : k = nb
  · have e1 := ad4_at fb nb a b c d
    rw [e, Int.add_zero, e1.1, e1.2.1, e1.2.2.1, e1.2.2.2]
    omega
  · rw [ad4_n (by omega), ad4_n (by omega), ad4_n (by omega), ad4_n (by omega)]
    exact h k k0 (by omega)
theorem HVT_ad4 {ft : Int → Int} {n a b c d : Int} (h : HVT ft n) (h0 : 0 ≤ n) (ha : 1 ≤ a ∧ a ≤ 999) (hb : 1 ≤ b ∧ b ≤ 999) (hc : 1 ≤ c ∧ c ≤ 999) (hd : 0 ≤ d ∧ d ≤ 100) (h1 : a ≤ b ∧ a ≤ c ∧ c ≤ b) : HVT (ad4 ft n a b c d) (n + 1) := by
  intro k k0 k1
  by_cases e : k = n
  · have e1 := ad4_at ft n a b c d
    rw [e, Int.add_zero, e1.1, e1.2.1, e1.2.2.1, e1.2.2.2]
    omega
  · rw [ad4_n (by omega), ad4_n (by omega), ad4_n (by omega), ad4_n (by omega)]
    exact h k k0 (by omega)
theorem next_hv {s : Int → Int} {i nb n o : Int} {fb ft : Int → Int} (hg : (clQ s i nb n o).1 = 0) (hnb : 0 ≤ nb) (hn : 0 ≤ n) (hb : HV fb nb) (ht : HVT ft n) : HV (nextP s (i, nb, n, o, fb, ft)).2.2.2.2.1 (nextP s (i, nb, n, o, fb, ft)).2.1 ∧ HVT (nextP s (i, nb, n, o, fb, ft)).2.2.2.2.2 (nextP s (i, nb, n, o, fb, ft)).2.2.1 := by
  unfold clQ at hg
  by_cases k0 : kdW s i (run isLt s i) = 0
  · rw [if_pos k0] at hg
    have e1 : nextP s (i, nb, n, o, fb, ft) = _ := if_pos k0
    have h := bthQ_0 hg
    rw [e1]
    exact ⟨HV_ad4 hb hnb (nV_ok h.2.1) (nV_ok h.2.2.1) (nV_ok h.2.2.2.1) (nV_ok h.2.2.2.2.1), ht⟩
  · rw [if_neg k0] at hg
    by_cases k1 : kdW s i (run isLt s i) = 1
    · rw [if_pos k1] at hg
      have e1 : nextP s (i, nb, n, o, fb, ft) = _ := (if_neg k0).trans (if_pos k1)
      have h := brQ_0 hg
      rw [e1]
      exact ⟨hb, HVT_ad4 ht hn (nV_ok h.2.1) (nV_ok h.2.2.1) (nV_ok h.2.2.2.2.1) (nV_ok h.2.2.2.2.2.2.1) ⟨h.2.2.2.1, h.2.2.2.2.2.1.1, h.2.2.2.2.2.1.2⟩⟩
    · have e1 : nextP s (i, nb, n, o, fb, ft) = _ := (if_neg k0).trans (if_neg k1)
      rw [e1]
      exact ⟨hb, ht⟩
theorem pst_hv {s : Int → Int} {L : Int} (hT : TXT s L) : ∀ K : Nat, (∀ j : Nat, j < K → GO s j) → HV (pFB s K) (pB s K) ∧ HVT (pFT s K) (pN s K) := by
  intro K
  induction K with
  | zero => intro _; exact ⟨fun k k0 k1 => by have k1 : k < 0 := k1; omega, fun k k0 k1 => by have k1 : k < 0 := k1; omega⟩
  | succ K ih =>
    intro h
    have h1 := ih (fun j hj => h j (by omega))
    have hb := pst_b hT (fun j hj => h j (by omega) : ∀ j : Nat, j < K → GO s j)
    exact next_hv (h K (by omega)).2 hb.2.1.1 hb.2.2.1.1 h1.1 h1.2
theorem HV.cg {f g : Int → Int} {n : Int} (h : HV g n) (e : EQ4 f g n) : HV f n := by
  intro k k0 k1
  have r := e.row k0 k1
  rw [r.1, r.2.1, r.2.2.1, r.2.2.2]
  exact h k k0 k1
theorem HVT.cg {f g : Int → Int} {n : Int} (h : HVT g n) (e : EQ4 f g n) : HVT f n := by
  intro k k0 k1
  have r := e.row k0 k1
  rw [r.1, r.2.1, r.2.2.1, r.2.2.2]
  exact h k k0 k1
theorem HM.cg {f g : Int → Int} {c nb n : Int} (h : HM g c nb n) (e : EQ4 f g c) : HM f c nb n := by
  intro k k0 k1
  have r := e.row k0 k1
  rw [r.1, r.2.1, r.2.2.1, r.2.2.2]
  exact h k k0 k1
set_option maxHeartbeats 4000000 in
set_option maxRecDepth 100000 in
theorem c_X7_draw {l : Launch} {G : GT} {x r mo en i0 i1 e f t h h2 : Nat} {vs : Int} {n : Int} (hvs : 0 ≤ vs ∧ vs < 2147483648) (hn : 1 ≤ n ∧ n ≤ 100) : Con l G yX7_draw cX7_draw 2 (some .int) { frames := 0, cells := 0, slots := 0, locals := 0 } [.ref x, .int (iI n)] [(x, eO 7 [.ref r, .ref mo, .ref en, .ref i0, .ref i1, .ref e, .ref f, .ref t, .ref h, .ref h2, .int (iI vs)])] (S := Unit) (fun _ => some (.int (iI (drV vs n)))) (fun _ => [(x, eO 7 [.ref r, .ref mo, .ref en, .ref i0, .ref i1, .ref e, .ref f, .ref t, .ref h, .ref h2, .int (iI (dr vs))])]) (fun _ => True) := by
  refine Con.mk (by decide +kernel) [some (.ref x), some (.int (iI n))] rfl (Nat.le_of_ble_eq_true rfl) rfl ?_
  intro V M EI EL EV EA
  have hd := dr_b vs
  have hdv : dr vs = (vs * 1103515245 + 12345) % 2147483648 := rfl
  refine M.aloadn (pc := 0) 0 rfl rfl dX7_draw_0 ?_
  refine M.aloadn (pc := 1) 0 rfl rfl dX7_draw_1 ?_
  refine M.getf (pc := 2) fg_X7_257 0 rfl rfl dX7_draw_2 ?_
  refine M.i2l (pc := 5) (by omega) dX7_draw_5 ?_
  refine M.ldc2 (pc := 6) (1103515245) lc_X7_280 (by decide +kernel) dX7_draw_6 ?_
  refine M.lmul (pc := 9) dX7_draw_9 ?_
  refine M.ldc2 (pc := 10) (12345) lc_X7_282 (by decide +kernel) dX7_draw_10 ?_
  refine M.ladd (pc := 13) dX7_draw_13 ?_
  refine M.ldc2 (pc := 14) (2147483647) lc_X7_284 (by decide +kernel) dX7_draw_14 ?_
  refine M.land (pc := 17) (land_31 (by omega) (by omega)) dX7_draw_17 ?_
  refine M.l2i (pc := 18) dX7_draw_18 ?_
  rw [← hdv]
  refine M.putf (pc := 19) fp_X7_257 0 rfl rfl rfl (Nat.le_of_ble_eq_true rfl) dX7_draw_19 ?_
  dsimp only [List.set_cons_zero, List.set_cons_succ]
  refine M.iloadn (pc := 22) 1 rfl rfl dX7_draw_22 ?_
  refine M.if_le (pc := 23) (tgt := 39) dX7_draw_23 (by decide) (by omega) (fun c23 => ?_) (fun c23 => ?_)
  · exact absurd c23 (by omega)
  · refine M.aloadn (pc := 26) 0 rfl rfl dX7_draw_26 ?_
    refine M.getf (pc := 27) fg_X7_257 0 rfl rfl dX7_draw_27 ?_
    refine M.ldcw (pc := 30) (65536) lc_X7_286 (by decide +kernel) dX7_draw_30 ?_
    refine M.idiv (pc := 33) (by omega) (by omega) dX7_draw_33 ?_
    refine M.iloadn (pc := 34) 1 rfl rfl dX7_draw_34 ?_
    refine M.irem (pc := 35) (by omega) (by omega) dX7_draw_35 ?_
    refine M.goto (pc := 36) (tgt := 40) dX7_draw_36 (by decide) ?_
    exact EI () _ _ _ _ dX7_draw_40 (Or.inl rfl) (rfl) (rfl) (trivial)
set_option maxHeartbeats 4000000 in
set_option maxRecDepth 100000 in
theorem c_X7_drawSet {l : Launch} {G : GT} {x r mo en i0 i1 e f t h h2 : Nat} {vs : Int} {hb ht : Nat} {fb ft : Int → Int} {vb vn vo : Int} (hn : 0 ≤ vn ∧ vn ≤ 6) (hnb : 0 ≤ vb ∧ vb ≤ 2) (hB : HB fb) (hT : HT ft) (hV : HV fb vb) (hVT : HVT ft vn) (ho : 0 ≤ vo ∧ vo ≤ 999) (hvs : 0 ≤ vs ∧ vs < 2147483648) : Con l G yX7_drawSet cX7_drawSet 3 (some .int) { frames := 1, cells := 0, slots := 0, locals := 23 } [.ref x] [(x, eO 7 [.ref r, .ref mo, .ref en, .ref i0, .ref i1, .ref e, .ref f, .ref t, .ref h, .ref h2, .int (iI vs)]), (h, eO 3 [.ref hb, .ref ht, .int (iI vb), .int (iI vn), .int (iI vo)]), (hb, eI G 8 fb), (ht, eI G 24 ft)] (S := Unit) (fun _ => some (.int (iI ((dsS ft vs vn.toNat).2)))) (fun _ => [(x, eO 7 [.ref r, .ref mo, .ref en, .ref i0, .ref i1, .ref e, .ref f, .ref t, .ref h, .ref h2, .int (iI (dsS ft vs vn.toNat).1)]), (h, eO 3 [.ref hb, .ref ht, .int (iI vb), .int (iI vn), .int (iI vo)]), (hb, eI G 8 fb), (ht, eI G 24 ft)]) (fun _ => True) := by
  refine Con.mk (by decide +kernel) [some (.ref x), none, none] rfl (Nat.le_of_ble_eq_true rfl) rfl ?_
  intro V M EI EL EV EA
  refine M.iconst (pc := 0) dX7_drawSet_0 ?_
  refine M.istoren (pc := 1) 1 rfl (Nat.le_of_ble_eq_true rfl) rfl dX7_drawSet_1 ?_
  dsimp only [List.set_cons_zero, List.set_cons_succ]
  refine M.iconst (pc := 2) dX7_drawSet_2 ?_
  refine M.istoren (pc := 3) 2 rfl (Nat.le_of_ble_eq_true rfl) rfl dX7_drawSet_3 ?_
  dsimp only [List.set_cons_zero, List.set_cons_succ]
  have L4 : ∀ (fu : Nat) {k s2 S : Int}, (0 ≤ k ∧ k ≤ vn) → ((s2, S) = dsS ft vs k.toNat) → (vn - k).toNat < fu → V 0 0 4 [(x, eO 7 [.ref r, .ref mo, .ref en, .ref i0, .ref i1, .ref e, .ref f, .ref t, .ref h, .ref h2, .int (iI s2)]), (h, eO 3 [.ref hb, .ref ht, .int (iI vb), .int (iI vn), .int (iI vo)]), (hb, eI G 8 fb), (ht, eI G 24 ft)] [some (.ref x), some (.int (iI S)), some (.int (iI k))] [] := by
    intro fu
    induction fu with
    | zero => intro k s2 S hk hd hm; exact absurd hm (Nat.not_lt_zero _)
    | succ fu ih4 =>
      intro k s2 S hk hd hm4
      refine M.iloadn (pc := 4) 2 rfl rfl dX7_drawSet_4 ?_
      refine M.aloadn (pc := 5) 0 rfl rfl dX7_drawSet_5 ?_
      refine M.getf (pc := 6) fg_X7_62 0 rfl rfl dX7_drawSet_6 ?_
      refine M.getf (pc := 9) fg_X7_99 1 rfl rfl dX7_drawSet_9 ?_
      refine M.icmp_ge (pc := 12) (tgt := 45) dX7_drawSet_12 (by decide) (by omega) (by omega) (fun c12 => ?_) (fun c12 => ?_)
      · refine M.iloadn (pc := 45) 1 rfl rfl dX7_drawSet_45 ?_
        have hkn : k = vn := by omega
        subst hkn
        have e1 : (dsS ft vs k.toNat).1 = s2 := by rw [← hd]
        have e2 : (dsS ft vs k.toNat).2 = S := by rw [← hd]
        exact EI () _ _ _ _ dX7_drawSet_46 (Or.inl rfl) (by rw [e2]) (by rw [e1]) (trivial)
      · have hds := dsS_b (gt := ft) (s := vs) hvs k.toNat
        rw [← hd, show ((k.toNat : Nat) : Int) = k by omega] at hds
        obtain ⟨hds1, hds2⟩ := hds
        have hds1 : 0 ≤ s2 ∧ s2 < 2147483648 := hds1
        have hds2 : 0 ≤ S ∧ S < p2 k := hds2
        have hdn := dsS_s ft vs hk.1
        rw [← hd] at hdn
        have hTk := (hVT k hk.1 (by omega)).2.2.2.1
        have hpk := p2_b (k := k) (by omega)
        refine M.aloadn (pc := 15) 0 rfl rfl dX7_drawSet_15 ?_
        refine M.bipush (pc := 16) (by decide +kernel) dX7_drawSet_16 ?_
        refine M.mV (pc := 18) (c_X7_draw  (by exact hds1) (by omega)) mv_X7_254 [0] rfl rfl rfl 0 rfl rfl rfl rfl (Nat.le_of_ble_eq_true rfl) rfl ⟨(Nat.le_of_ble_eq_true rfl), (Nat.le_of_ble_eq_true rfl)⟩ ⟨(Nat.le_of_ble_eq_true rfl), (Nat.le_of_ble_eq_true rfl)⟩ rfl (fun _ => rfl) dX7_drawSet_18 (fun u18 hu18 => ?_)
        dsimp only [putL, List.set_cons_zero, List.set_cons_succ, Option.toList, List.cons_append, List.nil_append] at hu18 ⊢
        have hdv : 0 ≤ drV s2 100 ∧ drV s2 100 < 100 := ⟨Int.emod_nonneg _ (by decide), Int.emod_lt_of_pos _ (by decide)⟩
        refine M.aloadn (pc := 21) 0 rfl rfl dX7_drawSet_21 ?_
        refine M.getf (pc := 22) fg_X7_62 0 rfl rfl dX7_drawSet_22 ?_
        refine M.iloadn (pc := 25) 2 rfl rfl dX7_drawSet_25 ?_
        refine M.iconst (pc := 26) dX7_drawSet_26 ?_
        refine M.pV (pc := 27) (c_X3_ofBather  (by first | assumption | omega) (by first | assumption | omega)) mv_X7_133 [1, 2, 3] rfl rfl rfl 1 rfl rfl rfl rfl (Nat.le_of_ble_eq_true rfl) rfl ⟨(Nat.le_of_ble_eq_true rfl), (Nat.le_of_ble_eq_true rfl)⟩ ⟨(Nat.le_of_ble_eq_true rfl), (Nat.le_of_ble_eq_true rfl)⟩ rfl dX7_drawSet_27 ?_
        have L39 : ∀ {S2 : Int}, (S2 = S + (if drV s2 100 < ft (k * 4 + 3) then p2 k else 0)) → V 0 0 39 [(x, eO 7 [.ref r, .ref mo, .ref en, .ref i0, .ref i1, .ref e, .ref f, .ref t, .ref h, .ref h2, .int (iI (dr s2))]), (h, eO 3 [.ref hb, .ref ht, .int (iI vb), .int (iI vn), .int (iI vo)]), (hb, eI G 8 fb), (ht, eI G 24 ft)] [some (.ref x), some (.int (iI S2)), some (.int (iI k))] [] := by
          intro S2 hS2
          refine M.iinc (pc := 39) (i := 2) rfl rfl dX7_drawSet_39 ?_
          dsimp only [List.set_cons_zero, List.set_cons_succ]
          refine M.goto (pc := 42) (tgt := 4) dX7_drawSet_42 (by decide) ?_
          exact ih4  (by first | assumption | omega) (by rw [hdn, hS2]) (by omega)
        refine M.icmp_ge (pc := 30) (tgt := 39) dX7_drawSet_30 (by decide) (by omega) (by omega) (fun c30 => ?_) (fun c30 => ?_)
        · exact L39  (by rw [if_neg (by omega), Int.add_zero])
        · refine M.iloadn (pc := 33) 1 rfl rfl dX7_drawSet_33 ?_
          refine M.iconst (pc := 34) dX7_drawSet_34 ?_
          refine M.iloadn (pc := 35) 2 rfl rfl dX7_drawSet_35 ?_
          refine M.ishl (pc := 36) (bit_shl1 hk.1 (by omega)) dX7_drawSet_36 ?_
          refine M.ior (pc := 37) (or_p2 hds2.1 hds2.2) dX7_drawSet_37 ?_
          refine M.istoren (pc := 38) 1 rfl (Nat.le_of_ble_eq_true rfl) rfl dX7_drawSet_38 ?_
          dsimp only [List.set_cons_zero, List.set_cons_succ]
          exact L39  (by rw [if_pos (by omega)])
  exact L4 _  (by first | assumption | omega) (by rfl) (Nat.lt_succ_self _)
set_option maxHeartbeats 4000000 in
set_option maxRecDepth 100000 in
theorem c_X7_drift {l : Launch} {G : GT} {x r mo en i0 i1 e f t h h2 : Nat} {vs : Int} {hb ht : Nat} {fb ft : Int → Int} {vb vn vo : Int} {moc : Nat} {vm : Int} {gmC : Int → Int} {eLo eUp eSe eLe eGr : Nat} {el eu gs gL gG : Int → Int} {ecl : Bool} {te fcr : Nat} {fcc ffo : Int} {ffd : Bool} {b n : Int} (hn : 0 ≤ vn ∧ vn ≤ 6) (hnb : 0 ≤ vb ∧ vb ≤ 2) (hB : HB fb) (hT : HT ft) (hV : HV fb vb) (hVT : HVT ft vn) (ho : 0 ≤ vo ∧ vo ≤ 999) (hc : 0 ≤ vm ∧ vm ≤ 12) (hM : HM gmC vm vb vn) (hL : LRN vn vm fb ft gmC ecl el eu) (hF : FLS vn vm fb ft gmC ffd ffo) (hvs : 0 ≤ vs ∧ vs < 2147483648) (hrb : InR b) (hrn : InR n) : Con l G yX7_drift cX7_drift 6 (some .int) { frames := 6, cells := 0, slots := 0, locals := 137 } [.ref x, .int (iI b), .int (iI n)] [(x, eO 7 [.ref r, .ref mo, .ref en, .ref i0, .ref i1, .ref e, .ref f, .ref t, .ref h, .ref h2, .int (iI vs)]), (mo, eO 6 [.ref moc, .int (iI vm)]), (moc, eI G 48 gmC), (e, eO 1 [.ref eLo, .ref eUp, .ref eSe, .ref eLe, .ref eGr, .int (iI (pI (ecl = true)))]), (eLo, eI G 6 el), (eUp, eI G 6 eu), (eSe, eI G 12 gs), (eLe, eI G 12 gL), (eGr, eI G 12 gG), (f, eO 2 [.ref te, .ref fcr, .int (iI fcc), .int (iI (pI (ffd = true))), .int (iI ffo)]), (h, eO 3 [.ref hb, .ref ht, .int (iI vb), .int (iI vn), .int (iI vo)]), (hb, eI G 8 fb), (ht, eI G 24 ft)] (S := Bool × (Int → Int) × (Int → Int) × (Int → Int) × (Int → Int) × (Int → Int) × Bool) (fun _ => some (.int (iI (aDrift fb ft gmC vb vn vm vs b n)))) (fun u => [(x, eO 7 [.ref r, .ref mo, .ref en, .ref i0, .ref i1, .ref e, .ref f, .ref t, .ref h, .ref h2, .int (iI (dfQ fb ft gmC vb vn vm vs b n).1)]), (mo, eO 6 [.ref moc, .int (iI (dfQ fb ft gmC vb vn vm vs b n).2.1)]), (moc, eI G 48 (dfQ fb ft gmC vb vn vm vs b n).2.2), (e, eO 1 [.ref eLo, .ref eUp, .ref eSe, .ref eLe, .ref eGr, .int (iI (pI (u.1 = true)))]), (eLo, eI G 6 u.2.1), (eUp, eI G 6 u.2.2.1), (eSe, eI G 12 u.2.2.2.1), (eLe, eI G 12 u.2.2.2.2.1), (eGr, eI G 12 u.2.2.2.2.2.1), (f, eO 2 [.ref te, .ref fcr, .int (iI fcc), .int (iI (pI (u.2.2.2.2.2.2 = true))), .int (iI ffo)]), (h, eO 3 [.ref hb, .ref ht, .int (iI vb), .int (iI vn), .int (iI vo)]), (hb, eI G 8 fb), (ht, eI G 24 ft)]) (fun u => LRN vn (dfQ fb ft gmC vb vn vm vs b n).2.1 fb ft (dfQ fb ft gmC vb vn vm vs b n).2.2 u.1 u.2.1 u.2.2.1 ∧ FLS vn (dfQ fb ft gmC vb vn vm vs b n).2.1 fb ft (dfQ fb ft gmC vb vn vm vs b n).2.2 u.2.2.2.2.2.2 ffo) := by
  refine Con.mk (by decide +kernel) [some (.ref x), some (.int (iI b)), some (.int (iI n)), none, none, none] rfl (Nat.le_of_ble_eq_true rfl) rfl ?_
  intro V M EI EL EV EA
  have hp2 := p2_6 hn.2
  refine M.aloadn (pc := 0) 0 rfl rfl dX7_drift_0 ?_
  refine M.getf (pc := 1) fg_X7_62 0 rfl rfl dX7_drift_1 ?_
  refine M.iloadn (pc := 4) 1 rfl rfl dX7_drift_4 ?_
  refine M.pV (pc := 5) (c_X3_hasBath  (by first | assumption | omega) (by first | assumption | omega)) mv_X7_114 [10] rfl rfl rfl 10 rfl rfl rfl rfl (Nat.le_of_ble_eq_true rfl) rfl ⟨(Nat.le_of_ble_eq_true rfl), (Nat.le_of_ble_eq_true rfl)⟩ ⟨(Nat.le_of_ble_eq_true rfl), (Nat.le_of_ble_eq_true rfl)⟩ rfl dX7_drift_5 ?_
  refine M.if_neP (pc := 8) (tgt := 14) dX7_drift_8 (by decide) (fun c8 => ?_) (fun c8 => ?_)
  · refine M.iloadn (pc := 14) 2 rfl rfl dX7_drift_14 ?_
    refine M.iconst (pc := 15) dX7_drift_15 ?_
    refine M.icmp_lt (pc := 16) (tgt := 25) dX7_drift_16 (by decide) (by omega) (by omega) (fun c16 => ?_) (fun c16 => ?_)
    · refine M.ldc (pc := 25) (-1000000002) lc_X7_69 (by decide +kernel) dX7_drift_25 ?_
      have hD : dfQ fb ft gmC vb vn vm vs b n = (vs, vm, gmC) := if_neg (by omega)
      exact EI (ecl, el, eu, gs, gL, gG, ffd) _ _ _ _ dX7_drift_27 (Or.inl rfl) (eqI (by unfold aDrift; rw [if_neg (by omega), if_pos (by omega)])) (by rw [hD]) (by rw [hD]; exact ⟨hL, hF⟩)
    · refine M.iloadn (pc := 19) 2 rfl rfl dX7_drift_19 ?_
      refine M.bipush (pc := 20) (by decide +kernel) dX7_drift_20 ?_
      refine M.icmp_le (pc := 22) (tgt := 28) dX7_drift_22 (by decide) (by omega) (by omega) (fun c22 => ?_) (fun c22 => ?_)
      · have hok : (0 ≤ b ∧ b < vb) ∧ (1 ≤ n ∧ n ≤ 30) := by omega
        refine M.iconst (pc := 28) dX7_drift_28 ?_
        refine M.istoren (pc := 29) 3 rfl (Nat.le_of_ble_eq_true rfl) rfl dX7_drift_29 ?_
        dsimp only [List.set_cons_zero, List.set_cons_succ]
        have L30 : ∀ (fu : Nat) {i s1 c1 : Int} {g1 : Int → Int}, (0 ≤ i ∧ i ≤ n) → ((s1, c1, g1) = (dmN fb ft vn b (vs, vm, gmC) i.toNat)) → (n - i).toNat < fu → V 0 0 30 [(x, eO 7 [.ref r, .ref mo, .ref en, .ref i0, .ref i1, .ref e, .ref f, .ref t, .ref h, .ref h2, .int (iI s1)]), (mo, eO 6 [.ref moc, .int (iI c1)]), (moc, eI G 48 g1), (e, eO 1 [.ref eLo, .ref eUp, .ref eSe, .ref eLe, .ref eGr, .int (iI (pI (ecl = true)))]), (eLo, eI G 6 el), (eUp, eI G 6 eu), (eSe, eI G 12 gs), (eLe, eI G 12 gL), (eGr, eI G 12 gG), (f, eO 2 [.ref te, .ref fcr, .int (iI fcc), .int (iI (pI (ffd = true))), .int (iI ffo)]), (h, eO 3 [.ref hb, .ref ht, .int (iI vb), .int (iI vn), .int (iI vo)]), (hb, eI G 8 fb), (ht, eI G 24 ft)] [some (.ref x), some (.int (iI b)), some (.int (iI n)), some (.int (iI i)), none, none] [] := by
          intro fu
          induction fu with
          | zero => intro i s1 c1 g1 hi hq hm; exact absurd hm (Nat.not_lt_zero _)
          | succ fu ih30 =>
            intro i s1 c1 g1 hi hq hm30
            refine M.iloadn (pc := 30) 3 rfl rfl dX7_drift_30 ?_
            refine M.iloadn (pc := 31) 2 rfl rfl dX7_drift_31 ?_
            refine M.icmp_ge (pc := 32) (tgt := 85) dX7_drift_32 (by decide) (by omega) (by omega) (fun c32 => ?_) (fun c32 => ?_)
            · have hin : i = n := by omega
              subst hin
              have hqb := dmN_b (gb := fb) (gt := ft) (vn := vn) (b := b) (q := (vs, vm, gmC)) hvs hc i.toNat
              have hM2 := HM.dmn hV hVT hn hok.1 hvs hc hM i.toNat
              rw [← hq] at hqb hM2
              have hD : dfQ fb ft gmC vb vn vm vs b i = (s1, c1, g1) := (if_pos hok).trans hq.symm
              have hc2 : 0 ≤ c1 ∧ c1 ≤ 12 := hqb.2
              refine M.aloadn (pc := 85) 0 rfl rfl dX7_drift_85 ?_
              refine M.mV (pc := 86) (c_X7_learn  (by first | assumption | omega) (by first | assumption | omega) (by first | assumption | omega) (by first | assumption | omega) (by first | assumption | omega) (by first | assumption | omega) (by first | assumption | omega) (by exact hc2) (by exact hM2)) mv_X7_96 [0, 1, 2, 3, 4, 5, 6, 7, 8, 9, 10, 11, 12] rfl rfl rfl 0 rfl rfl rfl rfl (Nat.le_of_ble_eq_true rfl) rfl ⟨(Nat.le_of_ble_eq_true rfl), (Nat.le_of_ble_eq_true rfl)⟩ ⟨(Nat.le_of_ble_eq_true rfl), (Nat.le_of_ble_eq_true rfl)⟩ rfl (fun _ => rfl) dX7_drift_86 (fun u86 hu86 => ?_)
              obtain ⟨cl86, l86, w86, s86, y86, z86⟩ := u86
              dsimp only [putL, List.set_cons_zero, List.set_cons_succ, Option.toList, List.cons_append, List.nil_append] at hu86 ⊢
              refine M.aloadn (pc := 89) 0 rfl rfl dX7_drift_89 ?_
              refine M.getf (pc := 90) fg_X7_21 0 rfl rfl dX7_drift_90 ?_
              refine M.getf (pc := 93) fg_X7_86 1 rfl rfl dX7_drift_93 ?_
              exact EI (cl86, l86, w86, s86, y86, z86, false) _ _ _ _ dX7_drift_96 (Or.inl rfl) (eqI (by unfold aDrift; rw [if_neg (by omega), if_neg (by omega), ← hq])) (by rw [hD]) (by rw [hD]; exact ⟨hu86, fun z => absurd (show false = true from z) (by decide)⟩)
            · have hqb := dmN_b (gb := fb) (gt := ft) (vn := vn) (b := b) (q := (vs, vm, gmC)) hvs hc i.toNat
              rw [← hq] at hqb
              have hst := dmN_s fb ft vn b (vs, vm, gmC) hi.1
              rw [← hq] at hst
              obtain ⟨hqb1, hqb2⟩ := hqb
              have hqb1 : 0 ≤ s1 ∧ s1 < 2147483648 := hqb1
              have hqb2 : 0 ≤ c1 ∧ c1 ≤ 12 := hqb2
              have hds := dsS_b (gt := ft) (s := s1) hqb1 vn.toNat
              rw [show ((vn.toNat : Nat) : Int) = vn by omega] at hds
              have hdv : 0 ≤ drV (dsS ft s1 vn.toNat).1 4 ∧ drV (dsS ft s1 vn.toNat).1 4 < 4 := ⟨Int.emod_nonneg _ (by decide), Int.emod_lt_of_pos _ (by decide)⟩
              have hsb := sizeS_b (S := (dsS ft s1 vn.toNat).2) hVT hn.1 hn.2 (by omega : (vn.toNat : Int) ≤ vn)
              have hc0 := caseS_0 (gt := ft) (od := vo) (S := (dsS ft s1 vn.toNat).2) hn
              refine M.aloadn (pc := 35) 0 rfl rfl dX7_drift_35 ?_
              refine M.mV (pc := 36) (c_X7_drawSet  (by first | assumption | omega) (by first | assumption | omega) (by first | assumption | omega) (by first | assumption | omega) (by first | assumption | omega) (by first | assumption | omega) (by first | assumption | omega) (by exact hqb1)) mv_X7_251 [0, 10, 11, 12] rfl rfl rfl 0 rfl rfl rfl rfl (Nat.le_of_ble_eq_true rfl) rfl ⟨(Nat.le_of_ble_eq_true rfl), (Nat.le_of_ble_eq_true rfl)⟩ ⟨(Nat.le_of_ble_eq_true rfl), (Nat.le_of_ble_eq_true rfl)⟩ rfl (fun _ => rfl) dX7_drift_36 (fun u36 hu36 => ?_)
              dsimp only [putL, List.set_cons_zero, List.set_cons_succ, Option.toList, List.cons_append, List.nil_append] at hu36 ⊢
              refine M.istore (pc := 39) (i := 4) (Nat.le_of_ble_eq_true rfl) rfl dX7_drift_39 ?_
              dsimp only [List.set_cons_zero, List.set_cons_succ]
              refine M.aloadn (pc := 41) 0 rfl rfl dX7_drift_41 ?_
              refine M.iconst (pc := 42) dX7_drift_42 ?_
              refine M.mV (pc := 43) (c_X7_draw  (by exact hds.1) (by omega)) mv_X7_254 [0] rfl rfl rfl 0 rfl rfl rfl rfl (Nat.le_of_ble_eq_true rfl) rfl ⟨(Nat.le_of_ble_eq_true rfl), (Nat.le_of_ble_eq_true rfl)⟩ ⟨(Nat.le_of_ble_eq_true rfl), (Nat.le_of_ble_eq_true rfl)⟩ rfl (fun _ => rfl) dX7_drift_43 (fun u43 hu43 => ?_)
              dsimp only [putL, List.set_cons_zero, List.set_cons_succ, Option.toList, List.cons_append, List.nil_append] at hu43 ⊢
              refine M.istore (pc := 46) (i := 5) (Nat.le_of_ble_eq_true rfl) rfl dX7_drift_46 ?_
              dsimp only [List.set_cons_zero, List.set_cons_succ]
              refine M.aloadn (pc := 48) 0 rfl rfl dX7_drift_48 ?_
              refine M.getf (pc := 49) fg_X7_21 0 rfl rfl dX7_drift_49 ?_
              refine M.iloadn (pc := 52) 1 rfl rfl dX7_drift_52 ?_
              refine M.iload (pc := 53) (i := 5) rfl dX7_drift_53 ?_
              refine M.iload (pc := 55) (i := 4) rfl dX7_drift_55 ?_
              refine M.aloadn (pc := 57) 0 rfl rfl dX7_drift_57 ?_
              refine M.getf (pc := 58) fg_X7_62 0 rfl rfl dX7_drift_58 ?_
              refine M.iloadn (pc := 61) 1 rfl rfl dX7_drift_61 ?_
              refine M.iload (pc := 62) (i := 5) rfl dX7_drift_62 ?_
              refine M.aloadn (pc := 64) 0 rfl rfl dX7_drift_64 ?_
              refine M.getf (pc := 65) fg_X7_62 0 rfl rfl dX7_drift_65 ?_
              refine M.iload (pc := 68) (i := 4) rfl dX7_drift_68 ?_
              refine M.pV (pc := 70) (c_X3_inTruth  (by first | assumption | omega) (by first | assumption | omega) (by first | assumption | omega) (by omega)) mv_X7_142 [10, 11, 12] rfl rfl rfl 10 rfl rfl rfl rfl (Nat.le_of_ble_eq_true rfl) rfl ⟨(Nat.le_of_ble_eq_true rfl), (Nat.le_of_ble_eq_true rfl)⟩ ⟨(Nat.le_of_ble_eq_true rfl), (Nat.le_of_ble_eq_true rfl)⟩ rfl dX7_drift_70 ?_
              rw [hc0]
              refine M.pV (pc := 73) (c_X3_heightOf  (by first | assumption | omega) (by omega) (by omega) (by omega)) mv_X7_145 [10, 11, 12] rfl rfl rfl 10 rfl rfl rfl rfl (Nat.le_of_ble_eq_true rfl) rfl ⟨(Nat.le_of_ble_eq_true rfl), (Nat.le_of_ble_eq_true rfl)⟩ ⟨(Nat.le_of_ble_eq_true rfl), (Nat.le_of_ble_eq_true rfl)⟩ rfl dX7_drift_73 ?_
              refine M.mV (pc := 76) (c_X6_add  (by omega) (by omega)) mv_X7_162 [1, 2] rfl rfl rfl 1 rfl rfl rfl rfl (Nat.le_of_ble_eq_true rfl) rfl ⟨(Nat.le_of_ble_eq_true rfl), (Nat.le_of_ble_eq_true rfl)⟩ ⟨(Nat.le_of_ble_eq_true rfl), (Nat.le_of_ble_eq_true rfl)⟩ rfl (fun _ => rfl) dX7_drift_76 (fun u76 hu76 => ?_)
              obtain ⟨c76, g76⟩ := u76
              dsimp only [putL, List.set_cons_zero, List.set_cons_succ, Option.toList, List.cons_append, List.nil_append] at hu76 ⊢
              have hq3 : (dr (dsS ft s1 vn.toNat).1, c76, g76) = dmS fb ft vn b (s1, c1, g1) := by
                unfold dmS
                by_cases q : c1 < 12
                · obtain ⟨e1, e2⟩ := hu76.1 ⟨by omega, by decide⟩
                  rw [if_pos (show (s1, c1, g1).2.1 < 12 from q), e1, e2]
                · obtain ⟨e1, e2⟩ := hu76.2 (by omega)
                  rw [if_neg (show ¬ (s1, c1, g1).2.1 < 12 from q), e1, e2]
              refine M.iinc (pc := 79) (i := 3) rfl rfl dX7_drift_79 ?_
              dsimp only [List.set_cons_zero, List.set_cons_succ]
              refine M.goto (pc := 82) (tgt := 30) dX7_drift_82 (by decide) ?_
              refine M.forget 4 ?_
              dsimp only [List.set_cons_zero, List.set_cons_succ]
              refine M.forget 5 ?_
              dsimp only [List.set_cons_zero, List.set_cons_succ]
              exact ih30  (by first | assumption | omega) (by rw [hst]; exact hq3) (by omega)
        exact L30 _  (by first | assumption | omega) (by rfl) (Nat.lt_succ_self _)
      · refine M.ldc (pc := 25) (-1000000002) lc_X7_69 (by decide +kernel) dX7_drift_25 ?_
        have hD : dfQ fb ft gmC vb vn vm vs b n = (vs, vm, gmC) := if_neg (by omega)
        exact EI (ecl, el, eu, gs, gL, gG, ffd) _ _ _ _ dX7_drift_27 (Or.inl rfl) (eqI (by unfold aDrift; rw [if_neg (by omega), if_pos (by omega)])) (by rw [hD]) (by rw [hD]; exact ⟨hL, hF⟩)
  · refine M.ldc (pc := 11) (-1000000001) lc_X7_118 (by decide +kernel) dX7_drift_11 ?_
    have hD : dfQ fb ft gmC vb vn vm vs b n = (vs, vm, gmC) := if_neg (by omega)
    exact EI (ecl, el, eu, gs, gL, gG, ffd) _ _ _ _ dX7_drift_13 (Or.inl rfl) (eqI (by unfold aDrift; rw [if_pos (by omega)])) (by rw [hD]) (by rw [hD]; exact ⟨hL, hF⟩)
set_option maxHeartbeats 4000000 in
set_option maxRecDepth 100000 in
theorem c_X7_imageAt_0 {l : Launch} {G : GT} {x r mo en i0 i1 e f t h h2 : Nat} {vs : Int} {i : Int} (hi : i = 0) (hri : InR i) : ConF l G yX7_imageAt cX7_imageAt 2 (some (.object "BathWater$Image")) { frames := 0, cells := 0, slots := 0, locals := 0 } [.ref x, .int (iI i)] [(x, eO 7 [.ref r, .ref mo, .ref en, .ref i0, .ref i1, .ref e, .ref f, .ref t, .ref h, .ref h2, .int (iI vs)])] (some (.ref i0)) := by
  refine Con.mk (by decide +kernel) [some (.ref x), some (.int (iI i))] rfl (Nat.le_of_ble_eq_true rfl) rfl ?_
  intro V M EI EL EV EA
  refine M.iloadn (pc := 0) 1 rfl rfl dX7_imageAt_0 ?_
  refine M.if_ne (pc := 1) (tgt := 9) dX7_imageAt_1 (by decide) (by omega) (fun c1 => ?_) (fun c1 => ?_)
  · exact absurd hi c1
  · refine M.aloadn (pc := 4) 0 rfl rfl dX7_imageAt_4 ?_
    refine M.getf (pc := 5) fg_X7_31 0 rfl rfl dX7_imageAt_5 ?_
    exact EA () _ _ _ _ dX7_imageAt_8 ⟨_, rfl⟩ (by first | exact Or.inl rfl | exact Or.inr ⟨_, rfl⟩) (by rfl) rfl trivial
set_option maxHeartbeats 4000000 in
set_option maxRecDepth 100000 in
theorem c_X7_imageAt_1 {l : Launch} {G : GT} {x r mo en i0 i1 e f t h h2 : Nat} {vs : Int} {i : Int} (hi : i = 1) (hri : InR i) : ConF l G yX7_imageAt cX7_imageAt 2 (some (.object "BathWater$Image")) { frames := 0, cells := 0, slots := 0, locals := 0 } [.ref x, .int (iI i)] [(x, eO 7 [.ref r, .ref mo, .ref en, .ref i0, .ref i1, .ref e, .ref f, .ref t, .ref h, .ref h2, .int (iI vs)])] (some (.ref i1)) := by
  refine Con.mk (by decide +kernel) [some (.ref x), some (.int (iI i))] rfl (Nat.le_of_ble_eq_true rfl) rfl ?_
  intro V M EI EL EV EA
  refine M.iloadn (pc := 0) 1 rfl rfl dX7_imageAt_0 ?_
  refine M.if_ne (pc := 1) (tgt := 9) dX7_imageAt_1 (by decide) (by omega) (fun c1 => ?_) (fun c1 => ?_)
  · refine M.iloadn (pc := 9) 1 rfl rfl dX7_imageAt_9 ?_
    refine M.iconst (pc := 10) dX7_imageAt_10 ?_
    refine M.icmp_ne (pc := 11) (tgt := 21) dX7_imageAt_11 (by decide) (by omega) (by omega) (fun c11 => ?_) (fun c11 => ?_)
    · exact absurd hi c11
    · refine M.aloadn (pc := 14) 0 rfl rfl dX7_imageAt_14 ?_
      refine M.getf (pc := 15) fg_X7_35 0 rfl rfl dX7_imageAt_15 ?_
      refine M.goto (pc := 18) (tgt := 22) dX7_imageAt_18 (by decide) ?_
      exact EA () _ _ _ _ dX7_imageAt_22 ⟨_, rfl⟩ (by first | exact Or.inl rfl | exact Or.inr ⟨_, rfl⟩) (by rfl) rfl trivial
  · exact absurd c1 (by omega)
set_option maxHeartbeats 4000000 in
set_option maxRecDepth 100000 in
theorem c_X7_imageAt_n {l : Launch} {G : GT} {x r mo en i0 i1 e f t h h2 : Nat} {vs : Int} {i : Int} (hi : i ≠ 0 ∧ i ≠ 1) (hri : InR i) : ConF l G yX7_imageAt cX7_imageAt 2 (some (.object "BathWater$Image")) { frames := 0, cells := 0, slots := 0, locals := 0 } [.ref x, .int (iI i)] [(x, eO 7 [.ref r, .ref mo, .ref en, .ref i0, .ref i1, .ref e, .ref f, .ref t, .ref h, .ref h2, .int (iI vs)])] (some .null) := by
  refine Con.mk (by decide +kernel) [some (.ref x), some (.int (iI i))] rfl (Nat.le_of_ble_eq_true rfl) rfl ?_
  intro V M EI EL EV EA
  refine M.iloadn (pc := 0) 1 rfl rfl dX7_imageAt_0 ?_
  refine M.if_ne (pc := 1) (tgt := 9) dX7_imageAt_1 (by decide) (by omega) (fun c1 => ?_) (fun c1 => ?_)
  · refine M.iloadn (pc := 9) 1 rfl rfl dX7_imageAt_9 ?_
    refine M.iconst (pc := 10) dX7_imageAt_10 ?_
    refine M.icmp_ne (pc := 11) (tgt := 21) dX7_imageAt_11 (by decide) (by omega) (by omega) (fun c11 => ?_) (fun c11 => ?_)
    · refine M.aconst (pc := 21) dX7_imageAt_21 ?_
      exact EA () _ _ _ _ dX7_imageAt_22 ⟨_, rfl⟩ (by first | exact Or.inl rfl | exact Or.inr ⟨_, rfl⟩) (by rfl) rfl trivial
    · exact absurd c11 (by omega)
  · exact absurd c1 (by omega)
set_option maxHeartbeats 4000000 in
set_option maxRecDepth 100000 in
theorem c_X7_keep_0 {l : Launch} {G : GT} {x r mo en i0 i1 e f t h h2 : Nat} {vs : Int} {moc : Nat} {vm : Int} {gmC : Int → Int} {j0 j0c j1 j1c : Nat} {d0 c0 d1 c1 : Int} {g0 g1 : Int → Int} {k0 k1 : Bool} {i : Int} (hi : i = 0) (hri : InR i) : Con l G yX7_keep cX7_keep 3 (some .int) { frames := 1, cells := 0, slots := 0, locals := 22 } [.ref x, .int (iI i)] [(x, eO 7 [.ref r, .ref mo, .ref en, .ref i0, .ref i1, .ref e, .ref f, .ref t, .ref h, .ref h2, .int (iI vs)]), (mo, eO 6 [.ref moc, .int (iI vm)]), (moc, eI G 48 gmC), (i0, eO 4 [.ref j0, .int (iI d0), .int (iI (pI (k0 = true)))]), (j0, eO 6 [.ref j0c, .int (iI c0)]), (j0c, eI G 48 g0), (i1, eO 4 [.ref j1, .int (iI d1), .int (iI (pI (k1 = true)))]), (j1, eO 6 [.ref j1c, .int (iI c1)]), (j1c, eI G 48 g1)] (S := (Int → Int) × (Int → Int)) (fun _ => some (.int (iI (aKeep i)))) (fun u => [(x, eO 7 [.ref r, .ref mo, .ref en, .ref i0, .ref i1, .ref e, .ref f, .ref t, .ref h, .ref h2, .int (iI vs)]), (mo, eO 6 [.ref moc, .int (iI vm)]), (moc, eI G 48 gmC), (i0, eO 4 [.ref j0, .int (iI (kpI i 0 vs d0)), .int (iI (pI ((kpB i 0 k0) = true)))]), (j0, eO 6 [.ref j0c, .int (iI (kpI i 0 vm c0))]), (j0c, eI G 48 u.1), (i1, eO 4 [.ref j1, .int (iI (kpI i 1 vs d1)), .int (iI (pI ((kpB i 1 k1) = true)))]), (j1, eO 6 [.ref j1c, .int (iI (kpI i 1 vm c1))]), (j1c, eI G 48 u.2)]) (fun u => KPC i 0 gmC g0 u.1 ∧ KPC i 1 gmC g1 u.2) := by
  refine Con.mk (by decide +kernel) [some (.ref x), some (.int (iI i)), none] rfl (Nat.le_of_ble_eq_true rfl) rfl ?_
  intro V M EI EL EV EA
  refine M.aloadn (pc := 0) 0 rfl rfl dX7_keep_0 ?_
  refine M.iloadn (pc := 1) 1 rfl rfl dX7_keep_1 ?_
  refine M.pV (pc := 2) (c_X7_imageAt_0  (by first | assumption | omega) (by first | assumption | omega)) mv_X7_260 [0] rfl rfl rfl 0 rfl rfl rfl rfl (Nat.le_of_ble_eq_true rfl) rfl ⟨(Nat.le_of_ble_eq_true rfl), (Nat.le_of_ble_eq_true rfl)⟩ ⟨(Nat.le_of_ble_eq_true rfl), (Nat.le_of_ble_eq_true rfl)⟩ rfl dX7_keep_2 ?_
  refine M.astoren (pc := 5) 2 rfl (Nat.le_of_ble_eq_true rfl) rfl dX7_keep_5 ?_
  dsimp only [List.set_cons_zero, List.set_cons_succ]
  refine M.aloadn (pc := 6) 2 rfl rfl dX7_keep_6 ?_
  refine M.ifnonnull (pc := 7) (tgt := 13) dX7_keep_7 (by decide) ?_
  refine M.aloadn (pc := 13) 2 rfl rfl dX7_keep_13 ?_
  refine M.getf (pc := 14) fg_X7_264 3 rfl rfl dX7_keep_14 ?_
  refine M.aloadn (pc := 17) 0 rfl rfl dX7_keep_17 ?_
  refine M.getf (pc := 18) fg_X7_21 0 rfl rfl dX7_keep_18 ?_
  refine M.mV (pc := 21) (c_X6_copy  (by omega)) mv_X7_265 [4, 5, 1, 2] rfl rfl rfl 4 rfl rfl rfl rfl (Nat.le_of_ble_eq_true rfl) rfl ⟨(Nat.le_of_ble_eq_true rfl), (Nat.le_of_ble_eq_true rfl)⟩ ⟨(Nat.le_of_ble_eq_true rfl), (Nat.le_of_ble_eq_true rfl)⟩ rfl (fun _ => rfl) dX7_keep_21 (fun u21 hu21 => ?_)
  dsimp only [putL, List.set_cons_zero, List.set_cons_succ, Option.toList, List.cons_append, List.nil_append] at hu21 ⊢
  refine M.aloadn (pc := 24) 2 rfl rfl dX7_keep_24 ?_
  refine M.aloadn (pc := 25) 0 rfl rfl dX7_keep_25 ?_
  refine M.getf (pc := 26) fg_X7_257 0 rfl rfl dX7_keep_26 ?_
  refine M.putf (pc := 29) fp_X7_269 3 rfl rfl rfl (Nat.le_of_ble_eq_true rfl) dX7_keep_29 ?_
  dsimp only [List.set_cons_zero, List.set_cons_succ]
  refine M.aloadn (pc := 32) 2 rfl rfl dX7_keep_32 ?_
  refine M.iconst (pc := 33) dX7_keep_33 ?_
  refine M.putfZ (pc := 34) (true) (by rfl) fp_X7_89 3 rfl (Nat.le_of_ble_eq_true rfl) dX7_keep_34 ?_
  dsimp only [List.set_cons_zero, List.set_cons_succ]
  refine M.iconst (pc := 37) dX7_keep_37 ?_
  have ho : i ≠ 1 := by omega
  exact EI (u21, g1) _ _ _ _ dX7_keep_38 (Or.inl rfl) (eqI (by unfold aKeep; rw [if_pos (by omega)])) (by rw [kpI_y hi, kpI_y hi, kpB_y hi, kpI_n ho, kpI_n ho, kpB_n ho]) (⟨⟨fun _ => hu21, fun z => absurd hi z⟩, ⟨fun z => absurd z ho, fun _ => rfl⟩⟩)
set_option maxHeartbeats 4000000 in
set_option maxRecDepth 100000 in
theorem c_X7_keep_1 {l : Launch} {G : GT} {x r mo en i0 i1 e f t h h2 : Nat} {vs : Int} {moc : Nat} {vm : Int} {gmC : Int → Int} {j0 j0c j1 j1c : Nat} {d0 c0 d1 c1 : Int} {g0 g1 : Int → Int} {k0 k1 : Bool} {i : Int} (hi : i = 1) (hri : InR i) : Con l G yX7_keep cX7_keep 3 (some .int) { frames := 1, cells := 0, slots := 0, locals := 22 } [.ref x, .int (iI i)] [(x, eO 7 [.ref r, .ref mo, .ref en, .ref i0, .ref i1, .ref e, .ref f, .ref t, .ref h, .ref h2, .int (iI vs)]), (mo, eO 6 [.ref moc, .int (iI vm)]), (moc, eI G 48 gmC), (i0, eO 4 [.ref j0, .int (iI d0), .int (iI (pI (k0 = true)))]), (j0, eO 6 [.ref j0c, .int (iI c0)]), (j0c, eI G 48 g0), (i1, eO 4 [.ref j1, .int (iI d1), .int (iI (pI (k1 = true)))]), (j1, eO 6 [.ref j1c, .int (iI c1)]), (j1c, eI G 48 g1)] (S := (Int → Int) × (Int → Int)) (fun _ => some (.int (iI (aKeep i)))) (fun u => [(x, eO 7 [.ref r, .ref mo, .ref en, .ref i0, .ref i1, .ref e, .ref f, .ref t, .ref h, .ref h2, .int (iI vs)]), (mo, eO 6 [.ref moc, .int (iI vm)]), (moc, eI G 48 gmC), (i0, eO 4 [.ref j0, .int (iI (kpI i 0 vs d0)), .int (iI (pI ((kpB i 0 k0) = true)))]), (j0, eO 6 [.ref j0c, .int (iI (kpI i 0 vm c0))]), (j0c, eI G 48 u.1), (i1, eO 4 [.ref j1, .int (iI (kpI i 1 vs d1)), .int (iI (pI ((kpB i 1 k1) = true)))]), (j1, eO 6 [.ref j1c, .int (iI (kpI i 1 vm c1))]), (j1c, eI G 48 u.2)]) (fun u => KPC i 0 gmC g0 u.1 ∧ KPC i 1 gmC g1 u.2) := by
  refine Con.mk (by decide +kernel) [some (.ref x), some (.int (iI i)), none] rfl (Nat.le_of_ble_eq_true rfl) rfl ?_
  intro V M EI EL EV EA
  refine M.aloadn (pc := 0) 0 rfl rfl dX7_keep_0 ?_
  refine M.iloadn (pc := 1) 1 rfl rfl dX7_keep_1 ?_
  refine M.pV (pc := 2) (c_X7_imageAt_1  (by first | assumption | omega) (by first | assumption | omega)) mv_X7_260 [0] rfl rfl rfl 0 rfl rfl rfl rfl (Nat.le_of_ble_eq_true rfl) rfl ⟨(Nat.le_of_ble_eq_true rfl), (Nat.le_of_ble_eq_true rfl)⟩ ⟨(Nat.le_of_ble_eq_true rfl), (Nat.le_of_ble_eq_true rfl)⟩ rfl dX7_keep_2 ?_
  refine M.astoren (pc := 5) 2 rfl (Nat.le_of_ble_eq_true rfl) rfl dX7_keep_5 ?_
  dsimp only [List.set_cons_zero, List.set_cons_succ]
  refine M.aloadn (pc := 6) 2 rfl rfl dX7_keep_6 ?_
  refine M.ifnonnull (pc := 7) (tgt := 13) dX7_keep_7 (by decide) ?_
  refine M.aloadn (pc := 13) 2 rfl rfl dX7_keep_13 ?_
  refine M.getf (pc := 14) fg_X7_264 6 rfl rfl dX7_keep_14 ?_
  refine M.aloadn (pc := 17) 0 rfl rfl dX7_keep_17 ?_
  refine M.getf (pc := 18) fg_X7_21 0 rfl rfl dX7_keep_18 ?_
  refine M.mV (pc := 21) (c_X6_copy  (by omega)) mv_X7_265 [7, 8, 1, 2] rfl rfl rfl 7 rfl rfl rfl rfl (Nat.le_of_ble_eq_true rfl) rfl ⟨(Nat.le_of_ble_eq_true rfl), (Nat.le_of_ble_eq_true rfl)⟩ ⟨(Nat.le_of_ble_eq_true rfl), (Nat.le_of_ble_eq_true rfl)⟩ rfl (fun _ => rfl) dX7_keep_21 (fun u21 hu21 => ?_)
  dsimp only [putL, List.set_cons_zero, List.set_cons_succ, Option.toList, List.cons_append, List.nil_append] at hu21 ⊢
  refine M.aloadn (pc := 24) 2 rfl rfl dX7_keep_24 ?_
  refine M.aloadn (pc := 25) 0 rfl rfl dX7_keep_25 ?_
  refine M.getf (pc := 26) fg_X7_257 0 rfl rfl dX7_keep_26 ?_
  refine M.putf (pc := 29) fp_X7_269 6 rfl rfl rfl (Nat.le_of_ble_eq_true rfl) dX7_keep_29 ?_
  dsimp only [List.set_cons_zero, List.set_cons_succ]
  refine M.aloadn (pc := 32) 2 rfl rfl dX7_keep_32 ?_
  refine M.iconst (pc := 33) dX7_keep_33 ?_
  refine M.putfZ (pc := 34) (true) (by rfl) fp_X7_89 6 rfl (Nat.le_of_ble_eq_true rfl) dX7_keep_34 ?_
  dsimp only [List.set_cons_zero, List.set_cons_succ]
  refine M.iconst (pc := 37) dX7_keep_37 ?_
  have ho : i ≠ 0 := by omega
  exact EI (g0, u21) _ _ _ _ dX7_keep_38 (Or.inl rfl) (eqI (by unfold aKeep; rw [if_pos (by omega)])) (by rw [kpI_y hi, kpI_y hi, kpB_y hi, kpI_n ho, kpI_n ho, kpB_n ho]) (⟨⟨fun z => absurd z ho, fun _ => rfl⟩, ⟨fun _ => hu21, fun z => absurd hi z⟩⟩)
set_option maxHeartbeats 4000000 in
set_option maxRecDepth 100000 in
theorem c_X7_keep_n {l : Launch} {G : GT} {x r mo en i0 i1 e f t h h2 : Nat} {vs : Int} {moc : Nat} {vm : Int} {gmC : Int → Int} {j0 j0c j1 j1c : Nat} {d0 c0 d1 c1 : Int} {g0 g1 : Int → Int} {k0 k1 : Bool} {i : Int} (hi : i ≠ 0 ∧ i ≠ 1) (hri : InR i) : Con l G yX7_keep cX7_keep 3 (some .int) { frames := 1, cells := 0, slots := 0, locals := 22 } [.ref x, .int (iI i)] [(x, eO 7 [.ref r, .ref mo, .ref en, .ref i0, .ref i1, .ref e, .ref f, .ref t, .ref h, .ref h2, .int (iI vs)]), (mo, eO 6 [.ref moc, .int (iI vm)]), (moc, eI G 48 gmC), (i0, eO 4 [.ref j0, .int (iI d0), .int (iI (pI (k0 = true)))]), (j0, eO 6 [.ref j0c, .int (iI c0)]), (j0c, eI G 48 g0), (i1, eO 4 [.ref j1, .int (iI d1), .int (iI (pI (k1 = true)))]), (j1, eO 6 [.ref j1c, .int (iI c1)]), (j1c, eI G 48 g1)] (S := (Int → Int) × (Int → Int)) (fun _ => some (.int (iI (aKeep i)))) (fun u => [(x, eO 7 [.ref r, .ref mo, .ref en, .ref i0, .ref i1, .ref e, .ref f, .ref t, .ref h, .ref h2, .int (iI vs)]), (mo, eO 6 [.ref moc, .int (iI vm)]), (moc, eI G 48 gmC), (i0, eO 4 [.ref j0, .int (iI (kpI i 0 vs d0)), .int (iI (pI ((kpB i 0 k0) = true)))]), (j0, eO 6 [.ref j0c, .int (iI (kpI i 0 vm c0))]), (j0c, eI G 48 u.1), (i1, eO 4 [.ref j1, .int (iI (kpI i 1 vs d1)), .int (iI (pI ((kpB i 1 k1) = true)))]), (j1, eO 6 [.ref j1c, .int (iI (kpI i 1 vm c1))]), (j1c, eI G 48 u.2)]) (fun u => KPC i 0 gmC g0 u.1 ∧ KPC i 1 gmC g1 u.2) := by
  refine Con.mk (by decide +kernel) [some (.ref x), some (.int (iI i)), none] rfl (Nat.le_of_ble_eq_true rfl) rfl ?_
  intro V M EI EL EV EA
  refine M.aloadn (pc := 0) 0 rfl rfl dX7_keep_0 ?_
  refine M.iloadn (pc := 1) 1 rfl rfl dX7_keep_1 ?_
  refine M.pV (pc := 2) (c_X7_imageAt_n  (by first | assumption | omega) (by first | assumption | omega)) mv_X7_260 [0] rfl rfl rfl 0 rfl rfl rfl rfl (Nat.le_of_ble_eq_true rfl) rfl ⟨(Nat.le_of_ble_eq_true rfl), (Nat.le_of_ble_eq_true rfl)⟩ ⟨(Nat.le_of_ble_eq_true rfl), (Nat.le_of_ble_eq_true rfl)⟩ rfl dX7_keep_2 ?_
  refine M.astorenN (pc := 5) 2 rfl (Nat.le_of_ble_eq_true rfl) rfl dX7_keep_5 ?_
  dsimp only [List.set_cons_zero, List.set_cons_succ]
  refine M.aloadnN (pc := 6) 2 rfl rfl dX7_keep_6 ?_
  refine M.ifnonnullN (pc := 7) dX7_keep_7 ?_
  refine M.ldc (pc := 10) (-1000000001) lc_X7_118 (by decide +kernel) dX7_keep_10 ?_
  exact EI (g0, g1) _ _ _ _ dX7_keep_12 (Or.inl rfl) (eqI (by unfold aKeep; rw [if_neg (by omega)])) (by rw [kpI_n hi.1, kpI_n hi.1, kpB_n hi.1, kpI_n hi.2, kpI_n hi.2, kpB_n hi.2]) (⟨⟨fun z => absurd z hi.1, fun _ => rfl⟩, ⟨fun z => absurd z hi.2, fun _ => rfl⟩⟩)
theorem c_X7_keep {l : Launch} {G : GT} {x r mo en i0 i1 e f t h h2 : Nat} {vs : Int} {moc : Nat} {vm : Int} {gmC : Int → Int} {j0 j0c j1 j1c : Nat} {d0 c0 d1 c1 : Int} {g0 g1 : Int → Int} {k0 k1 : Bool} {i : Int} (hri : InR i) : Con l G yX7_keep cX7_keep 3 (some .int) { frames := 1, cells := 0, slots := 0, locals := 22 } [.ref x, .int (iI i)] [(x, eO 7 [.ref r, .ref mo, .ref en, .ref i0, .ref i1, .ref e, .ref f, .ref t, .ref h, .ref h2, .int (iI vs)]), (mo, eO 6 [.ref moc, .int (iI vm)]), (moc, eI G 48 gmC), (i0, eO 4 [.ref j0, .int (iI d0), .int (iI (pI (k0 = true)))]), (j0, eO 6 [.ref j0c, .int (iI c0)]), (j0c, eI G 48 g0), (i1, eO 4 [.ref j1, .int (iI d1), .int (iI (pI (k1 = true)))]), (j1, eO 6 [.ref j1c, .int (iI c1)]), (j1c, eI G 48 g1)] (S := (Int → Int) × (Int → Int)) (fun _ => some (.int (iI (aKeep i)))) (fun u => [(x, eO 7 [.ref r, .ref mo, .ref en, .ref i0, .ref i1, .ref e, .ref f, .ref t, .ref h, .ref h2, .int (iI vs)]), (mo, eO 6 [.ref moc, .int (iI vm)]), (moc, eI G 48 gmC), (i0, eO 4 [.ref j0, .int (iI (kpI i 0 vs d0)), .int (iI (pI ((kpB i 0 k0) = true)))]), (j0, eO 6 [.ref j0c, .int (iI (kpI i 0 vm c0))]), (j0c, eI G 48 u.1), (i1, eO 4 [.ref j1, .int (iI (kpI i 1 vs d1)), .int (iI (pI ((kpB i 1 k1) = true)))]), (j1, eO 6 [.ref j1c, .int (iI (kpI i 1 vm c1))]), (j1c, eI G 48 u.2)]) (fun u => KPC i 0 gmC g0 u.1 ∧ KPC i 1 gmC g1 u.2) := by
  by_cases h0 : i = 0
  · exact c_X7_keep_0 h0 hri
  · by_cases h1 : i = 1
    · exact c_X7_keep_1 h1 hri
    · exact c_X7_keep_n ⟨h0, h1⟩ hri
set_option maxHeartbeats 4000000 in
set_option maxRecDepth 100000 in
theorem c_X7_goBack_0 {l : Launch} {G : GT} {x r mo en i0 i1 e f t h h2 : Nat} {vs : Int} {hb ht : Nat} {fb ft : Int → Int} {vb vn vo : Int} {moc : Nat} {vm : Int} {gmC : Int → Int} {eLo eUp eSe eLe eGr : Nat} {el eu gs gL gG : Int → Int} {ecl : Bool} {te fcr : Nat} {fcc ffo : Int} {ffd : Bool} {j0 j0c j1 j1c : Nat} {d0 c0 d1 c1 : Int} {g0 g1 : Int → Int} {k0 k1 : Bool} {i : Int} (hi : i = 0) (hn : 0 ≤ vn ∧ vn ≤ 6) (hnb : 0 ≤ vb ∧ vb ≤ 2) (hB : HB fb) (hT : HT ft) (hV : HV fb vb) (hVT : HVT ft vn) (ho : 0 ≤ vo ∧ vo ≤ 999) (hc : 0 ≤ vm ∧ vm ≤ 12) (hM : HM gmC vm vb vn) (hL : LRN vn vm fb ft gmC ecl el eu) (hF : FLS vn vm fb ft gmC ffd ffo) (himg0 : k0 = true → (0 ≤ c0 ∧ c0 ≤ 12) ∧ HM g0 c0 vb vn) (himg1 : k1 = true → (0 ≤ c1 ∧ c1 ≤ 12) ∧ HM g1 c1 vb vn) (hri : InR i) : Con l G yX7_goBack cX7_goBack 3 (some .int) { frames := 6, cells := 0, slots := 0, locals := 137 } [.ref x, .int (iI i)] [(x, eO 7 [.ref r, .ref mo, .ref en, .ref i0, .ref i1, .ref e, .ref f, .ref t, .ref h, .ref h2, .int (iI vs)]), (mo, eO 6 [.ref moc, .int (iI vm)]), (moc, eI G 48 gmC), (i0, eO 4 [.ref j0, .int (iI d0), .int (iI (pI (k0 = true)))]), (j0, eO 6 [.ref j0c, .int (iI c0)]), (j0c, eI G 48 g0), (i1, eO 4 [.ref j1, .int (iI d1), .int (iI (pI (k1 = true)))]), (j1, eO 6 [.ref j1c, .int (iI c1)]), (j1c, eI G 48 g1), (e, eO 1 [.ref eLo, .ref eUp, .ref eSe, .ref eLe, .ref eGr, .int (iI (pI (ecl = true)))]), (eLo, eI G 6 el), (eUp, eI G 6 eu), (eSe, eI G 12 gs), (eLe, eI G 12 gL), (eGr, eI G 12 gG), (f, eO 2 [.ref te, .ref fcr, .int (iI fcc), .int (iI (pI (ffd = true))), .int (iI ffo)]), (h, eO 3 [.ref hb, .ref ht, .int (iI vb), .int (iI vn), .int (iI vo)]), (hb, eI G 8 fb), (ht, eI G 24 ft)] (S := (Int → Int) × Bool × (Int → Int) × (Int → Int) × (Int → Int) × (Int → Int) × (Int → Int) × Bool) (fun _ => some (.int (iI (aGoBack i (kz i k0 k1))))) (fun u => [(x, eO 7 [.ref r, .ref mo, .ref en, .ref i0, .ref i1, .ref e, .ref f, .ref t, .ref h, .ref h2, .int (iI (gbX (gbW i k0 k1) d0 d1 vs))]), (mo, eO 6 [.ref moc, .int (iI (gbX (gbW i k0 k1) c0 c1 vm))]), (moc, eI G 48 u.1), (i0, eO 4 [.ref j0, .int (iI d0), .int (iI (pI (k0 = true)))]), (j0, eO 6 [.ref j0c, .int (iI c0)]), (j0c, eI G 48 g0), (i1, eO 4 [.ref j1, .int (iI d1), .int (iI (pI (k1 = true)))]), (j1, eO 6 [.ref j1c, .int (iI c1)]), (j1c, eI G 48 g1), (e, eO 1 [.ref eLo, .ref eUp, .ref eSe, .ref eLe, .ref eGr, .int (iI (pI (u.2.1 = true)))]), (eLo, eI G 6 u.2.2.1), (eUp, eI G 6 u.2.2.2.1), (eSe, eI G 12 u.2.2.2.2.1), (eLe, eI G 12 u.2.2.2.2.2.1), (eGr, eI G 12 u.2.2.2.2.2.2.1), (f, eO 2 [.ref te, .ref fcr, .int (iI fcc), .int (iI (pI (u.2.2.2.2.2.2.2 = true))), .int (iI ffo)]), (h, eO 3 [.ref hb, .ref ht, .int (iI vb), .int (iI vn), .int (iI vo)]), (hb, eI G 8 fb), (ht, eI G 24 ft)]) (fun u => GBC (gbW i k0 k1) g0 g1 gmC u.1 ∧ LRN vn (gbX (gbW i k0 k1) c0 c1 vm) fb ft u.1 u.2.1 u.2.2.1 u.2.2.2.1 ∧ FLS vn (gbX (gbW i k0 k1) c0 c1 vm) fb ft u.1 u.2.2.2.2.2.2.2 ffo) := by
  refine Con.mk (by decide +kernel) [some (.ref x), some (.int (iI i)), none] rfl (Nat.le_of_ble_eq_true rfl) rfl ?_
  intro V M EI EL EV EA
  have hkz : kz i k0 k1 = pI (k0 = true) := if_pos hi
  refine M.aloadn (pc := 0) 0 rfl rfl dX7_goBack_0 ?_
  refine M.iloadn (pc := 1) 1 rfl rfl dX7_goBack_1 ?_
  refine M.pV (pc := 2) (c_X7_imageAt_0  (by first | assumption | omega) (by first | assumption | omega)) mv_X7_260 [0] rfl rfl rfl 0 rfl rfl rfl rfl (Nat.le_of_ble_eq_true rfl) rfl ⟨(Nat.le_of_ble_eq_true rfl), (Nat.le_of_ble_eq_true rfl)⟩ ⟨(Nat.le_of_ble_eq_true rfl), (Nat.le_of_ble_eq_true rfl)⟩ rfl dX7_goBack_2 ?_
  refine M.astoren (pc := 5) 2 rfl (Nat.le_of_ble_eq_true rfl) rfl dX7_goBack_5 ?_
  dsimp only [List.set_cons_zero, List.set_cons_succ]
  refine M.aloadn (pc := 6) 2 rfl rfl dX7_goBack_6 ?_
  refine M.ifnonnull (pc := 7) (tgt := 13) dX7_goBack_7 (by decide) ?_
  refine M.aloadn (pc := 13) 2 rfl rfl dX7_goBack_13 ?_
  refine M.getf (pc := 14) fg_X7_89 3 rfl rfl dX7_goBack_14 ?_
  refine M.if_neP (pc := 17) (tgt := 23) dX7_goBack_17 (by decide) (fun c17 => ?_) (fun c17 => ?_)
  · have hi0 := himg0 c17
    refine M.aloadn (pc := 23) 0 rfl rfl dX7_goBack_23 ?_
    refine M.getf (pc := 24) fg_X7_21 0 rfl rfl dX7_goBack_24 ?_
    refine M.aloadn (pc := 27) 2 rfl rfl dX7_goBack_27 ?_
    refine M.getf (pc := 28) fg_X7_264 3 rfl rfl dX7_goBack_28 ?_
    refine M.mV (pc := 31) (c_X6_copy  (by omega)) mv_X7_265 [1, 2, 4, 5] rfl rfl rfl 1 rfl rfl rfl rfl (Nat.le_of_ble_eq_true rfl) rfl ⟨(Nat.le_of_ble_eq_true rfl), (Nat.le_of_ble_eq_true rfl)⟩ ⟨(Nat.le_of_ble_eq_true rfl), (Nat.le_of_ble_eq_true rfl)⟩ rfl (fun _ => rfl) dX7_goBack_31 (fun u31 hu31 => ?_)
    dsimp only [putL, List.set_cons_zero, List.set_cons_succ, Option.toList, List.cons_append, List.nil_append] at hu31 ⊢
    have hM2 := hi0.2.eq hi0.1.2 hu31
    refine M.aloadn (pc := 34) 0 rfl rfl dX7_goBack_34 ?_
    refine M.aloadn (pc := 35) 2 rfl rfl dX7_goBack_35 ?_
    refine M.getf (pc := 36) fg_X7_269 3 rfl rfl dX7_goBack_36 ?_
    refine M.putf (pc := 39) fp_X7_257 0 rfl rfl rfl (Nat.le_of_ble_eq_true rfl) dX7_goBack_39 ?_
    dsimp only [List.set_cons_zero, List.set_cons_succ]
    refine M.aloadn (pc := 42) 0 rfl rfl dX7_goBack_42 ?_
    refine M.mV (pc := 43) (c_X7_learn  (by first | assumption | omega) (by first | assumption | omega) (by first | assumption | omega) (by first | assumption | omega) (by first | assumption | omega) (by first | assumption | omega) (by first | assumption | omega) (by exact hi0.1) (by exact hM2)) mv_X7_96 [0, 1, 2, 9, 10, 11, 12, 13, 14, 15, 16, 17, 18] rfl rfl rfl 0 rfl rfl rfl rfl (Nat.le_of_ble_eq_true rfl) rfl ⟨(Nat.le_of_ble_eq_true rfl), (Nat.le_of_ble_eq_true rfl)⟩ ⟨(Nat.le_of_ble_eq_true rfl), (Nat.le_of_ble_eq_true rfl)⟩ rfl (fun _ => rfl) dX7_goBack_43 (fun u43 hu43 => ?_)
    obtain ⟨cl43, l43, w43, s43, y43, z43⟩ := u43
    dsimp only [putL, List.set_cons_zero, List.set_cons_succ, Option.toList, List.cons_append, List.nil_append] at hu43 ⊢
    refine M.iconst (pc := 46) dX7_goBack_46 ?_
    have hw : gbW i k0 k1 = 0 := by unfold gbW; rw [if_pos ⟨hi, c17⟩]
    exact EI (u31, cl43, l43, w43, s43, y43, z43, false) _ _ _ _ dX7_goBack_47 (Or.inl rfl) (eqI (by unfold aGoBack; rw [if_neg (by omega), if_neg (by rw [hkz, pI_t c17]; decide)])) (by rw [hw]; rfl) (by rw [hw]; exact ⟨⟨fun _ => hu31, fun z => absurd z (by decide), fun z => absurd rfl z⟩, hu43, fun z => absurd (show false = true from z) (by decide)⟩)
  · refine M.ldc (pc := 20) (-1000000003) lc_X7_227 (by decide +kernel) dX7_goBack_20 ?_
    have hw : gbW i k0 k1 = 2 := by unfold gbW; rw [if_neg (fun z => c17 z.2), if_neg (fun z => by omega)]
    exact EI (gmC, ecl, el, eu, gs, gL, gG, ffd) _ _ _ _ dX7_goBack_22 (Or.inl rfl) (eqI (by unfold aGoBack; rw [if_neg (by omega), if_pos (by rw [hkz]; exact pI_f c17)])) (by rw [hw]; rfl) (by rw [hw]; exact ⟨⟨fun z => absurd z (by decide), fun z => absurd z (by decide), fun _ _ => rfl⟩, hL, hF⟩)
set_option maxHeartbeats 4000000 in
set_option maxRecDepth 100000 in
theorem c_X7_goBack_1 {l : Launch} {G : GT} {x r mo en i0 i1 e f t h h2 : Nat} {vs : Int} {hb ht : Nat} {fb ft : Int → Int} {vb vn vo : Int} {moc : Nat} {vm : Int} {gmC : Int → Int} {eLo eUp eSe eLe eGr : Nat} {el eu gs gL gG : Int → Int} {ecl : Bool} {te fcr : Nat} {fcc ffo : Int} {ffd : Bool} {j0 j0c j1 j1c : Nat} {d0 c0 d1 c1 : Int} {g0 g1 : Int → Int} {k0 k1 : Bool} {i : Int} (hi : i = 1) (hn : 0 ≤ vn ∧ vn ≤ 6) (hnb : 0 ≤ vb ∧ vb ≤ 2) (hB : HB fb) (hT : HT ft) (hV : HV fb vb) (hVT : HVT ft vn) (ho : 0 ≤ vo ∧ vo ≤ 999) (hc : 0 ≤ vm ∧ vm ≤ 12) (hM : HM gmC vm vb vn) (hL : LRN vn vm fb ft gmC ecl el eu) (hF : FLS vn vm fb ft gmC ffd ffo) (himg0 : k0 = true → (0 ≤ c0 ∧ c0 ≤ 12) ∧ HM g0 c0 vb vn) (himg1 : k1 = true → (0 ≤ c1 ∧ c1 ≤ 12) ∧ HM g1 c1 vb vn) (hri : InR i) : Con l G yX7_goBack cX7_goBack 3 (some .int) { frames := 6, cells := 0, slots := 0, locals := 137 } [.ref x, .int (iI i)] [(x, eO 7 [.ref r, .ref mo, .ref en, .ref i0, .ref i1, .ref e, .ref f, .ref t, .ref h, .ref h2, .int (iI vs)]), (mo, eO 6 [.ref moc, .int (iI vm)]), (moc, eI G 48 gmC), (i0, eO 4 [.ref j0, .int (iI d0), .int (iI (pI (k0 = true)))]), (j0, eO 6 [.ref j0c, .int (iI c0)]), (j0c, eI G 48 g0), (i1, eO 4 [.ref j1, .int (iI d1), .int (iI (pI (k1 = true)))]), (j1, eO 6 [.ref j1c, .int (iI c1)]), (j1c, eI G 48 g1), (e, eO 1 [.ref eLo, .ref eUp, .ref eSe, .ref eLe, .ref eGr, .int (iI (pI (ecl = true)))]), (eLo, eI G 6 el), (eUp, eI G 6 eu), (eSe, eI G 12 gs), (eLe, eI G 12 gL), (eGr, eI G 12 gG), (f, eO 2 [.ref te, .ref fcr, .int (iI fcc), .int (iI (pI (ffd = true))), .int (iI ffo)]), (h, eO 3 [.ref hb, .ref ht, .int (iI vb), .int (iI vn), .int (iI vo)]), (hb, eI G 8 fb), (ht, eI G 24 ft)] (S := (Int → Int) × Bool × (Int → Int) × (Int → Int) × (Int → Int) × (Int → Int) × (Int → Int) × Bool) (fun _ => some (.int (iI (aGoBack i (kz i k0 k1))))) (fun u => [(x, eO 7 [.ref r, .ref mo, .ref en, .ref i0, .ref i1, .ref e, .ref f, .ref t, .ref h, .ref h2, .int (iI (gbX (gbW i k0 k1) d0 d1 vs))]), (mo, eO 6 [.ref moc, .int (iI (gbX (gbW i k0 k1) c0 c1 vm))]), (moc, eI G 48 u.1), (i0, eO 4 [.ref j0, .int (iI d0), .int (iI (pI (k0 = true)))]), (j0, eO 6 [.ref j0c, .int (iI c0)]), (j0c, eI G 48 g0), (i1, eO 4 [.ref j1, .int (iI d1), .int (iI (pI (k1 = true)))]), (j1, eO 6 [.ref j1c, .int (iI c1)]), (j1c, eI G 48 g1), (e, eO 1 [.ref eLo, .ref eUp, .ref eSe, .ref eLe, .ref eGr, .int (iI (pI (u.2.1 = true)))]), (eLo, eI G 6 u.2.2.1), (eUp, eI G 6 u.2.2.2.1), (eSe, eI G 12 u.2.2.2.2.1), (eLe, eI G 12 u.2.2.2.2.2.1), (eGr, eI G 12 u.2.2.2.2.2.2.1), (f, eO 2 [.ref te, .ref fcr, .int (iI fcc), .int (iI (pI (u.2.2.2.2.2.2.2 = true))), .int (iI ffo)]), (h, eO 3 [.ref hb, .ref ht, .int (iI vb), .int (iI vn), .int (iI vo)]), (hb, eI G 8 fb), (ht, eI G 24 ft)]) (fun u => GBC (gbW i k0 k1) g0 g1 gmC u.1 ∧ LRN vn (gbX (gbW i k0 k1) c0 c1 vm) fb ft u.1 u.2.1 u.2.2.1 u.2.2.2.1 ∧ FLS vn (gbX (gbW i k0 k1) c0 c1 vm) fb ft u.1 u.2.2.2.2.2.2.2 ffo) := by
  refine Con.mk (by decide +kernel) [some (.ref x), some (.int (iI i)), none] rfl (Nat.le_of_ble_eq_true rfl) rfl ?_
  intro V M EI EL EV EA
  have hkz : kz i k0 k1 = pI (k1 = true) := (if_neg (by omega)).trans (if_pos hi)
  refine M.aloadn (pc := 0) 0 rfl rfl dX7_goBack_0 ?_
  refine M.iloadn (pc := 1) 1 rfl rfl dX7_goBack_1 ?_
  refine M.pV (pc := 2) (c_X7_imageAt_1  (by first | assumption | omega) (by first | assumption | omega)) mv_X7_260 [0] rfl rfl rfl 0 rfl rfl rfl rfl (Nat.le_of_ble_eq_true rfl) rfl ⟨(Nat.le_of_ble_eq_true rfl), (Nat.le_of_ble_eq_true rfl)⟩ ⟨(Nat.le_of_ble_eq_true rfl), (Nat.le_of_ble_eq_true rfl)⟩ rfl dX7_goBack_2 ?_
  refine M.astoren (pc := 5) 2 rfl (Nat.le_of_ble_eq_true rfl) rfl dX7_goBack_5 ?_
  dsimp only [List.set_cons_zero, List.set_cons_succ]
  refine M.aloadn (pc := 6) 2 rfl rfl dX7_goBack_6 ?_
  refine M.ifnonnull (pc := 7) (tgt := 13) dX7_goBack_7 (by decide) ?_
  refine M.aloadn (pc := 13) 2 rfl rfl dX7_goBack_13 ?_
  refine M.getf (pc := 14) fg_X7_89 6 rfl rfl dX7_goBack_14 ?_
  refine M.if_neP (pc := 17) (tgt := 23) dX7_goBack_17 (by decide) (fun c17 => ?_) (fun c17 => ?_)
  · have hi1 := himg1 c17
    refine M.aloadn (pc := 23) 0 rfl rfl dX7_goBack_23 ?_
    refine M.getf (pc := 24) fg_X7_21 0 rfl rfl dX7_goBack_24 ?_
    refine M.aloadn (pc := 27) 2 rfl rfl dX7_goBack_27 ?_
    refine M.getf (pc := 28) fg_X7_264 6 rfl rfl dX7_goBack_28 ?_
    refine M.mV (pc := 31) (c_X6_copy  (by omega)) mv_X7_265 [1, 2, 7, 8] rfl rfl rfl 1 rfl rfl rfl rfl (Nat.le_of_ble_eq_true rfl) rfl ⟨(Nat.le_of_ble_eq_true rfl), (Nat.le_of_ble_eq_true rfl)⟩ ⟨(Nat.le_of_ble_eq_true rfl), (Nat.le_of_ble_eq_true rfl)⟩ rfl (fun _ => rfl) dX7_goBack_31 (fun u31 hu31 => ?_)
    dsimp only [putL, List.set_cons_zero, List.set_cons_succ, Option.toList, List.cons_append, List.nil_append] at hu31 ⊢
    have hM2 := hi1.2.eq hi1.1.2 hu31
    refine M.aloadn (pc := 34) 0 rfl rfl dX7_goBack_34 ?_
    refine M.aloadn (pc := 35) 2 rfl rfl dX7_goBack_35 ?_
    refine M.getf (pc := 36) fg_X7_269 6 rfl rfl dX7_goBack_36 ?_
    refine M.putf (pc := 39) fp_X7_257 0 rfl rfl rfl (Nat.le_of_ble_eq_true rfl) dX7_goBack_39 ?_
    dsimp only [List.set_cons_zero, List.set_cons_succ]
    refine M.aloadn (pc := 42) 0 rfl rfl dX7_goBack_42 ?_
    refine M.mV (pc := 43) (c_X7_learn  (by first | assumption | omega) (by first | assumption | omega) (by first | assumption | omega) (by first | assumption | omega) (by first | assumption | omega) (by first | assumption | omega) (by first | assumption | omega) (by exact hi1.1) (by exact hM2)) mv_X7_96 [0, 1, 2, 9, 10, 11, 12, 13, 14, 15, 16, 17, 18] rfl rfl rfl 0 rfl rfl rfl rfl (Nat.le_of_ble_eq_true rfl) rfl ⟨(Nat.le_of_ble_eq_true rfl), (Nat.le_of_ble_eq_true rfl)⟩ ⟨(Nat.le_of_ble_eq_true rfl), (Nat.le_of_ble_eq_true rfl)⟩ rfl (fun _ => rfl) dX7_goBack_43 (fun u43 hu43 => ?_)
    obtain ⟨cl43, l43, w43, s43, y43, z43⟩ := u43
    dsimp only [putL, List.set_cons_zero, List.set_cons_succ, Option.toList, List.cons_append, List.nil_append] at hu43 ⊢
    refine M.iconst (pc := 46) dX7_goBack_46 ?_
    have hw : gbW i k0 k1 = 1 := by unfold gbW; rw [if_neg (fun z => by omega), if_pos ⟨hi, c17⟩]
    exact EI (u31, cl43, l43, w43, s43, y43, z43, false) _ _ _ _ dX7_goBack_47 (Or.inl rfl) (eqI (by unfold aGoBack; rw [if_neg (by omega), if_neg (by rw [hkz, pI_t c17]; decide)])) (by rw [hw]; rfl) (by rw [hw]; exact ⟨⟨fun z => absurd z (by decide), fun _ => hu31, fun _ z => absurd rfl z⟩, hu43, fun z => absurd (show false = true from z) (by decide)⟩)
  · refine M.ldc (pc := 20) (-1000000003) lc_X7_227 (by decide +kernel) dX7_goBack_20 ?_
    have hw : gbW i k0 k1 = 2 := by unfold gbW; rw [if_neg (fun z => by omega), if_neg (fun z => c17 z.2)]
    exact EI (gmC, ecl, el, eu, gs, gL, gG, ffd) _ _ _ _ dX7_goBack_22 (Or.inl rfl) (eqI (by unfold aGoBack; rw [if_neg (by omega), if_pos (by rw [hkz]; exact pI_f c17)])) (by rw [hw]; rfl) (by rw [hw]; exact ⟨⟨fun z => absurd z (by decide), fun z => absurd z (by decide), fun _ _ => rfl⟩, hL, hF⟩)
set_option maxHeartbeats 4000000 in
set_option maxRecDepth 100000 in
theorem c_X7_goBack_n {l : Launch} {G : GT} {x r mo en i0 i1 e f t h h2 : Nat} {vs : Int} {hb ht : Nat} {fb ft : Int → Int} {vb vn vo : Int} {moc : Nat} {vm : Int} {gmC : Int → Int} {eLo eUp eSe eLe eGr : Nat} {el eu gs gL gG : Int → Int} {ecl : Bool} {te fcr : Nat} {fcc ffo : Int} {ffd : Bool} {j0 j0c j1 j1c : Nat} {d0 c0 d1 c1 : Int} {g0 g1 : Int → Int} {k0 k1 : Bool} {i : Int} (hi : i ≠ 0 ∧ i ≠ 1) (hn : 0 ≤ vn ∧ vn ≤ 6) (hnb : 0 ≤ vb ∧ vb ≤ 2) (hB : HB fb) (hT : HT ft) (hV : HV fb vb) (hVT : HVT ft vn) (ho : 0 ≤ vo ∧ vo ≤ 999) (hc : 0 ≤ vm ∧ vm ≤ 12) (hM : HM gmC vm vb vn) (hL : LRN vn vm fb ft gmC ecl el eu) (hF : FLS vn vm fb ft gmC ffd ffo) (himg0 : k0 = true → (0 ≤ c0 ∧ c0 ≤ 12) ∧ HM g0 c0 vb vn) (himg1 : k1 = true → (0 ≤ c1 ∧ c1 ≤ 12) ∧ HM g1 c1 vb vn) (hri : InR i) : Con l G yX7_goBack cX7_goBack 3 (some .int) { frames := 6, cells := 0, slots := 0, locals := 137 } [.ref x, .int (iI i)] [(x, eO 7 [.ref r, .ref mo, .ref en, .ref i0, .ref i1, .ref e, .ref f, .ref t, .ref h, .ref h2, .int (iI vs)]), (mo, eO 6 [.ref moc, .int (iI vm)]), (moc, eI G 48 gmC), (i0, eO 4 [.ref j0, .int (iI d0), .int (iI (pI (k0 = true)))]), (j0, eO 6 [.ref j0c, .int (iI c0)]), (j0c, eI G 48 g0), (i1, eO 4 [.ref j1, .int (iI d1), .int (iI (pI (k1 = true)))]), (j1, eO 6 [.ref j1c, .int (iI c1)]), (j1c, eI G 48 g1), (e, eO 1 [.ref eLo, .ref eUp, .ref eSe, .ref eLe, .ref eGr, .int (iI (pI (ecl = true)))]), (eLo, eI G 6 el), (eUp, eI G 6 eu), (eSe, eI G 12 gs), (eLe, eI G 12 gL), (eGr, eI G 12 gG), (f, eO 2 [.ref te, .ref fcr, .int (iI fcc), .int (iI (pI (ffd = true))), .int (iI ffo)]), (h, eO 3 [.ref hb, .ref ht, .int (iI vb), .int (iI vn), .int (iI vo)]), (hb, eI G 8 fb), (ht, eI G 24 ft)] (S := (Int → Int) × Bool × (Int → Int) × (Int → Int) × (Int → Int) × (Int → Int) × (Int → Int) × Bool) (fun _ => some (.int (iI (aGoBack i (kz i k0 k1))))) (fun u => [(x, eO 7 [.ref r, .ref mo, .ref en, .ref i0, .ref i1, .ref e, .ref f, .ref t, .ref h, .ref h2, .int (iI (gbX (gbW i k0 k1) d0 d1 vs))]), (mo, eO 6 [.ref moc, .int (iI (gbX (gbW i k0 k1) c0 c1 vm))]), (moc, eI G 48 u.1), (i0, eO 4 [.ref j0, .int (iI d0), .int (iI (pI (k0 = true)))]), (j0, eO 6 [.ref j0c, .int (iI c0)]), (j0c, eI G 48 g0), (i1, eO 4 [.ref j1, .int (iI d1), .int (iI (pI (k1 = true)))]), (j1, eO 6 [.ref j1c, .int (iI c1)]), (j1c, eI G 48 g1), (e, eO 1 [.ref eLo, .ref eUp, .ref eSe, .ref eLe, .ref eGr, .int (iI (pI (u.2.1 = true)))]), (eLo, eI G 6 u.2.2.1), (eUp, eI G 6 u.2.2.2.1), (eSe, eI G 12 u.2.2.2.2.1), (eLe, eI G 12 u.2.2.2.2.2.1), (eGr, eI G 12 u.2.2.2.2.2.2.1), (f, eO 2 [.ref te, .ref fcr, .int (iI fcc), .int (iI (pI (u.2.2.2.2.2.2.2 = true))), .int (iI ffo)]), (h, eO 3 [.ref hb, .ref ht, .int (iI vb), .int (iI vn), .int (iI vo)]), (hb, eI G 8 fb), (ht, eI G 24 ft)]) (fun u => GBC (gbW i k0 k1) g0 g1 gmC u.1 ∧ LRN vn (gbX (gbW i k0 k1) c0 c1 vm) fb ft u.1 u.2.1 u.2.2.1 u.2.2.2.1 ∧ FLS vn (gbX (gbW i k0 k1) c0 c1 vm) fb ft u.1 u.2.2.2.2.2.2.2 ffo) := by
  refine Con.mk (by decide +kernel) [some (.ref x), some (.int (iI i)), none] rfl (Nat.le_of_ble_eq_true rfl) rfl ?_
  intro V M EI EL EV EA
  refine M.aloadn (pc := 0) 0 rfl rfl dX7_goBack_0 ?_
  refine M.iloadn (pc := 1) 1 rfl rfl dX7_goBack_1 ?_
  refine M.pV (pc := 2) (c_X7_imageAt_n  (by first | assumption | omega) (by first | assumption | omega)) mv_X7_260 [0] rfl rfl rfl 0 rfl rfl rfl rfl (Nat.le_of_ble_eq_true rfl) rfl ⟨(Nat.le_of_ble_eq_true rfl), (Nat.le_of_ble_eq_true rfl)⟩ ⟨(Nat.le_of_ble_eq_true rfl), (Nat.le_of_ble_eq_true rfl)⟩ rfl dX7_goBack_2 ?_
  refine M.astorenN (pc := 5) 2 rfl (Nat.le_of_ble_eq_true rfl) rfl dX7_goBack_5 ?_
  dsimp only [List.set_cons_zero, List.set_cons_succ]
  refine M.aloadnN (pc := 6) 2 rfl rfl dX7_goBack_6 ?_
  refine M.ifnonnullN (pc := 7) dX7_goBack_7 ?_
  refine M.ldc (pc := 10) (-1000000001) lc_X7_118 (by decide +kernel) dX7_goBack_10 ?_
  have hw : gbW i k0 k1 = 2 := by unfold gbW; rw [if_neg (fun z => hi.1 z.1), if_neg (fun z => hi.2 z.1)]
  exact EI (gmC, ecl, el, eu, gs, gL, gG, ffd) _ _ _ _ dX7_goBack_12 (Or.inl rfl) (eqI (by unfold aGoBack; rw [if_pos (by omega)])) (by rw [hw]; rfl) (by rw [hw]; exact ⟨⟨fun z => absurd z (by decide), fun z => absurd z (by decide), fun _ _ => rfl⟩, hL, hF⟩)
theorem c_X7_goBack {l : Launch} {G : GT} {x r mo en i0 i1 e f t h h2 : Nat} {vs : Int} {hb ht : Nat} {fb ft : Int → Int} {vb vn vo : Int} {moc : Nat} {vm : Int} {gmC : Int → Int} {eLo eUp eSe eLe eGr : Nat} {el eu gs gL gG : Int → Int} {ecl : Bool} {te fcr : Nat} {fcc ffo : Int} {ffd : Bool} {j0 j0c j1 j1c : Nat} {d0 c0 d1 c1 : Int} {g0 g1 : Int → Int} {k0 k1 : Bool} {i : Int} (hn : 0 ≤ vn ∧ vn ≤ 6) (hnb : 0 ≤ vb ∧ vb ≤ 2) (hB : HB fb) (hT : HT ft) (hV : HV fb vb) (hVT : HVT ft vn) (ho : 0 ≤ vo ∧ vo ≤ 999) (hc : 0 ≤ vm ∧ vm ≤ 12) (hM : HM gmC vm vb vn) (hL : LRN vn vm fb ft gmC ecl el eu) (hF : FLS vn vm fb ft gmC ffd ffo) (himg0 : k0 = true → (0 ≤ c0 ∧ c0 ≤ 12) ∧ HM g0 c0 vb vn) (himg1 : k1 = true → (0 ≤ c1 ∧ c1 ≤ 12) ∧ HM g1 c1 vb vn) (hri : InR i) : Con l G yX7_goBack cX7_goBack 3 (some .int) { frames := 6, cells := 0, slots := 0, locals := 137 } [.ref x, .int (iI i)] [(x, eO 7 [.ref r, .ref mo, .ref en, .ref i0, .ref i1, .ref e, .ref f, .ref t, .ref h, .ref h2, .int (iI vs)]), (mo, eO 6 [.ref moc, .int (iI vm)]), (moc, eI G 48 gmC), (i0, eO 4 [.ref j0, .int (iI d0), .int (iI (pI (k0 = true)))]), (j0, eO 6 [.ref j0c, .int (iI c0)]), (j0c, eI G 48 g0), (i1, eO 4 [.ref j1, .int (iI d1), .int (iI (pI (k1 = true)))]), (j1, eO 6 [.ref j1c, .int (iI c1)]), (j1c, eI G 48 g1), (e, eO 1 [.ref eLo, .ref eUp, .ref eSe, .ref eLe, .ref eGr, .int (iI (pI (ecl = true)))]), (eLo, eI G 6 el), (eUp, eI G 6 eu), (eSe, eI G 12 gs), (eLe, eI G 12 gL), (eGr, eI G 12 gG), (f, eO 2 [.ref te, .ref fcr, .int (iI fcc), .int (iI (pI (ffd = true))), .int (iI ffo)]), (h, eO 3 [.ref hb, .ref ht, .int (iI vb), .int (iI vn), .int (iI vo)]), (hb, eI G 8 fb), (ht, eI G 24 ft)] (S := (Int → Int) × Bool × (Int → Int) × (Int → Int) × (Int → Int) × (Int → Int) × (Int → Int) × Bool) (fun _ => some (.int (iI (aGoBack i (kz i k0 k1))))) (fun u => [(x, eO 7 [.ref r, .ref mo, .ref en, .ref i0, .ref i1, .ref e, .ref f, .ref t, .ref h, .ref h2, .int (iI (gbX (gbW i k0 k1) d0 d1 vs))]), (mo, eO 6 [.ref moc, .int (iI (gbX (gbW i k0 k1) c0 c1 vm))]), (moc, eI G 48 u.1), (i0, eO 4 [.ref j0, .int (iI d0), .int (iI (pI (k0 = true)))]), (j0, eO 6 [.ref j0c, .int (iI c0)]), (j0c, eI G 48 g0), (i1, eO 4 [.ref j1, .int (iI d1), .int (iI (pI (k1 = true)))]), (j1, eO 6 [.ref j1c, .int (iI c1)]), (j1c, eI G 48 g1), (e, eO 1 [.ref eLo, .ref eUp, .ref eSe, .ref eLe, .ref eGr, .int (iI (pI (u.2.1 = true)))]), (eLo, eI G 6 u.2.2.1), (eUp, eI G 6 u.2.2.2.1), (eSe, eI G 12 u.2.2.2.2.1), (eLe, eI G 12 u.2.2.2.2.2.1), (eGr, eI G 12 u.2.2.2.2.2.2.1), (f, eO 2 [.ref te, .ref fcr, .int (iI fcc), .int (iI (pI (u.2.2.2.2.2.2.2 = true))), .int (iI ffo)]), (h, eO 3 [.ref hb, .ref ht, .int (iI vb), .int (iI vn), .int (iI vo)]), (hb, eI G 8 fb), (ht, eI G 24 ft)]) (fun u => GBC (gbW i k0 k1) g0 g1 gmC u.1 ∧ LRN vn (gbX (gbW i k0 k1) c0 c1 vm) fb ft u.1 u.2.1 u.2.2.1 u.2.2.2.1 ∧ FLS vn (gbX (gbW i k0 k1) c0 c1 vm) fb ft u.1 u.2.2.2.2.2.2.2 ffo) := by
  by_cases h0 : i = 0
  · exact c_X7_goBack_0 h0 hn hnb hB hT hV hVT ho hc hM hL hF himg0 himg1 hri
  · by_cases h1 : i = 1
    · exact c_X7_goBack_1 h1 hn hnb hB hT hV hVT ho hc hM hL hF himg0 himg1 hri
    · exact c_X7_goBack_n ⟨h0, h1⟩ hn hnb hB hT hV hVT ho hc hM hL hF himg0 himg1 hri
set_option maxHeartbeats 4000000 in
set_option maxRecDepth 100000 in
theorem c_X7_house {l : Launch} {G : GT} {x r mo en i0 i1 e f t h h2 : Nat} {vs : Int} {aT : Nat} {vt fa vf pa pn : Int} {ot : Bool} {hb ht : Nat} {fb ft : Int → Int} {vb vn vo : Int} {moc : Nat} {vm : Int} {gmC : Int → Int} {enc j0 j1 : Nat} {vbk d0 c0 d1 c1 : Int} {k0 k1 : Bool} {eLo eUp eSe eLe eGr : Nat} {el eu gs gL gG : Int → Int} {ecl : Bool} {te fcr : Nat} {fcc ffo : Int} {ffd : Bool} {aL aU aP aK aN aH : Nat} {cu cp : Int} {cb : Bool} {hb2 ht2 : Nat} {nb2 n2 od2 : Int} {fb2 ft2 : Int → Int} {wT s : Int → Int} {Z : ZT} (hT : TXT s vt) (hsg : ∀ i, 0 ≤ i → i < vt → s i = wT i % 256) (hwb : ∀ i, -128 ≤ wT i ∧ wT i < 128) (hna : 0 ≤ pn ∧ pn ≤ 401) (hB2 : HB fb2) (hT2 : HT ft2) : ConS l G Z yX7_house cX7_house 2 (some .int) { frames := 7, cells := 0, slots := 0, locals := 153 } [.ref x] [(x, eO 7 [.ref r, .ref mo, .ref en, .ref i0, .ref i1, .ref e, .ref f, .ref t, .ref h, .ref h2, .int (iI vs)]), (r, eO 5 [.ref aT, .int (iI vt), .int (iI fa), .int (iI vf), .int (iI pa), .int (iI pn), .int (iI (pI (ot = true)))]), (aT, eB G 400 wT), (mo, eO 6 [.ref moc, .int (iI vm)]), (moc, eI G 48 gmC), (en, eO 6 [.ref enc, .int (iI vbk)]), (i0, eO 4 [.ref j0, .int (iI d0), .int (iI (pI (k0 = true)))]), (i1, eO 4 [.ref j1, .int (iI d1), .int (iI (pI (k1 = true)))]), (e, eO 1 [.ref eLo, .ref eUp, .ref eSe, .ref eLe, .ref eGr, .int (iI (pI (ecl = true)))]), (eLo, eI G 6 el), (eUp, eI G 6 eu), (eSe, eI G 12 gs), (eLe, eI G 12 gL), (eGr, eI G 12 gG), (f, eO 2 [.ref te, .ref fcr, .int (iI fcc), .int (iI (pI (ffd = true))), .int (iI ffo)]), (t, eO 0 [.ref aL, .ref aU, .ref aP, .ref aK, .ref aN, .ref aH, .int (iI cu), .int (iI cp), .int (iI (pI (cb = true)))]), (h, eO 3 [.ref hb, .ref ht, .int (iI vb), .int (iI vn), .int (iI vo)]), (hb, eI G 8 fb), (ht, eI G 24 ft), (h2, eO 3 [.ref hb2, .ref ht2, .int (iI nb2), .int (iI n2), .int (iI od2)]), (hb2, eI G 8 fb2), (ht2, eI G 24 ft2)] (S := Nat × Int × Int × Bool × Bool × Int × Int × Int × (Int → Int) × (Int → Int) × Bool × (Int → Int) × (Int → Int) × (Int → Int) × (Int → Int) × (Int → Int) × Unit) (fun u => some (.int (iI ((if (endQ s u.1).1 = 0 then pN s u.1 else -10 - (endQ s u.1).1))))) (fun u => [(x, eO 7 [.ref r, .ref mo, .ref en, .ref i0, .ref i1, .ref e, .ref f, .ref t, .ref (cond u.2.2.2.2.1 h2 h), .ref (cond u.2.2.2.2.1 h h2), .int (iI vs)]), (r, eO 5 [.ref aT, .int (iI 0), .int (iI (endQ s u.1).1), .int (iI (endQ s u.1).2), .int (iI u.2.1), .int (iI u.2.2.1), .int (iI (pI (u.2.2.2.1 = true)))]), (aT, eB G 400 wT), (mo, eO 6 [.ref moc, .int (iI (cond u.2.2.2.2.1 0 vm))]), (moc, eI G 48 gmC), (en, eO 6 [.ref enc, .int (iI (cond u.2.2.2.2.1 0 vbk))]), (i0, eO 4 [.ref j0, .int (iI d0), .int (iI (pI ((cond u.2.2.2.2.1 false k0) = true)))]), (i1, eO 4 [.ref j1, .int (iI d1), .int (iI (pI ((cond u.2.2.2.2.1 false k1) = true)))]), (e, eO 1 [.ref eLo, .ref eUp, .ref eSe, .ref eLe, .ref eGr, .int (iI (pI (u.2.2.2.2.2.2.2.2.2.2.1 = true)))]), (eLo, eI G 6 u.2.2.2.2.2.2.2.2.2.2.2.1), (eUp, eI G 6 u.2.2.2.2.2.2.2.2.2.2.2.2.1), (eSe, eI G 12 u.2.2.2.2.2.2.2.2.2.2.2.2.2.1), (eLe, eI G 12 u.2.2.2.2.2.2.2.2.2.2.2.2.2.2.1), (eGr, eI G 12 u.2.2.2.2.2.2.2.2.2.2.2.2.2.2.2.1), (f, eO 2 [.ref te, .ref fcr, .int (iI fcc), .int (iI (pI ((cond u.2.2.2.2.1 false ffd) = true))), .int (iI ffo)]), (t, eO 0 [.ref aL, .ref aU, .ref aP, .ref aK, .ref aN, .ref aH, .int (iI cu), .int (iI cp), .int (iI (pI ((cond u.2.2.2.2.1 false cb) = true)))]), (h, eO 3 [.ref hb, .ref ht, .int (iI vb), .int (iI vn), .int (iI vo)]), (hb, eI G 8 fb), (ht, eI G 24 ft), (h2, eO 3 [.ref hb2, .ref ht2, .int (iI u.2.2.2.2.2.1), .int (iI u.2.2.2.2.2.2.1), .int (iI u.2.2.2.2.2.2.2.1)]), (hb2, eI G 8 u.2.2.2.2.2.2.2.2.1), (ht2, eI G 24 u.2.2.2.2.2.2.2.2.2.1)]) (fun u => (PEND s u.1 ∧ RCM (endQ s u.1) u.2.1 u.2.2.1 u.2.2.2.2.2.1 u.2.2.2.2.2.2.1 u.2.2.2.2.2.2.2.1 u.2.2.2.2.2.2.2.2.1 u.2.2.2.2.2.2.2.2.2.1) ∧ (u.2.2.2.2.1 = true → (endQ s u.1).1 = 0 ∧ u.2.2.2.2.2.1 = pB s u.1 ∧ u.2.2.2.2.2.2.1 = pN s u.1 ∧ u.2.2.2.2.2.2.2.1 = (if pO s u.1 = 0 then 5 else pO s u.1) ∧ EQ4 u.2.2.2.2.2.2.2.2.1 (pFB s u.1) (pB s u.1) ∧ EQ4 u.2.2.2.2.2.2.2.2.2.1 (pFT s u.1) (pN s u.1) ∧ LRN u.2.2.2.2.2.2.1 0 u.2.2.2.2.2.2.2.2.1 u.2.2.2.2.2.2.2.2.2.1 gmC u.2.2.2.2.2.2.2.2.2.2.1 u.2.2.2.2.2.2.2.2.2.2.2.1 u.2.2.2.2.2.2.2.2.2.2.2.2.1) ∧ (u.2.2.2.2.1 = false → (endQ s u.1).1 ≠ 0 ∧ u.2.2.2.2.2.2.2.2.2.2.1 = ecl ∧ u.2.2.2.2.2.2.2.2.2.2.2.1 = el ∧ u.2.2.2.2.2.2.2.2.2.2.2.2.1 = eu)) := by
  refine ConS.mk (by decide +kernel) [some (.ref x), none] rfl (Nat.le_of_ble_eq_true rfl) rfl ?_
  intro V MS EI EL EV EA EN
  have M := MS.m
  refine M.aloadn (pc := 0) 0 rfl rfl dX7_house_0 ?_
  refine M.getf (pc := 1) fg_X7_10 0 rfl rfl dX7_house_1 ?_
  refine M.aloadn (pc := 4) 0 rfl rfl dX7_house_4 ?_
  refine M.getf (pc := 5) fg_X7_66 0 rfl rfl dX7_house_5 ?_
  refine MS.mV (pc := 8) (c_X5_read (q := (fa, vf)) (a := pa) (by first | assumption | omega) (by first | assumption | omega) (by first | assumption | omega) (by first | assumption | omega) (by first | assumption | omega) (by first | assumption | omega)) mv_X7_79 [1, 2, 19, 20, 21] rfl rfl rfl 1 rfl rfl rfl rfl (Nat.le_of_ble_eq_true rfl) rfl ⟨(Nat.le_of_ble_eq_true rfl), (Nat.le_of_ble_eq_true rfl)⟩ ⟨(Nat.le_of_ble_eq_true rfl), (Nat.le_of_ble_eq_true rfl)⟩ rfl (fun _ => rfl) dX7_house_8 (fun u8 hu8 => ?_)
  obtain ⟨K8, a8, m8, b8, n8, d8, t8, f8, g8⟩ := u8
  dsimp only [putL, List.set_cons_zero, List.set_cons_succ, Option.toList, List.cons_append, List.nil_append] at hu8 ⊢
  obtain ⟨hrse, hrcm⟩ := hu8
  obtain ⟨hrf, hra, hrm, hrb, hrn, hro, hrB, hrT⟩ := id hrcm
  have hfb := hrf.1
  refine M.aloadn (pc := 11) 0 rfl rfl dX7_house_11 ?_
  refine M.getf (pc := 12) fg_X7_10 0 rfl rfl dX7_house_12 ?_
  refine M.getf (pc := 15) fg_X7_83 1 rfl rfl dX7_house_15 ?_
  refine M.if_eq (pc := 18) (tgt := 32) dX7_house_18 (by decide) (by omega) (fun c18 => ?_) (fun c18 => ?_)
  · obtain ⟨hE1, hE2, hE3, hE4, hE5⟩ := hrse.2.2 (by omega)
    have hhv := pst_hv hT K8 hrse.1.1
    have hhv1 : HV f8 b8 := by rw [hE1]; exact hhv.1.cg hE4
    have hhv2 : HVT g8 n8 := by rw [hE2]; exact hhv.2.cg hE5
    refine M.aloadn (pc := 32) 0 rfl rfl dX7_house_32 ?_
    refine M.getf (pc := 33) fg_X7_62 0 rfl rfl dX7_house_33 ?_
    refine M.astoren (pc := 36) 1 rfl (Nat.le_of_ble_eq_true rfl) rfl dX7_house_36 ?_
    dsimp only [List.set_cons_zero, List.set_cons_succ]
    refine M.aloadn (pc := 37) 0 rfl rfl dX7_house_37 ?_
    refine M.aloadn (pc := 38) 0 rfl rfl dX7_house_38 ?_
    refine M.getf (pc := 39) fg_X7_66 0 rfl rfl dX7_house_39 ?_
    refine M.putf (pc := 42) fp_X7_62 0 rfl rfl rfl (Nat.le_of_ble_eq_true rfl) dX7_house_42 ?_
    dsimp only [List.set_cons_zero, List.set_cons_succ]
    refine M.aloadn (pc := 45) 0 rfl rfl dX7_house_45 ?_
    refine M.aloadn (pc := 46) 1 rfl rfl dX7_house_46 ?_
    refine M.putf (pc := 47) fp_X7_66 0 rfl rfl rfl (Nat.le_of_ble_eq_true rfl) dX7_house_47 ?_
    dsimp only [List.set_cons_zero, List.set_cons_succ]
    refine M.aloadn (pc := 50) 0 rfl rfl dX7_house_50 ?_
    refine M.getf (pc := 51) fg_X7_21 0 rfl rfl dX7_house_51 ?_
    refine M.iconst (pc := 54) dX7_house_54 ?_
    refine M.putf (pc := 55) fp_X7_86 3 rfl rfl rfl (Nat.le_of_ble_eq_true rfl) dX7_house_55 ?_
    dsimp only [List.set_cons_zero, List.set_cons_succ]
    refine M.aloadn (pc := 58) 0 rfl rfl dX7_house_58 ?_
    refine M.getf (pc := 59) fg_X7_25 0 rfl rfl dX7_house_59 ?_
    refine M.iconst (pc := 62) dX7_house_62 ?_
    refine M.putf (pc := 63) fp_X7_86 5 rfl rfl rfl (Nat.le_of_ble_eq_true rfl) dX7_house_63 ?_
    dsimp only [List.set_cons_zero, List.set_cons_succ]
    refine M.aloadn (pc := 66) 0 rfl rfl dX7_house_66 ?_
    refine M.getf (pc := 67) fg_X7_31 0 rfl rfl dX7_house_67 ?_
    refine M.iconst (pc := 70) dX7_house_70 ?_
    refine M.putfZ (pc := 71) (false) (by rfl) fp_X7_89 6 rfl (Nat.le_of_ble_eq_true rfl) dX7_house_71 ?_
    dsimp only [List.set_cons_zero, List.set_cons_succ]
    refine M.aloadn (pc := 74) 0 rfl rfl dX7_house_74 ?_
    refine M.getf (pc := 75) fg_X7_35 0 rfl rfl dX7_house_75 ?_
    refine M.iconst (pc := 78) dX7_house_78 ?_
    refine M.putfZ (pc := 79) (false) (by rfl) fp_X7_89 7 rfl (Nat.le_of_ble_eq_true rfl) dX7_house_79 ?_
    dsimp only [List.set_cons_zero, List.set_cons_succ]
    refine M.aloadn (pc := 82) 0 rfl rfl dX7_house_82 ?_
    refine M.getf (pc := 83) fg_X7_55 0 rfl rfl dX7_house_83 ?_
    refine M.iconst (pc := 86) dX7_house_86 ?_
    refine M.putfZ (pc := 87) (false) (by rfl) fp_X7_93 15 rfl (Nat.le_of_ble_eq_true rfl) dX7_house_87 ?_
    dsimp only [List.set_cons_zero, List.set_cons_succ]
    refine M.aloadn (pc := 90) 0 rfl rfl dX7_house_90 ?_
    refine M.mV (pc := 91) (c_X7_learn  (by exact hrn) (by exact hrb) (by exact hrB) (by exact hrT) (by exact hhv1) (by exact hhv2) (by exact hro) (by omega) (by exact fun m h0 h1 => by omega)) mv_X7_96 [0, 3, 4, 8, 9, 10, 11, 12, 13, 14, 19, 20, 21] rfl rfl rfl 0 rfl rfl rfl rfl (Nat.le_of_ble_eq_true rfl) rfl ⟨(Nat.le_of_ble_eq_true rfl), (Nat.le_of_ble_eq_true rfl)⟩ ⟨(Nat.le_of_ble_eq_true rfl), (Nat.le_of_ble_eq_true rfl)⟩ rfl (fun _ => rfl) dX7_house_91 (fun u91 hu91 => ?_)
    obtain ⟨cl91, l91, w91, s91, y91, z91⟩ := u91
    dsimp only [putL, List.set_cons_zero, List.set_cons_succ, Option.toList, List.cons_append, List.nil_append] at hu91 ⊢
    refine M.aloadn (pc := 94) 0 rfl rfl dX7_house_94 ?_
    refine M.getf (pc := 95) fg_X7_62 0 rfl rfl dX7_house_95 ?_
    refine M.getf (pc := 98) fg_X7_99 19 rfl rfl dX7_house_98 ?_
    exact EI (K8, a8, m8, t8, true, b8, n8, d8, f8, g8, cl91, l91, w91, s91, y91, z91, ()) _ _ _ _ dX7_house_101 (Or.inl rfl) (by show some (Value.int (iI (if (endQ s K8).1 = 0 then pN s K8 else -10 - (endQ s K8).1))) = _; rw [if_pos (by omega), hE2]) (rfl) (⟨⟨hrse.1, hrcm⟩, fun _ => ⟨show (endQ s K8).1 = 0 by omega, hE1, hE2, hE3, hE4, hE5, hu91⟩, fun z => absurd (show true = false from z) (by decide)⟩)
  · refine M.bipush (pc := 21) (by decide +kernel) dX7_house_21 ?_
    refine M.aloadn (pc := 23) 0 rfl rfl dX7_house_23 ?_
    refine M.getf (pc := 24) fg_X7_10 0 rfl rfl dX7_house_24 ?_
    refine M.getf (pc := 27) fg_X7_83 1 rfl rfl dX7_house_27 ?_
    refine M.isub (pc := 30) dX7_house_30 ?_
    exact EI (K8, a8, m8, t8, false, b8, n8, d8, f8, g8, ecl, el, eu, gs, gL, gG, ()) _ _ _ _ dX7_house_31 (Or.inl rfl) (by show some (Value.int (iI (if (endQ s K8).1 = 0 then pN s K8 else -10 - (endQ s K8).1))) = _; rw [if_neg (by omega)]) (rfl) (⟨⟨hrse.1, hrcm⟩, fun z => absurd (show false = true from z) (by decide), fun _ => ⟨show (endQ s K8).1 ≠ 0 by omega, rfl, rfl, rfl⟩⟩)
