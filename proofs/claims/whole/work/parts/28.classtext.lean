/-! the class's reader: the whole text -/
theorem next_cg {s : Int → Int} {i nb n o : Int} {fb fb' ft ft' : Int → Int} (hb : EQ4 fb fb' nb) (ht : EQ4 ft ft' n) :
    (nextP s (i, nb, n, o, fb, ft)).1 = (nextP s (i, nb, n, o, fb', ft')).1 ∧ (nextP s (i, nb, n, o, fb, ft)).2.1 = (nextP s (i, nb, n, o, fb', ft')).2.1 ∧ (nextP s (i, nb, n, o, fb, ft)).2.2.1 = (nextP s (i, nb, n, o, fb', ft')).2.2.1 ∧ (nextP s (i, nb, n, o, fb, ft)).2.2.2.1 = (nextP s (i, nb, n, o, fb', ft')).2.2.2.1 ∧
    EQ4 (nextP s (i, nb, n, o, fb, ft)).2.2.2.2.1 (nextP s (i, nb, n, o, fb', ft')).2.2.2.2.1 (nextP s (i, nb, n, o, fb', ft')).2.1 ∧ EQ4 (nextP s (i, nb, n, o, fb, ft)).2.2.2.2.2 (nextP s (i, nb, n, o, fb', ft')).2.2.2.2.2 (nextP s (i, nb, n, o, fb', ft')).2.2.1 := by
  by_cases k0 : kdW s i (run isLt s i) = 0
  · have e1 : nextP s (i, nb, n, o, fb, ft) = _ := if_pos k0
    have e2 : nextP s (i, nb, n, o, fb', ft') = _ := if_pos k0
    rw [e1, e2]
    exact ⟨rfl, rfl, rfl, rfl, hb.add, ht⟩
  · by_cases k1 : kdW s i (run isLt s i) = 1
    · have e1 : nextP s (i, nb, n, o, fb, ft) = _ := (if_neg k0).trans (if_pos k1)
      have e2 : nextP s (i, nb, n, o, fb', ft') = _ := (if_neg k0).trans (if_pos k1)
      rw [e1, e2]
      exact ⟨rfl, rfl, rfl, rfl, hb, ht.add⟩
    · have e1 : nextP s (i, nb, n, o, fb, ft) = _ := (if_neg k0).trans (if_neg k1)
      have e2 : nextP s (i, nb, n, o, fb', ft') = _ := (if_neg k0).trans (if_neg k1)
      rw [e1, e2]
      exact ⟨rfl, rfl, rfl, rfl, hb, ht⟩
theorem HB_ad4 {fb : Int → Int} {k a b c d : Int} (h : HB fb) (ha : 1 ≤ a ∧ a ≤ 99) (hb : 1 ≤ b ∧ b ≤ 99) (hc : 0 ≤ c ∧ c ≤ 9999) (hd : 0 ≤ d ∧ d ≤ 99) : HB (ad4 fb k a b c d) := by
  intro x h0 h1
  by_cases e : x = k
  · have e1 := ad4_at fb k a b c d
    rw [e, Int.add_zero, e1.1, e1.2.1, e1.2.2.1, e1.2.2.2]
    omega
  · rw [ad4_n (by omega), ad4_n (by omega), ad4_n (by omega), ad4_n (by omega)]
    exact h x h0 h1
theorem HT_ad4 {ft : Int → Int} {k a b c d : Int} (h : HT ft) (ha : 1 ≤ a ∧ a ≤ 999) (hb : 1 ≤ b ∧ b ≤ 999) (hc : 1 ≤ c ∧ c ≤ 999) (hd : 0 ≤ d ∧ d ≤ 100) : HT (ad4 ft k a b c d) := by
  intro x h0 h1
  by_cases e : x = k
  · have e1 := ad4_at ft k a b c d
    rw [e, Int.add_zero, e1.1, e1.2.1, e1.2.2.1, e1.2.2.2]
    omega
  · rw [ad4_n (by omega), ad4_n (by omega), ad4_n (by omega), ad4_n (by omega)]
    exact h x h0 h1
theorem next_hb {s : Int → Int} {i nb n o : Int} {fb ft : Int → Int} (hg : (clQ s i nb n o).1 = 0) (hb : HB fb) (ht : HT ft) : HB (nextP s (i, nb, n, o, fb, ft)).2.2.2.2.1 ∧ HT (nextP s (i, nb, n, o, fb, ft)).2.2.2.2.2 := by
  unfold clQ at hg
  by_cases k0 : kdW s i (run isLt s i) = 0
  · rw [if_pos k0] at hg
    have e1 : nextP s (i, nb, n, o, fb, ft) = _ := if_pos k0
    have h := bthQ_0 hg
    rw [e1]
    exact ⟨HB_ad4 hb (nV_ok h.2.1) (nV_ok h.2.2.1) (nV_ok h.2.2.2.1) (nV_ok h.2.2.2.2.1), ht⟩
  · rw [if_neg k0] at hg
    by_cases k1 : kdW s i (run isLt s i) = 1
    · rw [if_pos k1] at hg
      have e1 : nextP s (i, nb, n, o, fb, ft) = _ := (if_neg k0).trans (if_pos k1)
      have h := brQ_0 hg
      rw [e1]
      exact ⟨hb, HT_ad4 ht (nV_ok h.2.1) (nV_ok h.2.2.1) (nV_ok h.2.2.2.2.1) (nV_ok h.2.2.2.2.2.2.1)⟩
    · have e1 : nextP s (i, nb, n, o, fb, ft) = _ := (if_neg k0).trans (if_neg k1)
      rw [e1]
      exact ⟨hb, ht⟩
theorem q0_ok : FOK q0 := ⟨⟨by decide, by decide⟩, by decide, by decide⟩
theorem edQ_ok {s : Int → Int} {L j : Int} {q : Int × Int} (hT : TXT s L) (h : FOK q) (h0 : 0 ≤ j) (h1 : j ≤ L) : FOK (edQ s q j) := by
  have h2 := nS_ok hT h0 h1
  have := hT.1
  exact fl_ok h (by split <;> omega) (by omega)
theorem nfl_ok {s : Int → Int} {L i lo up : Int} {q : Int × Int} (hT : TXT s L) (h : FOK q) (h0 : 0 ≤ i) (h1 : i ≤ L) : FOK (fl q (nF s lo up i) (nS s i)) := by
  have h2 := nS_ok hT h0 h1
  have h3 := nF_b s lo up i
  have := hT.1
  exact fl_ok h (by omega) (by omega)
theorem clQ_ok {s : Int → Int} {L i : Int} (hT : TXT s L) (h0 : 0 ≤ i) (h1 : i ≤ L) (nb n o : Int) : FOK (clQ s i nb n o) := by
  have hL := hT.1
  have hw := wd_ok hT h0 h1
  have s1 := nS_ok (i := run isLt s i) hT (by omega) (by omega)
  have e1 := nE_ok (i := run isLt s i) hT (by omega) (by omega)
  have s2 := nS_ok (i := nE s (run isLt s i)) hT (by omega) (by omega)
  have e2 := nE_ok (i := nE s (run isLt s i)) hT (by omega) (by omega)
  have s3 := nS_ok (i := nE s (nE s (run isLt s i))) hT (by omega) (by omega)
  have e3 := nE_ok (i := nE s (nE s (run isLt s i))) hT (by omega) (by omega)
  have s4 := nS_ok (i := nE s (nE s (nE s (run isLt s i)))) hT (by omega) (by omega)
  have e4 := nE_ok (i := nE s (nE s (nE s (run isLt s i)))) hT (by omega) (by omega)
  unfold clQ
  split
  · unfold bthQ
    refine edQ_ok hT (nfl_ok hT (nfl_ok hT (nfl_ok hT (nfl_ok hT (fl_ok q0_ok (by split <;> omega) (by omega)) ?_ ?_) ?_ ?_) ?_ ?_) ?_ ?_) ?_ ?_ <;> omega
  · split
    · unfold brQ
      refine edQ_ok hT (nfl_ok hT (fl_ok (nfl_ok hT (fl_ok (nfl_ok hT (nfl_ok hT (fl_ok q0_ok (by split <;> omega) (by omega)) ?_ ?_) ?_ ?_) (by split <;> omega) (by omega)) ?_ ?_) (by split <;> omega) (by omega)) ?_ ?_) ?_ ?_ <;> omega
    · split
      · unfold odQ
        refine edQ_ok hT (nfl_ok hT (fl_ok q0_ok (by split <;> omega) (by omega)) ?_ ?_) ?_ ?_ <;> omega
      · exact fl_ok q0_ok (by omega) (by omega)
theorem CLZ1 {s : Int → Int} {nb i e : Int} (h : (bthQ s (fl q0 (if nb = 2 then 3 else 0) i) e).1 = 0) : bthQ s (fl q0 (if nb = 2 then 3 else 0) i) e = q0 := by
  have h1 := edQ_0 h
  have h2 := fl_0 h1.1
  have h3 := fl_0 h2.1
  have h4 := fl_0 h3.1
  have h5 := fl_0 h4.1
  have h6 := fl_0 h5.1
  exact h1.2.2.trans (h2.2.2.trans (h3.2.2.trans (h4.2.2.trans (h5.2.2.trans h6.2.2))))
theorem CLZ2 {s : Int → Int} {n i e : Int} (h : (brQ s (fl q0 (if n = 6 then 3 else 0) i) e).1 = 0) : brQ s (fl q0 (if n = 6 then 3 else 0) i) e = q0 := by
  have h1 := edQ_0 h
  have h2 := fl_0 h1.1
  have h3 := fl_0 h2.1
  have h4 := fl_0 h3.1
  have h5 := fl_0 h4.1
  have h6 := fl_0 h5.1
  have h7 := fl_0 h6.1
  have h8 := fl_0 h7.1
  exact h1.2.2.trans (h2.2.2.trans (h3.2.2.trans (h4.2.2.trans (h5.2.2.trans (h6.2.2.trans (h7.2.2.trans h8.2.2))))))
theorem CLZ3 {s : Int → Int} {o i e : Int} (h : (odQ s (fl q0 (if o = 0 then 0 else 3) i) e).1 = 0) : odQ s (fl q0 (if o = 0 then 0 else 3) i) e = q0 := by
  have h1 := edQ_0 h
  have h2 := fl_0 h1.1
  have h3 := fl_0 h2.1
  exact h1.2.2.trans (h2.2.2.trans h3.2.2)
/-- the reader's state, without fault -/
def RSA (s : Int → Int) (K : Nat) (k a b n d : Int) (t : Bool) (f g : Int → Int) : Prop := k = (K : Int) ∧ a = pA s K ∧ (∀ j : Nat, j < K → GO s j) ∧ b = pB s K ∧ n = pN s K ∧ ((t = true ↔ pO s K ≠ 0) ∧ d = if pO s K = 0 then 5 else pO s K) ∧ EQ4 f (pFB s K) (pB s K) ∧ EQ4 g (pFT s K) (pN s K)
def RST (s : Int → Int) (K : Nat) (k : Int) (q : Int × Int) (a b n d : Int) (t : Bool) (f g : Int → Int) : Prop := (q = q0 ∧ RSA s K k a b n d t f g) ∨ (q.1 ≠ 0 ∧ PEND s K ∧ q = endQ s K)
def RSE (s : Int → Int) (K : Nat) (q : Int × Int) (b n d : Int) (f g : Int → Int) : Prop := PEND s K ∧ q = endQ s K ∧ (q.1 = 0 → b = pB s K ∧ n = pN s K ∧ d = (if pO s K = 0 then 5 else pO s K) ∧ EQ4 f (pFB s K) (pB s K) ∧ EQ4 g (pFT s K) (pN s K))
def RCM (q : Int × Int) (a m b n d : Int) (f g : Int → Int) : Prop := FOK q ∧ (0 ≤ a ∧ a ≤ 401) ∧ (0 ≤ m ∧ m ≤ 401) ∧ (0 ≤ b ∧ b ≤ 2) ∧ (0 ≤ n ∧ n ≤ 6) ∧ (0 ≤ d ∧ d ≤ 999) ∧ HB f ∧ HT g
theorem pst_b {s : Int → Int} {L : Int} (hT : TXT s L) {K : Nat} (h : ∀ j : Nat, j < K → GO s j) : (0 ≤ pA s K ∧ pA s K ≤ L) ∧ (0 ≤ pB s K ∧ pB s K ≤ 2) ∧ (0 ≤ pN s K ∧ pN s K ≤ 6) ∧ (0 ≤ pO s K ∧ pO s K ≤ 999) ∧ (K : Int) ≤ pA s K := by
  have h2 := pst_ok hT K h
  exact ⟨h2.1.1, h2.1.2.1, h2.1.2.2.1, h2.1.2.2.2, h2.2⟩
theorem RST.end {s : Int → Int} {L : Int} (hT : TXT s L) {K : Nat} {k : Int} {q : Int × Int} {a b n d : Int} {t : Bool} {f g : Int → Int} (h : RST s K k q a b n d t f g) (hx : 400 ≤ k ∨ L ≤ a ∨ q.1 ≠ 0) : RSE s K q b n d f g := by
  rcases h with ⟨h1, h2, h3, h4, h5, h6, h7, h8, h9⟩ | ⟨h1, h2, h3⟩
  · have hb := pst_b hT h4
    have hL := hT.1
    have hq : q.1 = 0 := by rw [h1]; rfl
    have e : s (pA s K) = -1 := hT.2.2 _ (by omega)
    refine ⟨⟨h4, fun z => z.1 e⟩, ?_, fun _ => ⟨h5, h6, h7.2, h8, h9⟩⟩
    unfold endQ
    rw [if_pos e, h1]
  · exact ⟨h2, h3, fun z => absurd z h1⟩
theorem RSA.next {s : Int → Int} {L : Int} (hT : TXT s L) {K : Nat} {k a b n d a' b' n' d' : Int} {t t' : Bool} {f g f' g' : Int → Int} (h : RSA s K k a b n d t f g) (ha : a < L) (hc : CLR s a b n (pO s K) d t f g a' b' n' d' t' f' g') :
    RST s (if (cQ s K).1 = 0 then K + 1 else K) (k + 1) (clQ s a b n (pO s K)) (nS s a') b' n' d' t' f' g' := by
  obtain ⟨h2, h3, h4, h5, h6, h7, h8, h9⟩ := h
  have hb := pst_b hT h4
  subst h3 h5 h6
  have ec : clQ s (pA s K) (pB s K) (pN s K) (pO s K) = cQ s K := rfl
  have hs : s (pA s K) ≠ -1 := by have := (hT.2.1 (pA s K) (by omega) ha).1; omega
  by_cases z : (cQ s K).1 = 0
  · rw [if_pos z]
    left
    obtain ⟨o', h10, h11⟩ := hc.1 (by rw [ec]; exact z)
    have hgo : ∀ j : Nat, j < K + 1 → GO s j := fun j hj => by
      rcases (by omega : j < K ∨ j = K) with w | w
      · exact h4 j w
      · rw [w]; exact ⟨hs, z⟩
    refine ⟨?_, by omega, ?_, hgo, ?_⟩
    · rw [ec]
      have : (cQ s K).2 = -1 := by
        have h12 := z
        rw [← ec] at h12 ⊢
        unfold clQ at h12 ⊢
        revert h12
        split
        · intro h12; rw [CLZ1 h12]; rfl
        · split
          · intro h12; rw [CLZ2 h12]; rfl
          · split
            · intro h12; rw [CLZ3 h12]; rfl
            · intro h12; rw [fl_f rfl (by decide)] at h12; exact absurd (show (1 : Int) = 0 from h12) (by decide)
      exact Prod.ext z this
    · have c := next_cg (s := s) (i := pA s K) (o := pO s K) h8 h9
      rw [← h11] at c
      exact c.1
    · have c := next_cg (s := s) (i := pA s K) (o := pO s K) h8 h9
      rw [← h11] at c
      obtain ⟨c1, c2, c3, c4, c5, c6⟩ := c
      have c4 : o' = pO s (K + 1) := c4
      refine ⟨c2, c3, ?_, c5, c6⟩
      rw [← c4]
      exact h10
  · rw [if_neg z]
    right
    exact ⟨by rw [ec]; exact z, ⟨h4, fun w => z w.2⟩, by unfold endQ; rw [if_neg hs]; exact ec⟩
theorem RCM.next {s : Int → Int} {L : Int} (hT : TXT s L) {a b n o d a' m' b' n' d' : Int} {t t' : Bool} {f g f' g' : Int → Int} {q : Int × Int} {m fb0 : Int} (h : RCM q a m b n d f g) (ho : 0 ≤ o ∧ o ≤ 999) (ha : a ≤ L) (hc : CLR s a b n o d t f g a' b' n' d' t' f' g') (h1 : 0 ≤ a' ∧ a' ≤ 401) (h2 : 0 ≤ m' ∧ m' ≤ 401) : RCM (clQ s a b n o) (nS s a') m' b' n' d' f' g' := by
  obtain ⟨g1, g2, g3, g4, g5, g6, g7, g8⟩ := h
  have hL := hT.1
  have hn := run_ok (i := a') hT isB1 h1.1
  refine ⟨clQ_ok hT g2.1 ha b n o, ⟨?_, ?_⟩, h2, ?_⟩
  · have := hn.1.1; show 0 ≤ run isB s a'; omega
  · have := hn.2; show run isB s a' ≤ 401; omega
  · by_cases z : (clQ s a b n o).1 = 0
    · obtain ⟨o', h10, h11⟩ := hc.1 z
      have hp := (next_ok (L := L) hT (q := (a, b, n, o, f, g)) ⟨⟨g2.1, ha⟩, g4, g5, ho⟩ z).1
      have hh := next_hb (s := s) (fb := f) (ft := g) z g7 g8
      rw [← h11] at hp hh
      obtain ⟨-, p2, p3, p4⟩ := hp
      have p4 : 0 ≤ o' ∧ o' ≤ 999 := p4
      refine ⟨p2, p3, ?_, hh.1, hh.2⟩
      rw [h10.2]
      split <;> omega
    · obtain ⟨r1, r2, r3, r4, r5, r6⟩ := hc.2 z
      rw [r1, r2, r3, r4, r5]
      exact ⟨g4, g5, g6, g7, g8⟩
set_option maxHeartbeats 4000000 in
set_option maxRecDepth 100000 in
theorem c_X5_read {l : Launch} {G : GT} {r aT : Nat} {L a na : Int} {q : Int × Int} {ot : Bool} {wT s : Int → Int} {h hb ht : Nat} {fb ft : Int → Int} {nb n od : Int} {Z : ZT} (hT : TXT s L) (hsg : ∀ i, 0 ≤ i → i < L → s i = wT i % 256) (hwb : ∀ i, -128 ≤ wT i ∧ wT i < 128) (hna : 0 ≤ na ∧ na ≤ 401) (hBh : HB fb) (hTh : HT ft) : ConS l G Z yX5_read cX5_read 3 none { frames := 6, cells := 0, slots := 0, locals := 131 } [.ref r, .ref h] [(r, eO 5 [.ref aT, .int (iI L), .int (iI q.1), .int (iI q.2), .int (iI a), .int (iI na), .int (iI (pI (ot = true)))]), (aT, eB G 400 wT), (h, eO 3 [.ref hb, .ref ht, .int (iI nb), .int (iI n), .int (iI od)]), (hb, eI G 8 fb), (ht, eI G 24 ft)] (S := Nat × Int × Int × Int × Int × Int × Bool × (Int → Int) × (Int → Int)) (fun _ => none) (fun u => [(r, eO 5 [.ref aT, .int (iI 0), .int (iI (endQ s u.1).1), .int (iI (endQ s u.1).2), .int (iI u.2.1), .int (iI u.2.2.1), .int (iI (pI (u.2.2.2.2.2.2.1 = true)))]), (aT, eB G 400 wT), (h, eO 3 [.ref hb, .ref ht, .int (iI u.2.2.2.1), .int (iI u.2.2.2.2.1), .int (iI u.2.2.2.2.2.1)]), (hb, eI G 8 u.2.2.2.2.2.2.2.1), (ht, eI G 24 u.2.2.2.2.2.2.2.2)]) (fun u => RSE s u.1 (endQ s u.1) u.2.2.2.1 u.2.2.2.2.1 u.2.2.2.2.2.1 u.2.2.2.2.2.2.2.1 u.2.2.2.2.2.2.2.2 ∧ RCM (endQ s u.1) u.2.1 u.2.2.1 u.2.2.2.1 u.2.2.2.2.1 u.2.2.2.2.2.1 u.2.2.2.2.2.2.2.1 u.2.2.2.2.2.2.2.2) := by
  refine ConS.mk (by decide +kernel) [some (.ref r), some (.ref h), none] rfl (Nat.le_of_ble_eq_true rfl) rfl ?_
  intro V MS EI EL EV EA EN
  have M := MS.m
  have hL := hT.1
  have h0S := nS_ok (i := 0) hT (by omega) (by omega)
  refine M.aloadn (pc := 0) 1 rfl rfl dX5_read_0 ?_
  refine M.mV (pc := 1) (c_X3_clear  ) mv_X5_22 [2, 3, 4] rfl rfl rfl 2 rfl rfl rfl rfl (Nat.le_of_ble_eq_true rfl) rfl ⟨(Nat.le_of_ble_eq_true rfl), (Nat.le_of_ble_eq_true rfl)⟩ ⟨(Nat.le_of_ble_eq_true rfl), (Nat.le_of_ble_eq_true rfl)⟩ rfl (fun _ => rfl) dX5_read_1 (fun u1 hu1 => ?_)
  dsimp only [putL, List.set_cons_zero, List.set_cons_succ, Option.toList, List.cons_append, List.nil_append] at hu1 ⊢
  refine M.aloadn (pc := 4) 0 rfl rfl dX5_read_4 ?_
  refine M.iconst (pc := 5) dX5_read_5 ?_
  refine M.putf (pc := 6) fp_X5_27 0 rfl rfl rfl (Nat.le_of_ble_eq_true rfl) dX5_read_6 ?_
  dsimp only [List.set_cons_zero, List.set_cons_succ]
  refine M.aloadn (pc := 9) 0 rfl rfl dX5_read_9 ?_
  refine M.iconst (pc := 10) dX5_read_10 ?_
  refine M.putf (pc := 11) fp_X5_15 0 rfl rfl rfl (Nat.le_of_ble_eq_true rfl) dX5_read_11 ?_
  dsimp only [List.set_cons_zero, List.set_cons_succ]
  refine M.aloadn (pc := 14) 0 rfl rfl dX5_read_14 ?_
  refine M.iconst (pc := 15) dX5_read_15 ?_
  refine M.putf (pc := 16) fp_X5_30 0 rfl rfl rfl (Nat.le_of_ble_eq_true rfl) dX5_read_16 ?_
  dsimp only [List.set_cons_zero, List.set_cons_succ]
  refine M.aloadn (pc := 19) 0 rfl rfl dX5_read_19 ?_
  refine M.iconst (pc := 20) dX5_read_20 ?_
  refine M.putfZ (pc := 21) (false) (by rfl) fp_X5_33 0 rfl (Nat.le_of_ble_eq_true rfl) dX5_read_21 ?_
  dsimp only [List.set_cons_zero, List.set_cons_succ]
  refine M.aloadn (pc := 24) 0 rfl rfl dX5_read_24 ?_
  refine M.mV (pc := 25) (c_X5_skipBlanks (q := q0) (by first | assumption | omega) (by first | assumption | omega) (by first | assumption | omega) (by omega)) mv_X5_37 [0, 1] rfl rfl rfl 0 rfl rfl rfl rfl (Nat.le_of_ble_eq_true rfl) rfl ⟨(Nat.le_of_ble_eq_true rfl), (Nat.le_of_ble_eq_true rfl)⟩ ⟨(Nat.le_of_ble_eq_true rfl), (Nat.le_of_ble_eq_true rfl)⟩ rfl (fun _ => rfl) dX5_read_25 (fun u25 hu25 => ?_)
  dsimp only [putL, List.set_cons_zero, List.set_cons_succ, Option.toList, List.cons_append, List.nil_append] at hu25 ⊢
  refine M.iconst (pc := 28) dX5_read_28 ?_
  refine M.istoren (pc := 29) 2 rfl (Nat.le_of_ble_eq_true rfl) rfl dX5_read_29 ?_
  dsimp only [List.set_cons_zero, List.set_cons_succ]
  have L30 : ∀ (fu : Nat) {k a2 m2 b2 n2 d2 : Int} {K : Nat} {q2 : Int × Int} {t2 : Bool} {f2 g2 : Int → Int}, (0 ≤ k ∧ k ≤ 400) → (RST s K k q2 a2 b2 n2 d2 t2 f2 g2) → (RCM q2 a2 m2 b2 n2 d2 f2 g2) → (400 - k).toNat < fu → V 0 0 30 [(r, eO 5 [.ref aT, .int (iI L), .int (iI q2.1), .int (iI q2.2), .int (iI a2), .int (iI m2), .int (iI (pI (t2 = true)))]), (aT, eB G 400 wT), (h, eO 3 [.ref hb, .ref ht, .int (iI b2), .int (iI n2), .int (iI d2)]), (hb, eI G 8 f2), (ht, eI G 24 g2)] [some (.ref r), some (.ref h), some (.int (iI k))] [] := by
    intro fu
    induction fu with
    | zero => intro k a2 m2 b2 n2 d2 K q2 t2 f2 g2 hk hst hcm hm; exact absurd hm (Nat.not_lt_zero _)
    | succ fu ih30 =>
      intro k a2 m2 b2 n2 d2 K q2 t2 f2 g2 hk hst hcm hm30
      have L70 : (RSE s K q2 b2 n2 d2 f2 g2) → V 0 0 70 [(r, eO 5 [.ref aT, .int (iI L), .int (iI q2.1), .int (iI q2.2), .int (iI a2), .int (iI m2), .int (iI (pI (t2 = true)))]), (aT, eB G 400 wT), (h, eO 3 [.ref hb, .ref ht, .int (iI b2), .int (iI n2), .int (iI d2)]), (hb, eI G 8 f2), (ht, eI G 24 g2)] [some (.ref r), some (.ref h), none] [] := by
        intro  hse
        refine M.aloadn (pc := 70) 0 rfl rfl dX5_read_70 ?_
        refine M.iconst (pc := 71) dX5_read_71 ?_
        refine M.putf (pc := 72) fp_X5_19 0 rfl rfl rfl (Nat.le_of_ble_eq_true rfl) dX5_read_72 ?_
        dsimp only [List.set_cons_zero, List.set_cons_succ]
        obtain ⟨e1, e2, e3⟩ := id hse
        subst e2
        exact EV (K, a2, m2, b2, n2, d2, t2, f2, g2) _ _ _ dX5_read_75 rfl (rfl) (rfl) (⟨hse, hcm⟩)
      refine M.iloadn (pc := 30) 2 rfl rfl dX5_read_30 ?_
      refine M.sipush (pc := 31) (by decide +kernel) dX5_read_31 ?_
      refine M.icmp_ge (pc := 34) (tgt := 70) dX5_read_34 (by decide) (by omega) (by omega) (fun c34 => ?_) (fun c34 => ?_)
      · refine M.forget 2 ?_
        dsimp only [List.set_cons_zero, List.set_cons_succ]
        exact L70  (by exact hst.end hT (Or.inl c34))
      · have hcb := hcm.2.1
        refine M.aloadn (pc := 37) 0 rfl rfl dX5_read_37 ?_
        refine M.getf (pc := 38) fg_X5_30 0 rfl rfl dX5_read_38 ?_
        refine M.aloadn (pc := 41) 0 rfl rfl dX5_read_41 ?_
        refine M.getf (pc := 42) fg_X5_19 0 rfl rfl dX5_read_42 ?_
        refine M.icmp_ge (pc := 45) (tgt := 70) dX5_read_45 (by decide) (by omega) (by omega) (fun c45 => ?_) (fun c45 => ?_)
        · refine M.forget 2 ?_
          dsimp only [List.set_cons_zero, List.set_cons_succ]
          exact L70  (by exact hst.end hT (Or.inr (Or.inl c45)))
        · have hqb := hcm.1.1
          refine M.aloadn (pc := 48) 0 rfl rfl dX5_read_48 ?_
          refine M.getf (pc := 49) fg_X5_27 0 rfl rfl dX5_read_49 ?_
          refine M.if_ne (pc := 52) (tgt := 70) dX5_read_52 (by decide) (by omega) (fun c52 => ?_) (fun c52 => ?_)
          · refine M.forget 2 ?_
            dsimp only [List.set_cons_zero, List.set_cons_succ]
            exact L70  (by exact hst.end hT (Or.inr (Or.inr c52)))
          · rcases hst with ⟨hq2, hA⟩ | ⟨hx, _⟩
            rotate_left
            · exact absurd c52 hx
            subst hq2
            have hpb := pst_b hT hA.2.2.1
            obtain ⟨y1, y2, y3, y4, y5, y6, y7, y8⟩ := id hcm
            refine M.aloadn (pc := 55) 0 rfl rfl dX5_read_55 ?_
            refine M.aloadn (pc := 56) 1 rfl rfl dX5_read_56 ?_
            refine MS.mV (pc := 57) (c_X5_readClause (q := q0) (a := 0) (o := (pO s K)) (by first | assumption | omega) (by first | assumption | omega) (by first | assumption | omega) (by exact y3) (by omega) (by exact y4) (by exact y5) (by exact hA.2.2.2.2.2.1.1) (by exact hpb.2.2.2.1) (by exact hA.2.2.2.2.2.1.2)) mv_X5_40 [0, 1, 2, 3, 4] rfl rfl rfl 0 rfl rfl rfl rfl (Nat.le_of_ble_eq_true rfl) rfl ⟨(Nat.le_of_ble_eq_true rfl), (Nat.le_of_ble_eq_true rfl)⟩ ⟨(Nat.le_of_ble_eq_true rfl), (Nat.le_of_ble_eq_true rfl)⟩ rfl (fun _ => rfl) dX5_read_57 (fun u57 hu57 => ?_)
            obtain ⟨a57, m57, b57, n57, d57, t57, f57, g57⟩ := u57
            dsimp only [putL, List.set_cons_zero, List.set_cons_succ, Option.toList, List.cons_append, List.nil_append] at hu57 ⊢
            refine M.aloadn (pc := 60) 0 rfl rfl dX5_read_60 ?_
            refine M.mV (pc := 61) (c_X5_skipBlanks (q := (clQ s a2 b2 n2 (pO s K))) (by first | assumption | omega) (by first | assumption | omega) (by first | assumption | omega) (by exact hu57.2.1)) mv_X5_37 [0, 1] rfl rfl rfl 0 rfl rfl rfl rfl (Nat.le_of_ble_eq_true rfl) rfl ⟨(Nat.le_of_ble_eq_true rfl), (Nat.le_of_ble_eq_true rfl)⟩ ⟨(Nat.le_of_ble_eq_true rfl), (Nat.le_of_ble_eq_true rfl)⟩ rfl (fun _ => rfl) dX5_read_61 (fun u61 hu61 => ?_)
            dsimp only [putL, List.set_cons_zero, List.set_cons_succ, Option.toList, List.cons_append, List.nil_append] at hu61 ⊢
            refine M.iinc (pc := 64) (i := 2) rfl rfl dX5_read_64 ?_
            dsimp only [List.set_cons_zero, List.set_cons_succ]
            refine M.goto (pc := 67) (tgt := 30) dX5_read_67 (by decide) ?_
            exact ih30 (K := (if (cQ s K).1 = 0 then K + 1 else K)) (q2 := (clQ s a2 b2 n2 (pO s K))) (by first | assumption | omega) (by exact hA.next hT c45 hu57.1) (by exact hcm.next (fb0 := 0) hT hpb.2.2.2.1 (by omega) hu57.1 hu57.2.1 hu57.2.2) (by omega)
  exact L30 _ (q2 := q0) (K := 0) (by first | assumption | omega) (by exact Or.inl ⟨rfl, by decide, rfl, fun j h => absurd h (Nat.not_lt_zero j), rfl, rfl, ⟨⟨fun z => absurd z (by decide), fun z => absurd rfl z⟩, rfl⟩, fun x h0 h1 => by have h1 : x < 0 * 4 := h1; omega, fun x h0 h1 => by have h1 : x < 0 * 4 := h1; omega⟩) (by exact ⟨q0_ok, by omega, hna, by omega, by omega, by omega, hBh, hTh⟩) (Nat.lt_succ_self _)
