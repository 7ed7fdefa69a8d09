/-! the class's cases: how many tries, the first, whom to keep away -/
theorem VTs_128 (nb n : Int) : ∀ s, VTs nb n 128 s ↔ VTt nb n s := fun s => ⟨fun h => h.1, fun h => ⟨h, by have := h.1; omega⟩⟩
theorem TBs.tbe {nb n cu : Int} {H : Int → Int → Int} {l U P K : Int → Int} (h : TBs nb n H 128 cu l U P K) : TBE n (VTt nb n) H cu U P :=
  ⟨h.1, fun u h0 h1 => ⟨(h.2.2.1 u h0 h1).1, (h.2.2.1 u h0 h1).2.2⟩, fun s h0 h1 => h.2.2.2.2.1 s h0 (by have := h0.1; omega) h1, h.2.2.2.1⟩
theorem TBs.alk {nb n cu : Int} {H : Int → Int → Int} {l U P K : Int → Int} (h : TBs nb n H 128 cu l U P K) : ∀ d, prB n d = true → K d = alM (VTt nb n) H (prB n) d := fun d hd => by
  rw [h.2.2.2.2.2.2 d hd]
  exact alM_cg (fun e _ => ⟨fun a s hs => a s ((VTs_128 nb n s).mpr hs), fun a s hs => a s hs.1⟩)
theorem and_m1 (x : Int32) : iI (-1) &&& x = x := by
  apply Int32.toBitVec_inj.1
  show (iI (-1)).toBitVec &&& x.toBitVec = _
  rw [show (iI (-1)).toBitVec = BitVec.allOnes 32 by decide +kernel]
  exact BitVec.allOnes_and
/-- a try that parts two cases -/
def SD (nb n : Int) (H : Int → Int → Int) (c d t : Int) : Prop := VTt nb n t ∧ H t c ≠ H t d
theorem SD.dig {nb n cu c d t : Int} {H : Int → Int → Int} {l U P K : Int → Int} (hn : 0 ≤ n ∧ n ≤ 6) (h : TBs nb n H 128 cu l U P K) (hc : prB n c = true) (hd : prB n d = true) (ht : 0 ≤ t ∧ t < 128) : l t / p16 c % 16 ≠ l t / p16 d % 16 ↔ SD nb n H c d t := by
  have hl := h.2.1 t ht.1 ht.2
  have hcb := prB_b hn hc
  have hdb := prB_b hn hd
  by_cases q : VTt nb n t
  · rw [hl.1 q, LDR_dig hn hcb.1 hcb.2, LDR_dig hn hdb.1 hdb.2, show gL (prB n) (H t) c = leadOf (prB n) (H t) c from if_pos hc, show gL (prB n) (H t) d = leadOf (prB n) (H t) d from if_pos hd]
    have e := leadOf_eq (f := H t) hcb.1 hdb.1 hc hd
    exact ⟨fun z => ⟨q, fun w => z (e.mpr w)⟩, fun z w => z.2 (e.mp w)⟩
  · rw [hl.2 q, Int.zero_ediv, Int.zero_ediv]
    exact ⟨fun z => absurd rfl z, fun z => absurd z.1 q⟩
def INA (sd : Int → Prop) (k a : Int) : Prop := (a = -1 ∧ ∀ t, 0 ≤ t → t < k → ¬ sd t) ∨ ((0 ≤ a ∧ a < 64) ∧ (∃ t, (0 ≤ t ∧ t < k) ∧ sd t) ∧ ∀ j, 0 ≤ j → j < 6 → (tb a j = true ↔ ∀ t, 0 ≤ t → t < k → sd t → tb (t % 64) j = true))
def INE (sd : Int → Prop) (a : Int) : Prop := (0 ≤ a ∧ a < 64) ∧ ∀ j, 0 ≤ j → j < 6 → (tb a j = true ↔ (∃ t, sd t) ∧ ∀ t, sd t → tb (t % 64) j = true)
theorem INA.fin {sd : Int → Prop} {a : Int} (hb : ∀ t, sd t → 0 ≤ t ∧ t < 128) (h : INA sd 128 a) : INE sd (if a = -1 then 0 else a) := by
  rcases h with ⟨h1, h2⟩ | ⟨h1, ⟨t, h2, h3⟩, h4⟩
  · rw [if_pos h1]
    refine ⟨by omega, fun j _ _ => ?_⟩
    rw [tb_0]
    exact ⟨fun z => absurd z (by decide), fun z => z.1.elim (fun t ht => absurd ht (h2 t (hb t ht).1 (hb t ht).2))⟩
  · rw [if_neg (by omega)]
    refine ⟨h1, fun j j0 j1 => ?_⟩
    rw [h4 j j0 j1]
    exact ⟨fun z => ⟨⟨t, h3⟩, fun s hs => z s (hb s hs).1 (hb s hs).2 hs⟩, fun z s _ _ hs => z.2 s hs⟩
theorem INA.no {sd : Int → Prop} {k a : Int} (h : INA sd k a) (hn : ¬ sd k) : INA sd (k + 1) a := by
  have key : ∀ t, t < k + 1 → sd t → t < k := fun t h1 h2 => by
    rcases (by omega : t < k ∨ t = k) with q | q
    · exact q
    · subst q; exact absurd h2 hn
  rcases h with ⟨h1, h2⟩ | ⟨h1, ⟨t, h2, h3⟩, h4⟩
  · exact Or.inl ⟨h1, fun t t0 t1 ht => h2 t t0 (key t t1 ht) ht⟩
  · refine Or.inr ⟨h1, ⟨t, ⟨h2.1, by omega⟩, h3⟩, fun j j0 j1 => ?_⟩
    rw [h4 j j0 j1]
    exact ⟨fun z s s0 s1 hs => z s s0 (key s s1 hs) hs, fun z s s0 s1 hs => z s s0 (by omega) hs⟩
theorem INA.yes {sd : Int → Prop} {k a : Int} (hk : 0 ≤ k) (h : INA sd k a) (hy : sd k) : ∃ b, iI a &&& iI (k % 64) = iI b ∧ INA sd (k + 1) b := by
  rcases h with ⟨h1, h2⟩ | ⟨h1, ⟨t, h2, h3⟩, h4⟩
  · refine ⟨k % 64, by rw [h1]; exact and_m1 _, Or.inr ⟨by omega, ⟨k, by omega, hy⟩, fun j j0 j1 => ⟨fun z s s0 s1 hs => ?_, fun z => z k hk (by omega) hy⟩⟩⟩
    rcases (by omega : s < k ∨ s = k) with q | q
    · exact absurd hs (h2 s s0 q)
    · rw [q]; exact z
  · have hl := land_b (a := a) (b := k % 64) h1.1 (by omega)
    refine ⟨land a (k % 64), land_ok h1.1 (by omega), Or.inr ⟨by omega, ⟨k, by omega, hy⟩, fun j j0 j1 => ?_⟩⟩
    rw [tb_land, Bool.and_eq_true, h4 j j0 j1]
    constructor
    · rintro ⟨z1, z2⟩ s s0 s1 hs
      rcases (by omega : s < k ∨ s = k) with q | q
      · exact z1 s s0 q hs
      · rw [q]; exact z2
    · intro z
      exact ⟨fun s s0 s1 hs => z s s0 (by omega) hs, z k hk (by omega) hy⟩
theorem bor_b6 {a b : Int} (ha : 0 ≤ a ∧ a < 64) (hb : 0 ≤ b ∧ b < 64) : 0 ≤ bor a b ∧ bor a b < 64 := by
  have h : a.toNat ||| b.toNat < 2 ^ 6 := Nat.or_lt_two_pow (by omega) (by omega)
  unfold bor
  omega
def INX (nb n : Int) (H : Int → Int → Int) (j b a : Int) : Prop := (∃ t, SD nb n H b a t) ∧ ∀ t, SD nb n H b a t → tb (t % 64) j = true
theorem land0 (x : Int) : land x 0 = 0 := by
  unfold land
  simp
theorem land_p2 {x k : Int} (hx : 0 ≤ x) (hk : 0 ≤ k) : land x (p2 k) ≠ 0 ↔ tb x k = true := by
  constructor
  · intro h
    refine Classical.byContradiction (fun z => h ?_)
    have e : (land x (p2 k)).toNat = 0 := by
      apply Nat.eq_of_testBit_eq
      intro i
      rw [Nat.zero_testBit]
      have h2 : tb (land x (p2 k)) (i : Int) = (tb x (i : Int) && tb (p2 k) (i : Int)) := tb_land _ _ _
      rw [tb_p2 hk (by omega)] at h2
      have h3 : tb (land x (p2 k)) (i : Int) = (land x (p2 k)).toNat.testBit i := rfl
      rw [← h3, h2]
      by_cases q : k = (i : Int)
      · rw [← q, Bool.eq_false_iff.mpr z]; rfl
      · rw [decide_eq_false q, Bool.and_false]
    have := (land_b (a := x) (b := p2 k) hx (p2_nn k)).1
    omega
  · intro h z
    have h2 : tb (land x (p2 k)) k = (tb x k && tb (p2 k) k) := tb_land _ _ _
    rw [z, tb_0, h, tb_p2 hk hk, decide_eq_true rfl] at h2
    exact absurd h2 (by decide)
theorem ctz_all : allB (fun n => n == 0 || allB (fun d => !n.testBit d) (ctzN 13 n)) 8192 = true := by decide +kernel
theorem ctz_no {x j : Int} (h0 : 0 < x) (h1 : x < 8192) (j0 : 0 ≤ j) (j1 : j < ctz x) : tb x j = false := by
  obtain ⟨n, rfl⟩ := Int.eq_ofNat_of_zero_le (by omega : 0 ≤ x)
  have h := allB_p ctz_all n (by omega)
  have hn : (n == 0) = false := by simp; omega
  simp only [hn, Bool.false_or] at h
  have h2 := allB_p h j.toNat (by unfold ctz at j1; rw [Int.toNat_natCast] at j1; omega)
  show n.testBit j.toNat = false
  simpa using h2
theorem AWAY.of {nb n u : Int} {H : Int → Int → Int} (hn : 0 ≤ n ∧ n ≤ 6) (hu : 0 ≤ u ∧ u < 64) (h : ∀ j, 0 ≤ j → j < 6 → (tb u j = true ↔ ∃ a b, (1 ≤ a ∧ a < b ∧ b ≤ n) ∧ INX nb n H j b a)) : AWAY (VTt nb n) H n (if u = 0 then -1 else ctz u) := by
  have key : ∀ j, 0 ≤ j → j < 6 → (tb u j = true ↔ j < n ∧ ∃ a b, (1 ≤ a ∧ a < b ∧ b ≤ n) ∧ PTD (VTt nb n) H 0 a b ∧ ¬ PTD (VTt nb n) H (p2 j) a b) := fun j j0 j1 => by
    rw [h j j0 j1]
    constructor
    · rintro ⟨a, b, h1, ⟨t, h2⟩, h3⟩
      have h4 := h3 t h2
      have h5 := h2.1.2.2
      refine ⟨?_, a, b, h1, ⟨t, h2.1, land0 _, fun z => h2.2 z.symm⟩, ?_⟩
      · rcases (by omega : j < n ∨ n ≤ j) with q | q
        · exact q
        · have := tb_lt (S := t % 64) (n := n) (k := j) (by omega) h5 q (by omega)
          rw [this] at h4; exact absurd h4 (by decide)
      · rintro ⟨s, s1, s2, s3⟩
        exact absurd s2 ((land_p2 (by omega) j0).mpr (h3 s ⟨s1, fun z => s3 z.symm⟩))
    · rintro ⟨_, a, b, h1, ⟨t, t1, _, t3⟩, h3⟩
      refine ⟨a, b, h1, ⟨t, t1, fun z => t3 z.symm⟩, fun s hs => ?_⟩
      refine Classical.byContradiction (fun z => h3 ⟨s, hs.1, ?_, fun w => hs.2 w.symm⟩)
      exact Classical.byContradiction (fun w => z ((land_p2 (by omega) j0).mp w))
  by_cases q : u = 0
  · rw [if_pos q]
    refine Or.inl ⟨rfl, fun j j0 j1 hj => ?_⟩
    have := (key j j0 (by omega)).mpr ⟨j1, hj⟩
    rw [q, tb_0] at this
    exact absurd this (by decide)
  · rw [if_neg q]
    have h2 := (low8 (x := u) (by omega) (by omega)).2
    have h6 : ctz u < 6 := by
      rcases (by omega : ctz u < 6 ∨ 6 ≤ ctz u) with w | w
      · exact w
      · have h3 := h2.2
        rw [tb_lt (S := u) (n := 6) (k := ctz u) hu.1 (by have : p2 6 = 64 := (by decide +kernel); omega) w (by have := h2.1.2; omega)] at h3
        exact absurd h3 (by decide)
    have h3 := (key (ctz u) h2.1.1 h6).mp h2.2
    refine Or.inr ⟨⟨h2.1.1, h3.1⟩, h3.2, fun j j0 j1 hj => ?_⟩
    have := (key j j0 (by omega)).mpr ⟨by omega, hj⟩
    rw [ctz_no (by omega) (by omega) j0 j1] at this
    exact absurd this (by decide)
set_option maxHeartbeats 4000000 in
set_option maxRecDepth 100000 in
theorem c_X0_fewest {l : Launch} {G : GT} {t aL aU aP aK aN aH : Nat} {cu cp : Int} {cb : Bool} {wP : Int → Int} {wN : Int → Int} {U : Int → Int} {H : Int → Int → Int} {n : Int} {vt : Int → Prop} {S : Int} (hn : 0 ≤ n ∧ n ≤ 6) (hE : TBE n vt H cu U wP) (hS : 0 ≤ S ∧ S < 8192) (hM : MGD n vt H S) (hN : KN n vt H wN) : Con l G yX0_fewest cX0_fewest 3 (some .int) { frames := 27, cells := 0, slots := 0, locals := 702 } [.ref t, .int (iI S)] [(t, eO 0 [.ref aL, .ref aU, .ref aP, .ref aK, .ref aN, .ref aH, .int (iI cu), .int (iI cp), .int (iI (pI (cb = true)))]), (aP, eI G 1664 wP), (aN, eI G 8192 wN)] (S := Int × (Int → Int)) (fun u => some (.int (iI u.1))) (fun u => [(t, eO 0 [.ref aL, .ref aU, .ref aP, .ref aK, .ref aN, .ref aH, .int (iI cu), .int (iI cp), .int (iI (pI (cb = true)))]), (aP, eI G 1664 wP), (aN, eI G 8192 u.2)]) (fun u => ND vt H S u.1 ∧ KN n vt H u.2) := by
  refine Con.mk (by decide +kernel) [some (.ref t), some (.int (iI S)), none] rfl (Nat.le_of_ble_eq_true rfl) rfl ?_
  intro V M EI EL EV EA
  refine M.iconst (pc := 0) dX0_fewest_0 ?_
  refine M.istoren (pc := 1) 2 rfl (Nat.le_of_ble_eq_true rfl) rfl dX0_fewest_1 ?_
  dsimp only [List.set_cons_zero, List.set_cons_succ]
  have L2 : ∀ (fu : Nat) {k : Int} {N2 : Int → Int}, (0 ≤ k ∧ k ≤ 13) → (∀ j, 0 ≤ j → j < k → ¬ NL vt H j.toNat S) → (KN n vt H N2) → (13 - k).toNat < fu → V 0 0 2 [(t, eO 0 [.ref aL, .ref aU, .ref aP, .ref aK, .ref aN, .ref aH, .int (iI cu), .int (iI cp), .int (iI (pI (cb = true)))]), (aP, eI G 1664 wP), (aN, eI G 8192 N2)] [some (.ref t), some (.int (iI S)), some (.int (iI k))] [] := by
    intro fu
    induction fu with
    | zero => intro k N2 hk hno hN2 hm; exact absurd hm (Nat.not_lt_zero _)
    | succ fu ih2 =>
      intro k N2 hk hno hN2 hm2
      have L23 : ∀ {N3 : Int → Int}, (ND vt H S k) → (KN n vt H N3) → V 0 0 23 [(t, eO 0 [.ref aL, .ref aU, .ref aP, .ref aK, .ref aN, .ref aH, .int (iI cu), .int (iI cp), .int (iI (pI (cb = true)))]), (aP, eI G 1664 wP), (aN, eI G 8192 N3)] [some (.ref t), some (.int (iI S)), some (.int (iI k))] [] := by
        intro N3 hnd hN3
        refine M.iloadn (pc := 23) 2 rfl rfl dX0_fewest_23 ?_
        exact EI (k, N3) _ _ _ _ dX0_fewest_24 (Or.inl rfl) (rfl) (rfl) (⟨hnd, hN3⟩)
      refine M.iloadn (pc := 2) 2 rfl rfl dX0_fewest_2 ?_
      refine M.bipush (pc := 3) (by decide +kernel) dX0_fewest_3 ?_
      refine M.icmp_ge (pc := 5) (tgt := 23) dX0_fewest_5 (by decide) (by omega) (by omega) (fun c5 => ?_) (fun c5 => ?_)
      · exact L23  (by exact ⟨hk, by rw [show k.toNat = 13 by omega]; exact NL.t13 S, hno⟩) (by exact hN2)
      · refine M.aloadn (pc := 8) 0 rfl rfl dX0_fewest_8 ?_
        refine M.iloadn (pc := 9) 1 rfl rfl dX0_fewest_9 ?_
        refine M.iloadn (pc := 10) 2 rfl rfl dX0_fewest_10 ?_
        refine M.mS (pc := 11) (c_X0_isEnough_13 (n := n) (U := U) (H := H) (vt := vt) (by first | assumption | omega) (by exact hE) (by exact hS) (by exact hM) (by omega) (by exact hN2)) ms_X0_114 [0, 1, 2] rfl rfl rfl rfl (Nat.le_of_ble_eq_true rfl) rfl ⟨(Nat.le_of_ble_eq_true rfl), (Nat.le_of_ble_eq_true rfl)⟩ ⟨(Nat.le_of_ble_eq_true rfl), (Nat.le_of_ble_eq_true rfl)⟩ rfl (fun _ => rfl) dX0_fewest_11 (fun u11 hu11 => ?_)
        obtain ⟨r11, N11⟩ := u11
        dsimp only [putL, List.set_cons_zero, List.set_cons_succ, Option.toList, List.cons_append, List.nil_append] at hu11 ⊢
        refine M.if_neP (pc := 14) (tgt := 23) dX0_fewest_14 (by decide) (fun c14 => ?_) (fun c14 => ?_)
        · exact L23  (by exact ⟨hk, hu11.1.mp c14, hno⟩) (by exact hu11.2)
        · refine M.iinc (pc := 17) (i := 2) rfl rfl dX0_fewest_17 ?_
          dsimp only [List.set_cons_zero, List.set_cons_succ]
          refine M.goto (pc := 20) (tgt := 2) dX0_fewest_20 (by decide) ?_
          exact ih2  (by first | assumption | omega) (by intro j h0 h1; rcases (by omega : j < k ∨ j = k) with q | q; exact hno j h0 q; rw [q]; exact fun z => c14 (hu11.1.mpr z)) (by exact hu11.2) (by omega)
  exact L2 _  (by first | assumption | omega) (by intro j _ h; omega) (by first | assumption | omega) (Nat.lt_succ_self _)
set_option maxHeartbeats 4000000 in
set_option maxRecDepth 100000 in
theorem c_X0_first {l : Launch} {G : GT} {t aL aU aP aK aN aH : Nat} {cu cp : Int} {cb : Bool} {wU : Int → Int} {wP : Int → Int} {wN : Int → Int} {H : Int → Int → Int} {n : Int} {vt : Int → Prop} {S v : Int} (hn : 0 ≤ n ∧ n ≤ 6) (hE : TBE n vt H cu wU wP) (hS : 0 ≤ S ∧ S < 8192) (hM : MGD n vt H S) (hN : KN n vt H wN) (hvt : ∀ t, vt t → 0 ≤ t ∧ t < 128) (hnd : ND vt H S v) : Con l G yX0_first cX0_first 4 (some .int) { frames := 26, cells := 0, slots := 0, locals := 676 } [.ref t, .int (iI S), .int (iI v)] [(t, eO 0 [.ref aL, .ref aU, .ref aP, .ref aK, .ref aN, .ref aH, .int (iI cu), .int (iI cp), .int (iI (pI (cb = true)))]), (aU, eI G 128 wU), (aP, eI G 1664 wP), (aN, eI G 8192 wN)] (S := Int × (Int → Int)) (fun u => some (.int (iI u.1))) (fun u => [(t, eO 0 [.ref aL, .ref aU, .ref aP, .ref aK, .ref aN, .ref aH, .int (iI cu), .int (iI cp), .int (iI (pI (cb = true)))]), (aU, eI G 128 wU), (aP, eI G 1664 wP), (aN, eI G 8192 u.2)]) (fun u => (v = 0 → u.1 = -1) ∧ (v ≠ 0 → FST vt H S v u.1) ∧ KN n vt H u.2) := by
  refine Con.mk (by decide +kernel) [some (.ref t), some (.int (iI S)), some (.int (iI v)), none] rfl (Nat.le_of_ble_eq_true rfl) rfl ?_
  intro V M EI EL EV EA
  have hvb := hnd.1
  have hEc := hE.1
  refine M.iconst (pc := 0) dX0_first_0 ?_
  refine M.istoren (pc := 1) 3 rfl (Nat.le_of_ble_eq_true rfl) rfl dX0_first_1 ?_
  dsimp only [List.set_cons_zero, List.set_cons_succ]
  have L2 : ∀ (fu : Nat) {u : Int} {N2 : Int → Int}, (0 ≤ u ∧ u ≤ cu) → (∀ w, 0 ≤ w → w < u → ¬ OKP vt H (wU w) S (v - 1).toNat) → (KN n vt H N2) → (cu - u).toNat < fu → V 0 0 2 [(t, eO 0 [.ref aL, .ref aU, .ref aP, .ref aK, .ref aN, .ref aH, .int (iI cu), .int (iI cp), .int (iI (pI (cb = true)))]), (aU, eI G 128 wU), (aP, eI G 1664 wP), (aN, eI G 8192 N2)] [some (.ref t), some (.int (iI S)), some (.int (iI v)), some (.int (iI u))] [] := by
    intro fu
    induction fu with
    | zero => intro u N2 hu hno hN2 hm; exact absurd hm (Nat.not_lt_zero _)
    | succ fu ih2 =>
      intro u N2 hu hno hN2 hm2
      have L48 : (v = 0) → V 0 0 48 [(t, eO 0 [.ref aL, .ref aU, .ref aP, .ref aK, .ref aN, .ref aH, .int (iI cu), .int (iI cp), .int (iI (pI (cb = true)))]), (aU, eI G 128 wU), (aP, eI G 1664 wP), (aN, eI G 8192 N2)] [some (.ref t), some (.int (iI S)), some (.int (iI v)), some (.int (iI u))] [] := by
        intro  hfin
        refine M.iconst (pc := 48) dX0_first_48 ?_
        exact EI (-1, N2) _ _ _ _ dX0_first_49 (Or.inl rfl) (rfl) (rfl) (⟨fun _ => rfl, fun z => absurd hfin z, hN2⟩)
      refine M.iloadn (pc := 2) 2 rfl rfl dX0_first_2 ?_
      refine M.if_le (pc := 3) (tgt := 48) dX0_first_3 (by decide) (by omega) (fun c3 => ?_) (fun c3 => ?_)
      · exact L48  (by omega)
      · refine M.iloadn (pc := 6) 3 rfl rfl dX0_first_6 ?_
        refine M.aloadn (pc := 7) 0 rfl rfl dX0_first_7 ?_
        refine M.getf (pc := 8) fg_X0_43 0 rfl rfl dX0_first_8 ?_
        refine M.icmp_ge (pc := 11) (tgt := 48) dX0_first_11 (by decide) (by omega) (by omega) (fun c11 => ?_) (fun c11 => ?_)
        · exact L48  (by exact Classical.byContradiction (fun z => (FST.ex hnd z hvt).elim (fun s hs => (hE.cov (S := S) (q := (v - 1).toNat) hn hM.1 hs.1.1 ⟨hs.1.2.1, hs.1.2.2⟩).elim (fun w hw => hno w hw.1.1 (by omega) hw.2.2))))
        · refine M.iloadn (pc := 14) 3 rfl rfl dX0_first_14 ?_
          refine M.aloadn (pc := 15) 0 rfl rfl dX0_first_15 ?_
          refine M.getf (pc := 16) fg_X0_15 0 rfl rfl dX0_first_16 ?_
          refine M.alenI (pc := 19) 1 rfl dX0_first_19 ?_
          refine M.icmp_ge (pc := 20) (tgt := 48) dX0_first_20 (by decide) (by omega) (by omega) (fun c20 => ?_) (fun c20 => ?_)
          · exact absurd c20 (by omega)
          · refine M.aloadn (pc := 23) 0 rfl rfl dX0_first_23 ?_
            refine M.iloadn (pc := 24) 3 rfl rfl dX0_first_24 ?_
            refine M.iloadn (pc := 25) 1 rfl rfl dX0_first_25 ?_
            refine M.iloadn (pc := 26) 2 rfl rfl dX0_first_26 ?_
            refine M.iconst (pc := 27) dX0_first_27 ?_
            refine M.isub (pc := 28) dX0_first_28 ?_
            refine M.mS (pc := 29) (c_X0_partsEnough_12 (n := n) (U := wU) (H := H) (vt := vt) (by first | assumption | omega) (by exact hE) (by exact hS) (by exact hM) (by omega) (by exact hN2) (by omega)) ms_X0_118 [0, 2, 3] rfl rfl rfl rfl (Nat.le_of_ble_eq_true rfl) rfl ⟨(Nat.le_of_ble_eq_true rfl), (Nat.le_of_ble_eq_true rfl)⟩ ⟨(Nat.le_of_ble_eq_true rfl), (Nat.le_of_ble_eq_true rfl)⟩ rfl (fun _ => rfl) dX0_first_29 (fun u29 hu29 => ?_)
            obtain ⟨r29, N29⟩ := u29
            dsimp only [putL, List.set_cons_zero, List.set_cons_succ, Option.toList, List.cons_append, List.nil_append] at hu29 ⊢
            refine M.if_eqP (pc := 32) (tgt := 42) dX0_first_32 (by decide) (fun c32 => ?_) (fun c32 => ?_)
            · refine M.iinc (pc := 42) (i := 3) rfl rfl dX0_first_42 ?_
              dsimp only [List.set_cons_zero, List.set_cons_succ]
              refine M.goto (pc := 45) (tgt := 2) dX0_first_45 (by decide) ?_
              exact ih2  (by first | assumption | omega) (by intro w h0 h1; rcases (by omega : w < u ∨ w = u) with q | q; exact hno w h0 q; rw [q]; exact fun z => c32 (hu29.1.mpr z)) (by exact hu29.2) (by omega)
            · have hUu := hvt _ (hE.2.1 u hu.1 (by omega)).1
              have hfst : FST vt H S v (wU u) := by
                have hok := hu29.1.mp c32
                refine ⟨⟨(hE.2.1 u hu.1 (by omega)).1, hok.1, hok.2⟩, fun t' ht hg => ?_⟩
                obtain ⟨w, w1, w2, w3⟩ := hE.cov (S := S) (q := (v - 1).toNat) hn hM.1 hg.1 ⟨hg.2.1, hg.2.2⟩
                rcases (by omega : w < u ∨ w = u ∨ u < w) with q | q | q
                · exact hno w w1.1 q w3
                · rw [q] at w2; omega
                · have := hE.2.2.2 u w hu.1 q w1.2
                  omega
              refine M.aloadn (pc := 35) 0 rfl rfl dX0_first_35 ?_
              refine M.getf (pc := 36) fg_X0_15 0 rfl rfl dX0_first_36 ?_
              refine M.iloadn (pc := 39) 3 rfl rfl dX0_first_39 ?_
              refine M.iald (pc := 40) 1 rfl (by omega) (by omega) dX0_first_40 ?_
              exact EI (wU u, N29) _ _ _ _ dX0_first_41 (Or.inl rfl) (rfl) (rfl) (⟨fun z => absurd z (by omega), fun _ => hfst, hu29.2⟩)
  exact L2 _  (by first | assumption | omega) (by intro j _ h; omega) (by first | assumption | omega) (Nat.lt_succ_self _)
set_option maxHeartbeats 4000000 in
set_option maxRecDepth 100000 in
theorem c_X0_inAllThatPart {l : Launch} {G : GT} {t aL aU aP aK aN aH : Nat} {cu cp : Int} {cb : Bool} {wL : Int → Int} {H : Int → Int → Int} {nb n : Int} {U P K : Int → Int} {c d : Int} (hn : 0 ≤ n ∧ n ≤ 6) (hwL : ∀ x, 0 ≤ wL x ∧ wL x < 4503599627370496) (hT : TBs nb n H 128 cu wL U P K) (hc : prB n c = true) (hd : prB n d = true) : Con l G yX0_inAllThatPart cX0_inAllThatPart 5 (some .int) { frames := 1, cells := 0, slots := 0, locals := 22 } [.ref t, .int (iI c), .int (iI d)] [(t, eO 0 [.ref aL, .ref aU, .ref aP, .ref aK, .ref aN, .ref aH, .int (iI cu), .int (iI cp), .int (iI (pI (cb = true)))]), (aL, eL G 128 wL)] (S := Int) (fun u => some (.int (iI u))) (fun _ => [(t, eO 0 [.ref aL, .ref aU, .ref aP, .ref aK, .ref aN, .ref aH, .int (iI cu), .int (iI cp), .int (iI (pI (cb = true)))]), (aL, eL G 128 wL)]) (fun u => INE (SD nb n H c d) u) := by
  refine Con.mk (by decide +kernel) [some (.ref t), some (.int (iI c)), some (.int (iI d)), none, none] rfl (Nat.le_of_ble_eq_true rfl) rfl ?_
  intro V M EI EL EV EA
  have hcb := prB_b hn hc
  have hdb := prB_b hn hd
  have hsb : ∀ t, SD nb n H c d t → 0 ≤ t ∧ t < 128 := fun t ht => ht.1.1
  refine M.iconst (pc := 0) dX0_inAllThatPart_0 ?_
  refine M.istoren (pc := 1) 3 rfl (Nat.le_of_ble_eq_true rfl) rfl dX0_inAllThatPart_1 ?_
  dsimp only [List.set_cons_zero, List.set_cons_succ]
  refine M.iconst (pc := 2) dX0_inAllThatPart_2 ?_
  refine M.istore (pc := 3) (i := 4) (Nat.le_of_ble_eq_true rfl) rfl dX0_inAllThatPart_3 ?_
  dsimp only [List.set_cons_zero, List.set_cons_succ]
  have L5 : ∀ (fu : Nat) {a k : Int}, (0 ≤ k ∧ k ≤ 128) → (INA (SD nb n H c d) k a) → (128 - k).toNat < fu → V 0 0 5 [(t, eO 0 [.ref aL, .ref aU, .ref aP, .ref aK, .ref aN, .ref aH, .int (iI cu), .int (iI cp), .int (iI (pI (cb = true)))]), (aL, eL G 128 wL)] [some (.ref t), some (.int (iI c)), some (.int (iI d)), some (.int (iI a)), some (.int (iI k))] [] := by
    intro fu
    induction fu with
    | zero => intro a k hk hin hm; exact absurd hm (Nat.not_lt_zero _)
    | succ fu ih5 =>
      intro a k hk hin hm5
      refine M.iload (pc := 5) (i := 4) rfl dX0_inAllThatPart_5 ?_
      refine M.aloadn (pc := 7) 0 rfl rfl dX0_inAllThatPart_7 ?_
      refine M.getf (pc := 8) fg_X0_11 0 rfl rfl dX0_inAllThatPart_8 ?_
      refine M.alenL (pc := 11) 1 rfl dX0_inAllThatPart_11 ?_
      refine M.icmp_ge (pc := 12) (tgt := 54) dX0_inAllThatPart_12 (by decide) (by omega) (by omega) (fun c12 => ?_) (fun c12 => ?_)
      · have L64 : ∀ {r : Int}, (INE (SD nb n H c d) r) → V 0 0 64 [(t, eO 0 [.ref aL, .ref aU, .ref aP, .ref aK, .ref aN, .ref aH, .int (iI cu), .int (iI cp), .int (iI (pI (cb = true)))]), (aL, eL G 128 wL)] [some (.ref t), none, none, none, none] [.int (iI r)] := by
          intro r hr
          exact EI r _ _ _ _ dX0_inAllThatPart_64 (Or.inl rfl) (rfl) (rfl) (hr)
        rw [show k = 128 by omega] at hin
        have hfin := hin.fin hsb
        have hab : -1 ≤ a ∧ a < 64 := by rcases hin with h | h <;> omega
        refine M.iloadn (pc := 54) 3 rfl rfl dX0_inAllThatPart_54 ?_
        refine M.iconst (pc := 55) dX0_inAllThatPart_55 ?_
        refine M.icmp_ne (pc := 56) (tgt := 63) dX0_inAllThatPart_56 (by decide) (by omega) (by omega) (fun c56 => ?_) (fun c56 => ?_)
        · refine M.iloadn (pc := 63) 3 rfl rfl dX0_inAllThatPart_63 ?_
          refine M.forget 1 ?_
          dsimp only [List.set_cons_zero, List.set_cons_succ]
          refine M.forget 2 ?_
          dsimp only [List.set_cons_zero, List.set_cons_succ]
          refine M.forget 3 ?_
          dsimp only [List.set_cons_zero, List.set_cons_succ]
          refine M.forget 4 ?_
          dsimp only [List.set_cons_zero, List.set_cons_succ]
          exact L64  (by rw [if_neg (by omega)] at hfin; exact hfin)
        · refine M.iconst (pc := 59) dX0_inAllThatPart_59 ?_
          refine M.goto (pc := 60) (tgt := 64) dX0_inAllThatPart_60 (by decide) ?_
          refine M.forget 1 ?_
          dsimp only [List.set_cons_zero, List.set_cons_succ]
          refine M.forget 2 ?_
          dsimp only [List.set_cons_zero, List.set_cons_succ]
          refine M.forget 3 ?_
          dsimp only [List.set_cons_zero, List.set_cons_succ]
          refine M.forget 4 ?_
          dsimp only [List.set_cons_zero, List.set_cons_succ]
          exact L64  (by rw [if_pos (by omega)] at hfin; exact hfin)
      · have hwk := hwL k
        have hdig := SD.dig (t := k) hn hT hc hd (by omega)
        have hdc : 0 ≤ wL k / p16 c % 16 ∧ wL k / p16 c % 16 < 16 := by omega
        have hdd : 0 ≤ wL k / p16 d % 16 ∧ wL k / p16 d % 16 < 16 := by omega
        refine M.aloadn (pc := 15) 0 rfl rfl dX0_inAllThatPart_15 ?_
        refine M.getf (pc := 16) fg_X0_11 0 rfl rfl dX0_inAllThatPart_16 ?_
        refine M.iload (pc := 19) (i := 4) rfl dX0_inAllThatPart_19 ?_
        refine M.lald (pc := 21) 1 rfl (by omega) (by omega) dX0_inAllThatPart_21 ?_
        refine M.iloadn (pc := 22) 1 rfl rfl dX0_inAllThatPart_22 ?_
        refine M.pS (pc := 23) (c_X0_leaderIn  (by omega) (by omega)) ms_X0_108 [] rfl rfl rfl rfl (Nat.le_of_ble_eq_true rfl) rfl ⟨(Nat.le_of_ble_eq_true rfl), (Nat.le_of_ble_eq_true rfl)⟩ ⟨(Nat.le_of_ble_eq_true rfl), (Nat.le_of_ble_eq_true rfl)⟩ rfl dX0_inAllThatPart_23 ?_
        refine M.aloadn (pc := 26) 0 rfl rfl dX0_inAllThatPart_26 ?_
        refine M.getf (pc := 27) fg_X0_11 0 rfl rfl dX0_inAllThatPart_27 ?_
        refine M.iload (pc := 30) (i := 4) rfl dX0_inAllThatPart_30 ?_
        refine M.lald (pc := 32) 1 rfl (by omega) (by omega) dX0_inAllThatPart_32 ?_
        refine M.iloadn (pc := 33) 2 rfl rfl dX0_inAllThatPart_33 ?_
        refine M.pS (pc := 34) (c_X0_leaderIn  (by omega) (by omega)) ms_X0_108 [] rfl rfl rfl rfl (Nat.le_of_ble_eq_true rfl) rfl ⟨(Nat.le_of_ble_eq_true rfl), (Nat.le_of_ble_eq_true rfl)⟩ ⟨(Nat.le_of_ble_eq_true rfl), (Nat.le_of_ble_eq_true rfl)⟩ rfl dX0_inAllThatPart_34 ?_
        refine M.icmp_eq (pc := 37) (tgt := 48) dX0_inAllThatPart_37 (by decide) (by omega) (by omega) (fun c37 => ?_) (fun c37 => ?_)
        · refine M.iinc (pc := 48) (i := 4) rfl rfl dX0_inAllThatPart_48 ?_
          dsimp only [List.set_cons_zero, List.set_cons_succ]
          refine M.goto (pc := 51) (tgt := 5) dX0_inAllThatPart_51 (by decide) ?_
          exact ih5  (by first | assumption | omega) (by first | exact hb2 | exact hin.no (fun z => absurd c37 (hdig.mpr z)) | exact hin.no (fun z => (hdig.mpr z) c37)) (by omega)
        · obtain ⟨b, hb1, hb2⟩ := hin.yes hk.1 (hdig.mp c37)
          refine M.iloadn (pc := 40) 3 rfl rfl dX0_inAllThatPart_40 ?_
          refine M.iload (pc := 41) (i := 4) rfl dX0_inAllThatPart_41 ?_
          refine M.pS (pc := 43) (c_X0_setOf  (by omega)) ms_X0_62 [] rfl rfl rfl rfl (Nat.le_of_ble_eq_true rfl) rfl ⟨(Nat.le_of_ble_eq_true rfl), (Nat.le_of_ble_eq_true rfl)⟩ ⟨(Nat.le_of_ble_eq_true rfl), (Nat.le_of_ble_eq_true rfl)⟩ rfl dX0_inAllThatPart_43 ?_
          refine M.iand (pc := 46) (hb1) dX0_inAllThatPart_46 ?_
          refine M.istoren (pc := 47) 3 rfl (Nat.le_of_ble_eq_true rfl) rfl dX0_inAllThatPart_47 ?_
          dsimp only [List.set_cons_zero, List.set_cons_succ]
          refine M.iinc (pc := 48) (i := 4) rfl rfl dX0_inAllThatPart_48 ?_
          dsimp only [List.set_cons_zero, List.set_cons_succ]
          refine M.goto (pc := 51) (tgt := 5) dX0_inAllThatPart_51 (by decide) ?_
          exact ih5  (by first | assumption | omega) (by first | exact hb2 | exact hin.no (fun z => absurd c37 (hdig.mpr z)) | exact hin.no (fun z => (hdig.mpr z) c37)) (by omega)
  exact L5 _  (by first | assumption | omega) (by exact Or.inl ⟨rfl, fun t _ h => by omega⟩) (Nat.lt_succ_self _)
set_option maxHeartbeats 4000000 in
set_option maxRecDepth 100000 in
theorem c_X0_indispensable {l : Launch} {G : GT} {t aL aU aP aK aN aH : Nat} {cu cp : Int} {cb : Bool} {wL : Int → Int} {H : Int → Int → Int} {nb n : Int} {U P K : Int → Int} (hn : 0 ≤ n ∧ n ≤ 6) (hwL : ∀ x, 0 ≤ wL x ∧ wL x < 4503599627370496) (hT : TBs nb n H 128 cu wL U P K) : Con l G yX0_indispensable cX0_indispensable 5 (some .int) { frames := 2, cells := 0, slots := 0, locals := 46 } [.ref t, .int (iI n)] [(t, eO 0 [.ref aL, .ref aU, .ref aP, .ref aK, .ref aN, .ref aH, .int (iI cu), .int (iI cp), .int (iI (pI (cb = true)))]), (aL, eL G 128 wL)] (S := Int) (fun u => some (.int (iI u))) (fun _ => [(t, eO 0 [.ref aL, .ref aU, .ref aP, .ref aK, .ref aN, .ref aH, .int (iI cu), .int (iI cp), .int (iI (pI (cb = true)))]), (aL, eL G 128 wL)]) (fun u => (0 ≤ u ∧ u < 64) ∧ ∀ j, 0 ≤ j → j < 6 → (tb u j = true ↔ ∃ a b, (1 ≤ a ∧ a < b ∧ b ≤ n) ∧ INX nb n H j b a)) := by
  refine Con.mk (by decide +kernel) [some (.ref t), some (.int (iI n)), none, none, none] rfl (Nat.le_of_ble_eq_true rfl) rfl ?_
  intro V M EI EL EV EA
  refine M.iconst (pc := 0) dX0_indispensable_0 ?_
  refine M.istoren (pc := 1) 2 rfl (Nat.le_of_ble_eq_true rfl) rfl dX0_indispensable_1 ?_
  dsimp only [List.set_cons_zero, List.set_cons_succ]
  refine M.iconst (pc := 2) dX0_indispensable_2 ?_
  refine M.istoren (pc := 3) 3 rfl (Nat.le_of_ble_eq_true rfl) rfl dX0_indispensable_3 ?_
  dsimp only [List.set_cons_zero, List.set_cons_succ]
  have L4 : ∀ (fu : Nat) {s c : Int}, (1 ≤ c ∧ c ≤ 7) → (0 ≤ s ∧ s < 64) → (∀ j, 0 ≤ j → j < 6 → (tb s j = true ↔ ∃ a b, (1 ≤ a ∧ a < b ∧ b < c) ∧ INX nb n H j b a)) → (c ≤ n + 1) → (n + 1 - c).toNat < fu → V 0 0 4 [(t, eO 0 [.ref aL, .ref aU, .ref aP, .ref aK, .ref aN, .ref aH, .int (iI cu), .int (iI cp), .int (iI (pI (cb = true)))]), (aL, eL G 128 wL)] [some (.ref t), some (.int (iI n)), some (.int (iI s)), some (.int (iI c)), none] [] := by
    intro fu
    induction fu with
    | zero => intro s c hc1 hs1 hs2 hcn hm; exact absurd hm (Nat.not_lt_zero _)
    | succ fu ih4 =>
      intro s c hc1 hs1 hs2 hcn hm4
      refine M.iloadn (pc := 4) 3 rfl rfl dX0_indispensable_4 ?_
      refine M.iloadn (pc := 5) 1 rfl rfl dX0_indispensable_5 ?_
      refine M.icmp_gt (pc := 6) (tgt := 40) dX0_indispensable_6 (by decide) (by omega) (by omega) (fun c6 => ?_) (fun c6 => ?_)
      · refine M.iloadn (pc := 40) 2 rfl rfl dX0_indispensable_40 ?_
        exact EI s _ _ _ _ dX0_indispensable_41 (Or.inl rfl) (rfl) (rfl) (⟨hs1, fun j j0 j1 => by rw [hs2 j j0 j1]; exact ⟨fun ⟨a, b, h1, h2⟩ => ⟨a, b, ⟨h1.1, h1.2.1, by omega⟩, h2⟩, fun ⟨a, b, h1, h2⟩ => ⟨a, b, ⟨h1.1, h1.2.1, by omega⟩, h2⟩⟩⟩)
      · refine M.iconst (pc := 9) dX0_indispensable_9 ?_
        refine M.istore (pc := 10) (i := 4) (Nat.le_of_ble_eq_true rfl) rfl dX0_indispensable_10 ?_
        dsimp only [List.set_cons_zero, List.set_cons_succ]
        have L12 : ∀ (fu : Nat) {s d : Int}, (1 ≤ d ∧ d ≤ c) → (0 ≤ s ∧ s < 64) → (∀ j, 0 ≤ j → j < 6 → (tb s j = true ↔ ((∃ a b, (1 ≤ a ∧ a < b ∧ b < c) ∧ INX nb n H j b a) ∨ ∃ a, (1 ≤ a ∧ a < d) ∧ INX nb n H j c a))) → (c - d).toNat < fu → V 0 0 12 [(t, eO 0 [.ref aL, .ref aU, .ref aP, .ref aK, .ref aN, .ref aH, .int (iI cu), .int (iI cp), .int (iI (pI (cb = true)))]), (aL, eL G 128 wL)] [some (.ref t), some (.int (iI n)), some (.int (iI s)), some (.int (iI c)), some (.int (iI d))] [] := by
          intro fu
          induction fu with
          | zero => intro s d hd1 hs1 hs3 hm; exact absurd hm (Nat.not_lt_zero _)
          | succ fu ih12 =>
            intro s d hd1 hs1 hs3 hm12
            refine M.iload (pc := 12) (i := 4) rfl dX0_indispensable_12 ?_
            refine M.iloadn (pc := 14) 3 rfl rfl dX0_indispensable_14 ?_
            refine M.icmp_ge (pc := 15) (tgt := 34) dX0_indispensable_15 (by decide) (by omega) (by omega) (fun c15 => ?_) (fun c15 => ?_)
            · refine M.iinc (pc := 34) (i := 3) rfl rfl dX0_indispensable_34 ?_
              dsimp only [List.set_cons_zero, List.set_cons_succ]
              refine M.goto (pc := 37) (tgt := 4) dX0_indispensable_37 (by decide) ?_
              refine M.forget 4 ?_
              dsimp only [List.set_cons_zero, List.set_cons_succ]
              exact ih4  (by first | assumption | omega) (by first | assumption | omega) (by intro j j0 j1; rw [hs3 j j0 j1]; exact ⟨fun z => z.elim (fun ⟨a, b, h1, h2⟩ => ⟨a, b, ⟨h1.1, h1.2.1, by omega⟩, h2⟩) (fun ⟨a, h1, h2⟩ => ⟨a, c, ⟨h1.1, by omega, by omega⟩, h2⟩), fun ⟨a, b, h1, h2⟩ => (by omega : b < c ∨ b = c).elim (fun q => Or.inl ⟨a, b, ⟨h1.1, h1.2.1, q⟩, h2⟩) (fun q => Or.inr ⟨a, ⟨h1.1, by omega⟩, by rw [← q]; exact h2⟩)⟩) (by first | assumption | omega) (by omega)
            · refine M.iloadn (pc := 18) 2 rfl rfl dX0_indispensable_18 ?_
              refine M.aloadn (pc := 19) 0 rfl rfl dX0_indispensable_19 ?_
              refine M.iloadn (pc := 20) 3 rfl rfl dX0_indispensable_20 ?_
              refine M.iload (pc := 21) (i := 4) rfl dX0_indispensable_21 ?_
              refine M.mV (pc := 23) (c_X0_inAllThatPart  (by first | assumption | omega) (by first | assumption | omega) (by first | assumption | omega) (by exact decide_eq_true (by omega)) (by exact decide_eq_true (by omega))) mv_X0_122 [0, 1] rfl rfl rfl 0 rfl rfl rfl rfl (Nat.le_of_ble_eq_true rfl) rfl ⟨(Nat.le_of_ble_eq_true rfl), (Nat.le_of_ble_eq_true rfl)⟩ ⟨(Nat.le_of_ble_eq_true rfl), (Nat.le_of_ble_eq_true rfl)⟩ rfl (fun _ => rfl) dX0_indispensable_23 (fun u23 hu23 => ?_)
              dsimp only [putL, List.set_cons_zero, List.set_cons_succ, Option.toList, List.cons_append, List.nil_append] at hu23 ⊢
              have hbb := bor_b6 hs1 hu23.1
              have hnew : ∀ j, 0 ≤ j → j < 6 → (tb (bor s u23) j = true ↔ ((∃ a b, (1 ≤ a ∧ a < b ∧ b < c) ∧ INX nb n H j b a) ∨ ∃ a, (1 ≤ a ∧ a < d + 1) ∧ INX nb n H j c a)) := fun j j0 j1 => by
                rw [tb_bor, Bool.or_eq_true, hs3 j j0 j1, hu23.2 j j0 j1]
                constructor
                · rintro ((z | ⟨a, h1, h2⟩) | z)
                  · exact Or.inl z
                  · exact Or.inr ⟨a, ⟨h1.1, by omega⟩, h2⟩
                  · exact Or.inr ⟨d, ⟨hd1.1, by omega⟩, z⟩
                · rintro (z | ⟨a, h1, h2⟩)
                  · exact Or.inl (Or.inl z)
                  · rcases (by omega : a < d ∨ a = d) with q | q
                    · exact Or.inl (Or.inr ⟨a, ⟨h1.1, q⟩, h2⟩)
                    · rw [q] at h2; exact Or.inr h2
              refine M.ior (pc := 26) (bor_ok hs1.1 hu23.1.1) dX0_indispensable_26 ?_
              refine M.istoren (pc := 27) 2 rfl (Nat.le_of_ble_eq_true rfl) rfl dX0_indispensable_27 ?_
              dsimp only [List.set_cons_zero, List.set_cons_succ]
              refine M.iinc (pc := 28) (i := 4) rfl rfl dX0_indispensable_28 ?_
              dsimp only [List.set_cons_zero, List.set_cons_succ]
              refine M.goto (pc := 31) (tgt := 12) dX0_indispensable_31 (by decide) ?_
              exact ih12  (by first | assumption | omega) (by exact hbb) (by exact hnew) (by omega)
        exact L12 _  (by first | assumption | omega) (by first | assumption | omega) (by intro j j0 j1; rw [hs2 j j0 j1]; exact ⟨fun z => Or.inl z, fun z => z.elim id (fun ⟨a, h, _⟩ => by omega)⟩) (Nat.lt_succ_self _)
  exact L4 _  (by first | assumption | omega) (by first | assumption | omega) (by intro j _ _; rw [tb_0]; exact ⟨fun z => absurd z (by decide), fun ⟨a, b, h, _⟩ => by omega⟩) (by first | assumption | omega) (Nat.lt_succ_self _)
