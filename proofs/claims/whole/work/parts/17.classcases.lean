/-! the class's cases: packed leaders -/
theorem lI_nat (n : Nat) : lI (n : Int) = Int64.ofNat n := Int64.ofInt_eq_ofNat
theorem nL_or (a b : Nat) : Int64.ofNat a ||| Int64.ofNat b = Int64.ofNat (a ||| b) := by
  apply Int64.toBitVec_inj.1
  show BitVec.ofNat 64 a ||| BitVec.ofNat 64 b = BitVec.ofNat 64 (a ||| b)
  apply BitVec.eq_of_getLsbD_eq
  intro i hi
  simp [hi]
theorem lsh_all : ∀ v, v < 16 → ∀ c, c < 13 → lI ((v : Nat) : Int) <<< ((iI ((4 * c : Nat) : Int)).toInt64 &&& 63) = lI ((v * 16 ^ c : Nat) : Int) := by decide +kernel
def p16 (c : Int) : Int := ((16 ^ c.toNat : Nat) : Int)
theorem lsh_ok {v c : Int} (h0 : 0 ≤ v ∧ v < 16) (h1 : 0 ≤ c ∧ c < 13) : lI v <<< ((iI (4 * c)).toInt64 &&& 63) = lI (v * p16 c) := by
  have h := lsh_all v.toNat (by omega) c.toNat (by omega)
  have e1 : ((v.toNat : Nat) : Int) = v := by omega
  have e2 : ((4 * c.toNat : Nat) : Int) = 4 * c := by omega
  have e3 : ((v.toNat * 16 ^ c.toNat : Nat) : Int) = v * p16 c := by
    rw [Int.natCast_mul, e1]; rfl
  rw [e1, e2, e3] at h
  exact h
theorem lor_ok {a v c : Int} (ha : 0 ≤ a) (hv : 0 ≤ v) (hc : 0 ≤ c) (h : a < p16 c) : lI a ||| lI (v * p16 c) = lI (a + v * p16 c) := by
  obtain ⟨n, rfl⟩ := Int.eq_ofNat_of_zero_le ha
  obtain ⟨w, rfl⟩ := Int.eq_ofNat_of_zero_le hv
  have e : p16 c = ((2 ^ (4 * c.toNat) : Nat) : Int) := by unfold p16; rw [Nat.pow_mul]
  rw [e] at h ⊢
  rw [← Int.natCast_mul, lI_nat, lI_nat, nL_or, ← lI_nat]
  have h2 := Nat.two_pow_add_eq_or_of_lt (i := 4 * c.toNat) (b := n) (by generalize 2 ^ (4 * c.toNat) = q at h ⊢; omega) w
  rw [Nat.or_comm, Nat.mul_comm w, ← h2]
  congr 1
  generalize 2 ^ (4 * c.toNat) * w = q
  omega
theorem lsr_y : ∀ c, c < 13 → ((iI ((4 * c : Nat) : Int)).toInt64.toUInt64 &&& Int64.toUInt64 63) = UInt64.ofNat (4 * c) := by decide +kernel
theorem lsr_ok {x c : Int} (h0 : 0 ≤ x ∧ x < 9223372036854775808) (h1 : 0 ≤ c ∧ c < 13) : ((lI x).toUInt64 >>> ((iI (4 * c)).toInt64.toUInt64 &&& Int64.toUInt64 63)).toInt64 = lI (x / p16 c) := by
  obtain ⟨n, rfl⟩ := Int.eq_ofNat_of_zero_le h0.1
  obtain ⟨j, rfl⟩ := Int.eq_ofNat_of_zero_le h1.1
  have hy := lsr_y j (by omega)
  have e2 : ((4 * j : Nat) : Int) = 4 * (j : Int) := by omega
  rw [e2] at hy
  rw [hy]
  have e3 : ((n : Int) / p16 (j : Int)) = ((n / 2 ^ (4 * j) : Nat) : Int) := by
    unfold p16
    rw [Int.toNat_natCast, Nat.pow_mul, ← Int.natCast_ediv]
  rw [e3, lI_nat, lI_nat]
  have key : UInt64.ofNat n >>> UInt64.ofNat (4 * j) = UInt64.ofNat (n / 2 ^ (4 * j)) := by
    apply UInt64.toNat.inj
    rw [UInt64.toNat_shiftRight]
    have a1 : (UInt64.ofNat n).toNat = n := by rw [UInt64.toNat_ofNat']; exact Nat.mod_eq_of_lt (by omega)
    have a2 : (UInt64.ofNat (4 * j)).toNat = 4 * j := by rw [UInt64.toNat_ofNat']; exact Nat.mod_eq_of_lt (by omega)
    have a3 : (UInt64.ofNat (n / 2 ^ (4 * j))).toNat = n / 2 ^ (4 * j) := by rw [UInt64.toNat_ofNat']; exact Nat.mod_eq_of_lt (Nat.lt_of_le_of_lt (Nat.div_le_self _ _) (by omega))
    rw [a1, a2, a3, Nat.mod_eq_of_lt (by omega : 4 * j < 64), Nat.shiftRight_eq_div_pow]
  show (UInt64.ofNat n >>> UInt64.ofNat (4 * j)).toInt64 = Int64.ofNat (n / 2 ^ (4 * j))
  rw [key]
  rfl
theorem and15 {z : Int} (h : 0 ≤ z) : iI z &&& iI 15 = iI (z % 16) := by
  obtain ⟨n, rfl⟩ := Int.eq_ofNat_of_zero_le h
  have e : ((n : Int) % 16) = ((n % 16 : Nat) : Int) := by omega
  have e15 : iI 15 = nI 15 := iI_nat 15
  rw [e, iI_nat, iI_nat, e15, nI_and]
  congr 1
  exact Nat.and_two_pow_sub_one_eq_mod n 4
def pk (f : Int → Int) : Nat → Int
  | 0 => 0
  | k + 1 => pk f k + f (k : Int) * p16 (k : Int)
theorem p16_s (k : Nat) : p16 ((k : Int) + 1) = 16 * p16 (k : Int) := by
  unfold p16
  rw [show ((k : Int) + 1).toNat = k + 1 by omega, Int.toNat_natCast, Nat.pow_succ]
  generalize 16 ^ k = q
  omega
theorem p16_1 (k : Int) : 1 ≤ p16 k := by
  unfold p16
  have := Nat.one_le_pow k.toNat 16 (by omega)
  omega
theorem pk_b {f : Int → Int} (h : ∀ c, 0 ≤ f c ∧ f c < 16) : ∀ k : Nat, 0 ≤ pk f k ∧ pk f k < p16 (k : Int) := by
  intro k
  induction k with
  | zero => exact ⟨Int.le_refl _, p16_1 0⟩
  | succ k ih =>
    have h1 := p16_s k
    have h2 := p16_1 (k : Int)
    have h3 := h (k : Int)
    have h4 : 0 ≤ f (k : Int) * p16 (k : Int) ∧ f (k : Int) * p16 (k : Int) ≤ 15 * p16 (k : Int) := ⟨Int.mul_nonneg h3.1 (by omega), Int.mul_le_mul_of_nonneg_right (by omega) (by omega)⟩
    show 0 ≤ pk f k + _ ∧ pk f k + _ < p16 ((k : Int) + 1)
    omega
theorem pk_13 {f : Int → Int} (h : ∀ c, 0 ≤ f c ∧ f c < 16) : 0 ≤ pk f 13 ∧ pk f 13 < 4503599627370496 := by
  have := pk_b h 13
  have e : p16 ((13 : Nat) : Int) = 4503599627370496 := by decide +kernel
  omega
theorem pk_dig {f : Int → Int} (h : ∀ c, 0 ≤ f c ∧ f c < 16) : ∀ k c : Nat, c < k → pk f k / p16 (c : Int) % 16 = f (c : Int) := by
  intro k
  induction k with
  | zero => intro c hc; omega
  | succ k ih =>
    intro c hc
    have hb := pk_b h k
    have h1 := p16_1 (c : Int)
    show (pk f k + f (k : Int) * p16 (k : Int)) / p16 (c : Int) % 16 = f (c : Int)
    rcases (by omega : c < k ∨ c = k) with q | q
    · obtain ⟨d, hd⟩ := Nat.exists_eq_add_of_le (show c + 1 ≤ k by omega)
      have e : p16 (k : Int) = p16 (c : Int) * (16 * p16 (d : Int)) := by
        unfold p16
        rw [Int.toNat_natCast, Int.toNat_natCast, Int.toNat_natCast, hd, Nat.pow_add, Nat.pow_succ]
        rw [show ((16 : Int) * ((16 ^ d : Nat) : Int)) = ((16 * 16 ^ d : Nat) : Int) by omega, ← Int.natCast_mul, Nat.mul_assoc]
      rw [e, Int.mul_left_comm, Int.add_mul_ediv_left _ _ (by omega), show f (k : Int) * (16 * p16 (d : Int)) = 16 * (f (k : Int) * p16 (d : Int)) from Int.mul_left_comm _ _ _, Int.add_mul_emod_self_left]
      exact ih c q
    · subst q
      rw [Int.add_mul_ediv_right _ _ (by omega), Int.ediv_eq_zero_of_lt hb.1 hb.2, Int.zero_add]
      have := h (c : Int)
      omega
/-- the leader of a present case -/
def gL (pr : Int → Bool) (f : Int → Int) : Int → Int := fun c => if pr c = true then leadOf pr f c else 0
def LDR (n : Int) (f : Int → Int) : Int := pk (gL (prB n) f) 13
theorem prB_b {n c : Int} (hn : 0 ≤ n ∧ n ≤ 6) (h : prB n c = true) : 0 ≤ c ∧ c < 13 := by
  have := of_decide_eq_true h
  omega
theorem gL_b {n : Int} {f : Int → Int} (hn : 0 ≤ n ∧ n ≤ 6) (c : Int) : 0 ≤ gL (prB n) f c ∧ gL (prB n) f c < 16 := by
  unfold gL
  split
  · rename_i h
    have h1 := prB_b hn h
    have h2 := (leadOf_ok (prB n) f h1.1).1
    omega
  · omega
theorem LDR_b {n : Int} {f : Int → Int} (hn : 0 ≤ n ∧ n ≤ 6) : 0 ≤ LDR n f ∧ LDR n f < 4503599627370496 := pk_13 (gL_b hn)
theorem LDR_dig {n : Int} {f : Int → Int} (hn : 0 ≤ n ∧ n ≤ 6) {c : Int} (h0 : 0 ≤ c) (h1 : c < 13) : LDR n f / p16 c % 16 = gL (prB n) f c := by
  have h := pk_dig (gL_b (f := f) hn) 13 c.toNat (by omega)
  rw [show ((c.toNat : Nat) : Int) = c by omega] at h
  exact h
theorem leadOf_cg {pr pr' : Int → Bool} {f g : Int → Int} {c : Int} (hc : 0 ≤ c) (hpr : ∀ d, 0 ≤ d → d < c → pr d = pr' d) (hf : ∀ d, 0 ≤ d → d < c → pr' d = true → f d = g d) (hfc : f c = g c) : leadOf pr f c = leadOf pr' g c := by
  refine LEAD.one (pr := pr') (f := g) ?_ (leadOf_ok pr' g hc)
  obtain ⟨h1, h2, h3⟩ := leadOf_ok pr f hc
  refine ⟨h1, ?_, fun d d0 d1 d2 => h3 d d0 d1 ?_⟩
  · rcases h2 with h2 | h2
    · exact Or.inl h2
    · rcases (by omega : leadOf pr f c < c ∨ leadOf pr f c = c) with q | q
      · have e := hpr _ h1.1 q
        have p := e ▸ h2.1
        exact Or.inr ⟨p, by rw [← hf _ h1.1 q p, h2.2, hfc]⟩
      · exact Or.inl q
  · have q : d < c := by omega
    exact ⟨by rw [hpr d d0 q]; exact d2.1, by rw [hf d d0 q d2.1, hfc]; exact d2.2⟩
theorem pk_s (f : Int → Int) {k : Int} (h : 0 ≤ k) : pk f (k + 1).toNat = pk f k.toNat + f k * p16 k := by
  obtain ⟨j, rfl⟩ := Int.eq_ofNat_of_zero_le h
  rw [show ((j : Int) + 1).toNat = j + 1 by omega]
  rfl
/-- what a try holds together with its leader c -/
def tgF (n : Int) (L c : Int) : Int → Bool := fun d => decide (c ≤ d) && (prB n d && decide (L / p16 d % 16 = c))
theorem tg_lead {n t x : Int} {H : Int → Int → Int} (hn : 0 ≤ n ∧ n ≤ 6) (hx : prB n x = true) : cm (tgF n (LDR n (H t)) (leadOf (prB n) (H t) x)) 13 = PT H t (cm (prB n) 13) x := by
  have hxb := prB_b hn hx
  unfold PT
  refine cm_ext 13 (fun j hj => ?_)
  unfold tgF
  rw [LDR_dig hn (by omega) (by omega), cm_13 _ (by omega) (by omega)]
  by_cases p : prB n (j : Int) = true
  · have e := leadOf_eq (pr := prB n) (f := H t) (c := (j : Int)) (d := x) (by omega) hxb.1 p hx
    have hj2 := (leadOf_ok (prB n) (H t) (show (0 : Int) ≤ (j : Int) by omega)).1.2
    unfold gL
    rw [if_pos p, p]
    by_cases q : H t (j : Int) = H t x
    · have e2 := e.mpr q
      rw [decide_eq_true (by omega : leadOf (prB n) (H t) x ≤ (j : Int)), decide_eq_true e2, decide_eq_true q]
      rfl
    · rw [decide_eq_false (fun z => q (e.mp z)), decide_eq_false q]
      simp
  · rw [Bool.eq_false_iff.mpr p]
    simp
theorem tg_ex {n t c : Int} {H : Int → Int → Int} (hn : 0 ≤ n ∧ n ≤ 6) (h : cm (tgF n (LDR n (H t)) c) 13 ≠ 0) : ∃ x, prB n x = true ∧ leadOf (prB n) (H t) x = c := by
  obtain ⟨x, hx⟩ := me_ex (cm_13b _) h
  have h1 := hx.2
  rw [cm_13 _ hx.1.1 hx.1.2] at h1
  unfold tgF at h1
  rw [LDR_dig hn hx.1.1 hx.1.2] at h1
  simp only [Bool.and_eq_true, decide_eq_true_eq] at h1
  refine ⟨x, h1.2.1, ?_⟩
  have h2 := h1.2.2
  unfold gL at h2
  rw [if_pos h1.2.1] at h2
  exact h2
set_option maxHeartbeats 4000000 in
set_option maxRecDepth 100000 in
theorem c_X0_presentIn {l : Launch} {G : GT} {h hb ht : Nat} {nb n od : Int} (hn : 0 ≤ n ∧ n ≤ 6) : ConF l G yX0_presentIn cX0_presentIn 3 (some .int) { frames := 2, cells := 0, slots := 0, locals := 42 } [.ref h] [(h, eO 3 [.ref hb, .ref ht, .int (iI nb), .int (iI n), .int (iI od)])] (some (.int (iI (cm (prB n) 13)))) := by
  refine Con.mk (by decide +kernel) [some (.ref h), none, none] rfl (Nat.le_of_ble_eq_true rfl) rfl ?_
  intro V M EI EL EV EA
  refine M.iconst (pc := 0) dX0_presentIn_0 ?_
  refine M.istoren (pc := 1) 1 rfl (Nat.le_of_ble_eq_true rfl) rfl dX0_presentIn_1 ?_
  dsimp only [List.set_cons_zero, List.set_cons_succ]
  refine M.iconst (pc := 2) dX0_presentIn_2 ?_
  refine M.istoren (pc := 3) 2 rfl (Nat.le_of_ble_eq_true rfl) rfl dX0_presentIn_3 ?_
  dsimp only [List.set_cons_zero, List.set_cons_succ]
  have L4 : ∀ (fu : Nat) {k s : Int}, (0 ≤ k ∧ k ≤ 13) → (s = cm (prB n) k.toNat) → (13 - k).toNat < fu → V 0 0 4 [(h, eO 3 [.ref hb, .ref ht, .int (iI nb), .int (iI n), .int (iI od)])] [some (.ref h), some (.int (iI s)), some (.int (iI k))] [] := by
    intro fu
    induction fu with
    | zero => intro k s hk hs2 hm; exact absurd hm (Nat.not_lt_zero _)
    | succ fu ih4 =>
      intro k s hk hs2 hm4
      refine M.iloadn (pc := 4) 2 rfl rfl dX0_presentIn_4 ?_
      refine M.bipush (pc := 5) (by decide +kernel) dX0_presentIn_5 ?_
      refine M.icmp_ge (pc := 7) (tgt := 34) dX0_presentIn_7 (by decide) (by omega) (by omega) (fun c7 => ?_) (fun c7 => ?_)
      · refine M.iloadn (pc := 34) 1 rfl rfl dX0_presentIn_34 ?_
        exact EI () _ _ _ _ dX0_presentIn_35 (Or.inl rfl) (eqI (by rw [hs2, show k.toNat = 13 by omega])) rfl trivial
      · refine M.iloadn (pc := 10) 1 rfl rfl dX0_presentIn_10 ?_
        refine M.aloadn (pc := 11) 0 rfl rfl dX0_presentIn_11 ?_
        refine M.iloadn (pc := 12) 2 rfl rfl dX0_presentIn_12 ?_
        refine M.pV (pc := 13) (c_X3_hasCase  (by first | assumption | omega) (by first | assumption | omega)) mv_X0_79 [0] rfl rfl rfl 0 rfl rfl rfl rfl (Nat.le_of_ble_eq_true rfl) rfl ⟨(Nat.le_of_ble_eq_true rfl), (Nat.le_of_ble_eq_true rfl)⟩ ⟨(Nat.le_of_ble_eq_true rfl), (Nat.le_of_ble_eq_true rfl)⟩ rfl dX0_presentIn_13 ?_
        refine M.if_eqP (pc := 16) (tgt := 25) dX0_presentIn_16 (by decide) (fun c16 => ?_) (fun c16 => ?_)
        · refine M.iconst (pc := 25) dX0_presentIn_25 ?_
          refine M.ior (pc := 26) ((by first | exact cm_o1 hs2 hk.1 (by unfold prB; exact decide_eq_true c16) | exact cm_o0 hs2 hk.1 (by unfold prB; exact decide_eq_false c16))) dX0_presentIn_26 ?_
          refine M.istoren (pc := 27) 1 rfl (Nat.le_of_ble_eq_true rfl) rfl dX0_presentIn_27 ?_
          dsimp only [List.set_cons_zero, List.set_cons_succ]
          refine M.iinc (pc := 28) (i := 2) rfl rfl dX0_presentIn_28 ?_
          dsimp only [List.set_cons_zero, List.set_cons_succ]
          refine M.goto (pc := 31) (tgt := 4) dX0_presentIn_31 (by decide) ?_
          exact ih4  (by first | assumption | omega) (by rfl) (by omega)
        · refine M.iconst (pc := 19) dX0_presentIn_19 ?_
          refine M.iloadn (pc := 20) 2 rfl rfl dX0_presentIn_20 ?_
          refine M.ishl (pc := 21) (bit_shl1 hk.1 (by omega)) dX0_presentIn_21 ?_
          refine M.goto (pc := 22) (tgt := 26) dX0_presentIn_22 (by decide) ?_
          refine M.ior (pc := 26) ((by first | exact cm_o1 hs2 hk.1 (by unfold prB; exact decide_eq_true c16) | exact cm_o0 hs2 hk.1 (by unfold prB; exact decide_eq_false c16))) dX0_presentIn_26 ?_
          refine M.istoren (pc := 27) 1 rfl (Nat.le_of_ble_eq_true rfl) rfl dX0_presentIn_27 ?_
          dsimp only [List.set_cons_zero, List.set_cons_succ]
          refine M.iinc (pc := 28) (i := 2) rfl rfl dX0_presentIn_28 ?_
          dsimp only [List.set_cons_zero, List.set_cons_succ]
          refine M.goto (pc := 31) (tgt := 4) dX0_presentIn_31 (by decide) ?_
          exact ih4  (by first | assumption | omega) (by rfl) (by omega)
  exact L4 _  (by first | assumption | omega) (by rfl) (Nat.lt_succ_self _)
set_option maxHeartbeats 4000000 in
set_option maxRecDepth 100000 in
theorem c_X0_bathOf {l : Launch} {G : GT} {T : Int} (ht0 : 0 ≤ T ∧ T < 128) : ConF l G yX0_bathOf cX0_bathOf 1 (some .int) { frames := 0, cells := 0, slots := 0, locals := 0 } [.int (iI T)] [] (some (.int (iI (T / 64)))) := by
  refine Con.mk (by decide +kernel) [some (.int (iI T))] rfl (Nat.le_of_ble_eq_true rfl) rfl ?_
  intro V M EI EL EV EA
  refine M.iloadn (pc := 0) 0 rfl rfl dX0_bathOf_0 ?_
  refine M.bipush (pc := 1) (by decide +kernel) dX0_bathOf_1 ?_
  refine M.idiv (pc := 3) (by omega) (by omega) dX0_bathOf_3 ?_
  exact EI () _ _ _ _ dX0_bathOf_4 (Or.inl rfl) (eqI (by rfl)) rfl trivial
set_option maxHeartbeats 4000000 in
set_option maxRecDepth 100000 in
theorem c_X0_setOf {l : Launch} {G : GT} {T : Int} (ht0 : 0 ≤ T ∧ T < 128) : ConF l G yX0_setOf cX0_setOf 1 (some .int) { frames := 0, cells := 0, slots := 0, locals := 0 } [.int (iI T)] [] (some (.int (iI (T % 64)))) := by
  refine Con.mk (by decide +kernel) [some (.int (iI T))] rfl (Nat.le_of_ble_eq_true rfl) rfl ?_
  intro V M EI EL EV EA
  refine M.iloadn (pc := 0) 0 rfl rfl dX0_setOf_0 ?_
  refine M.bipush (pc := 1) (by decide +kernel) dX0_setOf_1 ?_
  refine M.irem (pc := 3) (by omega) (by omega) dX0_setOf_3 ?_
  exact EI () _ _ _ _ dX0_setOf_4 (Or.inl rfl) (eqI (by rfl)) rfl trivial
set_option maxHeartbeats 4000000 in
set_option maxRecDepth 100000 in
theorem c_X0_leaderOf {l : Launch} {G : GT} {t aL aU aP aK aN aH : Nat} {cu cp : Int} {cb : Bool} {wH : Int → Int} {c : Int} (hcp : 0 ≤ cp ∧ cp < 8192) (hwH : ∀ d, InR (wH d)) (hc : 0 ≤ c ∧ c < 13) : ConF l G yX0_leaderOf cX0_leaderOf 3 (some .int) { frames := 1, cells := 0, slots := 0, locals := 21 } [.ref t, .int (iI c)] [(t, eO 0 [.ref aL, .ref aU, .ref aP, .ref aK, .ref aN, .ref aH, .int (iI cu), .int (iI cp), .int (iI (pI (cb = true)))]), (aH, eI G 13 wH)] (some (.int (iI (leadOf (tb cp) wH c)))) := by
  refine Con.mk (by decide +kernel) [some (.ref t), some (.int (iI c)), none] rfl (Nat.le_of_ble_eq_true rfl) rfl ?_
  intro V M EI EL EV EA
  refine M.iconst (pc := 0) dX0_leaderOf_0 ?_
  refine M.istoren (pc := 1) 2 rfl (Nat.le_of_ble_eq_true rfl) rfl dX0_leaderOf_1 ?_
  dsimp only [List.set_cons_zero, List.set_cons_succ]
  have L2 : ∀ (fu : Nat) {k : Int}, (0 ≤ k ∧ k ≤ c) → (∀ d, 0 ≤ d → d < k → ¬ (tb cp d = true ∧ wH d = wH c)) → (c - k).toNat < fu → V 0 0 2 [(t, eO 0 [.ref aL, .ref aU, .ref aP, .ref aK, .ref aN, .ref aH, .int (iI cu), .int (iI cp), .int (iI (pI (cb = true)))]), (aH, eI G 13 wH)] [some (.ref t), some (.int (iI c)), some (.int (iI k))] [] := by
    intro fu
    induction fu with
    | zero => intro k hk hno hm; exact absurd hm (Nat.not_lt_zero _)
    | succ fu ih2 =>
      intro k hk hno hm2
      refine M.iloadn (pc := 2) 2 rfl rfl dX0_leaderOf_2 ?_
      refine M.iloadn (pc := 3) 1 rfl rfl dX0_leaderOf_3 ?_
      refine M.icmp_ge (pc := 4) (tgt := 50) dX0_leaderOf_4 (by decide) (by omega) (by omega) (fun c4 => ?_) (fun c4 => ?_)
      · refine M.iloadn (pc := 50) 1 rfl rfl dX0_leaderOf_50 ?_
        exact EI () _ _ _ _ dX0_leaderOf_51 (Or.inl rfl) (eqI (by exact (LEAD.one (pr := tb cp) (f := wH) (c := c) ⟨⟨hc.1, by omega⟩, Or.inl rfl, fun d h0 h1 => hno d h0 (by omega)⟩ (leadOf_ok _ _ hc.1)).symm)) rfl trivial
      · refine M.iloadn (pc := 7) 1 rfl rfl dX0_leaderOf_7 ?_
        refine M.aloadn (pc := 8) 0 rfl rfl dX0_leaderOf_8 ?_
        refine M.getf (pc := 9) fg_X0_28 0 rfl rfl dX0_leaderOf_9 ?_
        refine M.alenI (pc := 12) 1 rfl dX0_leaderOf_12 ?_
        refine M.icmp_ge (pc := 13) (tgt := 50) dX0_leaderOf_13 (by decide) (by omega) (by omega) (fun c13 => ?_) (fun c13 => ?_)
        · refine M.iloadn (pc := 50) 1 rfl rfl dX0_leaderOf_50 ?_
          exact EI () _ _ _ _ dX0_leaderOf_51 (Or.inl rfl) (eqI (by exact (LEAD.one (pr := tb cp) (f := wH) (c := c) ⟨⟨hc.1, by omega⟩, Or.inl rfl, fun d h0 h1 => hno d h0 (by omega)⟩ (leadOf_ok _ _ hc.1)).symm)) rfl trivial
        · refine M.aloadn (pc := 16) 0 rfl rfl dX0_leaderOf_16 ?_
          refine M.getf (pc := 17) fg_X0_39 0 rfl rfl dX0_leaderOf_17 ?_
          refine M.iloadn (pc := 20) 2 rfl rfl dX0_leaderOf_20 ?_
          refine M.pSN (pc := 21) (c_X7_has  (by first | assumption | omega) (by first | assumption | omega) (by first | assumption | omega) (by first | assumption | omega)) ms_X0_82 [] rfl rfl rfl rfl (Nat.le_of_ble_eq_true rfl) rfl ⟨(Nat.le_of_ble_eq_true rfl), (Nat.le_of_ble_eq_true rfl)⟩ ⟨(Nat.le_of_ble_eq_true rfl), (Nat.le_of_ble_eq_true rfl)⟩ rfl dX0_leaderOf_21 ?_
          refine M.if_eqP (pc := 24) (tgt := 44) dX0_leaderOf_24 (by decide) (fun c24 => ?_) (fun c24 => ?_)
          · refine M.iinc (pc := 44) (i := 2) rfl rfl dX0_leaderOf_44 ?_
            dsimp only [List.set_cons_zero, List.set_cons_succ]
            refine M.goto (pc := 47) (tgt := 2) dX0_leaderOf_47 (by decide) ?_
            exact ih2  (by first | assumption | omega) (by intro d h0 h1; rcases (by omega : d < k ∨ d = k) with q | q; exact hno d h0 q; rw [q]; exact fun z => by first | exact c39 z.2 | exact c24 z.1) (by omega)
          · have hw1 := hwH k
            have hw2 := hwH c
            refine M.aloadn (pc := 27) 0 rfl rfl dX0_leaderOf_27 ?_
            refine M.getf (pc := 28) fg_X0_28 0 rfl rfl dX0_leaderOf_28 ?_
            refine M.iloadn (pc := 31) 2 rfl rfl dX0_leaderOf_31 ?_
            refine M.iald (pc := 32) 1 rfl (by omega) (by omega) dX0_leaderOf_32 ?_
            refine M.aloadn (pc := 33) 0 rfl rfl dX0_leaderOf_33 ?_
            refine M.getf (pc := 34) fg_X0_28 0 rfl rfl dX0_leaderOf_34 ?_
            refine M.iloadn (pc := 37) 1 rfl rfl dX0_leaderOf_37 ?_
            refine M.iald (pc := 38) 1 rfl (by omega) (by omega) dX0_leaderOf_38 ?_
            refine M.icmp_ne (pc := 39) (tgt := 44) dX0_leaderOf_39 (by decide) (by omega) (by omega) (fun c39 => ?_) (fun c39 => ?_)
            · refine M.iinc (pc := 44) (i := 2) rfl rfl dX0_leaderOf_44 ?_
              dsimp only [List.set_cons_zero, List.set_cons_succ]
              refine M.goto (pc := 47) (tgt := 2) dX0_leaderOf_47 (by decide) ?_
              exact ih2  (by first | assumption | omega) (by intro d h0 h1; rcases (by omega : d < k ∨ d = k) with q | q; exact hno d h0 q; rw [q]; exact fun z => by first | exact c39 z.2 | exact c24 z.1) (by omega)
            · refine M.iloadn (pc := 42) 2 rfl rfl dX0_leaderOf_42 ?_
              exact EI () _ _ _ _ dX0_leaderOf_43 (Or.inl rfl) (eqI (by exact (LEAD.one (pr := tb cp) (f := wH) (c := c) ⟨⟨hk.1, by omega⟩, Or.inr ⟨c24, c39⟩, hno⟩ (leadOf_ok _ _ hc.1)).symm)) rfl trivial
  exact L2 _  (by first | assumption | omega) (by intro d _ h; omega) (Nat.lt_succ_self _)
set_option maxHeartbeats 4000000 in
set_option maxRecDepth 100000 in
theorem c_X0_leadersOf {l : Launch} {G : GT} {t aL aU aP aK aN aH : Nat} {cu cp : Int} {cb : Bool} {wH : Int → Int} {h hb ht : Nat} {fb ft : Int → Int} {nb n od : Int} {T : Int} (hn : 0 ≤ n ∧ n ≤ 6) (hnb : 0 ≤ nb ∧ nb ≤ 2) (hB : HB fb) (hT : HT ft) (ho : 0 ≤ od ∧ od ≤ 999) (hcp : cp = cm (prB n) 13) (hwH : ∀ d, InR (wH d)) (ht0 : 0 ≤ T ∧ T < 128) (hbt : T / 64 < nb) : Con l G yX0_leadersOf cX0_leadersOf 6 (some .long) { frames := 3, cells := 0, slots := 0, locals := 68 } [.ref t, .ref h, .int (iI T)] [(t, eO 0 [.ref aL, .ref aU, .ref aP, .ref aK, .ref aN, .ref aH, .int (iI cu), .int (iI cp), .int (iI (pI (cb = true)))]), (aH, eI G 13 wH), (h, eO 3 [.ref hb, .ref ht, .int (iI nb), .int (iI n), .int (iI od)]), (hb, eI G 8 fb), (ht, eI G 24 ft)] (S := Int → Int) (fun _ => some (.long (lI (LDR n ((hC fb ft od n) T))))) (fun u => [(t, eO 0 [.ref aL, .ref aU, .ref aP, .ref aK, .ref aN, .ref aH, .int (iI cu), .int (iI cp), .int (iI (pI (cb = true)))]), (aH, eI G 13 u), (h, eO 3 [.ref hb, .ref ht, .int (iI nb), .int (iI n), .int (iI od)]), (hb, eI G 8 fb), (ht, eI G 24 ft)]) (fun u => ∀ d, InR (u d)) := by
  refine Con.mk (by decide +kernel) [some (.ref t), some (.ref h), some (.int (iI T)), none, none, none] rfl (Nat.le_of_ble_eq_true rfl) rfl ?_
  intro V M EI EL EV EA
  have hpb := cm_13b (prB n)
  have hcp2 : 0 ≤ cp ∧ cp < 8192 := by rw [hcp]; exact hpb
  have hgb := gL_b (f := (hC fb ft od n) T) hn
  refine M.lconst (pc := 0) 0 (by decide +kernel) dX0_leadersOf_0 ?_
  refine M.lstoren (pc := 1) 3 rfl (Nat.le_of_ble_eq_true rfl) rfl dX0_leadersOf_1 ?_
  dsimp only [List.set_cons_zero, List.set_cons_succ]
  refine M.iconst (pc := 2) dX0_leadersOf_2 ?_
  refine M.istore (pc := 3) (i := 5) (Nat.le_of_ble_eq_true rfl) rfl dX0_leadersOf_3 ?_
  dsimp only [List.set_cons_zero, List.set_cons_succ]
  have L5 : ∀ (fu : Nat) {c a : Int} {w : Int → Int}, (0 ≤ c ∧ c ≤ 13) → (∀ d, InR (w d)) → (∀ d, 0 ≤ d → d < c → prB n d = true → w d = (hC fb ft od n) T d) → (a = pk (gL (prB n) ((hC fb ft od n) T)) c.toNat) → (13 - c).toNat < fu → V 0 0 5 [(t, eO 0 [.ref aL, .ref aU, .ref aP, .ref aK, .ref aN, .ref aH, .int (iI cu), .int (iI cp), .int (iI (pI (cb = true)))]), (aH, eI G 13 w), (h, eO 3 [.ref hb, .ref ht, .int (iI nb), .int (iI n), .int (iI od)]), (hb, eI G 8 fb), (ht, eI G 24 ft)] [some (.ref t), some (.ref h), some (.int (iI T)), some (.long (lI a)), none, some (.int (iI c))] [] := by
    intro fu
    induction fu with
    | zero => intro c a w hc hw hwd ha hm; exact absurd hm (Nat.not_lt_zero _)
    | succ fu ih5 =>
      intro c a w hc hw hwd ha hm5
      refine M.iload (pc := 5) (i := 5) rfl dX0_leadersOf_5 ?_
      refine M.aloadn (pc := 7) 0 rfl rfl dX0_leadersOf_7 ?_
      refine M.getf (pc := 8) fg_X0_28 0 rfl rfl dX0_leadersOf_8 ?_
      refine M.alenI (pc := 11) 1 rfl dX0_leadersOf_11 ?_
      refine M.icmp_ge (pc := 12) (tgt := 74) dX0_leadersOf_12 (by decide) (by omega) (by omega) (fun c12 => ?_) (fun c12 => ?_)
      · refine M.lloadn (pc := 74) 3 rfl rfl dX0_leadersOf_74 ?_
        exact EL w _ _ _ _ dX0_leadersOf_75 rfl (by rw [ha, show c.toNat = 13 by omega]; rfl) (rfl) (hw)
      · refine M.aloadn (pc := 15) 0 rfl rfl dX0_leadersOf_15 ?_
        refine M.getf (pc := 16) fg_X0_39 0 rfl rfl dX0_leadersOf_16 ?_
        refine M.iload (pc := 19) (i := 5) rfl dX0_leadersOf_19 ?_
        refine M.pSN (pc := 21) (c_X7_has  (by first | assumption | omega) (by first | assumption | omega) (by first | assumption | omega) (by first | assumption | omega)) ms_X0_82 [] rfl rfl rfl rfl (Nat.le_of_ble_eq_true rfl) rfl ⟨(Nat.le_of_ble_eq_true rfl), (Nat.le_of_ble_eq_true rfl)⟩ ⟨(Nat.le_of_ble_eq_true rfl), (Nat.le_of_ble_eq_true rfl)⟩ rfl dX0_leadersOf_21 ?_
        refine M.if_eqP (pc := 24) (tgt := 68) dX0_leadersOf_24 (by decide) (fun c24 => ?_) (fun c24 => ?_)
        · refine M.iinc (pc := 68) (i := 5) rfl rfl dX0_leadersOf_68 ?_
          dsimp only [List.set_cons_zero, List.set_cons_succ]
          refine M.goto (pc := 71) (tgt := 5) dX0_leadersOf_71 (by decide) ?_
          exact ih5  (by first | assumption | omega) (by first | exact hw2 | exact hw) (by first | exact hwd2 | exact fun d d0 d1 dp => (by omega : d < c ∨ d = c).elim (fun q => hwd d d0 q dp) (fun q => absurd (by rw [hcp, cm_13 _ hc.1 (by omega), ← q]; exact dp) c24)) (by first | exact hst.symm | (rw [pk_s _ hc.1, ha]; unfold gL; rw [if_neg (fun z => c24 (by rw [hcp, cm_13 _ hc.1 (by omega)]; exact z))]; omega)) (by omega)
        · have hpc : prB n c = true := by rw [← cm_13 (prB n) hc.1 (by omega), ← hcp]; exact c24
          have hcs := caseS_b (S := T % 64) (which := c) hT ho (n := n.toNat) (by omega)
          have hhb := hHei_b (hr := 0) (s := caseS ft od n.toNat (T % 64) c) (B := 11988) hB (show 0 ≤ T / 64 by omega) (by omega) (by omega) hcs.1 hcs.2
          have hw2 : ∀ d, InR (upZ w c ((hC fb ft od n) T c) d) := fun d => by
            by_cases e : d = c
            · rw [e, upZ_s]
              show InR (hHei fb (T / 64) 0 (caseS ft od n.toNat (T % 64) c))
              omega
            · rw [upZ_n e]; exact hw d
          have hll : leadOf (tb cp) (upZ w c ((hC fb ft od n) T c)) c = leadOf (prB n) ((hC fb ft od n) T) c := by
            refine leadOf_cg hc.1 (fun d d0 d1 => by rw [hcp, cm_13 _ d0 (by omega)]) (fun d d0 d1 dp => ?_) (upZ_s _ _ _)
            rw [upZ_n (by omega)]
            exact hwd d d0 d1 dp
          have hll2 : leadOf (tb cp) (upZ w c (hHei fb (T / 64) 0 (caseS ft od n.toNat (T % 64) c))) c = leadOf (prB n) ((hC fb ft od n) T) c := hll
          have hlb := (leadOf_ok (prB n) ((hC fb ft od n) T) hc.1).1
          have hwd2 : ∀ d, 0 ≤ d → d < c + 1 → prB n d = true → upZ w c (hHei fb (T / 64) 0 (caseS ft od n.toNat (T % 64) c)) d = (hC fb ft od n) T d := fun d d0 d1 dp => by
            by_cases e : d = c
            · rw [e, upZ_s]; rfl
            · rw [upZ_n e]; exact hwd d d0 (by omega) dp
          have hpk := pk_b hgb c.toNat
          rw [show ((c.toNat : Nat) : Int) = c by omega, ← ha] at hpk
          have hst := pk_s (gL (prB n) ((hC fb ft od n) T)) hc.1
          rw [show gL (prB n) ((hC fb ft od n) T) c = leadOf (prB n) ((hC fb ft od n) T) c from if_pos hpc, ← ha] at hst
          refine M.aloadn (pc := 27) 0 rfl rfl dX0_leadersOf_27 ?_
          refine M.getf (pc := 28) fg_X0_28 0 rfl rfl dX0_leadersOf_28 ?_
          refine M.iload (pc := 31) (i := 5) rfl dX0_leadersOf_31 ?_
          refine M.aloadn (pc := 33) 1 rfl rfl dX0_leadersOf_33 ?_
          refine M.iloadn (pc := 34) 2 rfl rfl dX0_leadersOf_34 ?_
          refine M.pS (pc := 35) (c_X0_bathOf  (by first | assumption | omega)) ms_X0_52 [] rfl rfl rfl rfl (Nat.le_of_ble_eq_true rfl) rfl ⟨(Nat.le_of_ble_eq_true rfl), (Nat.le_of_ble_eq_true rfl)⟩ ⟨(Nat.le_of_ble_eq_true rfl), (Nat.le_of_ble_eq_true rfl)⟩ rfl dX0_leadersOf_35 ?_
          refine M.iconst (pc := 38) dX0_leadersOf_38 ?_
          refine M.aloadn (pc := 39) 1 rfl rfl dX0_leadersOf_39 ?_
          refine M.iloadn (pc := 40) 2 rfl rfl dX0_leadersOf_40 ?_
          refine M.pS (pc := 41) (c_X0_setOf  (by first | assumption | omega)) ms_X0_62 [] rfl rfl rfl rfl (Nat.le_of_ble_eq_true rfl) rfl ⟨(Nat.le_of_ble_eq_true rfl), (Nat.le_of_ble_eq_true rfl)⟩ ⟨(Nat.le_of_ble_eq_true rfl), (Nat.le_of_ble_eq_true rfl)⟩ rfl dX0_leadersOf_41 ?_
          refine M.iload (pc := 44) (i := 5) rfl dX0_leadersOf_44 ?_
          refine M.pV (pc := 46) (c_X3_inCase  (by first | assumption | omega) (by first | assumption | omega) (by first | assumption | omega) (by omega) (by omega)) mv_X0_86 [2, 3, 4] rfl rfl rfl 2 rfl rfl rfl rfl (Nat.le_of_ble_eq_true rfl) rfl ⟨(Nat.le_of_ble_eq_true rfl), (Nat.le_of_ble_eq_true rfl)⟩ ⟨(Nat.le_of_ble_eq_true rfl), (Nat.le_of_ble_eq_true rfl)⟩ rfl dX0_leadersOf_46 ?_
          refine M.pV (pc := 49) (c_X3_heightOf  (by first | assumption | omega) (by omega) (by omega) (by omega)) mv_X0_90 [2, 3, 4] rfl rfl rfl 2 rfl rfl rfl rfl (Nat.le_of_ble_eq_true rfl) rfl ⟨(Nat.le_of_ble_eq_true rfl), (Nat.le_of_ble_eq_true rfl)⟩ ⟨(Nat.le_of_ble_eq_true rfl), (Nat.le_of_ble_eq_true rfl)⟩ rfl dX0_leadersOf_49 ?_
          refine M.iast (pc := 52) 1 rfl (by omega) (by omega) dX0_leadersOf_52 ?_
          dsimp only [List.set_cons_zero, List.set_cons_succ]
          refine M.lloadn (pc := 53) 3 rfl rfl dX0_leadersOf_53 ?_
          refine M.aloadn (pc := 54) 0 rfl rfl dX0_leadersOf_54 ?_
          refine M.iload (pc := 55) (i := 5) rfl dX0_leadersOf_55 ?_
          refine M.pV (pc := 57) (c_X0_leaderOf  (by exact hcp2) (by exact hw2) (by first | assumption | omega)) mv_X0_94 [0, 1] rfl rfl rfl 0 rfl rfl rfl rfl (Nat.le_of_ble_eq_true rfl) rfl ⟨(Nat.le_of_ble_eq_true rfl), (Nat.le_of_ble_eq_true rfl)⟩ ⟨(Nat.le_of_ble_eq_true rfl), (Nat.le_of_ble_eq_true rfl)⟩ rfl dX0_leadersOf_57 ?_
          rw [hll2]
          refine M.i2l (pc := 60) (by omega) dX0_leadersOf_60 ?_
          refine M.iconst (pc := 61) dX0_leadersOf_61 ?_
          refine M.iload (pc := 62) (i := 5) rfl dX0_leadersOf_62 ?_
          refine M.imul (pc := 64) dX0_leadersOf_64 ?_
          refine M.lshl (pc := 65) (lsh_ok (by omega) (by omega)) dX0_leadersOf_65 ?_
          refine M.lor (pc := 66) (lor_ok hpk.1 hlb.1 hc.1 hpk.2) dX0_leadersOf_66 ?_
          refine M.lstoren (pc := 67) 3 rfl (Nat.le_of_ble_eq_true rfl) rfl dX0_leadersOf_67 ?_
          dsimp only [List.set_cons_zero, List.set_cons_succ]
          refine M.iinc (pc := 68) (i := 5) rfl rfl dX0_leadersOf_68 ?_
          dsimp only [List.set_cons_zero, List.set_cons_succ]
          refine M.goto (pc := 71) (tgt := 5) dX0_leadersOf_71 (by decide) ?_
          exact ih5  (by first | assumption | omega) (by first | exact hw2 | exact hw) (by first | exact hwd2 | exact fun d d0 d1 dp => (by omega : d < c ∨ d = c).elim (fun q => hwd d d0 q dp) (fun q => absurd (by rw [hcp, cm_13 _ hc.1 (by omega), ← q]; exact dp) c24)) (by first | exact hst.symm | (rw [pk_s _ hc.1, ha]; unfold gL; rw [if_neg (fun z => c24 (by rw [hcp, cm_13 _ hc.1 (by omega)]; exact z))]; omega)) (by omega)
  exact L5 _  (by first | assumption | omega) (by exact hwH) (by intro d _ h; omega) (by rfl) (Nat.lt_succ_self _)
