/-! numbers of a house; sets as whole numbers -/
abbrev tb (S k : Int) : Bool := S.toNat.testBit k.toNat
theorem s_l31 : ∀ n, n < 32 → ((nI n &&& 31).toBitVec.smod 32).toNat = n := by decide +kernel
theorem bit_shr {S k : Int} (h0 : 0 ≤ S) (h1 : S < 2147483648) (h2 : 0 ≤ k) (h3 : k < 31) : iI S >>> (iI k &&& 31) = iI ((S.toNat / 2 ^ k.toNat : Nat) : Int) := by
  obtain ⟨s, rfl⟩ := Int.eq_ofNat_of_zero_le h0
  obtain ⟨j, rfl⟩ := Int.eq_ofNat_of_zero_le h2
  rw [iI_nat, iI_nat, iI_nat]
  exact pk_shrN (by omega) _ j (s_l31 j (by omega))
theorem bit_and1 {n : Nat} (h : n < 4294967296) : iI (n : Int) &&& iI 1 = iI ((n % 2 : Nat) : Int) := by
  rw [iI_nat, iI_nat]
  exact pk_andN (by omega) (m := iI 1) 1 (by decide +kernel)
theorem tb_mod {S k : Int} : tb S k = true ↔ S.toNat / 2 ^ k.toNat % 2 = 1 := by
  show S.toNat.testBit k.toNat = true ↔ _
  rw [Nat.testBit_eq_decide_div_mod_eq]
  simp
theorem shr_lt {S : Int} (k : Nat) (h0 : 0 ≤ S) (h1 : S < 2147483648) : S.toNat / 2 ^ k < 4294967296 := Nat.lt_of_le_of_lt (Nat.div_le_self _ _) (by omega)
/-- the sum of f over the members below n -/
def sumT (f : Int → Int) (S : Int) : Nat → Int
  | 0 => 0
  | n + 1 => sumT f S n + (if tb S (n : Int) = true then f (n : Int) else 0)
theorem sumT_s (f : Int → Int) (S : Int) {k : Int} (h : 0 ≤ k) : sumT f S (k + 1).toNat = sumT f S k.toNat + (if tb S k = true then f k else 0) := by
  obtain ⟨j, rfl⟩ := Int.eq_ofNat_of_zero_le h
  have e : ((j : Int) + 1).toNat = j + 1 := by omega
  rw [e]
  have e2 : (j : Int).toNat = j := by omega
  rw [e2]
  rfl
theorem sumT_0 (f : Int → Int) (S : Int) {k : Int} (h : k = 0) : sumT f S k.toNat = 0 := by subst h; rfl
theorem sumT_b {f : Int → Int} {S : Int} {A B : Int} (hA : A ≤ 0) (hB : 0 ≤ B) : ∀ n : Nat, (∀ k : Nat, k < n → tb S (k : Int) = true → A ≤ f (k : Int) ∧ f (k : Int) ≤ B) → A * n ≤ sumT f S n ∧ sumT f S n ≤ B * n := by
  intro n
  induction n with
  | zero => intro _; simp [sumT]
  | succ n ih =>
    intro h
    have h1 := ih (fun k hk => h k (by omega))
    have h2 := h n (by omega)
    have e1 : A * ((n + 1 : Nat) : Int) = A * n + A := by rw [Int.natCast_succ, Int.mul_add, Int.mul_one]
    have e2 : B * ((n + 1 : Nat) : Int) = B * n + B := by rw [Int.natCast_succ, Int.mul_add, Int.mul_one]
    show A * ((n + 1 : Nat) : Int) ≤ sumT f S n + _ ∧ sumT f S n + _ ≤ B * ((n + 1 : Nat) : Int)
    rw [e1, e2]
    split
    · next hq => have := h2 hq; omega
    · omega
theorem sumT_c {f g : Int → Int} {S : Int} : ∀ n : Nat, (∀ k : Nat, k < n → tb S (k : Int) = true → f (k : Int) = g (k : Int)) → sumT f S n = sumT g S n := by
  intro n
  induction n with
  | zero => intro _; rfl
  | succ n ih =>
    intro h
    have h1 := ih (fun k hk => h k (by omega))
    show sumT f S n + _ = sumT g S n + _
    rw [h1]
    split
    · next hq => rw [h n (by omega) hq]
    · rfl
def hMea (fb : Int → Int) (b : Int) : Int := max 1 (fb (b * 4 + 0) * fb (b * 4 + 1))
def hWat (fb : Int → Int) (b h : Int) : Int := max 0 (fb (b * 4 + 2) - fb (b * 4 + 3) * h)
def hHei (fb : Int → Int) (b h s : Int) : Int := (hWat fb b h + s) / hMea fb b
def hGre (fb : Int → Int) (b h v : Int) : Int := max (-1) (v * hMea fb b + hMea fb b - 1 - hWat fb b h)
def hLea (fb : Int → Int) (b h v : Int) : Int := if hGre fb b h v = -1 then -1 else max 0 (v * hMea fb b - hWat fb b h)
/-- what stands in the rows of baths: in bounds, also where nobody lives -/
def HB (fb : Int → Int) : Prop := ∀ b, 0 ≤ b → b < 2 → (0 ≤ fb (b * 4 + 0) ∧ fb (b * 4 + 0) ≤ 99) ∧ (0 ≤ fb (b * 4 + 1) ∧ fb (b * 4 + 1) ≤ 99) ∧ (0 ≤ fb (b * 4 + 2) ∧ fb (b * 4 + 2) ≤ 9999) ∧ (0 ≤ fb (b * 4 + 3) ∧ fb (b * 4 + 3) ≤ 99)
def HT (ft : Int → Int) : Prop := ∀ k, 0 ≤ k → k < 6 → (0 ≤ ft (k * 4 + 0) ∧ ft (k * 4 + 0) ≤ 999) ∧ (0 ≤ ft (k * 4 + 1) ∧ ft (k * 4 + 1) ≤ 999) ∧ (0 ≤ ft (k * 4 + 2) ∧ ft (k * 4 + 2) ≤ 999) ∧ (0 ≤ ft (k * 4 + 3) ∧ ft (k * 4 + 3) ≤ 100)
theorem hMea_b {fb : Int → Int} {b : Int} (h : HB fb) (h0 : 0 ≤ b) (h1 : b < 2) : 1 ≤ hMea fb b ∧ hMea fb b ≤ 9801 := by
  obtain ⟨a1, a2, -, -⟩ := h b h0 h1
  have := bound_mul a1.1 a1.2 a2.1 a2.2
  unfold hMea
  omega
theorem hWat_b {fb : Int → Int} {b hr : Int} (h : HB fb) (h0 : 0 ≤ b) (h1 : b < 2) (h2 : 0 ≤ hr) : 0 ≤ hWat fb b hr ∧ hWat fb b hr ≤ 9999 := by
  obtain ⟨-, -, a3, a4⟩ := h b h0 h1
  have := Int.mul_nonneg a4.1 h2
  unfold hWat
  omega
theorem hMul_b {fb : Int → Int} {b v : Int} (h : HB fb) (h0 : 0 ≤ b) (h1 : b < 2) (h2 : 0 ≤ v) (h3 : v ≤ 99999) : 0 ≤ v * hMea fb b ∧ v * hMea fb b ≤ 980090199 := by
  have h4 := hMea_b h h0 h1
  have := bound_mul h2 h3 (by omega : 0 ≤ hMea fb b) h4.2
  omega
theorem hHei_b {fb : Int → Int} {b hr s B : Int} (h : HB fb) (h0 : 0 ≤ b) (h1 : b < 2) (h2 : 0 ≤ hr) (h3 : 0 ≤ s) (h4 : s ≤ B) : 0 ≤ hHei fb b hr s ∧ hHei fb b hr s ≤ 9999 + B := by
  have h5 := hMea_b h h0 h1
  have h6 := hWat_b h h0 h1 h2
  unfold hHei
  refine ⟨Int.ediv_nonneg (by omega) (by omega), ?_⟩
  have := Int.ediv_le_self (hMea fb b) (by omega : 0 ≤ hWat fb b hr + s)
  omega
def caseF (ft : Int → Int) (od which : Int) : Int → Int := fun k => if which = 7 + k then 0 else ft (k * 4 + 2) + (if which = 1 + k then od else 0)
def caseS (ft : Int → Int) (od : Int) (n : Nat) (S which : Int) : Int := sumT (caseF ft od which) S n
theorem caseF_b {ft : Int → Int} {od which k : Int} (hT : HT ft) (ho : 0 ≤ od ∧ od ≤ 999) (h0 : 0 ≤ k) (h1 : k < 6) : 0 ≤ caseF ft od which k ∧ caseF ft od which k ≤ 1998 := by
  have := (hT k h0 h1).2.2.1
  unfold caseF
  split
  · omega
  · split <;> omega
theorem caseS_b {ft : Int → Int} {od S which : Int} (hT : HT ft) (ho : 0 ≤ od ∧ od ≤ 999) {n : Nat} (hn : n ≤ 6) : 0 ≤ caseS ft od n S which ∧ caseS ft od n S which ≤ 11988 := by
  have := sumT_b (f := caseF ft od which) (S := S) (A := 0) (B := 1998) (by omega) (by omega) n (fun k hk _ => caseF_b hT ho (by omega) (by omega))
  unfold caseS
  omega
def oddsN (ft : Int → Int) (S : Int) : Nat → Int
  | 0 => 1000000000
  | n + 1 => oddsN ft S n * (if tb S (n : Int) = true then ft ((n : Int) * 4 + 3) else 100 - ft ((n : Int) * 4 + 3)) / 100
theorem oddsN_s (ft : Int → Int) (S : Int) {k : Int} (h : 0 ≤ k) : oddsN ft S (k + 1).toNat = oddsN ft S k.toNat * (if tb S k = true then ft (k * 4 + 3) else 100 - ft (k * 4 + 3)) / 100 := by
  obtain ⟨j, rfl⟩ := Int.eq_ofNat_of_zero_le h
  have e : ((j : Int) + 1).toNat = j + 1 := by omega
  rw [e]
  have e2 : (j : Int).toNat = j := by omega
  rw [e2]
  rfl
theorem oddsN_b {ft : Int → Int} {S : Int} (hT : HT ft) : ∀ n : Nat, n ≤ 6 → 0 ≤ oddsN ft S n ∧ oddsN ft S n ≤ 1000000000 := by
  intro n
  induction n with
  | zero => intro _; show (0 : Int) ≤ 1000000000 ∧ (1000000000 : Int) ≤ 1000000000; omega
  | succ n ih =>
    intro hn
    have h1 := ih (by omega)
    have h2 := (hT n (by omega) (by omega)).2.2.2
    show 0 ≤ oddsN ft S n * _ / 100 ∧ oddsN ft S n * _ / 100 ≤ 1000000000
    have h3 : 0 ≤ (if tb S (n : Int) = true then ft ((n : Int) * 4 + 3) else 100 - ft ((n : Int) * 4 + 3)) ∧ (if tb S (n : Int) = true then ft ((n : Int) * 4 + 3) else 100 - ft ((n : Int) * 4 + 3)) ≤ 100 := by
      split <;> omega
    have := bound_mul h1.1 h1.2 h3.1 h3.2
    omega
set_option maxHeartbeats 4000000 in
set_option maxRecDepth 100000 in
/-- has -/
theorem c_X7_has {l : Launch} {G : GT} {S k : Int} (h0 : 0 ≤ S) (h1 : S < 2147483648) (h2 : 0 ≤ k) (h3 : k < 31) : ConF l G yX7_has cX7_has 2 (some .boolean) { frames := 0, cells := 0, slots := 0, locals := 0 } [.int (iI S), .int (iI k)] [] (some (.int (iI (pI (tb S k = true))))) := by
  refine Con.mk (by decide +kernel) [some (.int (iI S)), some (.int (iI k))] rfl (Nat.le_of_ble_eq_true rfl) rfl ?_
  intro V M EI EL EV EA
  refine M.iloadn (pc := 0) 0 rfl rfl dX7_has_0 ?_
  refine M.iloadn (pc := 1) 1 rfl rfl dX7_has_1 ?_
  refine M.ishr (pc := 2) (bit_shr h0 h1 h2 h3) dX7_has_2 ?_
  refine M.iconst (pc := 3) dX7_has_3 ?_
  refine M.iand (pc := 4) (bit_and1 (shr_lt _ h0 h1)) dX7_has_4 ?_
  refine M.if_eq (pc := 5) (tgt := 12) dX7_has_5 (by decide) (by have := shr_lt k.toNat h0 h1; omega) (fun c5 => ?_) (fun c5 => ?_)
  · refine M.iconst (pc := 12) dX7_has_12 ?_
    exact EI () _ _ _ _ dX7_has_13 (Or.inr ⟨rfl, by first | exact Or.inl rfl | exact Or.inr rfl | exact pI_01 _⟩) (eqI (by first | exact pI_eq1 (tb_mod.mpr (by omega)) rfl | exact pI_eq0 (fun z => by have := tb_mod.mp z; omega) rfl)) rfl trivial
  · refine M.iconst (pc := 8) dX7_has_8 ?_
    refine M.goto (pc := 9) (tgt := 13) dX7_has_9 (by decide) ?_
    exact EI () _ _ _ _ dX7_has_13 (Or.inr ⟨rfl, by first | exact Or.inl rfl | exact Or.inr rfl | exact pI_01 _⟩) (eqI (by first | exact pI_eq1 (tb_mod.mpr (by omega)) rfl | exact pI_eq0 (fun z => by have := tb_mod.mp z; omega) rfl)) rfl trivial
set_option maxHeartbeats 4000000 in
set_option maxRecDepth 100000 in
theorem c_X7_isHour {l : Launch} {G : GT} {z : Int} (h : InR z) : ConF l G yX7_isHour cX7_isHour 1 (some .boolean) { frames := 0, cells := 0, slots := 0, locals := 0 } [.int (iI z)] [] (some (.int (iI (pI (0 ≤ z ∧ z < 100))))) := by
  refine Con.mk (by decide +kernel) [some (.int (iI z))] rfl (Nat.le_of_ble_eq_true rfl) rfl ?_
  intro V M EI EL EV EA
  refine M.iloadn (pc := 0) 0 rfl rfl dX7_isHour_0 ?_
  refine M.if_lt (pc := 1) (tgt := 14) dX7_isHour_1 (by decide) (by omega) (fun c1 => ?_) (fun c1 => ?_)
  · refine M.iconst (pc := 14) dX7_isHour_14 ?_
    exact EI () _ _ _ _ dX7_isHour_15 (Or.inr ⟨rfl, by first | exact Or.inl rfl | exact Or.inr rfl | exact pI_01 _⟩) (eqI (by first | exact pI_eq1 (by omega) rfl | exact pI_eq0 (by omega) rfl)) rfl trivial
  · refine M.iloadn (pc := 4) 0 rfl rfl dX7_isHour_4 ?_
    refine M.bipush (pc := 5) (by decide +kernel) dX7_isHour_5 ?_
    refine M.icmp_ge (pc := 7) (tgt := 14) dX7_isHour_7 (by decide) (by omega) (by omega) (fun c7 => ?_) (fun c7 => ?_)
    · refine M.iconst (pc := 14) dX7_isHour_14 ?_
      exact EI () _ _ _ _ dX7_isHour_15 (Or.inr ⟨rfl, by first | exact Or.inl rfl | exact Or.inr rfl | exact pI_01 _⟩) (eqI (by first | exact pI_eq1 (by omega) rfl | exact pI_eq0 (by omega) rfl)) rfl trivial
    · refine M.iconst (pc := 10) dX7_isHour_10 ?_
      refine M.goto (pc := 11) (tgt := 15) dX7_isHour_11 (by decide) ?_
      exact EI () _ _ _ _ dX7_isHour_15 (Or.inr ⟨rfl, by first | exact Or.inl rfl | exact Or.inr rfl | exact pI_01 _⟩) (eqI (by first | exact pI_eq1 (by omega) rfl | exact pI_eq0 (by omega) rfl)) rfl trivial
set_option maxHeartbeats 4000000 in
set_option maxRecDepth 100000 in
theorem c_X7_isHeight {l : Launch} {G : GT} {z : Int} (h : InR z) : ConF l G yX7_isHeight cX7_isHeight 1 (some .boolean) { frames := 0, cells := 0, slots := 0, locals := 0 } [.int (iI z)] [] (some (.int (iI (pI (0 ≤ z ∧ z < 100000))))) := by
  refine Con.mk (by decide +kernel) [some (.int (iI z))] rfl (Nat.le_of_ble_eq_true rfl) rfl ?_
  intro V M EI EL EV EA
  refine M.iloadn (pc := 0) 0 rfl rfl dX7_isHeight_0 ?_
  refine M.if_lt (pc := 1) (tgt := 15) dX7_isHeight_1 (by decide) (by omega) (fun c1 => ?_) (fun c1 => ?_)
  · refine M.iconst (pc := 15) dX7_isHeight_15 ?_
    exact EI () _ _ _ _ dX7_isHeight_16 (Or.inr ⟨rfl, by first | exact Or.inl rfl | exact Or.inr rfl | exact pI_01 _⟩) (eqI (by first | exact pI_eq1 (by omega) rfl | exact pI_eq0 (by omega) rfl)) rfl trivial
  · refine M.iloadn (pc := 4) 0 rfl rfl dX7_isHeight_4 ?_
    refine M.ldcw (pc := 5) (100000) lc_X7_287 (by decide +kernel) dX7_isHeight_5 ?_
    refine M.icmp_ge (pc := 8) (tgt := 15) dX7_isHeight_8 (by decide) (by omega) (by omega) (fun c8 => ?_) (fun c8 => ?_)
    · refine M.iconst (pc := 15) dX7_isHeight_15 ?_
      exact EI () _ _ _ _ dX7_isHeight_16 (Or.inr ⟨rfl, by first | exact Or.inl rfl | exact Or.inr rfl | exact pI_01 _⟩) (eqI (by first | exact pI_eq1 (by omega) rfl | exact pI_eq0 (by omega) rfl)) rfl trivial
    · refine M.iconst (pc := 11) dX7_isHeight_11 ?_
      refine M.goto (pc := 12) (tgt := 16) dX7_isHeight_12 (by decide) ?_
      exact EI () _ _ _ _ dX7_isHeight_16 (Or.inr ⟨rfl, by first | exact Or.inl rfl | exact Or.inr rfl | exact pI_01 _⟩) (eqI (by first | exact pI_eq1 (by omega) rfl | exact pI_eq0 (by omega) rfl)) rfl trivial
set_option maxHeartbeats 4000000 in
set_option maxRecDepth 100000 in
theorem c_X3_hasBath {l : Launch} {G : GT} {h hb ht : Nat} {nb n od : Int} {b : Int} (hz : InR b) (hnb : 0 ≤ nb ∧ nb ≤ 2) : ConF l G yX3_hasBath cX3_hasBath 2 (some .boolean) { frames := 0, cells := 0, slots := 0, locals := 0 } [.ref h, .int (iI b)] [(h, eO 3 [.ref hb, .ref ht, .int (iI nb), .int (iI n), .int (iI od)])] (some (.int (iI (pI (0 ≤ b ∧ b < nb))))) := by
  refine Con.mk (by decide +kernel) [some (.ref h), some (.int (iI b))] rfl (Nat.le_of_ble_eq_true rfl) rfl ?_
  intro V M EI EL EV EA
  refine M.iloadn (pc := 0) 1 rfl rfl dX3_hasBath_0 ?_
  refine M.if_lt (pc := 1) (tgt := 16) dX3_hasBath_1 (by decide) (by omega) (fun c1 => ?_) (fun c1 => ?_)
  · refine M.iconst (pc := 16) dX3_hasBath_16 ?_
    exact EI () _ _ _ _ dX3_hasBath_17 (Or.inr ⟨rfl, by first | exact Or.inl rfl | exact Or.inr rfl | exact pI_01 _⟩) (eqI (by first | exact pI_eq1 (by omega) rfl | exact pI_eq0 (by omega) rfl)) rfl trivial
  · refine M.iloadn (pc := 4) 1 rfl rfl dX3_hasBath_4 ?_
    refine M.aloadn (pc := 5) 0 rfl rfl dX3_hasBath_5 ?_
    refine M.getf (pc := 6) fg_X3_22 0 rfl rfl dX3_hasBath_6 ?_
    refine M.icmp_ge (pc := 9) (tgt := 16) dX3_hasBath_9 (by decide) (by omega) (by omega) (fun c9 => ?_) (fun c9 => ?_)
    · refine M.iconst (pc := 16) dX3_hasBath_16 ?_
      exact EI () _ _ _ _ dX3_hasBath_17 (Or.inr ⟨rfl, by first | exact Or.inl rfl | exact Or.inr rfl | exact pI_01 _⟩) (eqI (by first | exact pI_eq1 (by omega) rfl | exact pI_eq0 (by omega) rfl)) rfl trivial
    · refine M.iconst (pc := 12) dX3_hasBath_12 ?_
      refine M.goto (pc := 13) (tgt := 17) dX3_hasBath_13 (by decide) ?_
      exact EI () _ _ _ _ dX3_hasBath_17 (Or.inr ⟨rfl, by first | exact Or.inl rfl | exact Or.inr rfl | exact pI_01 _⟩) (eqI (by first | exact pI_eq1 (by omega) rfl | exact pI_eq0 (by omega) rfl)) rfl trivial
set_option maxHeartbeats 4000000 in
set_option maxRecDepth 100000 in
theorem c_X3_hasBather {l : Launch} {G : GT} {h hb ht : Nat} {nb n od : Int} {k : Int} (hz : InR k) (hn : 0 ≤ n ∧ n ≤ 6) : ConF l G yX3_hasBather cX3_hasBather 2 (some .boolean) { frames := 0, cells := 0, slots := 0, locals := 0 } [.ref h, .int (iI k)] [(h, eO 3 [.ref hb, .ref ht, .int (iI nb), .int (iI n), .int (iI od)])] (some (.int (iI (pI (0 ≤ k ∧ k < n))))) := by
  refine Con.mk (by decide +kernel) [some (.ref h), some (.int (iI k))] rfl (Nat.le_of_ble_eq_true rfl) rfl ?_
  intro V M EI EL EV EA
  refine M.iloadn (pc := 0) 1 rfl rfl dX3_hasBather_0 ?_
  refine M.if_lt (pc := 1) (tgt := 16) dX3_hasBather_1 (by decide) (by omega) (fun c1 => ?_) (fun c1 => ?_)
  · refine M.iconst (pc := 16) dX3_hasBather_16 ?_
    exact EI () _ _ _ _ dX3_hasBather_17 (Or.inr ⟨rfl, by first | exact Or.inl rfl | exact Or.inr rfl | exact pI_01 _⟩) (eqI (by first | exact pI_eq1 (by omega) rfl | exact pI_eq0 (by omega) rfl)) rfl trivial
  · refine M.iloadn (pc := 4) 1 rfl rfl dX3_hasBather_4 ?_
    refine M.aloadn (pc := 5) 0 rfl rfl dX3_hasBather_5 ?_
    refine M.getf (pc := 6) fg_X3_25 0 rfl rfl dX3_hasBather_6 ?_
    refine M.icmp_ge (pc := 9) (tgt := 16) dX3_hasBather_9 (by decide) (by omega) (by omega) (fun c9 => ?_) (fun c9 => ?_)
    · refine M.iconst (pc := 16) dX3_hasBather_16 ?_
      exact EI () _ _ _ _ dX3_hasBather_17 (Or.inr ⟨rfl, by first | exact Or.inl rfl | exact Or.inr rfl | exact pI_01 _⟩) (eqI (by first | exact pI_eq1 (by omega) rfl | exact pI_eq0 (by omega) rfl)) rfl trivial
    · refine M.iconst (pc := 12) dX3_hasBather_12 ?_
      refine M.goto (pc := 13) (tgt := 17) dX3_hasBather_13 (by decide) ?_
      exact EI () _ _ _ _ dX3_hasBather_17 (Or.inr ⟨rfl, by first | exact Or.inl rfl | exact Or.inr rfl | exact pI_01 _⟩) (eqI (by first | exact pI_eq1 (by omega) rfl | exact pI_eq0 (by omega) rfl)) rfl trivial
def p2 (k : Int) : Int := ((2 ^ k.toNat : Nat) : Int)
theorem p31 : ∀ n, n < 31 → (iI 1) <<< (nI n &&& 31) = iI ((2 ^ n : Nat) : Int) := by decide +kernel
theorem bit_shl1 {k : Int} (h2 : 0 ≤ k) (h3 : k < 31) : iI 1 <<< (iI k &&& 31) = iI (p2 k) := by
  obtain ⟨j, rfl⟩ := Int.eq_ofNat_of_zero_le h2
  rw [iI_nat]
  exact p31 j (by omega)
theorem p2n : ∀ n, n ≤ 13 → 1 ≤ 2 ^ n ∧ 2 ^ n ≤ 8192 := by decide +kernel
theorem p2_b {k : Int} (h1 : k ≤ 13) : 1 ≤ p2 k ∧ p2 k ≤ 8192 := by
  have h := p2n k.toNat (by omega)
  unfold p2
  generalize 2 ^ k.toNat = m at h ⊢
  omega
theorem p2_6 {k : Int} (h1 : k ≤ 6) : 1 ≤ p2 k ∧ p2 k ≤ 64 := by
  have h : ∀ n, n ≤ 6 → 1 ≤ 2 ^ n ∧ 2 ^ n ≤ 64 := by decide +kernel
  have h := h k.toNat (by omega)
  unfold p2
  generalize 2 ^ k.toNat = m at h ⊢
  omega
set_option maxHeartbeats 4000000 in
set_option maxRecDepth 100000 in
theorem c_X3_sets {l : Launch} {G : GT} {h hb ht : Nat} {nb n od : Int} (hn : 0 ≤ n ∧ n ≤ 6) : ConF l G yX3_sets cX3_sets 1 (some .int) { frames := 0, cells := 0, slots := 0, locals := 0 } [.ref h] [(h, eO 3 [.ref hb, .ref ht, .int (iI nb), .int (iI n), .int (iI od)])] (some (.int (iI (p2 n)))) := by
  refine Con.mk (by decide +kernel) [some (.ref h)] rfl (Nat.le_of_ble_eq_true rfl) rfl ?_
  intro V M EI EL EV EA
  refine M.iconst (pc := 0) dX3_sets_0 ?_
  refine M.aloadn (pc := 1) 0 rfl rfl dX3_sets_1 ?_
  refine M.getf (pc := 2) fg_X3_25 0 rfl rfl dX3_sets_2 ?_
  refine M.ishl (pc := 5) (bit_shl1 (by omega) (by omega)) dX3_sets_5 ?_
  exact EI () _ _ _ _ dX3_sets_6 (Or.inl rfl) (eqI (by rfl)) rfl trivial
set_option maxHeartbeats 4000000 in
set_option maxRecDepth 100000 in
theorem c_X3_hasSet {l : Launch} {G : GT} {h hb ht : Nat} {nb n od : Int} {S : Int} (hz : InR S) (hn : 0 ≤ n ∧ n ≤ 6) : ConF l G yX3_hasSet cX3_hasSet 2 (some .boolean) { frames := 1, cells := 0, slots := 0, locals := 20 } [.ref h, .int (iI S)] [(h, eO 3 [.ref hb, .ref ht, .int (iI nb), .int (iI n), .int (iI od)])] (some (.int (iI (pI (0 ≤ S ∧ S < p2 n))))) := by
  refine Con.mk (by decide +kernel) [some (.ref h), some (.int (iI S))] rfl (Nat.le_of_ble_eq_true rfl) rfl ?_
  intro V M EI EL EV EA
  have hp2 := p2_b (by omega : n ≤ 13)
  refine M.iloadn (pc := 0) 1 rfl rfl dX3_hasSet_0 ?_
  refine M.if_lt (pc := 1) (tgt := 16) dX3_hasSet_1 (by decide) (by omega) (fun c1 => ?_) (fun c1 => ?_)
  · refine M.iconst (pc := 16) dX3_hasSet_16 ?_
    exact EI () _ _ _ _ dX3_hasSet_17 (Or.inr ⟨rfl, by first | exact Or.inl rfl | exact Or.inr rfl | exact pI_01 _⟩) (eqI (by first | exact pI_eq1 (by omega) rfl | exact pI_eq0 (by omega) rfl)) rfl trivial
  · refine M.iloadn (pc := 4) 1 rfl rfl dX3_hasSet_4 ?_
    refine M.aloadn (pc := 5) 0 rfl rfl dX3_hasSet_5 ?_
    refine M.pV (pc := 6) (c_X3_sets  (by first | assumption | omega)) mv_X3_32 [0] rfl rfl rfl 0 rfl rfl rfl rfl (Nat.le_of_ble_eq_true rfl) rfl ⟨(Nat.le_of_ble_eq_true rfl), (Nat.le_of_ble_eq_true rfl)⟩ ⟨(Nat.le_of_ble_eq_true rfl), (Nat.le_of_ble_eq_true rfl)⟩ rfl dX3_hasSet_6 ?_
    refine M.icmp_ge (pc := 9) (tgt := 16) dX3_hasSet_9 (by decide) (by omega) (by have := p2_b (by omega : n ≤ 13); omega) (fun c9 => ?_) (fun c9 => ?_)
    · refine M.iconst (pc := 16) dX3_hasSet_16 ?_
      exact EI () _ _ _ _ dX3_hasSet_17 (Or.inr ⟨rfl, by first | exact Or.inl rfl | exact Or.inr rfl | exact pI_01 _⟩) (eqI (by first | exact pI_eq1 (by omega) rfl | exact pI_eq0 (by omega) rfl)) rfl trivial
    · refine M.iconst (pc := 12) dX3_hasSet_12 ?_
      refine M.goto (pc := 13) (tgt := 17) dX3_hasSet_13 (by decide) ?_
      exact EI () _ _ _ _ dX3_hasSet_17 (Or.inr ⟨rfl, by first | exact Or.inl rfl | exact Or.inr rfl | exact pI_01 _⟩) (eqI (by first | exact pI_eq1 (by omega) rfl | exact pI_eq0 (by omega) rfl)) rfl trivial
set_option maxHeartbeats 4000000 in
set_option maxRecDepth 100000 in
theorem c_X3_hasCase {l : Launch} {G : GT} {h hb ht : Nat} {nb n od : Int} {c : Int} (hz : -2147483648 ≤ c - 7 ∧ c < 2147483648) (hn : 0 ≤ n ∧ n ≤ 6) : ConF l G yX3_hasCase cX3_hasCase 2 (some .boolean) { frames := 1, cells := 0, slots := 0, locals := 21 } [.ref h, .int (iI c)] [(h, eO 3 [.ref hb, .ref ht, .int (iI nb), .int (iI n), .int (iI od)])] (some (.int (iI (pI (c = 0 ∨ (0 ≤ c - 1 ∧ c - 1 < n) ∨ (0 ≤ c - 7 ∧ c - 7 < n)))))) := by
  refine Con.mk (by decide +kernel) [some (.ref h), some (.int (iI c))] rfl (Nat.le_of_ble_eq_true rfl) rfl ?_
  intro V M EI EL EV EA
  refine M.iloadn (pc := 0) 1 rfl rfl dX3_hasCase_0 ?_
  refine M.if_eq (pc := 1) (tgt := 25) dX3_hasCase_1 (by decide) (by omega) (fun c1 => ?_) (fun c1 => ?_)
  · refine M.iconst (pc := 25) dX3_hasCase_25 ?_
    refine M.goto (pc := 26) (tgt := 30) dX3_hasCase_26 (by decide) ?_
    exact EI () _ _ _ _ dX3_hasCase_30 (Or.inr ⟨rfl, by first | exact Or.inl rfl | exact Or.inr rfl | exact pI_01 _⟩) (eqI (by first | exact pI_eq1 (by omega) rfl | exact pI_eq0 (by omega) rfl)) rfl trivial
  · refine M.aloadn (pc := 4) 0 rfl rfl dX3_hasCase_4 ?_
    refine M.iloadn (pc := 5) 1 rfl rfl dX3_hasCase_5 ?_
    refine M.iconst (pc := 6) dX3_hasCase_6 ?_
    refine M.isub (pc := 7) dX3_hasCase_7 ?_
    refine M.pV (pc := 8) (c_X3_hasBather  (by first | assumption | omega) (by first | assumption | omega)) mv_X3_36 [0] rfl rfl rfl 0 rfl rfl rfl rfl (Nat.le_of_ble_eq_true rfl) rfl ⟨(Nat.le_of_ble_eq_true rfl), (Nat.le_of_ble_eq_true rfl)⟩ ⟨(Nat.le_of_ble_eq_true rfl), (Nat.le_of_ble_eq_true rfl)⟩ rfl dX3_hasCase_8 ?_
    refine M.if_neP (pc := 11) (tgt := 25) dX3_hasCase_11 (by decide) (fun c11 => ?_) (fun c11 => ?_)
    · refine M.iconst (pc := 25) dX3_hasCase_25 ?_
      refine M.goto (pc := 26) (tgt := 30) dX3_hasCase_26 (by decide) ?_
      exact EI () _ _ _ _ dX3_hasCase_30 (Or.inr ⟨rfl, by first | exact Or.inl rfl | exact Or.inr rfl | exact pI_01 _⟩) (eqI (by first | exact pI_eq1 (by omega) rfl | exact pI_eq0 (by omega) rfl)) rfl trivial
    · refine M.aloadn (pc := 14) 0 rfl rfl dX3_hasCase_14 ?_
      refine M.iloadn (pc := 15) 1 rfl rfl dX3_hasCase_15 ?_
      refine M.bipush (pc := 16) (by decide +kernel) dX3_hasCase_16 ?_
      refine M.isub (pc := 18) dX3_hasCase_18 ?_
      refine M.pV (pc := 19) (c_X3_hasBather  (by first | assumption | omega) (by first | assumption | omega)) mv_X3_36 [0] rfl rfl rfl 0 rfl rfl rfl rfl (Nat.le_of_ble_eq_true rfl) rfl ⟨(Nat.le_of_ble_eq_true rfl), (Nat.le_of_ble_eq_true rfl)⟩ ⟨(Nat.le_of_ble_eq_true rfl), (Nat.le_of_ble_eq_true rfl)⟩ rfl dX3_hasCase_19 ?_
      refine M.if_eqP (pc := 22) (tgt := 29) dX3_hasCase_22 (by decide) (fun c22 => ?_) (fun c22 => ?_)
      · refine M.iconst (pc := 29) dX3_hasCase_29 ?_
        exact EI () _ _ _ _ dX3_hasCase_30 (Or.inr ⟨rfl, by first | exact Or.inl rfl | exact Or.inr rfl | exact pI_01 _⟩) (eqI (by first | exact pI_eq1 (by omega) rfl | exact pI_eq0 (by omega) rfl)) rfl trivial
      · refine M.iconst (pc := 25) dX3_hasCase_25 ?_
        refine M.goto (pc := 26) (tgt := 30) dX3_hasCase_26 (by decide) ?_
        exact EI () _ _ _ _ dX3_hasCase_30 (Or.inr ⟨rfl, by first | exact Or.inl rfl | exact Or.inr rfl | exact pI_01 _⟩) (eqI (by first | exact pI_eq1 (by omega) rfl | exact pI_eq0 (by omega) rfl)) rfl trivial
set_option maxHeartbeats 4000000 in
set_option maxRecDepth 100000 in
theorem c_X3_ofBath {l : Launch} {G : GT} {h hb ht : Nat} {fb ft : Int → Int} {nb n od : Int} {b w : Int} (hb0 : 0 ≤ b ∧ b < 2) (hw0 : 0 ≤ w ∧ w < 4) : ConF l G yX3_ofBath cX3_ofBath 4 (some .int) { frames := 0, cells := 0, slots := 0, locals := 0 } [.ref h, .int (iI b), .int (iI w)] [(h, eO 3 [.ref hb, .ref ht, .int (iI nb), .int (iI n), .int (iI od)]), (hb, eI G 8 fb), (ht, eI G 24 ft)] (some (.int (iI (fb (b * 4 + w))))) := by
  refine Con.mk (by decide +kernel) [some (.ref h), some (.int (iI b)), some (.int (iI w)), none] rfl (Nat.le_of_ble_eq_true rfl) rfl ?_
  intro V M EI EL EV EA
  refine M.iloadn (pc := 0) 1 rfl rfl dX3_ofBath_0 ?_
  refine M.iconst (pc := 1) dX3_ofBath_1 ?_
  refine M.imul (pc := 2) dX3_ofBath_2 ?_
  refine M.iloadn (pc := 3) 2 rfl rfl dX3_ofBath_3 ?_
  refine M.iadd (pc := 4) dX3_ofBath_4 ?_
  refine M.istoren (pc := 5) 3 rfl (Nat.le_of_ble_eq_true rfl) rfl dX3_ofBath_5 ?_
  dsimp only [List.set_cons_zero, List.set_cons_succ]
  refine M.iloadn (pc := 6) 3 rfl rfl dX3_ofBath_6 ?_
  refine M.if_lt (pc := 7) (tgt := 28) dX3_ofBath_7 (by decide) (by omega) (fun c7 => ?_) (fun c7 => ?_)
  · exact absurd c7 (by omega)
  · refine M.iloadn (pc := 10) 3 rfl rfl dX3_ofBath_10 ?_
    refine M.aloadn (pc := 11) 0 rfl rfl dX3_ofBath_11 ?_
    refine M.getf (pc := 12) fg_X3_11 0 rfl rfl dX3_ofBath_12 ?_
    refine M.alenI (pc := 15) 1 rfl dX3_ofBath_15 ?_
    refine M.icmp_ge (pc := 16) (tgt := 28) dX3_ofBath_16 (by decide) (by omega) (by omega) (fun c16 => ?_) (fun c16 => ?_)
    · exact absurd c16 (by omega)
    · refine M.aloadn (pc := 19) 0 rfl rfl dX3_ofBath_19 ?_
      refine M.getf (pc := 20) fg_X3_11 0 rfl rfl dX3_ofBath_20 ?_
      refine M.iloadn (pc := 23) 3 rfl rfl dX3_ofBath_23 ?_
      refine M.iald (pc := 24) 1 rfl (by omega) (by omega) dX3_ofBath_24 ?_
      refine M.goto (pc := 25) (tgt := 29) dX3_ofBath_25 (by decide) ?_
      exact EI () _ _ _ _ dX3_ofBath_29 (Or.inl rfl) (eqI (by rfl)) rfl trivial
set_option maxHeartbeats 4000000 in
set_option maxRecDepth 100000 in
theorem c_X3_ofBather {l : Launch} {G : GT} {h hb ht : Nat} {fb ft : Int → Int} {nb n od : Int} {k w : Int} (hk0 : 0 ≤ k ∧ k < 6) (hw0 : 0 ≤ w ∧ w < 4) : ConF l G yX3_ofBather cX3_ofBather 4 (some .int) { frames := 0, cells := 0, slots := 0, locals := 0 } [.ref h, .int (iI k), .int (iI w)] [(h, eO 3 [.ref hb, .ref ht, .int (iI nb), .int (iI n), .int (iI od)]), (hb, eI G 8 fb), (ht, eI G 24 ft)] (some (.int (iI (ft (k * 4 + w))))) := by
  refine Con.mk (by decide +kernel) [some (.ref h), some (.int (iI k)), some (.int (iI w)), none] rfl (Nat.le_of_ble_eq_true rfl) rfl ?_
  intro V M EI EL EV EA
  refine M.iloadn (pc := 0) 1 rfl rfl dX3_ofBather_0 ?_
  refine M.iconst (pc := 1) dX3_ofBather_1 ?_
  refine M.imul (pc := 2) dX3_ofBather_2 ?_
  refine M.iloadn (pc := 3) 2 rfl rfl dX3_ofBather_3 ?_
  refine M.iadd (pc := 4) dX3_ofBather_4 ?_
  refine M.istoren (pc := 5) 3 rfl (Nat.le_of_ble_eq_true rfl) rfl dX3_ofBather_5 ?_
  dsimp only [List.set_cons_zero, List.set_cons_succ]
  refine M.iloadn (pc := 6) 3 rfl rfl dX3_ofBather_6 ?_
  refine M.if_lt (pc := 7) (tgt := 28) dX3_ofBather_7 (by decide) (by omega) (fun c7 => ?_) (fun c7 => ?_)
  · exact absurd c7 (by omega)
  · refine M.iloadn (pc := 10) 3 rfl rfl dX3_ofBather_10 ?_
    refine M.aloadn (pc := 11) 0 rfl rfl dX3_ofBather_11 ?_
    refine M.getf (pc := 12) fg_X3_15 0 rfl rfl dX3_ofBather_12 ?_
    refine M.alenI (pc := 15) 2 rfl dX3_ofBather_15 ?_
    refine M.icmp_ge (pc := 16) (tgt := 28) dX3_ofBather_16 (by decide) (by omega) (by omega) (fun c16 => ?_) (fun c16 => ?_)
    · exact absurd c16 (by omega)
    · refine M.aloadn (pc := 19) 0 rfl rfl dX3_ofBather_19 ?_
      refine M.getf (pc := 20) fg_X3_15 0 rfl rfl dX3_ofBather_20 ?_
      refine M.iloadn (pc := 23) 3 rfl rfl dX3_ofBather_23 ?_
      refine M.iald (pc := 24) 2 rfl (by omega) (by omega) dX3_ofBather_24 ?_
      refine M.goto (pc := 25) (tgt := 29) dX3_ofBather_25 (by decide) ?_
      exact EI () _ _ _ _ dX3_ofBather_29 (Or.inl rfl) (eqI (by rfl)) rfl trivial
set_option maxHeartbeats 4000000 in
set_option maxRecDepth 100000 in
theorem c_X3_measure {l : Launch} {G : GT} {h hb ht : Nat} {fb ft : Int → Int} {nb n od : Int} {b : Int} (hB : HB fb) (hb0 : 0 ≤ b ∧ b < 2) : ConF l G yX3_measure cX3_measure 2 (some .int) { frames := 1, cells := 0, slots := 0, locals := 23 } [.ref h, .int (iI b)] [(h, eO 3 [.ref hb, .ref ht, .int (iI nb), .int (iI n), .int (iI od)]), (hb, eI G 8 fb), (ht, eI G 24 ft)] (some (.int (iI (hMea fb b)))) := by
  refine Con.mk (by decide +kernel) [some (.ref h), some (.int (iI b))] rfl (Nat.le_of_ble_eq_true rfl) rfl ?_
  intro V M EI EL EV EA
  obtain ⟨a1, a2, -, -⟩ := hB b hb0.1 hb0.2
  have hm := bound_mul a1.1 a1.2 a2.1 a2.2
  refine M.iconst (pc := 0) dX3_measure_0 ?_
  refine M.aloadn (pc := 1) 0 rfl rfl dX3_measure_1 ?_
  refine M.iloadn (pc := 2) 1 rfl rfl dX3_measure_2 ?_
  refine M.iconst (pc := 3) dX3_measure_3 ?_
  refine M.pV (pc := 4) (c_X3_ofBath  (by first | assumption | omega) (by first | assumption | omega)) mv_X3_40 [0, 1, 2] rfl rfl rfl 0 rfl rfl rfl rfl (Nat.le_of_ble_eq_true rfl) rfl ⟨(Nat.le_of_ble_eq_true rfl), (Nat.le_of_ble_eq_true rfl)⟩ ⟨(Nat.le_of_ble_eq_true rfl), (Nat.le_of_ble_eq_true rfl)⟩ rfl dX3_measure_4 ?_
  refine M.aloadn (pc := 7) 0 rfl rfl dX3_measure_7 ?_
  refine M.iloadn (pc := 8) 1 rfl rfl dX3_measure_8 ?_
  refine M.iconst (pc := 9) dX3_measure_9 ?_
  refine M.pV (pc := 10) (c_X3_ofBath  (by first | assumption | omega) (by first | assumption | omega)) mv_X3_40 [0, 1, 2] rfl rfl rfl 0 rfl rfl rfl rfl (Nat.le_of_ble_eq_true rfl) rfl ⟨(Nat.le_of_ble_eq_true rfl), (Nat.le_of_ble_eq_true rfl)⟩ ⟨(Nat.le_of_ble_eq_true rfl), (Nat.le_of_ble_eq_true rfl)⟩ rfl dX3_measure_10 ?_
  refine M.imul (pc := 13) dX3_measure_13 ?_
  refine M.max (pc := 14) ml_X3_44 (by omega) (by omega) rfl ⟨(Nat.le_of_ble_eq_true rfl), (Nat.le_of_ble_eq_true rfl), (Nat.le_of_ble_eq_true rfl), (Nat.le_of_ble_eq_true rfl)⟩ dX3_measure_14 ?_
  exact EI () _ _ _ _ dX3_measure_17 (Or.inl rfl) (eqI (by rfl)) rfl trivial
set_option maxHeartbeats 4000000 in
set_option maxRecDepth 100000 in
theorem c_X3_waterAt {l : Launch} {G : GT} {h hb ht : Nat} {fb ft : Int → Int} {nb n od : Int} {b hr : Int} (hB : HB fb) (hb0 : 0 ≤ b ∧ b < 2) (hh : 0 ≤ hr ∧ hr < 100) : ConF l G yX3_waterAt cX3_waterAt 3 (some .int) { frames := 1, cells := 0, slots := 0, locals := 23 } [.ref h, .int (iI b), .int (iI hr)] [(h, eO 3 [.ref hb, .ref ht, .int (iI nb), .int (iI n), .int (iI od)]), (hb, eI G 8 fb), (ht, eI G 24 ft)] (some (.int (iI (hWat fb b hr)))) := by
  refine Con.mk (by decide +kernel) [some (.ref h), some (.int (iI b)), some (.int (iI hr))] rfl (Nat.le_of_ble_eq_true rfl) rfl ?_
  intro V M EI EL EV EA
  obtain ⟨-, -, a3, a4⟩ := hB b hb0.1 hb0.2
  have hm := bound_mul a4.1 a4.2 hh.1 (by omega : hr ≤ 99)
  refine M.iconst (pc := 0) dX3_waterAt_0 ?_
  refine M.aloadn (pc := 1) 0 rfl rfl dX3_waterAt_1 ?_
  refine M.iloadn (pc := 2) 1 rfl rfl dX3_waterAt_2 ?_
  refine M.iconst (pc := 3) dX3_waterAt_3 ?_
  refine M.pV (pc := 4) (c_X3_ofBath  (by first | assumption | omega) (by first | assumption | omega)) mv_X3_40 [0, 1, 2] rfl rfl rfl 0 rfl rfl rfl rfl (Nat.le_of_ble_eq_true rfl) rfl ⟨(Nat.le_of_ble_eq_true rfl), (Nat.le_of_ble_eq_true rfl)⟩ ⟨(Nat.le_of_ble_eq_true rfl), (Nat.le_of_ble_eq_true rfl)⟩ rfl dX3_waterAt_4 ?_
  refine M.aloadn (pc := 7) 0 rfl rfl dX3_waterAt_7 ?_
  refine M.iloadn (pc := 8) 1 rfl rfl dX3_waterAt_8 ?_
  refine M.iconst (pc := 9) dX3_waterAt_9 ?_
  refine M.pV (pc := 10) (c_X3_ofBath  (by first | assumption | omega) (by first | assumption | omega)) mv_X3_40 [0, 1, 2] rfl rfl rfl 0 rfl rfl rfl rfl (Nat.le_of_ble_eq_true rfl) rfl ⟨(Nat.le_of_ble_eq_true rfl), (Nat.le_of_ble_eq_true rfl)⟩ ⟨(Nat.le_of_ble_eq_true rfl), (Nat.le_of_ble_eq_true rfl)⟩ rfl dX3_waterAt_10 ?_
  refine M.iloadn (pc := 13) 2 rfl rfl dX3_waterAt_13 ?_
  refine M.imul (pc := 14) dX3_waterAt_14 ?_
  refine M.isub (pc := 15) dX3_waterAt_15 ?_
  refine M.max (pc := 16) ml_X3_44 (by omega) (by omega) rfl ⟨(Nat.le_of_ble_eq_true rfl), (Nat.le_of_ble_eq_true rfl), (Nat.le_of_ble_eq_true rfl), (Nat.le_of_ble_eq_true rfl)⟩ dX3_waterAt_16 ?_
  exact EI () _ _ _ _ dX3_waterAt_19 (Or.inl rfl) (eqI (by rfl)) rfl trivial
set_option maxHeartbeats 4000000 in
set_option maxRecDepth 100000 in
theorem c_X3_heightOf {l : Launch} {G : GT} {h hb ht : Nat} {fb ft : Int → Int} {nb n od : Int} {b hr s : Int} (hB : HB fb) (hb0 : 0 ≤ b ∧ b < 2) (hh : 0 ≤ hr ∧ hr < 100) (hs : 0 ≤ s ∧ s ≤ 100000) : ConF l G yX3_heightOf cX3_heightOf 4 (some .int) { frames := 2, cells := 0, slots := 0, locals := 45 } [.ref h, .int (iI b), .int (iI hr), .int (iI s)] [(h, eO 3 [.ref hb, .ref ht, .int (iI nb), .int (iI n), .int (iI od)]), (hb, eI G 8 fb), (ht, eI G 24 ft)] (some (.int (iI (hHei fb b hr s)))) := by
  refine Con.mk (by decide +kernel) [some (.ref h), some (.int (iI b)), some (.int (iI hr)), some (.int (iI s))] rfl (Nat.le_of_ble_eq_true rfl) rfl ?_
  intro V M EI EL EV EA
  have hm := hMea_b hB hb0.1 hb0.2
  have hw := hWat_b hB hb0.1 hb0.2 hh.1
  refine M.aloadn (pc := 0) 0 rfl rfl dX3_heightOf_0 ?_
  refine M.iloadn (pc := 1) 1 rfl rfl dX3_heightOf_1 ?_
  refine M.iloadn (pc := 2) 2 rfl rfl dX3_heightOf_2 ?_
  refine M.pV (pc := 3) (c_X3_waterAt  (by first | assumption | omega) (by first | assumption | omega) (by first | assumption | omega)) mv_X3_49 [0, 1, 2] rfl rfl rfl 0 rfl rfl rfl rfl (Nat.le_of_ble_eq_true rfl) rfl ⟨(Nat.le_of_ble_eq_true rfl), (Nat.le_of_ble_eq_true rfl)⟩ ⟨(Nat.le_of_ble_eq_true rfl), (Nat.le_of_ble_eq_true rfl)⟩ rfl dX3_heightOf_3 ?_
  refine M.iloadn (pc := 6) 3 rfl rfl dX3_heightOf_6 ?_
  refine M.iadd (pc := 7) dX3_heightOf_7 ?_
  refine M.aloadn (pc := 8) 0 rfl rfl dX3_heightOf_8 ?_
  refine M.iloadn (pc := 9) 1 rfl rfl dX3_heightOf_9 ?_
  refine M.pV (pc := 10) (c_X3_measure  (by first | assumption | omega) (by first | assumption | omega)) mv_X3_52 [0, 1, 2] rfl rfl rfl 0 rfl rfl rfl rfl (Nat.le_of_ble_eq_true rfl) rfl ⟨(Nat.le_of_ble_eq_true rfl), (Nat.le_of_ble_eq_true rfl)⟩ ⟨(Nat.le_of_ble_eq_true rfl), (Nat.le_of_ble_eq_true rfl)⟩ rfl dX3_heightOf_10 ?_
  refine M.idiv (pc := 13) (by omega) (by omega) dX3_heightOf_13 ?_
  exact EI () _ _ _ _ dX3_heightOf_14 (Or.inl rfl) (eqI (by rfl)) rfl trivial
set_option maxHeartbeats 4000000 in
set_option maxRecDepth 100000 in
theorem c_X3_greatestOf {l : Launch} {G : GT} {h hb ht : Nat} {fb ft : Int → Int} {nb n od : Int} {b hr v : Int} (hB : HB fb) (hb0 : 0 ≤ b ∧ b < 2) (hh : 0 ≤ hr ∧ hr < 100) (hv : 0 ≤ v ∧ v < 100000) : ConF l G yX3_greatestOf cX3_greatestOf 5 (some .int) { frames := 2, cells := 0, slots := 0, locals := 45 } [.ref h, .int (iI b), .int (iI hr), .int (iI v)] [(h, eO 3 [.ref hb, .ref ht, .int (iI nb), .int (iI n), .int (iI od)]), (hb, eI G 8 fb), (ht, eI G 24 ft)] (some (.int (iI (hGre fb b hr v)))) := by
  refine Con.mk (by decide +kernel) [some (.ref h), some (.int (iI b)), some (.int (iI hr)), some (.int (iI v)), none] rfl (Nat.le_of_ble_eq_true rfl) rfl ?_
  intro V M EI EL EV EA
  have hm := hMea_b hB hb0.1 hb0.2
  have hw := hWat_b hB hb0.1 hb0.2 hh.1
  have hp := hMul_b hB hb0.1 hb0.2 hv.1 (by omega : v ≤ 99999)
  refine M.iloadn (pc := 0) 3 rfl rfl dX3_greatestOf_0 ?_
  refine M.aloadn (pc := 1) 0 rfl rfl dX3_greatestOf_1 ?_
  refine M.iloadn (pc := 2) 1 rfl rfl dX3_greatestOf_2 ?_
  refine M.pV (pc := 3) (c_X3_measure  (by first | assumption | omega) (by first | assumption | omega)) mv_X3_52 [0, 1, 2] rfl rfl rfl 0 rfl rfl rfl rfl (Nat.le_of_ble_eq_true rfl) rfl ⟨(Nat.le_of_ble_eq_true rfl), (Nat.le_of_ble_eq_true rfl)⟩ ⟨(Nat.le_of_ble_eq_true rfl), (Nat.le_of_ble_eq_true rfl)⟩ rfl dX3_greatestOf_3 ?_
  refine M.imul (pc := 6) dX3_greatestOf_6 ?_
  refine M.aloadn (pc := 7) 0 rfl rfl dX3_greatestOf_7 ?_
  refine M.iloadn (pc := 8) 1 rfl rfl dX3_greatestOf_8 ?_
  refine M.iloadn (pc := 9) 2 rfl rfl dX3_greatestOf_9 ?_
  refine M.pV (pc := 10) (c_X3_waterAt  (by first | assumption | omega) (by first | assumption | omega) (by first | assumption | omega)) mv_X3_49 [0, 1, 2] rfl rfl rfl 0 rfl rfl rfl rfl (Nat.le_of_ble_eq_true rfl) rfl ⟨(Nat.le_of_ble_eq_true rfl), (Nat.le_of_ble_eq_true rfl)⟩ ⟨(Nat.le_of_ble_eq_true rfl), (Nat.le_of_ble_eq_true rfl)⟩ rfl dX3_greatestOf_10 ?_
  refine M.isub (pc := 13) dX3_greatestOf_13 ?_
  refine M.istore (pc := 14) (i := 4) (Nat.le_of_ble_eq_true rfl) rfl dX3_greatestOf_14 ?_
  dsimp only [List.set_cons_zero, List.set_cons_succ]
  refine M.iconst (pc := 16) dX3_greatestOf_16 ?_
  refine M.iload (pc := 17) (i := 4) rfl dX3_greatestOf_17 ?_
  refine M.aloadn (pc := 19) 0 rfl rfl dX3_greatestOf_19 ?_
  refine M.iloadn (pc := 20) 1 rfl rfl dX3_greatestOf_20 ?_
  refine M.pV (pc := 21) (c_X3_measure  (by first | assumption | omega) (by first | assumption | omega)) mv_X3_52 [0, 1, 2] rfl rfl rfl 0 rfl rfl rfl rfl (Nat.le_of_ble_eq_true rfl) rfl ⟨(Nat.le_of_ble_eq_true rfl), (Nat.le_of_ble_eq_true rfl)⟩ ⟨(Nat.le_of_ble_eq_true rfl), (Nat.le_of_ble_eq_true rfl)⟩ rfl dX3_greatestOf_21 ?_
  refine M.iadd (pc := 24) dX3_greatestOf_24 ?_
  refine M.iconst (pc := 25) dX3_greatestOf_25 ?_
  refine M.isub (pc := 26) dX3_greatestOf_26 ?_
  refine M.max (pc := 27) ml_X3_44 (by omega) (by omega) rfl ⟨(Nat.le_of_ble_eq_true rfl), (Nat.le_of_ble_eq_true rfl), (Nat.le_of_ble_eq_true rfl), (Nat.le_of_ble_eq_true rfl)⟩ dX3_greatestOf_27 ?_
  exact EI () _ _ _ _ dX3_greatestOf_30 (Or.inl rfl) (eqI (by unfold hGre; omega)) rfl trivial
set_option maxHeartbeats 4000000 in
set_option maxRecDepth 100000 in
theorem c_X3_leastOf {l : Launch} {G : GT} {h hb ht : Nat} {fb ft : Int → Int} {nb n od : Int} {b hr v : Int} (hB : HB fb) (hb0 : 0 ≤ b ∧ b < 2) (hh : 0 ≤ hr ∧ hr < 100) (hv : 0 ≤ v ∧ v < 100000) : ConF l G yX3_leastOf cX3_leastOf 5 (some .int) { frames := 2, cells := 0, slots := 0, locals := 45 } [.ref h, .int (iI b), .int (iI hr), .int (iI v)] [(h, eO 3 [.ref hb, .ref ht, .int (iI nb), .int (iI n), .int (iI od)]), (hb, eI G 8 fb), (ht, eI G 24 ft)] (some (.int (iI (hLea fb b hr v)))) := by
  refine Con.mk (by decide +kernel) [some (.ref h), some (.int (iI b)), some (.int (iI hr)), some (.int (iI v)), none] rfl (Nat.le_of_ble_eq_true rfl) rfl ?_
  intro V M EI EL EV EA
  have hm := hMea_b hB hb0.1 hb0.2
  have hw := hWat_b hB hb0.1 hb0.2 hh.1
  have hp := hMul_b hB hb0.1 hb0.2 hv.1 (by omega : v ≤ 99999)
  refine M.iloadn (pc := 0) 3 rfl rfl dX3_leastOf_0 ?_
  refine M.aloadn (pc := 1) 0 rfl rfl dX3_leastOf_1 ?_
  refine M.iloadn (pc := 2) 1 rfl rfl dX3_leastOf_2 ?_
  refine M.pV (pc := 3) (c_X3_measure  (by first | assumption | omega) (by first | assumption | omega)) mv_X3_52 [0, 1, 2] rfl rfl rfl 0 rfl rfl rfl rfl (Nat.le_of_ble_eq_true rfl) rfl ⟨(Nat.le_of_ble_eq_true rfl), (Nat.le_of_ble_eq_true rfl)⟩ ⟨(Nat.le_of_ble_eq_true rfl), (Nat.le_of_ble_eq_true rfl)⟩ rfl dX3_leastOf_3 ?_
  refine M.imul (pc := 6) dX3_leastOf_6 ?_
  refine M.aloadn (pc := 7) 0 rfl rfl dX3_leastOf_7 ?_
  refine M.iloadn (pc := 8) 1 rfl rfl dX3_leastOf_8 ?_
  refine M.iloadn (pc := 9) 2 rfl rfl dX3_leastOf_9 ?_
  refine M.pV (pc := 10) (c_X3_waterAt  (by first | assumption | omega) (by first | assumption | omega) (by first | assumption | omega)) mv_X3_49 [0, 1, 2] rfl rfl rfl 0 rfl rfl rfl rfl (Nat.le_of_ble_eq_true rfl) rfl ⟨(Nat.le_of_ble_eq_true rfl), (Nat.le_of_ble_eq_true rfl)⟩ ⟨(Nat.le_of_ble_eq_true rfl), (Nat.le_of_ble_eq_true rfl)⟩ rfl dX3_leastOf_10 ?_
  refine M.isub (pc := 13) dX3_leastOf_13 ?_
  refine M.istore (pc := 14) (i := 4) (Nat.le_of_ble_eq_true rfl) rfl dX3_leastOf_14 ?_
  dsimp only [List.set_cons_zero, List.set_cons_succ]
  refine M.iload (pc := 16) (i := 4) rfl dX3_leastOf_16 ?_
  refine M.aloadn (pc := 18) 0 rfl rfl dX3_leastOf_18 ?_
  refine M.iloadn (pc := 19) 1 rfl rfl dX3_leastOf_19 ?_
  refine M.pV (pc := 20) (c_X3_measure  (by first | assumption | omega) (by first | assumption | omega)) mv_X3_52 [0, 1, 2] rfl rfl rfl 0 rfl rfl rfl rfl (Nat.le_of_ble_eq_true rfl) rfl ⟨(Nat.le_of_ble_eq_true rfl), (Nat.le_of_ble_eq_true rfl)⟩ ⟨(Nat.le_of_ble_eq_true rfl), (Nat.le_of_ble_eq_true rfl)⟩ rfl dX3_leastOf_20 ?_
  refine M.iadd (pc := 23) dX3_leastOf_23 ?_
  refine M.if_le (pc := 24) (tgt := 36) dX3_leastOf_24 (by decide) (by omega) (fun c24 => ?_) (fun c24 => ?_)
  · refine M.iconst (pc := 36) dX3_leastOf_36 ?_
    exact EI () _ _ _ _ dX3_leastOf_37 (Or.inl rfl) (eqI (by first | exact if_pos (by unfold hGre; omega) | exact if_neg (by unfold hGre; omega))) rfl trivial
  · refine M.iconst (pc := 27) dX3_leastOf_27 ?_
    refine M.iload (pc := 28) (i := 4) rfl dX3_leastOf_28 ?_
    refine M.max (pc := 30) ml_X3_44 (by omega) (by omega) rfl ⟨(Nat.le_of_ble_eq_true rfl), (Nat.le_of_ble_eq_true rfl), (Nat.le_of_ble_eq_true rfl), (Nat.le_of_ble_eq_true rfl)⟩ dX3_leastOf_30 ?_
    refine M.goto (pc := 33) (tgt := 37) dX3_leastOf_33 (by decide) ?_
    exact EI () _ _ _ _ dX3_leastOf_37 (Or.inl rfl) (eqI (by first | exact if_pos (by unfold hGre; omega) | exact if_neg (by unfold hGre; omega))) rfl trivial
set_option maxHeartbeats 4000000 in
set_option maxRecDepth 100000 in
theorem c_X3_finest {l : Launch} {G : GT} {h hb ht : Nat} {fb ft : Int → Int} {nb n od : Int} (hB : HB fb) (hnb : 0 ≤ nb ∧ nb ≤ 2) : ConF l G yX3_finest cX3_finest 1 (some .int) { frames := 2, cells := 0, slots := 0, locals := 44 } [.ref h] [(h, eO 3 [.ref hb, .ref ht, .int (iI nb), .int (iI n), .int (iI od)]), (hb, eI G 8 fb), (ht, eI G 24 ft)] (some (.int (iI (if nb = 2 ∧ hMea fb 1 < hMea fb 0 then 1 else 0)))) := by
  refine Con.mk (by decide +kernel) [some (.ref h)] rfl (Nat.le_of_ble_eq_true rfl) rfl ?_
  intro V M EI EL EV EA
  have hm := hMea_b hB (by omega : (0 : Int) ≤ 0) (by omega)
  have hm1 := hMea_b hB (by omega : (0 : Int) ≤ 1) (by omega)
  refine M.aloadn (pc := 0) 0 rfl rfl dX3_finest_0 ?_
  refine M.getf (pc := 1) fg_X3_22 0 rfl rfl dX3_finest_1 ?_
  refine M.iconst (pc := 4) dX3_finest_4 ?_
  refine M.icmp_ne (pc := 5) (tgt := 25) dX3_finest_5 (by decide) (by omega) (by omega) (fun c5 => ?_) (fun c5 => ?_)
  · refine M.iconst (pc := 25) dX3_finest_25 ?_
    exact EI () _ _ _ _ dX3_finest_26 (Or.inl rfl) (eqI (by first | exact if_pos (by omega) | exact if_neg (by omega))) rfl trivial
  · refine M.aloadn (pc := 8) 0 rfl rfl dX3_finest_8 ?_
    refine M.iconst (pc := 9) dX3_finest_9 ?_
    refine M.pV (pc := 10) (c_X3_measure  (by first | assumption | omega) (by first | assumption | omega)) mv_X3_52 [0, 1, 2] rfl rfl rfl 0 rfl rfl rfl rfl (Nat.le_of_ble_eq_true rfl) rfl ⟨(Nat.le_of_ble_eq_true rfl), (Nat.le_of_ble_eq_true rfl)⟩ ⟨(Nat.le_of_ble_eq_true rfl), (Nat.le_of_ble_eq_true rfl)⟩ rfl dX3_finest_10 ?_
    refine M.aloadn (pc := 13) 0 rfl rfl dX3_finest_13 ?_
    refine M.iconst (pc := 14) dX3_finest_14 ?_
    refine M.pV (pc := 15) (c_X3_measure  (by first | assumption | omega) (by first | assumption | omega)) mv_X3_52 [0, 1, 2] rfl rfl rfl 0 rfl rfl rfl rfl (Nat.le_of_ble_eq_true rfl) rfl ⟨(Nat.le_of_ble_eq_true rfl), (Nat.le_of_ble_eq_true rfl)⟩ ⟨(Nat.le_of_ble_eq_true rfl), (Nat.le_of_ble_eq_true rfl)⟩ rfl dX3_finest_15 ?_
    refine M.icmp_ge (pc := 18) (tgt := 25) dX3_finest_18 (by decide) (by omega) (by omega) (fun c18 => ?_) (fun c18 => ?_)
    · refine M.iconst (pc := 25) dX3_finest_25 ?_
      exact EI () _ _ _ _ dX3_finest_26 (Or.inl rfl) (eqI (by first | exact if_pos (by omega) | exact if_neg (by omega))) rfl trivial
    · refine M.iconst (pc := 21) dX3_finest_21 ?_
      refine M.goto (pc := 22) (tgt := 26) dX3_finest_22 (by decide) ?_
      exact EI () _ _ _ _ dX3_finest_26 (Or.inl rfl) (eqI (by first | exact if_pos (by omega) | exact if_neg (by omega))) rfl trivial
set_option maxHeartbeats 4000000 in
set_option maxRecDepth 100000 in
theorem c_X3_inCase {l : Launch} {G : GT} {h hb ht : Nat} {fb ft : Int → Int} {nb n od : Int} {S c : Int} (hT : HT ft) (hn : 0 ≤ n ∧ n ≤ 6) (ho : 0 ≤ od ∧ od ≤ 999) (hs : 0 ≤ S ∧ S < 2147483648) (hc : 0 ≤ c ∧ c < 13) : ConF l G yX3_inCase cX3_inCase 5 (some .int) { frames := 1, cells := 0, slots := 0, locals := 23 } [.ref h, .int (iI S), .int (iI c)] [(h, eO 3 [.ref hb, .ref ht, .int (iI nb), .int (iI n), .int (iI od)]), (hb, eI G 8 fb), (ht, eI G 24 ft)] (some (.int (iI (caseS ft od n.toNat S c)))) := by
  refine Con.mk (by decide +kernel) [some (.ref h), some (.int (iI S)), some (.int (iI c)), none, none] rfl (Nat.le_of_ble_eq_true rfl) rfl ?_
  intro V M EI EL EV EA
  refine M.iconst (pc := 0) dX3_inCase_0 ?_
  refine M.istoren (pc := 1) 3 rfl (Nat.le_of_ble_eq_true rfl) rfl dX3_inCase_1 ?_
  dsimp only [List.set_cons_zero, List.set_cons_succ]
  refine M.iconst (pc := 2) dX3_inCase_2 ?_
  refine M.istore (pc := 3) (i := 4) (Nat.le_of_ble_eq_true rfl) rfl dX3_inCase_3 ?_
  dsimp only [List.set_cons_zero, List.set_cons_succ]
  have L5 : ∀ (fu : Nat) {k s : Int}, (0 ≤ k ∧ k ≤ n) → (s = caseS ft od k.toNat S c) → (n - k).toNat < fu → V 0 0 5 [(h, eO 3 [.ref hb, .ref ht, .int (iI nb), .int (iI n), .int (iI od)]), (hb, eI G 8 fb), (ht, eI G 24 ft)] [some (.ref h), some (.int (iI S)), some (.int (iI c)), some (.int (iI s)), some (.int (iI k))] [] := by
    intro fu
    induction fu with
    | zero => intro k s hk hs2 hm; exact absurd hm (Nat.not_lt_zero _)
    | succ fu ih5 =>
      intro k s hk hs2 hm5
      refine M.iload (pc := 5) (i := 4) rfl dX3_inCase_5 ?_
      refine M.aloadn (pc := 7) 0 rfl rfl dX3_inCase_7 ?_
      refine M.getf (pc := 8) fg_X3_25 0 rfl rfl dX3_inCase_8 ?_
      refine M.icmp_ge (pc := 11) (tgt := 65) dX3_inCase_11 (by decide) (by omega) (by omega) (fun c11 => ?_) (fun c11 => ?_)
      · refine M.iloadn (pc := 65) 3 rfl rfl dX3_inCase_65 ?_
        exact EI () _ _ _ _ dX3_inCase_66 (Or.inl rfl) (eqI (by rw [hs2]; congr 2; omega)) rfl trivial
      · have hb2 := caseS_b (S := S) (which := c) hT ho (by omega : k.toNat ≤ 6)
        have hst := sumT_s (caseF ft od c) S hk.1
        have hT2 := (hT k hk.1 (by omega)).2.2.1
        refine M.iloadn (pc := 14) 1 rfl rfl dX3_inCase_14 ?_
        refine M.iload (pc := 15) (i := 4) rfl dX3_inCase_15 ?_
        refine M.pSN (pc := 17) (c_X7_has  (by first | assumption | omega) (by first | assumption | omega) (by first | assumption | omega) (by first | assumption | omega)) ms_X3_59 [] rfl rfl rfl rfl (Nat.le_of_ble_eq_true rfl) rfl ⟨(Nat.le_of_ble_eq_true rfl), (Nat.le_of_ble_eq_true rfl)⟩ ⟨(Nat.le_of_ble_eq_true rfl), (Nat.le_of_ble_eq_true rfl)⟩ rfl dX3_inCase_17 ?_
        refine M.if_eqP (pc := 20) (tgt := 59) dX3_inCase_20 (by decide) (fun c20 => ?_) (fun c20 => ?_)
        · refine M.iinc (pc := 59) (i := 4) rfl rfl dX3_inCase_59 ?_
          dsimp only [List.set_cons_zero, List.set_cons_succ]
          refine M.goto (pc := 62) (tgt := 5) dX3_inCase_62 (by decide) ?_
          exact ih5  (by first | assumption | omega) (by unfold caseS at *; rw [hst]; simp_all [caseF]; try omega) (by omega)
        · refine M.iloadn (pc := 23) 2 rfl rfl dX3_inCase_23 ?_
          refine M.bipush (pc := 24) (by decide +kernel) dX3_inCase_24 ?_
          refine M.iload (pc := 26) (i := 4) rfl dX3_inCase_26 ?_
          refine M.iadd (pc := 28) dX3_inCase_28 ?_
          refine M.icmp_eq (pc := 29) (tgt := 59) dX3_inCase_29 (by decide) (by omega) (by omega) (fun c29 => ?_) (fun c29 => ?_)
          · refine M.iinc (pc := 59) (i := 4) rfl rfl dX3_inCase_59 ?_
            dsimp only [List.set_cons_zero, List.set_cons_succ]
            refine M.goto (pc := 62) (tgt := 5) dX3_inCase_62 (by decide) ?_
            exact ih5  (by first | assumption | omega) (by unfold caseS at *; rw [hst]; simp_all [caseF]; try omega) (by omega)
          · refine M.iloadn (pc := 32) 3 rfl rfl dX3_inCase_32 ?_
            refine M.aloadn (pc := 33) 0 rfl rfl dX3_inCase_33 ?_
            refine M.iload (pc := 34) (i := 4) rfl dX3_inCase_34 ?_
            refine M.iconst (pc := 36) dX3_inCase_36 ?_
            refine M.pV (pc := 37) (c_X3_ofBather  (by first | assumption | omega) (by first | assumption | omega)) mv_X3_63 [0, 1, 2] rfl rfl rfl 0 rfl rfl rfl rfl (Nat.le_of_ble_eq_true rfl) rfl ⟨(Nat.le_of_ble_eq_true rfl), (Nat.le_of_ble_eq_true rfl)⟩ ⟨(Nat.le_of_ble_eq_true rfl), (Nat.le_of_ble_eq_true rfl)⟩ rfl dX3_inCase_37 ?_
            refine M.iloadn (pc := 40) 2 rfl rfl dX3_inCase_40 ?_
            refine M.iconst (pc := 41) dX3_inCase_41 ?_
            refine M.iload (pc := 42) (i := 4) rfl dX3_inCase_42 ?_
            refine M.iadd (pc := 44) dX3_inCase_44 ?_
            refine M.icmp_ne (pc := 45) (tgt := 55) dX3_inCase_45 (by decide) (by omega) (by omega) (fun c45 => ?_) (fun c45 => ?_)
            · refine M.iconst (pc := 55) dX3_inCase_55 ?_
              refine M.iadd (pc := 56) dX3_inCase_56 ?_
              refine M.iadd (pc := 57) dX3_inCase_57 ?_
              refine M.istoren (pc := 58) 3 rfl (Nat.le_of_ble_eq_true rfl) rfl dX3_inCase_58 ?_
              dsimp only [List.set_cons_zero, List.set_cons_succ]
              refine M.iinc (pc := 59) (i := 4) rfl rfl dX3_inCase_59 ?_
              dsimp only [List.set_cons_zero, List.set_cons_succ]
              refine M.goto (pc := 62) (tgt := 5) dX3_inCase_62 (by decide) ?_
              exact ih5  (by first | assumption | omega) (by unfold caseS at *; rw [hst]; simp_all [caseF]; try omega) (by omega)
            · refine M.aloadn (pc := 48) 0 rfl rfl dX3_inCase_48 ?_
              refine M.getf (pc := 49) fg_X3_18 0 rfl rfl dX3_inCase_49 ?_
              refine M.goto (pc := 52) (tgt := 56) dX3_inCase_52 (by decide) ?_
              refine M.iadd (pc := 56) dX3_inCase_56 ?_
              refine M.iadd (pc := 57) dX3_inCase_57 ?_
              refine M.istoren (pc := 58) 3 rfl (Nat.le_of_ble_eq_true rfl) rfl dX3_inCase_58 ?_
              dsimp only [List.set_cons_zero, List.set_cons_succ]
              refine M.iinc (pc := 59) (i := 4) rfl rfl dX3_inCase_59 ?_
              dsimp only [List.set_cons_zero, List.set_cons_succ]
              refine M.goto (pc := 62) (tgt := 5) dX3_inCase_62 (by decide) ?_
              exact ih5  (by first | assumption | omega) (by unfold caseS at *; rw [hst]; simp_all [caseF]; try omega) (by omega)
  exact L5 _  (by first | assumption | omega) (by rfl) (Nat.lt_succ_self _)
set_option maxHeartbeats 4000000 in
set_option maxRecDepth 100000 in
theorem c_X3_inTruth {l : Launch} {G : GT} {h hb ht : Nat} {fb ft : Int → Int} {nb n od : Int} {S : Int} (hT : HT ft) (hn : 0 ≤ n ∧ n ≤ 6) (ho : 0 ≤ od ∧ od ≤ 999) (hs : 0 ≤ S ∧ S < 2147483648) : ConF l G yX3_inTruth cX3_inTruth 2 (some .int) { frames := 2, cells := 0, slots := 0, locals := 47 } [.ref h, .int (iI S)] [(h, eO 3 [.ref hb, .ref ht, .int (iI nb), .int (iI n), .int (iI od)]), (hb, eI G 8 fb), (ht, eI G 24 ft)] (some (.int (iI (caseS ft od n.toNat S 0)))) := by
  refine Con.mk (by decide +kernel) [some (.ref h), some (.int (iI S))] rfl (Nat.le_of_ble_eq_true rfl) rfl ?_
  intro V M EI EL EV EA
  refine M.aloadn (pc := 0) 0 rfl rfl dX3_inTruth_0 ?_
  refine M.iloadn (pc := 1) 1 rfl rfl dX3_inTruth_1 ?_
  refine M.iconst (pc := 2) dX3_inTruth_2 ?_
  refine M.pV (pc := 3) (c_X3_inCase  (by first | assumption | omega) (by first | assumption | omega) (by first | assumption | omega) (by first | assumption | omega) (by first | assumption | omega)) mv_X3_56 [0, 1, 2] rfl rfl rfl 0 rfl rfl rfl rfl (Nat.le_of_ble_eq_true rfl) rfl ⟨(Nat.le_of_ble_eq_true rfl), (Nat.le_of_ble_eq_true rfl)⟩ ⟨(Nat.le_of_ble_eq_true rfl), (Nat.le_of_ble_eq_true rfl)⟩ rfl dX3_inTruth_3 ?_
  exact EI () _ _ _ _ dX3_inTruth_6 (Or.inl rfl) (eqI (by rfl)) rfl trivial
set_option maxHeartbeats 4000000 in
set_option maxRecDepth 100000 in
theorem c_X3_oddsOf {l : Launch} {G : GT} {h hb ht : Nat} {fb ft : Int → Int} {nb n od : Int} {S : Int} (hT : HT ft) (hn : 0 ≤ n ∧ n ≤ 6) (hs : 0 ≤ S ∧ S < 2147483648) : ConF l G yX3_oddsOf cX3_oddsOf 6 (some .int) { frames := 1, cells := 0, slots := 0, locals := 23 } [.ref h, .int (iI S)] [(h, eO 3 [.ref hb, .ref ht, .int (iI nb), .int (iI n), .int (iI od)]), (hb, eI G 8 fb), (ht, eI G 24 ft)] (some (.int (iI (oddsN ft S n.toNat)))) := by
  refine Con.mk (by decide +kernel) [some (.ref h), some (.int (iI S)), none, none, none, none] rfl (Nat.le_of_ble_eq_true rfl) rfl ?_
  intro V M EI EL EV EA
  refine M.ldc2 (pc := 0) (1000000000) lc_X3_66 (by decide +kernel) dX3_oddsOf_0 ?_
  refine M.lstoren (pc := 3) 2 rfl (Nat.le_of_ble_eq_true rfl) rfl dX3_oddsOf_3 ?_
  dsimp only [List.set_cons_zero, List.set_cons_succ]
  refine M.iconst (pc := 4) dX3_oddsOf_4 ?_
  refine M.istore (pc := 5) (i := 4) (Nat.le_of_ble_eq_true rfl) rfl dX3_oddsOf_5 ?_
  dsimp only [List.set_cons_zero, List.set_cons_succ]
  have L7 : ∀ (fu : Nat) {k s : Int}, (0 ≤ k ∧ k ≤ n) → (s = oddsN ft S k.toNat) → (n - k).toNat < fu → V 0 0 7 [(h, eO 3 [.ref hb, .ref ht, .int (iI nb), .int (iI n), .int (iI od)]), (hb, eI G 8 fb), (ht, eI G 24 ft)] [some (.ref h), some (.int (iI S)), some (.long (lI s)), none, some (.int (iI k)), none] [] := by
    intro fu
    induction fu with
    | zero => intro k s hk hs2 hm; exact absurd hm (Nat.not_lt_zero _)
    | succ fu ih7 =>
      intro k s hk hs2 hm7
      refine M.iload (pc := 7) (i := 4) rfl dX3_oddsOf_7 ?_
      refine M.aloadn (pc := 9) 0 rfl rfl dX3_oddsOf_9 ?_
      refine M.getf (pc := 10) fg_X3_25 0 rfl rfl dX3_oddsOf_10 ?_
      refine M.icmp_ge (pc := 13) (tgt := 58) dX3_oddsOf_13 (by decide) (by omega) (by omega) (fun c13 => ?_) (fun c13 => ?_)
      · refine M.lloadn (pc := 58) 2 rfl rfl dX3_oddsOf_58 ?_
        refine M.l2i (pc := 59) dX3_oddsOf_59 ?_
        exact EI () _ _ _ _ dX3_oddsOf_60 (Or.inl rfl) (eqI (by rw [hs2]; congr 1; omega)) rfl trivial
      · have hb2 := oddsN_b (S := S) hT k.toNat (by omega)
        have hst := oddsN_s ft S hk.1
        have hT2 := (hT k hk.1 (by omega)).2.2.2
        have hm1 := bound_mul hb2.1 hb2.2 hT2.1 hT2.2
        have hm2 := bound_mul hb2.1 hb2.2 (by omega : 0 ≤ 100 - ft (k * 4 + 3)) (by omega : 100 - ft (k * 4 + 3) ≤ 100)
        rw [← hs2] at hb2 hst hm1 hm2
        refine M.aloadn (pc := 16) 0 rfl rfl dX3_oddsOf_16 ?_
        refine M.iload (pc := 17) (i := 4) rfl dX3_oddsOf_17 ?_
        refine M.iconst (pc := 19) dX3_oddsOf_19 ?_
        refine M.pV (pc := 20) (c_X3_ofBather  (by first | assumption | omega) (by first | assumption | omega)) mv_X3_63 [0, 1, 2] rfl rfl rfl 0 rfl rfl rfl rfl (Nat.le_of_ble_eq_true rfl) rfl ⟨(Nat.le_of_ble_eq_true rfl), (Nat.le_of_ble_eq_true rfl)⟩ ⟨(Nat.le_of_ble_eq_true rfl), (Nat.le_of_ble_eq_true rfl)⟩ rfl dX3_oddsOf_20 ?_
        refine M.istore (pc := 23) (i := 5) (Nat.le_of_ble_eq_true rfl) rfl dX3_oddsOf_23 ?_
        dsimp only [List.set_cons_zero, List.set_cons_succ]
        refine M.lloadn (pc := 25) 2 rfl rfl dX3_oddsOf_25 ?_
        refine M.iloadn (pc := 26) 1 rfl rfl dX3_oddsOf_26 ?_
        refine M.iload (pc := 27) (i := 4) rfl dX3_oddsOf_27 ?_
        refine M.pSN (pc := 29) (c_X7_has  (by first | assumption | omega) (by first | assumption | omega) (by first | assumption | omega) (by first | assumption | omega)) ms_X3_59 [] rfl rfl rfl rfl (Nat.le_of_ble_eq_true rfl) rfl ⟨(Nat.le_of_ble_eq_true rfl), (Nat.le_of_ble_eq_true rfl)⟩ ⟨(Nat.le_of_ble_eq_true rfl), (Nat.le_of_ble_eq_true rfl)⟩ rfl dX3_oddsOf_29 ?_
        refine M.if_eqP (pc := 32) (tgt := 40) dX3_oddsOf_32 (by decide) (fun c32 => ?_) (fun c32 => ?_)
        · refine M.bipush (pc := 40) (by decide +kernel) dX3_oddsOf_40 ?_
          refine M.iload (pc := 42) (i := 5) rfl dX3_oddsOf_42 ?_
          refine M.isub (pc := 44) dX3_oddsOf_44 ?_
          refine M.i2l (pc := 45) (by omega) dX3_oddsOf_45 ?_
          refine M.lmul (pc := 46) dX3_oddsOf_46 ?_
          refine M.ldc2 (pc := 47) (100) lc_X3_68 (by decide +kernel) dX3_oddsOf_47 ?_
          refine M.ldiv (pc := 50) (by omega) (by omega) dX3_oddsOf_50 ?_
          refine M.lstoren (pc := 51) 2 rfl (Nat.le_of_ble_eq_true rfl) rfl dX3_oddsOf_51 ?_
          dsimp only [List.set_cons_zero, List.set_cons_succ]
          refine M.iinc (pc := 52) (i := 4) rfl rfl dX3_oddsOf_52 ?_
          dsimp only [List.set_cons_zero, List.set_cons_succ]
          refine M.goto (pc := 55) (tgt := 7) dX3_oddsOf_55 (by decide) ?_
          refine M.forget 5 ?_
          dsimp only [List.set_cons_zero, List.set_cons_succ]
          exact ih7  (by first | assumption | omega) (by rw [hst]; simp_all) (by omega)
        · refine M.iload (pc := 35) (i := 5) rfl dX3_oddsOf_35 ?_
          refine M.goto (pc := 37) (tgt := 45) dX3_oddsOf_37 (by decide) ?_
          refine M.i2l (pc := 45) (by omega) dX3_oddsOf_45 ?_
          refine M.lmul (pc := 46) dX3_oddsOf_46 ?_
          refine M.ldc2 (pc := 47) (100) lc_X3_68 (by decide +kernel) dX3_oddsOf_47 ?_
          refine M.ldiv (pc := 50) (by omega) (by omega) dX3_oddsOf_50 ?_
          refine M.lstoren (pc := 51) 2 rfl (Nat.le_of_ble_eq_true rfl) rfl dX3_oddsOf_51 ?_
          dsimp only [List.set_cons_zero, List.set_cons_succ]
          refine M.iinc (pc := 52) (i := 4) rfl rfl dX3_oddsOf_52 ?_
          dsimp only [List.set_cons_zero, List.set_cons_succ]
          refine M.goto (pc := 55) (tgt := 7) dX3_oddsOf_55 (by decide) ?_
          refine M.forget 5 ?_
          dsimp only [List.set_cons_zero, List.set_cons_succ]
          exact ih7  (by first | assumption | omega) (by rw [hst]; simp_all) (by omega)
  exact L7 _  (by first | assumption | omega) (by rfl) (Nat.lt_succ_self _)
