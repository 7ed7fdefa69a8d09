/-! the class's calls -/
section NULLS
variable {l : Launch} {own nm : String} {b : ByteArray} {nL : Nat} {R : Room} {G : GT} {V : VT} {kc ks pc : Nat} {ws : va_W} {ls : List (Option Value)} {st : List Value}
theorem Mach.aloadnN (M : Mach l own nm b nL R G V) {j : Fin 4} (i : Nat) (hi : (j : Nat) = i) (h : ls[i]? = some (some .null)) (d : decode b pc = .ok (.aload_n j, 1)) (k : V kc ks (pc + 1) ws ls (.null :: st)) : V kc ks pc ws ls st := by
  obtain ⟨p, e, s, m, args, below, meth, c, A, Q, rfl, hx, hb, hml, hown, hts, hK, hN, hA, hnm⟩ := M
  intro H locs la hP hD hS hl
  refine lv_aload_nN hx hb d hi (lo_at hl h) ?_
  exact k H locs la hP hD hS hl
theorem Mach.astorenN (M : Mach l own nm b nL R G V) {j : Fin 4} (i : Nat) (hi : (j : Nat) = i) (h : i < ls.length) (hp : lcat ls i = true) (d : decode b pc = .ok (.astore_n j, 1)) (k : V kc ks (pc + 1) ws (ls.set i (some .null)) st) : V kc ks pc ws ls (.null :: st) := by
  obtain ⟨p, e, s, m, args, below, meth, c, A, Q, rfl, hx, hb, hml, hown, hts, hK, hN, hA, hnm⟩ := M
  intro H locs la hP hD hS hl
  refine lv_astore_nN hx hb d hi hl h rfl (fun la2 hl2 => ?_)
  exact k H locs la2 hP hD hS (lo_after h hp hl2)
end NULLS
theorem sumP2_t : ∀ k : Nat, k < 6 → ∀ j : Nat, j < 6 → tb (p2 (k : Int)) (j : Int) = decide (j = k) := by decide +kernel
theorem sumT_p2 (f : Int → Int) {k : Int} (h0 : 0 ≤ k) : ∀ n : Nat, n ≤ 6 → k < 6 → sumT f (p2 k) n = if k < (n : Int) then f k else 0 := by
  intro n
  obtain ⟨i, rfl⟩ := Int.eq_ofNat_of_zero_le h0
  induction n with
  | zero => intro _ _; rw [if_neg (by omega)]; rfl
  | succ n ih =>
    intro hn hk
    have e := sumP2_t i (by omega) n (by omega)
    show sumT f (p2 (i : Int)) n + (if tb (p2 (i : Int)) (n : Int) = true then f (n : Int) else 0) = _
    rw [ih (by omega) hk, e]
    by_cases q : n = i
    · subst q
      rw [if_neg (by omega), if_pos (by simp), if_pos (by omega), Int.zero_add]
    · have q2 : ¬ (decide (n = i) = true) := by simp [q]
      rw [if_neg q2, Int.add_zero]
      by_cases r : i < n
      · rw [if_pos (by omega), if_pos (by omega)]
      · rw [if_neg (by omega), if_neg (by omega)]
theorem sumT_p6 (f : Int → Int) {k : Int} (h0 : 0 ≤ k) (h1 : k < 6) : sumT f (p2 k) 6 = f k := by
  rw [sumT_p2 f h0 6 (by omega) h1, if_pos (by omega)]
def lus (x k : Int) : Int := x % 18446744073709551616 / ((2 ^ (8 * k).toNat : Nat) : Int)
def sby (z : Int) : Int := (z + 128) % 256 - 128
theorem lus_am : ∀ n : Nat, n < 8 → (((iI (8 * (n : Int))).toInt64.toUInt64 &&& Int64.toUInt64 63).toNat % 64) = 8 * n := by decide +kernel
theorem lus_ok {x k : Int} (h0 : 0 ≤ k) (h1 : k < 8) : ((lI x).toUInt64 >>> ((iI (8 * k)).toInt64.toUInt64 &&& Int64.toUInt64 63)).toInt64 = lI (lus x k) := by
  obtain ⟨n, rfl⟩ := Int.eq_ofNat_of_zero_le h0
  have hs := lus_am n (by omega)
  have hp : 1 ≤ 2 ^ (8 * n) := Nat.pow_pos (n := 8 * n) (by decide : 0 < 2)
  have e1 : ((lI x).toUInt64 >>> ((iI (8 * (n : Int))).toInt64.toUInt64 &&& Int64.toUInt64 63)).toNat = (x % 18446744073709551616).toNat / 2 ^ (8 * n) := by
    rw [UInt64.toNat_shiftRight, hs, Nat.shiftRight_eq_div_pow]
    congr 1
  rw [← Int64.toBitVec_inj]
  show ((lI x).toUInt64 >>> ((iI (8 * (n : Int))).toInt64.toUInt64 &&& Int64.toUInt64 63)).toBitVec = BitVec.ofInt 64 (lus x n)
  apply BitVec.eq_of_toNat_eq
  show ((lI x).toUInt64 >>> ((iI (8 * (n : Int))).toInt64.toUInt64 &&& Int64.toUInt64 63)).toNat = _
  rw [e1, BitVec.toNat_ofInt]
  have hm : 0 ≤ x % 18446744073709551616 ∧ x % 18446744073709551616 < 18446744073709551616 := ⟨Int.emod_nonneg _ (by decide), Int.emod_lt_of_pos _ (by decide)⟩
  unfold lus
  rw [show (8 * (n : Int)).toNat = 8 * n by omega]
  obtain ⟨y, hy⟩ := Int.eq_ofNat_of_zero_le hm.1
  rw [hy] at hm ⊢
  rw [show ((y : Int)).toNat = y by omega]
  have hd : y / 2 ^ (8 * n) ≤ y := Nat.div_le_self _ _
  have e2 : ((y : Int) / ((2 ^ (8 * n) : Nat) : Int)) = ((y / 2 ^ (8 * n) : Nat) : Int) := (Int.natCast_ediv _ _).symm
  rw [e2, show ((2 ^ 64 : Nat) : Int) = 18446744073709551616 by decide]
  generalize y / 2 ^ (8 * n) = w at hd ⊢
  omega
theorem i2b_ok (z : Int) : (iI z).toInt8.toInt32 = iI (sby z) := by
  have hb : -128 ≤ sby z ∧ sby z < 128 := by unfold sby; omega
  have hR := iI_t (z := sby z) ⟨by omega, by omega⟩
  rw [← Int32.toInt_inj, Int8.toInt_toInt32, Int32.toInt_toInt8, hR]
  show ((Int32.ofInt z).toInt).bmod (2 ^ 8) = _
  rw [Int32.toInt_ofInt]
  unfold sby
  have e1 : Int32.size = 4294967296 := by decide
  rw [e1, show (2 ^ 8 : Nat) = 256 by decide, Int.bmod_def, Int.bmod_def]
  split <;> split <;> omega
theorem sby_b (z : Int) : -128 ≤ sby z ∧ sby z < 128 := by unfold sby; omega
theorem sby_nar (z : Int) : vp_nar .byte (iI (sby z)) = iI (sby z) := by
  rw [vp_nar_byte, i2b_ok]
  congr 1
  unfold sby
  omega
theorem lus_byt {x k : Int} (h0 : 0 ≤ k) (h1 : k < 8) : sby (lus x k) % 256 = byt x k := by
  unfold sby lus byt
  rcases (by omega : k = 0 ∨ k = 1 ∨ k = 2 ∨ k = 3 ∨ k = 4 ∨ k = 5 ∨ k = 6 ∨ k = 7) with rfl | rfl | rfl | rfl | rfl | rfl | rfl | rfl
  · rw [show ((2 ^ ((8 : Int) * 0).toNat : Nat) : Int) = 1 by decide]; omega
  · rw [show ((2 ^ ((8 : Int) * 1).toNat : Nat) : Int) = 256 by decide]; omega
  · rw [show ((2 ^ ((8 : Int) * 2).toNat : Nat) : Int) = 65536 by decide]; omega
  · rw [show ((2 ^ ((8 : Int) * 3).toNat : Nat) : Int) = 16777216 by decide]; omega
  · rw [show ((2 ^ ((8 : Int) * 4).toNat : Nat) : Int) = 4294967296 by decide]; omega
  · rw [show ((2 ^ ((8 : Int) * 5).toNat : Nat) : Int) = 1099511627776 by decide]; omega
  · rw [show ((2 ^ ((8 : Int) * 6).toNat : Nat) : Int) = 281474976710656 by decide]; omega
  · rw [show ((2 ^ ((8 : Int) * 7).toNat : Nat) : Int) = 72057594037927936 by decide]; omega
theorem iI_wr (z : Int) : iI z = iI (z + 4294967296) := by
  rw [← Int32.toInt_inj]
  show (Int32.ofInt z).toInt = (Int32.ofInt (z + 4294967296)).toInt
  rw [Int32.toInt_ofInt, Int32.toInt_ofInt]
  have e1 : Int32.size = 4294967296 := by decide
  rw [e1, Int.bmod_def, Int.bmod_def]
  split <;> split <;> omega
/-- the bytes behind a feed -/
def TKF (x n t : Int) (w u : Int → Int) : Prop := ((1 ≤ n ∧ n ≤ 8) ∧ t + n ≤ 400 → ∀ j, (t ≤ j ∧ j < t + n → u j % 256 = byt x (t + n - 1 - j) ∧ (-128 ≤ u j ∧ u j < 128)) ∧ (¬ (t ≤ j ∧ j < t + n) → u j = w j)) ∧ (¬ ((1 ≤ n ∧ n ≤ 8) ∧ t + n ≤ 400) → u = w)
/-- what mornings teach -/
def LRN (n c : Int) (fb ft gm : Int → Int) (ecl : Bool) (el eu : Int → Int) : Prop := EndsOf n c (fU ft) (fV ft) (mS gm) (mL fb gm) (mG fb gm) (p2 c - 1) ecl el eu ∧ RG el eu
def FLS (n c : Int) (fb ft gm : Int → Int) (fd : Bool) (fo : Int) : Prop := fd = true → IsF c (fun s => Cl n c (fU ft) (fV ft) (mS gm) (mL fb gm) (mG fb gm) (p2 c - 1 - s)) fo
theorem HVT.le {ft : Int → Int} {n : Int} (h : HVT ft n) : ∀ k, 0 ≤ k → k < n → ft (k * 4 + 0) ≤ ft (k * 4 + 1) := fun k h0 h1 => (h k h0 h1).2.2.2.2.1
theorem HM.rwG {g : Int → Int} {c nb n b h S v M : Int} (hM : HM g c nb n) (hc0 : 0 ≤ c) (hc : c ≤ M) : HM (rwG g (aRef nb n b h S v c M) c b h S v) (rwN (aRef nb n b h S v c M) c) nb n := by
  by_cases r : aRef nb n b h S v c M = 0
  · rw [rwN_0 r, rwG_0 r]
    have q := (aRef_0 hc).mp r
    intro m h0 h1
    unfold up4
    rcases (by omega : m < c ∨ m = c) with w | w
    · have := hM m h0 w
      rw [upZ_n (by omega), upZ_n (by omega), upZ_n (by omega), upZ_n (by omega), upZ_n (by omega), upZ_n (by omega), upZ_n (by omega), upZ_n (by omega), upZ_n (by omega), upZ_n (by omega), upZ_n (by omega), upZ_n (by omega), upZ_n (by omega), upZ_n (by omega), upZ_n (by omega), upZ_n (by omega)]
      exact this
    · subst w
      have e0 : upZ (upZ (upZ (upZ g (m * 4) b) (m * 4 + 1) h) (m * 4 + 2) S) (m * 4 + 3) v (m * 4 + 0) = b := by rw [upZ_n (by omega), upZ_n (by omega), upZ_n (by omega), Int.add_zero, upZ_s]
      have e1 : upZ (upZ (upZ (upZ g (m * 4) b) (m * 4 + 1) h) (m * 4 + 2) S) (m * 4 + 3) v (m * 4 + 1) = h := by rw [upZ_n (by omega), upZ_n (by omega), upZ_s]
      have e2 : upZ (upZ (upZ (upZ g (m * 4) b) (m * 4 + 1) h) (m * 4 + 2) S) (m * 4 + 3) v (m * 4 + 2) = S := by rw [upZ_n (by omega), upZ_s]
      rw [e0, e1, e2, upZ_s]
      omega
  · rw [rwN_n r, rwG_n r]
    exact hM
theorem STG.hm {g u : Int → Int} {c nb n i : Int} (hM : HM g c nb n) (h : STG g c i u) : HM u (stN c i) nb n := by
  by_cases q : 0 ≤ i ∧ i < c
  · rw [stN_0 q]
    obtain ⟨h1, h2⟩ := h.1 q
    intro m h0 h3
    rcases (by omega : m < i ∨ i ≤ m) with w | w
    · rw [h1 _ (by omega) (by omega), h1 _ (by omega) (by omega), h1 _ (by omega) (by omega), h1 _ (by omega) (by omega)]
      exact hM m h0 (by omega)
    · rw [h2 _ (by omega) (by omega), h2 _ (by omega) (by omega), h2 _ (by omega) (by omega), h2 _ (by omega) (by omega)]
      have := hM (m + 1) (by omega) (by omega)
      rw [show (m + 1) * 4 + 0 = m * 4 + 0 + 4 by omega, show (m + 1) * 4 + 1 = m * 4 + 1 + 4 by omega, show (m + 1) * 4 + 2 = m * 4 + 2 + 4 by omega, show (m + 1) * 4 + 3 = m * 4 + 3 + 4 by omega] at this
      exact this
  · rw [stN_n q, h.2 q]
    exact hM
set_option maxHeartbeats 4000000 in
set_option maxRecDepth 100000 in
theorem c_X5_take {l : Launch} {G : GT} {r : Nat} {aT : Nat} {vt fa vf pa pn : Int} {ot : Bool} {wT : Int → Int} {n y : Int} (hvt : 0 ≤ vt ∧ vt ≤ 400) (hrn : InR n) (hry : InL y) : Con l G yX5_take cX5_take 5 (some .boolean) { frames := 0, cells := 0, slots := 0, locals := 0 } [.ref r, .int (iI n), .long (lI y)] [(r, eO 5 [.ref aT, .int (iI vt), .int (iI fa), .int (iI vf), .int (iI pa), .int (iI pn), .int (iI (pI (ot = true)))]), (aT, eB G 400 wT)] (S := Int → Int) (fun _ => some (.int (iI (pI ((1 ≤ n ∧ n ≤ 8) ∧ vt + n ≤ 400))))) (fun u => [(r, eO 5 [.ref aT, .int (iI (fdN n vt)), .int (iI fa), .int (iI vf), .int (iI pa), .int (iI pn), .int (iI (pI (ot = true)))]), (aT, eB G 400 u)]) (fun u => TKF y n vt wT u) := by
  refine Con.mk (by decide +kernel) [some (.ref r), some (.int (iI n)), some (.long (lI y)), none, none] rfl (Nat.le_of_ble_eq_true rfl) rfl ?_
  intro V M EI EL EV EA
  refine M.iloadn (pc := 0) 1 rfl rfl dX5_take_0 ?_
  refine M.iconst (pc := 1) dX5_take_1 ?_
  refine M.icmp_lt (pc := 2) (tgt := 25) dX5_take_2 (by decide) (by omega) (by omega) (fun c2 => ?_) (fun c2 => ?_)
  · refine M.iconst (pc := 25) dX5_take_25 ?_
    have hno : ¬ ((1 ≤ n ∧ n ≤ 8) ∧ vt + n ≤ 400) := by omega
    exact EI wT _ _ _ _ dX5_take_26 (Or.inr ⟨rfl, by first | exact Or.inl rfl | exact Or.inr rfl | exact pI_01 _⟩) (eqI (pI_f hno)) (by unfold fdN; rw [if_neg hno]) (⟨fun z => absurd z hno, fun _ => rfl⟩)
  · refine M.iloadn (pc := 5) 1 rfl rfl dX5_take_5 ?_
    refine M.bipush (pc := 6) (by decide +kernel) dX5_take_6 ?_
    refine M.icmp_gt (pc := 8) (tgt := 25) dX5_take_8 (by decide) (by omega) (by omega) (fun c8 => ?_) (fun c8 => ?_)
    · refine M.iconst (pc := 25) dX5_take_25 ?_
      have hno : ¬ ((1 ≤ n ∧ n ≤ 8) ∧ vt + n ≤ 400) := by omega
      exact EI wT _ _ _ _ dX5_take_26 (Or.inr ⟨rfl, by first | exact Or.inl rfl | exact Or.inr rfl | exact pI_01 _⟩) (eqI (pI_f hno)) (by unfold fdN; rw [if_neg hno]) (⟨fun z => absurd z hno, fun _ => rfl⟩)
    · refine M.aloadn (pc := 11) 0 rfl rfl dX5_take_11 ?_
      refine M.getf (pc := 12) fg_X5_19 0 rfl rfl dX5_take_12 ?_
      refine M.iloadn (pc := 15) 1 rfl rfl dX5_take_15 ?_
      refine M.iadd (pc := 16) dX5_take_16 ?_
      refine M.aloadn (pc := 17) 0 rfl rfl dX5_take_17 ?_
      refine M.getf (pc := 18) fg_X5_9 0 rfl rfl dX5_take_18 ?_
      refine M.alenB (pc := 21) 1 rfl dX5_take_21 ?_
      refine M.icmp_le (pc := 22) (tgt := 27) dX5_take_22 (by decide) (by omega) (by omega) (fun c22 => ?_) (fun c22 => ?_)
      · have hok : (1 ≤ n ∧ n ≤ 8) ∧ vt + n ≤ 400 := by omega
        refine M.iloadn (pc := 27) 1 rfl rfl dX5_take_27 ?_
        refine M.iconst (pc := 28) dX5_take_28 ?_
        refine M.isub (pc := 29) dX5_take_29 ?_
        refine M.istore (pc := 30) (i := 4) (Nat.le_of_ble_eq_true rfl) rfl dX5_take_30 ?_
        dsimp only [List.set_cons_zero, List.set_cons_succ]
        have L32 : ∀ (fu : Nat) {k t : Int} {g : Int → Int}, (-1 ≤ k ∧ k < n) → (t = vt + n - 1 - k) → (∀ j, (vt ≤ j ∧ j < t → g j % 256 = byt y (vt + n - 1 - j) ∧ (-128 ≤ g j ∧ g j < 128)) ∧ (¬ (vt ≤ j ∧ j < t) → g j = wT j)) → (k + 1).toNat < fu → V 0 0 32 [(r, eO 5 [.ref aT, .int (iI t), .int (iI fa), .int (iI vf), .int (iI pa), .int (iI pn), .int (iI (pI (ot = true)))]), (aT, eB G 400 g)] [some (.ref r), some (.int (iI n)), some (.long (lI y)), none, some (.int (iI k))] [] := by
          intro fu
          induction fu with
          | zero => intro k t g hk0 ht hg hm; exact absurd hm (Nat.not_lt_zero _)
          | succ fu ih32 =>
            intro k t g hk0 ht hg hm32
            refine M.iload (pc := 32) (i := 4) rfl dX5_take_32 ?_
            refine M.if_lt (pc := 34) (tgt := 83) dX5_take_34 (by decide) (by omega) (fun c34 => ?_) (fun c34 => ?_)
            · refine M.iconst (pc := 83) dX5_take_83 ?_
              have hkm : k = -1 := by omega
              have htn : t = vt + n := by omega
              subst htn
              exact EI g _ _ _ _ dX5_take_84 (Or.inr ⟨rfl, by first | exact Or.inl rfl | exact Or.inr rfl | exact pI_01 _⟩) (eqI (pI_t hok)) (by unfold fdN; rw [if_pos hok]) (⟨fun _ => hg, fun z => absurd hok z⟩)
            · refine M.aloadn (pc := 37) 0 rfl rfl dX5_take_37 ?_
              refine M.getf (pc := 38) fg_X5_19 0 rfl rfl dX5_take_38 ?_
              refine M.aloadn (pc := 41) 0 rfl rfl dX5_take_41 ?_
              refine M.getf (pc := 42) fg_X5_9 0 rfl rfl dX5_take_42 ?_
              refine M.alenB (pc := 45) 1 rfl dX5_take_45 ?_
              refine M.icmp_ge (pc := 46) (tgt := 77) dX5_take_46 (by decide) (by omega) (by omega) (fun c46 => ?_) (fun c46 => ?_)
              · exact absurd c46 (by omega)
              · refine M.aloadn (pc := 49) 0 rfl rfl dX5_take_49 ?_
                refine M.getf (pc := 50) fg_X5_9 0 rfl rfl dX5_take_50 ?_
                refine M.aloadn (pc := 53) 0 rfl rfl dX5_take_53 ?_
                refine M.getf (pc := 54) fg_X5_19 0 rfl rfl dX5_take_54 ?_
                refine M.lloadn (pc := 57) 2 rfl rfl dX5_take_57 ?_
                refine M.bipush (pc := 58) (by decide +kernel) dX5_take_58 ?_
                refine M.iload (pc := 60) (i := 4) rfl dX5_take_60 ?_
                refine M.imul (pc := 62) dX5_take_62 ?_
                refine M.lushr (pc := 63) (lus_ok (by omega) (by omega)) dX5_take_63 ?_
                refine M.l2i (pc := 64) dX5_take_64 ?_
                refine M.i2b (pc := 65) (i2b_ok _) dX5_take_65 ?_
                have hlb := lus_byt (x := y) (k := k) (by omega) (by omega)
                have hsb := sby_b (lus y k)
                refine M.bast (pc := 66) 1 rfl (by omega) (by omega) (sby_nar _) dX5_take_66 ?_
                dsimp only [List.set_cons_zero, List.set_cons_succ]
                refine M.aloadn (pc := 67) 0 rfl rfl dX5_take_67 ?_
                refine M.dup (pc := 68) rfl dX5_take_68 ?_
                refine M.getf (pc := 69) fg_X5_19 0 rfl rfl dX5_take_69 ?_
                refine M.iconst (pc := 72) dX5_take_72 ?_
                refine M.iadd (pc := 73) dX5_take_73 ?_
                refine M.putf (pc := 74) fp_X5_19 0 rfl rfl rfl (Nat.le_of_ble_eq_true rfl) dX5_take_74 ?_
                dsimp only [List.set_cons_zero, List.set_cons_succ]
                refine M.iinc (pc := 77) (i := 4) rfl rfl dX5_take_77 ?_
                dsimp only [List.set_cons_zero, List.set_cons_succ]
                refine M.goto (pc := 80) (tgt := 32) dX5_take_80 (by decide) ?_
                have hgn : ∀ j, (vt ≤ j ∧ j < t + 1 → upZ g t (sby (lus y k)) j % 256 = byt y (vt + n - 1 - j) ∧ (-128 ≤ upZ g t (sby (lus y k)) j ∧ upZ g t (sby (lus y k)) j < 128)) ∧ (¬ (vt ≤ j ∧ j < t + 1) → upZ g t (sby (lus y k)) j = wT j) := by
                  intro j
                  by_cases e : j = t
                  · rw [e, upZ_s]
                    exact ⟨fun _ => ⟨by rw [hlb, show vt + n - 1 - t = k by omega], hsb⟩, fun z => absurd (by omega) z⟩
                  · rw [upZ_n e]
                    exact ⟨fun z => (hg j).1 (by omega), fun z => (hg j).2 (by omega)⟩
                exact ih32  (by first | assumption | omega) (by first | assumption | omega) (by exact hgn) (by omega)
        exact L32 _  (by first | assumption | omega) (by first | assumption | omega) (by intro j; exact ⟨fun z => by omega, fun _ => rfl⟩) (Nat.lt_succ_self _)
      · refine M.iconst (pc := 25) dX5_take_25 ?_
        have hno : ¬ ((1 ≤ n ∧ n ≤ 8) ∧ vt + n ≤ 400) := by omega
        exact EI wT _ _ _ _ dX5_take_26 (Or.inr ⟨rfl, by first | exact Or.inl rfl | exact Or.inr rfl | exact pI_01 _⟩) (eqI (pI_f hno)) (by unfold fdN; rw [if_neg hno]) (⟨fun z => absurd z hno, fun _ => rfl⟩)
set_option maxHeartbeats 4000000 in
set_option maxRecDepth 100000 in
theorem c_X7_feed {l : Launch} {G : GT} {x r mo en i0 i1 e f t h h2 : Nat} {vs : Int} {aT : Nat} {vt fa vf pa pn : Int} {ot : Bool} {wT : Int → Int} {n y : Int} (hvt : 0 ≤ vt ∧ vt ≤ 400) (hrn : InR n) (hry : InL y) : Con l G yX7_feed cX7_feed 4 (some .int) { frames := 1, cells := 0, slots := 0, locals := 24 } [.ref x, .int (iI n), .long (lI y)] [(x, eO 7 [.ref r, .ref mo, .ref en, .ref i0, .ref i1, .ref e, .ref f, .ref t, .ref h, .ref h2, .int (iI vs)]), (r, eO 5 [.ref aT, .int (iI vt), .int (iI fa), .int (iI vf), .int (iI pa), .int (iI pn), .int (iI (pI (ot = true)))]), (aT, eB G 400 wT)] (S := Int → Int) (fun _ => some (.int (iI (aFeed n vt)))) (fun u => [(x, eO 7 [.ref r, .ref mo, .ref en, .ref i0, .ref i1, .ref e, .ref f, .ref t, .ref h, .ref h2, .int (iI vs)]), (r, eO 5 [.ref aT, .int (iI (fdN n vt)), .int (iI fa), .int (iI vf), .int (iI pa), .int (iI pn), .int (iI (pI (ot = true)))]), (aT, eB G 400 u)]) (fun u => TKF y n vt wT u) := by
  refine Con.mk (by decide +kernel) [some (.ref x), some (.int (iI n)), some (.long (lI y)), none] rfl (Nat.le_of_ble_eq_true rfl) rfl ?_
  intro V M EI EL EV EA
  refine M.iloadn (pc := 0) 1 rfl rfl dX7_feed_0 ?_
  refine M.iconst (pc := 1) dX7_feed_1 ?_
  refine M.icmp_lt (pc := 2) (tgt := 11) dX7_feed_2 (by decide) (by omega) (by omega) (fun c2 => ?_) (fun c2 => ?_)
  · refine M.ldc (pc := 11) (-1000000002) lc_X7_69 (by decide +kernel) dX7_feed_11 ?_
    have hno : ¬ ((1 ≤ n ∧ n ≤ 8) ∧ vt + n ≤ 400) := by omega
    exact EI wT _ _ _ _ dX7_feed_13 (Or.inl rfl) (eqI (by unfold aFeed; rw [if_pos (by omega)])) (by unfold fdN; rw [if_neg hno]) (⟨fun z => absurd z hno, fun _ => rfl⟩)
  · refine M.iloadn (pc := 5) 1 rfl rfl dX7_feed_5 ?_
    refine M.bipush (pc := 6) (by decide +kernel) dX7_feed_6 ?_
    refine M.icmp_le (pc := 8) (tgt := 14) dX7_feed_8 (by decide) (by omega) (by omega) (fun c8 => ?_) (fun c8 => ?_)
    · refine M.aloadn (pc := 14) 0 rfl rfl dX7_feed_14 ?_
      refine M.getf (pc := 15) fg_X7_10 0 rfl rfl dX7_feed_15 ?_
      refine M.iloadn (pc := 18) 1 rfl rfl dX7_feed_18 ?_
      refine M.lloadn (pc := 19) 2 rfl rfl dX7_feed_19 ?_
      refine M.mV (pc := 20) (c_X5_take  (by first | assumption | omega) (by first | assumption | omega) (by first | assumption | omega)) mv_X7_70 [1, 2] rfl rfl rfl 1 rfl rfl rfl rfl (Nat.le_of_ble_eq_true rfl) rfl ⟨(Nat.le_of_ble_eq_true rfl), (Nat.le_of_ble_eq_true rfl)⟩ ⟨(Nat.le_of_ble_eq_true rfl), (Nat.le_of_ble_eq_true rfl)⟩ rfl (fun _ => rfl) dX7_feed_20 (fun u20 hu20 => ?_)
      dsimp only [putL, List.set_cons_zero, List.set_cons_succ, Option.toList, List.cons_append, List.nil_append] at hu20 ⊢
      refine M.if_eqP (pc := 23) (tgt := 36) dX7_feed_23 (by decide) (fun c23 => ?_) (fun c23 => ?_)
      · refine M.ldc (pc := 36) (-1000000004) lc_X7_78 (by decide +kernel) dX7_feed_36 ?_
        exact EI u20 _ _ _ _ dX7_feed_38 (Or.inl rfl) (eqI (by unfold aFeed; first | rw [if_neg (by omega), if_neg (by omega), show fdN n vt = vt + n from if_pos (by omega)] | rw [if_neg (by omega), if_pos (by omega)])) (rfl) (hu20)
      · refine M.aloadn (pc := 26) 0 rfl rfl dX7_feed_26 ?_
        refine M.getf (pc := 27) fg_X7_10 0 rfl rfl dX7_feed_27 ?_
        refine M.getf (pc := 30) fg_X7_74 1 rfl rfl dX7_feed_30 ?_
        refine M.goto (pc := 33) (tgt := 38) dX7_feed_33 (by decide) ?_
        exact EI u20 _ _ _ _ dX7_feed_38 (Or.inl rfl) (eqI (by unfold aFeed; first | rw [if_neg (by omega), if_neg (by omega), show fdN n vt = vt + n from if_pos (by omega)] | rw [if_neg (by omega), if_pos (by omega)])) (rfl) (hu20)
    · refine M.ldc (pc := 11) (-1000000002) lc_X7_69 (by decide +kernel) dX7_feed_11 ?_
      have hno : ¬ ((1 ≤ n ∧ n ≤ 8) ∧ vt + n ≤ 400) := by omega
      exact EI wT _ _ _ _ dX7_feed_13 (Or.inl rfl) (eqI (by unfold aFeed; rw [if_pos (by omega)])) (by unfold fdN; rw [if_neg hno]) (⟨fun z => absurd z hno, fun _ => rfl⟩)
set_option maxHeartbeats 4000000 in
set_option maxRecDepth 100000 in
theorem c_X7_fault {l : Launch} {G : GT} {x r mo en i0 i1 e f t h h2 : Nat} {vs : Int} {aT : Nat} {vt fa vf pa pn : Int} {ot : Bool}  : ConF l G yX7_fault cX7_fault 1 (some .int) { frames := 0, cells := 0, slots := 0, locals := 0 } [.ref x] [(x, eO 7 [.ref r, .ref mo, .ref en, .ref i0, .ref i1, .ref e, .ref f, .ref t, .ref h, .ref h2, .int (iI vs)]), (r, eO 5 [.ref aT, .int (iI vt), .int (iI fa), .int (iI vf), .int (iI pa), .int (iI pn), .int (iI (pI (ot = true)))])] (some (.int (iI (vf)))) := by
  refine Con.mk (by decide +kernel) [some (.ref x)] rfl (Nat.le_of_ble_eq_true rfl) rfl ?_
  intro V M EI EL EV EA
  refine M.aloadn (pc := 0) 0 rfl rfl dX7_fault_0 ?_
  refine M.getf (pc := 1) fg_X7_10 0 rfl rfl dX7_fault_1 ?_
  refine M.getf (pc := 4) fg_X7_102 1 rfl rfl dX7_fault_4 ?_
  exact EI () _ _ _ _ dX7_fault_7 (Or.inl rfl) (eqI (by rfl)) rfl trivial
set_option maxHeartbeats 4000000 in
set_option maxRecDepth 100000 in
theorem c_X3_hasCaseW {l : Launch} {G : GT} {h : Nat} {hb ht : Nat} {fb ft : Int → Int} {vb vn vo : Int} {c : Int} (hz : -2147483648 ≤ c ∧ c < -2147483641) (hn : 0 ≤ vn ∧ vn ≤ 6) : ConF l G yX3_hasCase cX3_hasCase 2 (some .boolean) { frames := 1, cells := 0, slots := 0, locals := 21 } [.ref h, .int (iI c)] [(h, eO 3 [.ref hb, .ref ht, .int (iI vb), .int (iI vn), .int (iI vo)])] (some (.int (iI (pI (c = 0 ∨ (0 ≤ c - 1 ∧ c - 1 < vn) ∨ (0 ≤ c - 7 ∧ c - 7 < vn)))))) := by
  refine Con.mk (by decide +kernel) [some (.ref h), some (.int (iI c))] rfl (Nat.le_of_ble_eq_true rfl) rfl ?_
  intro V M EI EL EV EA
  refine M.iloadn (pc := 0) 1 rfl rfl dX3_hasCase_0 ?_
  refine M.if_eq (pc := 1) (tgt := 25) dX3_hasCase_1 (by decide) (by omega) (fun c1 => ?_) (fun c1 => ?_)
  · exact absurd c1 (by omega)
  · refine M.aloadn (pc := 4) 0 rfl rfl dX3_hasCase_4 ?_
    refine M.iloadn (pc := 5) 1 rfl rfl dX3_hasCase_5 ?_
    refine M.iconst (pc := 6) dX3_hasCase_6 ?_
    refine M.isub (pc := 7) dX3_hasCase_7 ?_
    obtain ⟨k1, hk1, hr1, hn1⟩ : ∃ k, iI (c - 1) = iI k ∧ InR k ∧ ¬ (0 ≤ k ∧ k < vn) := by
      by_cases w : -2147483648 ≤ c - 1
      · exact ⟨c - 1, rfl, ⟨by omega, by omega⟩, by omega⟩
      · exact ⟨c - 1 + 4294967296, iI_wr _, ⟨by omega, by omega⟩, by omega⟩
    rw [hk1]
    refine M.pV (pc := 8) (c_X3_hasBather  (by first | assumption | omega) (by first | assumption | omega)) mv_X3_36 [0] rfl rfl rfl 0 rfl rfl rfl rfl (Nat.le_of_ble_eq_true rfl) rfl ⟨(Nat.le_of_ble_eq_true rfl), (Nat.le_of_ble_eq_true rfl)⟩ ⟨(Nat.le_of_ble_eq_true rfl), (Nat.le_of_ble_eq_true rfl)⟩ rfl dX3_hasCase_8 ?_
    refine M.if_neP (pc := 11) (tgt := 25) dX3_hasCase_11 (by decide) (fun c11 => ?_) (fun c11 => ?_)
    · exact absurd c11 hn1
    · refine M.aloadn (pc := 14) 0 rfl rfl dX3_hasCase_14 ?_
      refine M.iloadn (pc := 15) 1 rfl rfl dX3_hasCase_15 ?_
      refine M.bipush (pc := 16) (by decide +kernel) dX3_hasCase_16 ?_
      refine M.isub (pc := 18) dX3_hasCase_18 ?_
      obtain ⟨k7, hk7, hr7, hn7⟩ : ∃ k, iI (c - 7) = iI k ∧ InR k ∧ ¬ (0 ≤ k ∧ k < vn) := by
        by_cases w : -2147483648 ≤ c - 7
        · exact ⟨c - 7, rfl, ⟨by omega, by omega⟩, by omega⟩
        · exact ⟨c - 7 + 4294967296, iI_wr _, ⟨by omega, by omega⟩, by omega⟩
      rw [hk7]
      refine M.pV (pc := 19) (c_X3_hasBather  (by first | assumption | omega) (by first | assumption | omega)) mv_X3_36 [0] rfl rfl rfl 0 rfl rfl rfl rfl (Nat.le_of_ble_eq_true rfl) rfl ⟨(Nat.le_of_ble_eq_true rfl), (Nat.le_of_ble_eq_true rfl)⟩ ⟨(Nat.le_of_ble_eq_true rfl), (Nat.le_of_ble_eq_true rfl)⟩ rfl dX3_hasCase_19 ?_
      refine M.if_eqP (pc := 22) (tgt := 29) dX3_hasCase_22 (by decide) (fun c22 => ?_) (fun c22 => ?_)
      · refine M.iconst (pc := 29) dX3_hasCase_29 ?_
        exact EI () _ _ _ _ dX3_hasCase_30 (Or.inr ⟨rfl, by first | exact Or.inl rfl | exact Or.inr rfl | exact pI_01 _⟩) (eqI (by first | exact pI_eq1 (by omega) rfl | exact pI_eq0 (by omega) rfl)) rfl trivial
      · exact absurd c22 hn7
theorem c_X3_hasCaseA {l : Launch} {G : GT} {h hb ht : Nat} {vb vn vo : Int} {c : Int} (hz : InR c) (hn : 0 ≤ vn ∧ vn ≤ 6) : ConF l G yX3_hasCase cX3_hasCase 2 (some .boolean) { frames := 1, cells := 0, slots := 0, locals := 21 } [.ref h, .int (iI c)] [(h, eO 3 [.ref hb, .ref ht, .int (iI vb), .int (iI vn), .int (iI vo)])] (some (.int (iI (pI (c = 0 ∨ (0 ≤ c - 1 ∧ c - 1 < vn) ∨ (0 ≤ c - 7 ∧ c - 7 < vn)))))) := by
  by_cases w : -2147483648 ≤ c - 7
  · exact c_X3_hasCase ⟨w, hz.2⟩ hn
  · exact c_X3_hasCaseW (fb := fun _ => 0) (ft := fun _ => 0) ⟨hz.1, by omega⟩ hn
set_option maxHeartbeats 4000000 in
set_option maxRecDepth 100000 in
theorem c_X7_bath {l : Launch} {G : GT} {x r mo en i0 i1 e f t h h2 : Nat} {vs : Int} {hb ht : Nat} {fb ft : Int → Int} {vb vn vo : Int} {b w : Int} (hn : 0 ≤ vn ∧ vn ≤ 6) (hnb : 0 ≤ vb ∧ vb ≤ 2) (hrb : InR b) (hrw : InR w) : ConF l G yX7_bath cX7_bath 3 (some .int) { frames := 1, cells := 0, slots := 0, locals := 23 } [.ref x, .int (iI b), .int (iI w)] [(x, eO 7 [.ref r, .ref mo, .ref en, .ref i0, .ref i1, .ref e, .ref f, .ref t, .ref h, .ref h2, .int (iI vs)]), (h, eO 3 [.ref hb, .ref ht, .int (iI vb), .int (iI vn), .int (iI vo)]), (hb, eI G 8 fb), (ht, eI G 24 ft)] (some (.int (iI (nBath fb vb b w)))) := by
  refine Con.mk (by decide +kernel) [some (.ref x), some (.int (iI b)), some (.int (iI w))] rfl (Nat.le_of_ble_eq_true rfl) rfl ?_
  intro V M EI EL EV EA
  refine M.aloadn (pc := 0) 0 rfl rfl dX7_bath_0 ?_
  refine M.getf (pc := 1) fg_X7_62 0 rfl rfl dX7_bath_1 ?_
  refine M.iloadn (pc := 4) 1 rfl rfl dX7_bath_4 ?_
  refine M.pV (pc := 5) (c_X3_hasBath  (by first | assumption | omega) (by first | assumption | omega)) mv_X7_114 [1] rfl rfl rfl 1 rfl rfl rfl rfl (Nat.le_of_ble_eq_true rfl) rfl ⟨(Nat.le_of_ble_eq_true rfl), (Nat.le_of_ble_eq_true rfl)⟩ ⟨(Nat.le_of_ble_eq_true rfl), (Nat.le_of_ble_eq_true rfl)⟩ rfl dX7_bath_5 ?_
  refine M.if_neP (pc := 8) (tgt := 14) dX7_bath_8 (by decide) (fun c8 => ?_) (fun c8 => ?_)
  · refine M.iloadn (pc := 14) 2 rfl rfl dX7_bath_14 ?_
    refine M.if_lt (pc := 15) (tgt := 23) dX7_bath_15 (by decide) (by omega) (fun c15 => ?_) (fun c15 => ?_)
    · refine M.ldc (pc := 23) (-1000000002) lc_X7_69 (by decide +kernel) dX7_bath_23 ?_
      refine M.goto (pc := 25) (tgt := 37) dX7_bath_25 (by decide) ?_
      exact EI () _ _ _ _ dX7_bath_37 (Or.inl rfl) (eqI (by unfold nBath; (repeat' split) <;> first | omega | rfl)) rfl trivial
    · refine M.iloadn (pc := 18) 2 rfl rfl dX7_bath_18 ?_
      refine M.iconst (pc := 19) dX7_bath_19 ?_
      refine M.icmp_le (pc := 20) (tgt := 28) dX7_bath_20 (by decide) (by omega) (by omega) (fun c20 => ?_) (fun c20 => ?_)
      · refine M.aloadn (pc := 28) 0 rfl rfl dX7_bath_28 ?_
        refine M.getf (pc := 29) fg_X7_62 0 rfl rfl dX7_bath_29 ?_
        refine M.iloadn (pc := 32) 1 rfl rfl dX7_bath_32 ?_
        refine M.iloadn (pc := 33) 2 rfl rfl dX7_bath_33 ?_
        refine M.pV (pc := 34) (c_X3_ofBath  (by first | assumption | omega) (by first | assumption | omega)) mv_X7_119 [1, 2, 3] rfl rfl rfl 1 rfl rfl rfl rfl (Nat.le_of_ble_eq_true rfl) rfl ⟨(Nat.le_of_ble_eq_true rfl), (Nat.le_of_ble_eq_true rfl)⟩ ⟨(Nat.le_of_ble_eq_true rfl), (Nat.le_of_ble_eq_true rfl)⟩ rfl dX7_bath_34 ?_
        exact EI () _ _ _ _ dX7_bath_37 (Or.inl rfl) (eqI (by unfold nBath; (repeat' split) <;> first | omega | rfl)) rfl trivial
      · refine M.ldc (pc := 23) (-1000000002) lc_X7_69 (by decide +kernel) dX7_bath_23 ?_
        refine M.goto (pc := 25) (tgt := 37) dX7_bath_25 (by decide) ?_
        exact EI () _ _ _ _ dX7_bath_37 (Or.inl rfl) (eqI (by unfold nBath; (repeat' split) <;> first | omega | rfl)) rfl trivial
  · refine M.ldc (pc := 11) (-1000000001) lc_X7_118 (by decide +kernel) dX7_bath_11 ?_
    exact EI () _ _ _ _ dX7_bath_13 (Or.inl rfl) (eqI (by unfold nBath; (repeat' split) <;> first | omega | rfl)) rfl trivial
set_option maxHeartbeats 4000000 in
set_option maxRecDepth 100000 in
theorem c_X7_bather {l : Launch} {G : GT} {x r mo en i0 i1 e f t h h2 : Nat} {vs : Int} {hb ht : Nat} {fb ft : Int → Int} {vb vn vo : Int} {eLo eUp eSe eLe eGr : Nat} {el eu gs gL gG : Int → Int} {ecl : Bool} {k w : Int} (hn : 0 ≤ vn ∧ vn ≤ 6) (hnb : 0 ≤ vb ∧ vb ≤ 2) (hrg : RG el eu) (hrk : InR k) (hrw : InR w) : ConF l G yX7_bather cX7_bather 3 (some .int) { frames := 2, cells := 0, slots := 0, locals := 44 } [.ref x, .int (iI k), .int (iI w)] [(x, eO 7 [.ref r, .ref mo, .ref en, .ref i0, .ref i1, .ref e, .ref f, .ref t, .ref h, .ref h2, .int (iI vs)]), (h, eO 3 [.ref hb, .ref ht, .int (iI vb), .int (iI vn), .int (iI vo)]), (hb, eI G 8 fb), (ht, eI G 24 ft), (e, eO 1 [.ref eLo, .ref eUp, .ref eSe, .ref eLe, .ref eGr, .int (iI (pI (ecl = true)))]), (eLo, eI G 6 el), (eUp, eI G 6 eu), (eSe, eI G 12 gs), (eLe, eI G 12 gL), (eGr, eI G 12 gG)] (some (.int (iI (nBather ft el eu vn k w)))) := by
  refine Con.mk (by decide +kernel) [some (.ref x), some (.int (iI k)), some (.int (iI w))] rfl (Nat.le_of_ble_eq_true rfl) rfl ?_
  intro V M EI EL EV EA
  refine M.aloadn (pc := 0) 0 rfl rfl dX7_bather_0 ?_
  refine M.getf (pc := 1) fg_X7_62 0 rfl rfl dX7_bather_1 ?_
  refine M.iloadn (pc := 4) 1 rfl rfl dX7_bather_4 ?_
  refine M.pV (pc := 5) (c_X3_hasBather  (by first | assumption | omega) (by first | assumption | omega)) mv_X7_123 [1] rfl rfl rfl 1 rfl rfl rfl rfl (Nat.le_of_ble_eq_true rfl) rfl ⟨(Nat.le_of_ble_eq_true rfl), (Nat.le_of_ble_eq_true rfl)⟩ ⟨(Nat.le_of_ble_eq_true rfl), (Nat.le_of_ble_eq_true rfl)⟩ rfl dX7_bather_5 ?_
  refine M.if_neP (pc := 8) (tgt := 14) dX7_bather_8 (by decide) (fun c8 => ?_) (fun c8 => ?_)
  · refine M.iloadn (pc := 14) 2 rfl rfl dX7_bather_14 ?_
    refine M.iconst (pc := 15) dX7_bather_15 ?_
    refine M.icmp_ne (pc := 16) (tgt := 30) dX7_bather_16 (by decide) (by omega) (by omega) (fun c16 => ?_) (fun c16 => ?_)
    · refine M.iloadn (pc := 30) 2 rfl rfl dX7_bather_30 ?_
      refine M.iconst (pc := 31) dX7_bather_31 ?_
      refine M.icmp_ne (pc := 32) (tgt := 46) dX7_bather_32 (by decide) (by omega) (by omega) (fun c32 => ?_) (fun c32 => ?_)
      · refine M.iloadn (pc := 46) 2 rfl rfl dX7_bather_46 ?_
        refine M.if_lt (pc := 47) (tgt := 55) dX7_bather_47 (by decide) (by omega) (fun c47 => ?_) (fun c47 => ?_)
        · refine M.ldc (pc := 55) (-1000000002) lc_X7_69 (by decide +kernel) dX7_bather_55 ?_
          refine M.goto (pc := 57) (tgt := 69) dX7_bather_57 (by decide) ?_
          exact EI () _ _ _ _ dX7_bather_69 (Or.inl rfl) (eqI (by unfold nBather; (repeat' split) <;> first | omega | rfl)) rfl trivial
        · refine M.iloadn (pc := 50) 2 rfl rfl dX7_bather_50 ?_
          refine M.iconst (pc := 51) dX7_bather_51 ?_
          refine M.icmp_le (pc := 52) (tgt := 60) dX7_bather_52 (by decide) (by omega) (by omega) (fun c52 => ?_) (fun c52 => ?_)
          · refine M.aloadn (pc := 60) 0 rfl rfl dX7_bather_60 ?_
            refine M.getf (pc := 61) fg_X7_62 0 rfl rfl dX7_bather_61 ?_
            refine M.iloadn (pc := 64) 1 rfl rfl dX7_bather_64 ?_
            refine M.iloadn (pc := 65) 2 rfl rfl dX7_bather_65 ?_
            refine M.pV (pc := 66) (c_X3_ofBather  (by first | assumption | omega) (by first | assumption | omega)) mv_X7_133 [1, 2, 3] rfl rfl rfl 1 rfl rfl rfl rfl (Nat.le_of_ble_eq_true rfl) rfl ⟨(Nat.le_of_ble_eq_true rfl), (Nat.le_of_ble_eq_true rfl)⟩ ⟨(Nat.le_of_ble_eq_true rfl), (Nat.le_of_ble_eq_true rfl)⟩ rfl dX7_bather_66 ?_
            exact EI () _ _ _ _ dX7_bather_69 (Or.inl rfl) (eqI (by unfold nBather; (repeat' split) <;> first | omega | rfl)) rfl trivial
          · refine M.ldc (pc := 55) (-1000000002) lc_X7_69 (by decide +kernel) dX7_bather_55 ?_
            refine M.goto (pc := 57) (tgt := 69) dX7_bather_57 (by decide) ?_
            exact EI () _ _ _ _ dX7_bather_69 (Or.inl rfl) (eqI (by unfold nBather; (repeat' split) <;> first | omega | rfl)) rfl trivial
      · refine M.aloadn (pc := 35) 0 rfl rfl dX7_bather_35 ?_
        refine M.getf (pc := 36) fg_X7_41 0 rfl rfl dX7_bather_36 ?_
        refine M.iconst (pc := 39) dX7_bather_39 ?_
        refine M.iloadn (pc := 40) 1 rfl rfl dX7_bather_40 ?_
        have hpk := p2_b (k := k) (by omega)
        refine M.ishl (pc := 41) (bit_shl1 (by omega) (by omega)) dX7_bather_41 ?_
        refine M.pV (pc := 42) (c_X1_highest  (by first | assumption | omega)) mv_X7_130 [4, 5, 6, 7, 8, 9] rfl rfl rfl 4 rfl rfl rfl rfl (Nat.le_of_ble_eq_true rfl) rfl ⟨(Nat.le_of_ble_eq_true rfl), (Nat.le_of_ble_eq_true rfl)⟩ ⟨(Nat.le_of_ble_eq_true rfl), (Nat.le_of_ble_eq_true rfl)⟩ rfl dX7_bather_42 ?_
        exact EI () _ _ _ _ dX7_bather_45 (Or.inl rfl) (eqI (by unfold nBather; rw [if_neg (by omega), if_neg (by omega), if_neg (by omega), if_neg (by omega), sumT_p6 _ (by omega) (by omega)])) rfl trivial
    · refine M.aloadn (pc := 19) 0 rfl rfl dX7_bather_19 ?_
      refine M.getf (pc := 20) fg_X7_41 0 rfl rfl dX7_bather_20 ?_
      refine M.iconst (pc := 23) dX7_bather_23 ?_
      refine M.iloadn (pc := 24) 1 rfl rfl dX7_bather_24 ?_
      have hpk := p2_b (k := k) (by omega)
      refine M.ishl (pc := 25) (bit_shl1 (by omega) (by omega)) dX7_bather_25 ?_
      refine M.pV (pc := 26) (c_X1_lowest  (by first | assumption | omega)) mv_X7_126 [4, 5, 6, 7, 8, 9] rfl rfl rfl 4 rfl rfl rfl rfl (Nat.le_of_ble_eq_true rfl) rfl ⟨(Nat.le_of_ble_eq_true rfl), (Nat.le_of_ble_eq_true rfl)⟩ ⟨(Nat.le_of_ble_eq_true rfl), (Nat.le_of_ble_eq_true rfl)⟩ rfl dX7_bather_26 ?_
      exact EI () _ _ _ _ dX7_bather_29 (Or.inl rfl) (eqI (by unfold nBather; rw [if_neg (by omega), if_neg (by omega), if_neg (by omega), if_pos (by omega), sumT_p6 _ (by omega) (by omega)])) rfl trivial
  · refine M.ldc (pc := 11) (-1000000001) lc_X7_118 (by decide +kernel) dX7_bather_11 ?_
    exact EI () _ _ _ _ dX7_bather_13 (Or.inl rfl) (eqI (by unfold nBather; (repeat' split) <;> first | omega | rfl)) rfl trivial
set_option maxHeartbeats 4000000 in
set_option maxRecDepth 100000 in
theorem c_X7_height {l : Launch} {G : GT} {x r mo en i0 i1 e f t h h2 : Nat} {vs : Int} {hb ht : Nat} {fb ft : Int → Int} {vb vn vo : Int} {b hh S : Int} (hn : 0 ≤ vn ∧ vn ≤ 6) (hnb : 0 ≤ vb ∧ vb ≤ 2) (hB : HB fb) (hT : HT ft) (hV : HV fb vb) (hVT : HVT ft vn) (ho : 0 ≤ vo ∧ vo ≤ 999) (hrb : InR b) (hrhh : InR hh) (hrS : InR S) : ConF l G yX7_height cX7_height 4 (some .int) { frames := 3, cells := 0, slots := 0, locals := 68 } [.ref x, .int (iI b), .int (iI hh), .int (iI S)] [(x, eO 7 [.ref r, .ref mo, .ref en, .ref i0, .ref i1, .ref e, .ref f, .ref t, .ref h, .ref h2, .int (iI vs)]), (h, eO 3 [.ref hb, .ref ht, .int (iI vb), .int (iI vn), .int (iI vo)]), (hb, eI G 8 fb), (ht, eI G 24 ft)] (some (.int (iI (aHeight fb ft vb vn b hh S)))) := by
  refine Con.mk (by decide +kernel) [some (.ref x), some (.int (iI b)), some (.int (iI hh)), some (.int (iI S))] rfl (Nat.le_of_ble_eq_true rfl) rfl ?_
  intro V M EI EL EV EA
  have hp2 := p2_6 hn.2
  have hcb := caseS_b (ft := ft) (od := vo) (S := S) (which := 0) hT ho (n := vn.toNat) (by omega)
  have hc0 := caseS_0 (gt := ft) (od := vo) (S := S) hn
  refine M.aloadn (pc := 0) 0 rfl rfl dX7_height_0 ?_
  refine M.getf (pc := 1) fg_X7_62 0 rfl rfl dX7_height_1 ?_
  refine M.iloadn (pc := 4) 1 rfl rfl dX7_height_4 ?_
  refine M.pV (pc := 5) (c_X3_hasBath  (by first | assumption | omega) (by first | assumption | omega)) mv_X7_114 [1] rfl rfl rfl 1 rfl rfl rfl rfl (Nat.le_of_ble_eq_true rfl) rfl ⟨(Nat.le_of_ble_eq_true rfl), (Nat.le_of_ble_eq_true rfl)⟩ ⟨(Nat.le_of_ble_eq_true rfl), (Nat.le_of_ble_eq_true rfl)⟩ rfl dX7_height_5 ?_
  refine M.if_eqP (pc := 8) (tgt := 22) dX7_height_8 (by decide) (fun c8 => ?_) (fun c8 => ?_)
  · refine M.ldc (pc := 22) (-1000000001) lc_X7_118 (by decide +kernel) dX7_height_22 ?_
    exact EI () _ _ _ _ dX7_height_24 (Or.inl rfl) (eqI (by unfold aHeight; (repeat' split) <;> first | omega | rfl)) rfl trivial
  · refine M.aloadn (pc := 11) 0 rfl rfl dX7_height_11 ?_
    refine M.getf (pc := 12) fg_X7_62 0 rfl rfl dX7_height_12 ?_
    refine M.iloadn (pc := 15) 3 rfl rfl dX7_height_15 ?_
    refine M.pV (pc := 16) (c_X3_hasSet  (by first | assumption | omega) (by first | assumption | omega)) mv_X7_136 [1] rfl rfl rfl 1 rfl rfl rfl rfl (Nat.le_of_ble_eq_true rfl) rfl ⟨(Nat.le_of_ble_eq_true rfl), (Nat.le_of_ble_eq_true rfl)⟩ ⟨(Nat.le_of_ble_eq_true rfl), (Nat.le_of_ble_eq_true rfl)⟩ rfl dX7_height_16 ?_
    refine M.if_neP (pc := 19) (tgt := 25) dX7_height_19 (by decide) (fun c19 => ?_) (fun c19 => ?_)
    · refine M.iloadn (pc := 25) 2 rfl rfl dX7_height_25 ?_
      refine M.pS (pc := 26) (c_X7_isHour  (by first | assumption | omega)) ms_X7_139 [] rfl rfl rfl rfl (Nat.le_of_ble_eq_true rfl) rfl ⟨(Nat.le_of_ble_eq_true rfl), (Nat.le_of_ble_eq_true rfl)⟩ ⟨(Nat.le_of_ble_eq_true rfl), (Nat.le_of_ble_eq_true rfl)⟩ rfl dX7_height_26 ?_
      refine M.if_eqP (pc := 29) (tgt := 52) dX7_height_29 (by decide) (fun c29 => ?_) (fun c29 => ?_)
      · refine M.ldc (pc := 52) (-1000000002) lc_X7_69 (by decide +kernel) dX7_height_52 ?_
        exact EI () _ _ _ _ dX7_height_54 (Or.inl rfl) (eqI (by unfold aHeight; first | rw [if_neg (by omega), if_pos (by omega), hc0] | rw [if_neg (by omega), if_neg (by omega)])) rfl trivial
      · refine M.aloadn (pc := 32) 0 rfl rfl dX7_height_32 ?_
        refine M.getf (pc := 33) fg_X7_62 0 rfl rfl dX7_height_33 ?_
        refine M.iloadn (pc := 36) 1 rfl rfl dX7_height_36 ?_
        refine M.iloadn (pc := 37) 2 rfl rfl dX7_height_37 ?_
        refine M.aloadn (pc := 38) 0 rfl rfl dX7_height_38 ?_
        refine M.getf (pc := 39) fg_X7_62 0 rfl rfl dX7_height_39 ?_
        refine M.iloadn (pc := 42) 3 rfl rfl dX7_height_42 ?_
        refine M.pV (pc := 43) (c_X3_inTruth  (by first | assumption | omega) (by first | assumption | omega) (by first | assumption | omega) (by first | assumption | omega)) mv_X7_142 [1, 2, 3] rfl rfl rfl 1 rfl rfl rfl rfl (Nat.le_of_ble_eq_true rfl) rfl ⟨(Nat.le_of_ble_eq_true rfl), (Nat.le_of_ble_eq_true rfl)⟩ ⟨(Nat.le_of_ble_eq_true rfl), (Nat.le_of_ble_eq_true rfl)⟩ rfl dX7_height_43 ?_
        refine M.pV (pc := 46) (c_X3_heightOf  (by first | assumption | omega) (by first | assumption | omega) (by first | assumption | omega) (by first | assumption | omega)) mv_X7_145 [1, 2, 3] rfl rfl rfl 1 rfl rfl rfl rfl (Nat.le_of_ble_eq_true rfl) rfl ⟨(Nat.le_of_ble_eq_true rfl), (Nat.le_of_ble_eq_true rfl)⟩ ⟨(Nat.le_of_ble_eq_true rfl), (Nat.le_of_ble_eq_true rfl)⟩ rfl dX7_height_46 ?_
        refine M.goto (pc := 49) (tgt := 54) dX7_height_49 (by decide) ?_
        exact EI () _ _ _ _ dX7_height_54 (Or.inl rfl) (eqI (by unfold aHeight; first | rw [if_neg (by omega), if_pos (by omega), hc0] | rw [if_neg (by omega), if_neg (by omega)])) rfl trivial
    · refine M.ldc (pc := 22) (-1000000001) lc_X7_118 (by decide +kernel) dX7_height_22 ?_
      exact EI () _ _ _ _ dX7_height_24 (Or.inl rfl) (eqI (by unfold aHeight; (repeat' split) <;> first | omega | rfl)) rfl trivial
set_option maxHeartbeats 4000000 in
set_option maxRecDepth 100000 in
theorem c_X7_span {l : Launch} {G : GT} {x r mo en i0 i1 e f t h h2 : Nat} {vs : Int} {hb ht : Nat} {fb ft : Int → Int} {vb vn vo : Int} {b hh v w : Int} (hn : 0 ≤ vn ∧ vn ≤ 6) (hnb : 0 ≤ vb ∧ vb ≤ 2) (hB : HB fb) (hT : HT ft) (hV : HV fb vb) (hVT : HVT ft vn) (ho : 0 ≤ vo ∧ vo ≤ 999) (hrb : InR b) (hrhh : InR hh) (hrv : InR v) (hrw : InR w) : ConF l G yX7_span cX7_span 5 (some .int) { frames := 3, cells := 0, slots := 0, locals := 69 } [.ref x, .int (iI b), .int (iI hh), .int (iI v), .int (iI w)] [(x, eO 7 [.ref r, .ref mo, .ref en, .ref i0, .ref i1, .ref e, .ref f, .ref t, .ref h, .ref h2, .int (iI vs)]), (h, eO 3 [.ref hb, .ref ht, .int (iI vb), .int (iI vn), .int (iI vo)]), (hb, eI G 8 fb), (ht, eI G 24 ft)] (some (.int (iI (aSpan fb vb b hh v w)))) := by
  refine Con.mk (by decide +kernel) [some (.ref x), some (.int (iI b)), some (.int (iI hh)), some (.int (iI v)), some (.int (iI w))] rfl (Nat.le_of_ble_eq_true rfl) rfl ?_
  intro V M EI EL EV EA
  have hmo : hMos fb b hh v = v * hMea fb b + hMea fb b - 1 - hWat fb b hh := rfl
  have hgr := hGre_eq fb b hh v
  have hle := hLea_eq fb b hh v
  refine M.aloadn (pc := 0) 0 rfl rfl dX7_span_0 ?_
  refine M.getf (pc := 1) fg_X7_62 0 rfl rfl dX7_span_1 ?_
  refine M.iloadn (pc := 4) 1 rfl rfl dX7_span_4 ?_
  refine M.pV (pc := 5) (c_X3_hasBath  (by first | assumption | omega) (by first | assumption | omega)) mv_X7_114 [1] rfl rfl rfl 1 rfl rfl rfl rfl (Nat.le_of_ble_eq_true rfl) rfl ⟨(Nat.le_of_ble_eq_true rfl), (Nat.le_of_ble_eq_true rfl)⟩ ⟨(Nat.le_of_ble_eq_true rfl), (Nat.le_of_ble_eq_true rfl)⟩ rfl dX7_span_5 ?_
  refine M.if_neP (pc := 8) (tgt := 14) dX7_span_8 (by decide) (fun c8 => ?_) (fun c8 => ?_)
  · refine M.iloadn (pc := 14) 2 rfl rfl dX7_span_14 ?_
    refine M.pS (pc := 15) (c_X7_isHour  (by first | assumption | omega)) ms_X7_139 [] rfl rfl rfl rfl (Nat.le_of_ble_eq_true rfl) rfl ⟨(Nat.le_of_ble_eq_true rfl), (Nat.le_of_ble_eq_true rfl)⟩ ⟨(Nat.le_of_ble_eq_true rfl), (Nat.le_of_ble_eq_true rfl)⟩ rfl dX7_span_15 ?_
    refine M.if_eqP (pc := 18) (tgt := 39) dX7_span_18 (by decide) (fun c18 => ?_) (fun c18 => ?_)
    · refine M.ldc (pc := 39) (-1000000002) lc_X7_69 (by decide +kernel) dX7_span_39 ?_
      exact EI () _ _ _ _ dX7_span_41 (Or.inl rfl) (eqI (by unfold aSpan; (repeat' split) <;> first | omega | rfl)) rfl trivial
    · refine M.iloadn (pc := 21) 3 rfl rfl dX7_span_21 ?_
      refine M.pS (pc := 22) (c_X7_isHeight  (by first | assumption | omega)) ms_X7_149 [] rfl rfl rfl rfl (Nat.le_of_ble_eq_true rfl) rfl ⟨(Nat.le_of_ble_eq_true rfl), (Nat.le_of_ble_eq_true rfl)⟩ ⟨(Nat.le_of_ble_eq_true rfl), (Nat.le_of_ble_eq_true rfl)⟩ rfl dX7_span_22 ?_
      refine M.if_eqP (pc := 25) (tgt := 39) dX7_span_25 (by decide) (fun c25 => ?_) (fun c25 => ?_)
      · refine M.ldc (pc := 39) (-1000000002) lc_X7_69 (by decide +kernel) dX7_span_39 ?_
        exact EI () _ _ _ _ dX7_span_41 (Or.inl rfl) (eqI (by unfold aSpan; (repeat' split) <;> first | omega | rfl)) rfl trivial
      · refine M.iload (pc := 28) (i := 4) rfl dX7_span_28 ?_
        refine M.if_lt (pc := 30) (tgt := 39) dX7_span_30 (by decide) (by omega) (fun c30 => ?_) (fun c30 => ?_)
        · refine M.ldc (pc := 39) (-1000000002) lc_X7_69 (by decide +kernel) dX7_span_39 ?_
          exact EI () _ _ _ _ dX7_span_41 (Or.inl rfl) (eqI (by unfold aSpan; (repeat' split) <;> first | omega | rfl)) rfl trivial
        · refine M.iload (pc := 33) (i := 4) rfl dX7_span_33 ?_
          refine M.iconst (pc := 35) dX7_span_35 ?_
          refine M.icmp_le (pc := 36) (tgt := 42) dX7_span_36 (by decide) (by omega) (by omega) (fun c36 => ?_) (fun c36 => ?_)
          · refine M.iload (pc := 42) (i := 4) rfl dX7_span_42 ?_
            refine M.if_ne (pc := 44) (tgt := 60) dX7_span_44 (by decide) (by omega) (fun c44 => ?_) (fun c44 => ?_)
            · refine M.aloadn (pc := 60) 0 rfl rfl dX7_span_60 ?_
              refine M.getf (pc := 61) fg_X7_62 0 rfl rfl dX7_span_61 ?_
              refine M.iloadn (pc := 64) 1 rfl rfl dX7_span_64 ?_
              refine M.iloadn (pc := 65) 2 rfl rfl dX7_span_65 ?_
              refine M.iloadn (pc := 66) 3 rfl rfl dX7_span_66 ?_
              refine M.pV (pc := 67) (c_X3_greatestOf  (by first | assumption | omega) (by first | assumption | omega) (by first | assumption | omega) (by first | assumption | omega)) mv_X7_155 [1, 2, 3] rfl rfl rfl 1 rfl rfl rfl rfl (Nat.le_of_ble_eq_true rfl) rfl ⟨(Nat.le_of_ble_eq_true rfl), (Nat.le_of_ble_eq_true rfl)⟩ ⟨(Nat.le_of_ble_eq_true rfl), (Nat.le_of_ble_eq_true rfl)⟩ rfl dX7_span_67 ?_
              exact EI () _ _ _ _ dX7_span_70 (Or.inl rfl) (eqI (by unfold aSpan; rw [if_neg (by omega), if_neg (by omega)]; first | (rw [hle]; (repeat' split) <;> omega) | ((repeat' split) <;> omega))) rfl trivial
            · refine M.aloadn (pc := 47) 0 rfl rfl dX7_span_47 ?_
              refine M.getf (pc := 48) fg_X7_62 0 rfl rfl dX7_span_48 ?_
              refine M.iloadn (pc := 51) 1 rfl rfl dX7_span_51 ?_
              refine M.iloadn (pc := 52) 2 rfl rfl dX7_span_52 ?_
              refine M.iloadn (pc := 53) 3 rfl rfl dX7_span_53 ?_
              refine M.pV (pc := 54) (c_X3_leastOf  (by first | assumption | omega) (by first | assumption | omega) (by first | assumption | omega) (by first | assumption | omega)) mv_X7_152 [1, 2, 3] rfl rfl rfl 1 rfl rfl rfl rfl (Nat.le_of_ble_eq_true rfl) rfl ⟨(Nat.le_of_ble_eq_true rfl), (Nat.le_of_ble_eq_true rfl)⟩ ⟨(Nat.le_of_ble_eq_true rfl), (Nat.le_of_ble_eq_true rfl)⟩ rfl dX7_span_54 ?_
              refine M.goto (pc := 57) (tgt := 70) dX7_span_57 (by decide) ?_
              exact EI () _ _ _ _ dX7_span_70 (Or.inl rfl) (eqI (by unfold aSpan; rw [if_neg (by omega), if_neg (by omega)]; first | (rw [hle]; (repeat' split) <;> omega) | ((repeat' split) <;> omega))) rfl trivial
          · refine M.ldc (pc := 39) (-1000000002) lc_X7_69 (by decide +kernel) dX7_span_39 ?_
            exact EI () _ _ _ _ dX7_span_41 (Or.inl rfl) (eqI (by unfold aSpan; (repeat' split) <;> first | omega | rfl)) rfl trivial
  · refine M.ldc (pc := 11) (-1000000001) lc_X7_118 (by decide +kernel) dX7_span_11 ?_
    exact EI () _ _ _ _ dX7_span_13 (Or.inl rfl) (eqI (by unfold aSpan; (repeat' split) <;> first | omega | rfl)) rfl trivial
set_option maxHeartbeats 4000000 in
set_option maxRecDepth 100000 in
theorem c_X7_odds {l : Launch} {G : GT} {x r mo en i0 i1 e f t h h2 : Nat} {vs : Int} {hb ht : Nat} {fb ft : Int → Int} {vb vn vo : Int} {S : Int} (hn : 0 ≤ vn ∧ vn ≤ 6) (hnb : 0 ≤ vb ∧ vb ≤ 2) (hB : HB fb) (hT : HT ft) (hV : HV fb vb) (hVT : HVT ft vn) (ho : 0 ≤ vo ∧ vo ≤ 999) (hrS : InR S) : ConF l G yX7_odds cX7_odds 2 (some .int) { frames := 2, cells := 0, slots := 0, locals := 48 } [.ref x, .int (iI S)] [(x, eO 7 [.ref r, .ref mo, .ref en, .ref i0, .ref i1, .ref e, .ref f, .ref t, .ref h, .ref h2, .int (iI vs)]), (h, eO 3 [.ref hb, .ref ht, .int (iI vb), .int (iI vn), .int (iI vo)]), (hb, eI G 8 fb), (ht, eI G 24 ft)] (some (.int (iI (aOdds ft vn S)))) := by
  refine Con.mk (by decide +kernel) [some (.ref x), some (.int (iI S))] rfl (Nat.le_of_ble_eq_true rfl) rfl ?_
  intro V M EI EL EV EA
  have hp2 := p2_6 hn.2
  refine M.aloadn (pc := 0) 0 rfl rfl dX7_odds_0 ?_
  refine M.getf (pc := 1) fg_X7_62 0 rfl rfl dX7_odds_1 ?_
  refine M.iloadn (pc := 4) 1 rfl rfl dX7_odds_4 ?_
  refine M.pV (pc := 5) (c_X3_hasSet  (by first | assumption | omega) (by first | assumption | omega)) mv_X7_136 [1] rfl rfl rfl 1 rfl rfl rfl rfl (Nat.le_of_ble_eq_true rfl) rfl ⟨(Nat.le_of_ble_eq_true rfl), (Nat.le_of_ble_eq_true rfl)⟩ ⟨(Nat.le_of_ble_eq_true rfl), (Nat.le_of_ble_eq_true rfl)⟩ rfl dX7_odds_5 ?_
  refine M.if_eqP (pc := 8) (tgt := 22) dX7_odds_8 (by decide) (fun c8 => ?_) (fun c8 => ?_)
  · refine M.ldc (pc := 22) (-1000000001) lc_X7_118 (by decide +kernel) dX7_odds_22 ?_
    exact EI () _ _ _ _ dX7_odds_24 (Or.inl rfl) (eqI (by unfold aOdds; (repeat' split) <;> first | omega | rfl)) rfl trivial
  · refine M.aloadn (pc := 11) 0 rfl rfl dX7_odds_11 ?_
    refine M.getf (pc := 12) fg_X7_62 0 rfl rfl dX7_odds_12 ?_
    refine M.iloadn (pc := 15) 1 rfl rfl dX7_odds_15 ?_
    refine M.pV (pc := 16) (c_X3_oddsOf  (by first | assumption | omega) (by first | assumption | omega) (by first | assumption | omega)) mv_X7_181 [1, 2, 3] rfl rfl rfl 1 rfl rfl rfl rfl (Nat.le_of_ble_eq_true rfl) rfl ⟨(Nat.le_of_ble_eq_true rfl), (Nat.le_of_ble_eq_true rfl)⟩ ⟨(Nat.le_of_ble_eq_true rfl), (Nat.le_of_ble_eq_true rfl)⟩ rfl dX7_odds_16 ?_
    refine M.goto (pc := 19) (tgt := 24) dX7_odds_19 (by decide) ?_
    exact EI () _ _ _ _ dX7_odds_24 (Or.inl rfl) (eqI (by unfold aOdds; (repeat' split) <;> first | omega | rfl)) rfl trivial
set_option maxHeartbeats 4000000 in
set_option maxRecDepth 100000 in
theorem c_X7_tells {l : Launch} {G : GT} {x r mo en i0 i1 e f t h h2 : Nat} {vs : Int} {hb ht : Nat} {fb ft : Int → Int} {vb vn vo : Int} {b S c : Int} (hn : 0 ≤ vn ∧ vn ≤ 6) (hnb : 0 ≤ vb ∧ vb ≤ 2) (hB : HB fb) (hT : HT ft) (hV : HV fb vb) (hVT : HVT ft vn) (ho : 0 ≤ vo ∧ vo ≤ 999) (hrb : InR b) (hrS : InR S) (hrc : InR c) : ConF l G yX7_tells cX7_tells 4 (some .int) { frames := 3, cells := 0, slots := 0, locals := 68 } [.ref x, .int (iI b), .int (iI S), .int (iI c)] [(x, eO 7 [.ref r, .ref mo, .ref en, .ref i0, .ref i1, .ref e, .ref f, .ref t, .ref h, .ref h2, .int (iI vs)]), (h, eO 3 [.ref hb, .ref ht, .int (iI vb), .int (iI vn), .int (iI vo)]), (hb, eI G 8 fb), (ht, eI G 24 ft)] (some (.int (iI (aTells fb ft vb vn vo b S c)))) := by
  refine Con.mk (by decide +kernel) [some (.ref x), some (.int (iI b)), some (.int (iI S)), some (.int (iI c))] rfl (Nat.le_of_ble_eq_true rfl) rfl ?_
  intro V M EI EL EV EA
  have hp2 := p2_6 hn.2
  have hcb := caseS_b (ft := ft) (od := vo) (S := S) (which := c) hT ho (n := vn.toNat) (by omega)
  refine M.aloadn (pc := 0) 0 rfl rfl dX7_tells_0 ?_
  refine M.getf (pc := 1) fg_X7_62 0 rfl rfl dX7_tells_1 ?_
  refine M.iloadn (pc := 4) 1 rfl rfl dX7_tells_4 ?_
  refine M.pV (pc := 5) (c_X3_hasBath  (by first | assumption | omega) (by first | assumption | omega)) mv_X7_114 [1] rfl rfl rfl 1 rfl rfl rfl rfl (Nat.le_of_ble_eq_true rfl) rfl ⟨(Nat.le_of_ble_eq_true rfl), (Nat.le_of_ble_eq_true rfl)⟩ ⟨(Nat.le_of_ble_eq_true rfl), (Nat.le_of_ble_eq_true rfl)⟩ rfl dX7_tells_5 ?_
  refine M.if_eqP (pc := 8) (tgt := 37) dX7_tells_8 (by decide) (fun c8 => ?_) (fun c8 => ?_)
  · refine M.ldc (pc := 37) (-1000000001) lc_X7_118 (by decide +kernel) dX7_tells_37 ?_
    exact EI () _ _ _ _ dX7_tells_39 (Or.inl rfl) (eqI (by unfold aTells; first | (rw [if_pos (by omega)]) | (rw [if_neg (by omega)]))) rfl trivial
  · refine M.aloadn (pc := 11) 0 rfl rfl dX7_tells_11 ?_
    refine M.getf (pc := 12) fg_X7_62 0 rfl rfl dX7_tells_12 ?_
    refine M.iloadn (pc := 15) 2 rfl rfl dX7_tells_15 ?_
    refine M.pV (pc := 16) (c_X3_hasSet  (by first | assumption | omega) (by first | assumption | omega)) mv_X7_136 [1] rfl rfl rfl 1 rfl rfl rfl rfl (Nat.le_of_ble_eq_true rfl) rfl ⟨(Nat.le_of_ble_eq_true rfl), (Nat.le_of_ble_eq_true rfl)⟩ ⟨(Nat.le_of_ble_eq_true rfl), (Nat.le_of_ble_eq_true rfl)⟩ rfl dX7_tells_16 ?_
    refine M.if_eqP (pc := 19) (tgt := 37) dX7_tells_19 (by decide) (fun c19 => ?_) (fun c19 => ?_)
    · refine M.ldc (pc := 37) (-1000000001) lc_X7_118 (by decide +kernel) dX7_tells_37 ?_
      exact EI () _ _ _ _ dX7_tells_39 (Or.inl rfl) (eqI (by unfold aTells; first | (rw [if_pos (by omega)]) | (rw [if_neg (by omega)]))) rfl trivial
    · refine M.iloadn (pc := 22) 2 rfl rfl dX7_tells_22 ?_
      refine M.if_eq (pc := 23) (tgt := 37) dX7_tells_23 (by decide) (by omega) (fun c23 => ?_) (fun c23 => ?_)
      · refine M.ldc (pc := 37) (-1000000001) lc_X7_118 (by decide +kernel) dX7_tells_37 ?_
        exact EI () _ _ _ _ dX7_tells_39 (Or.inl rfl) (eqI (by unfold aTells; first | (rw [if_pos (by omega)]) | (rw [if_neg (by omega)]))) rfl trivial
      · refine M.aloadn (pc := 26) 0 rfl rfl dX7_tells_26 ?_
        refine M.getf (pc := 27) fg_X7_62 0 rfl rfl dX7_tells_27 ?_
        refine M.iloadn (pc := 30) 3 rfl rfl dX7_tells_30 ?_
        refine M.pV (pc := 31) (c_X3_hasCaseA  (by first | assumption | omega) (by first | assumption | omega)) mv_X7_190 [1] rfl rfl rfl 1 rfl rfl rfl rfl (Nat.le_of_ble_eq_true rfl) rfl ⟨(Nat.le_of_ble_eq_true rfl), (Nat.le_of_ble_eq_true rfl)⟩ ⟨(Nat.le_of_ble_eq_true rfl), (Nat.le_of_ble_eq_true rfl)⟩ rfl dX7_tells_31 ?_
        refine M.if_neP (pc := 34) (tgt := 40) dX7_tells_34 (by decide) (fun c34 => ?_) (fun c34 => ?_)
        · refine M.aloadn (pc := 40) 0 rfl rfl dX7_tells_40 ?_
          refine M.getf (pc := 41) fg_X7_62 0 rfl rfl dX7_tells_41 ?_
          refine M.iloadn (pc := 44) 1 rfl rfl dX7_tells_44 ?_
          refine M.iconst (pc := 45) dX7_tells_45 ?_
          refine M.aloadn (pc := 46) 0 rfl rfl dX7_tells_46 ?_
          refine M.getf (pc := 47) fg_X7_62 0 rfl rfl dX7_tells_47 ?_
          refine M.iloadn (pc := 50) 2 rfl rfl dX7_tells_50 ?_
          refine M.iloadn (pc := 51) 3 rfl rfl dX7_tells_51 ?_
          refine M.pV (pc := 52) (c_X3_inCase  (by first | assumption | omega) (by first | assumption | omega) (by first | assumption | omega) (by first | assumption | omega) (by first | assumption | omega)) mv_X7_193 [1, 2, 3] rfl rfl rfl 1 rfl rfl rfl rfl (Nat.le_of_ble_eq_true rfl) rfl ⟨(Nat.le_of_ble_eq_true rfl), (Nat.le_of_ble_eq_true rfl)⟩ ⟨(Nat.le_of_ble_eq_true rfl), (Nat.le_of_ble_eq_true rfl)⟩ rfl dX7_tells_52 ?_
          refine M.pV (pc := 55) (c_X3_heightOf  (by first | assumption | omega) (by first | assumption | omega) (by first | assumption | omega) (by first | assumption | omega)) mv_X7_145 [1, 2, 3] rfl rfl rfl 1 rfl rfl rfl rfl (Nat.le_of_ble_eq_true rfl) rfl ⟨(Nat.le_of_ble_eq_true rfl), (Nat.le_of_ble_eq_true rfl)⟩ ⟨(Nat.le_of_ble_eq_true rfl), (Nat.le_of_ble_eq_true rfl)⟩ rfl dX7_tells_55 ?_
          exact EI () _ _ _ _ dX7_tells_58 (Or.inl rfl) (eqI (by unfold aTells; first | (rw [if_pos (by omega)]) | (rw [if_neg (by omega)]))) rfl trivial
        · refine M.ldc (pc := 37) (-1000000001) lc_X7_118 (by decide +kernel) dX7_tells_37 ?_
          exact EI () _ _ _ _ dX7_tells_39 (Or.inl rfl) (eqI (by unfold aTells; first | (rw [if_pos (by omega)]) | (rw [if_neg (by omega)]))) rfl trivial
