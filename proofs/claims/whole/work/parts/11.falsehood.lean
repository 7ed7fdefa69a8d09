/-! sets of mornings: bits, counts, the next of like count -/
theorem nI_xor (a b : Nat) : nI a ^^^ nI b = nI (a ^^^ b) := by
  apply Int32.toBitVec_inj.1
  show BitVec.ofNat 32 a ^^^ BitVec.ofNat 32 b = BitVec.ofNat 32 (a ^^^ b)
  apply BitVec.eq_of_getLsbD_eq
  intro i hi
  simp [hi]
theorem nI_or (a b : Nat) : nI a ||| nI b = nI (a ||| b) := by
  apply Int32.toBitVec_inj.1
  show BitVec.ofNat 32 a ||| BitVec.ofNat 32 b = BitVec.ofNat 32 (a ||| b)
  apply BitVec.eq_of_getLsbD_eq
  intro i hi
  simp [hi]
theorem nI_and (a b : Nat) : nI a &&& nI b = nI (a &&& b) := by
  apply Int32.toBitVec_inj.1
  show BitVec.ofNat 32 a &&& BitVec.ofNat 32 b = BitVec.ofNat 32 (a &&& b)
  apply BitVec.eq_of_getLsbD_eq
  intro i hi
  simp [hi]
theorem iI_m1 : (iI (-1)).toBitVec = BitVec.allOnes 32 := by decide +kernel
theorem nI_andn (a b : Nat) : nI a &&& (nI b ^^^ iI (-1)) = nI (a ^^^ (a &&& b)) := by
  apply Int32.toBitVec_inj.1
  rw [Int32.toBitVec_and, Int32.toBitVec_xor, iI_m1]
  show BitVec.ofNat 32 a &&& (BitVec.ofNat 32 b ^^^ BitVec.allOnes 32) = BitVec.ofNat 32 (a ^^^ (a &&& b))
  apply BitVec.eq_of_getLsbD_eq
  intro i hi
  simp only [BitVec.getLsbD_and, BitVec.getLsbD_xor, BitVec.getLsbD_allOnes, BitVec.getLsbD_ofNat, Nat.testBit_xor, Nat.testBit_and, hi, decide_true, Bool.true_and]
  cases a.testBit i <;> cases b.testBit i <;> rfl
def andn (a b : Int) : Int := ((a.toNat ^^^ (a.toNat &&& b.toNat) : Nat) : Int)
def land (a b : Int) : Int := ((a.toNat &&& b.toNat : Nat) : Int)
theorem andn_ok {a b : Int} (ha : 0 ≤ a) (hb : 0 ≤ b) : iI a &&& iI ((iI b ^^^ iI (-1)).toInt) = iI (andn a b) := by
  rw [← iI_of]
  obtain ⟨x, rfl⟩ := Int.eq_ofNat_of_zero_le ha
  obtain ⟨y, rfl⟩ := Int.eq_ofNat_of_zero_le hb
  rw [iI_nat, iI_nat, nI_andn]
  unfold andn
  rw [iI_nat]
  rfl
theorem land_ok {a b : Int} (ha : 0 ≤ a) (hb : 0 ≤ b) : iI a &&& iI b = iI (land a b) := by
  obtain ⟨x, rfl⟩ := Int.eq_ofNat_of_zero_le ha
  obtain ⟨y, rfl⟩ := Int.eq_ofNat_of_zero_le hb
  rw [iI_nat, iI_nat, nI_and]
  unfold land
  rw [iI_nat]
  rfl
theorem tb_andn (a b m : Int) : tb (andn a b) m = (tb a m && !tb b m) := by
  show (andn a b).toNat.testBit m.toNat = (a.toNat.testBit m.toNat && !b.toNat.testBit m.toNat)
  unfold andn
  rw [Int.toNat_natCast, Nat.testBit_xor, Nat.testBit_and]
  cases a.toNat.testBit m.toNat <;> cases b.toNat.testBit m.toNat <;> rfl
theorem tb_land (a b m : Int) : tb (land a b) m = (tb a m && tb b m) := by
  show (land a b).toNat.testBit m.toNat = (a.toNat.testBit m.toNat && b.toNat.testBit m.toNat)
  unfold land
  rw [Int.toNat_natCast, Nat.testBit_and]
theorem andn_b {a b : Int} (ha : 0 ≤ a) : 0 ≤ andn a b ∧ andn a b ≤ a := by
  unfold andn
  have h : a.toNat ^^^ (a.toNat &&& b.toNat) = (a.toNat ^^^ (a.toNat &&& b.toNat)) &&& a.toNat := by
    apply Nat.eq_of_testBit_eq
    intro i
    rw [Nat.testBit_and, Nat.testBit_xor, Nat.testBit_and]
    cases a.toNat.testBit i <;> cases b.toNat.testBit i <;> rfl
  have h2 : (a.toNat ^^^ (a.toNat &&& b.toNat)) &&& a.toNat ≤ a.toNat := Nat.and_le_right
  rw [← h] at h2
  generalize a.toNat ^^^ (a.toNat &&& b.toNat) = q at h2 ⊢
  omega
theorem land_b {a b : Int} (ha : 0 ≤ a) (hb : 0 ≤ b) : 0 ≤ land a b ∧ land a b ≤ a ∧ land a b ≤ b := by
  unfold land
  have h1 : a.toNat &&& b.toNat ≤ a.toNat := Nat.and_le_left
  have h2 : a.toNat &&& b.toNat ≤ b.toNat := Nat.and_le_right
  generalize a.toNat &&& b.toNat = q at h1 h2 ⊢
  omega
theorem land_0 {a b : Int} (h : land a b = 0) (m : Int) (ha : tb a m = true) : tb b m = false := by
  have h1 := tb_land a b m
  rw [h, ha] at h1
  have h2 : tb 0 m = false := by show (0 : Nat).testBit m.toNat = false; exact Nat.zero_testBit _
  rw [h2] at h1
  simpa using h1.symm
theorem tb_p2 {k m : Int} (h0 : 0 ≤ k) (h1 : 0 ≤ m) : tb (p2 k) m = decide (k = m) := by
  show (p2 k).toNat.testBit m.toNat = _
  unfold p2
  rw [Int.toNat_natCast, Nat.testBit_two_pow]
  by_cases h : k = m
  · subst h; simp
  · have : ¬ k.toNat = m.toNat := by omega
    simp [h, this]
/-- the place of the lowest bit -/
def ctzN : Nat → Nat → Nat
  | 0, _ => 0
  | f + 1, n => if n % 2 = 1 then 0 else 1 + ctzN f (n / 2)
def ctz (x : Int) : Int := ((ctzN 13 x.toNat : Nat) : Int)
def allB (p : Nat → Bool) : Nat → Bool
  | 0 => true
  | n + 1 => p n && allB p n
theorem allB_p {p : Nat → Bool} : ∀ {N : Nat}, allB p N = true → ∀ n, n < N → p n = true := by
  intro N
  induction N with
  | zero => intro _ n hn; omega
  | succ N ih =>
    intro h n hn
    have h2 : (p N && allB p N) = true := h
    rw [Bool.and_eq_true] at h2
    rcases (by omega : n < N ∨ n = N) with q | q
    · exact ih h2.2 n q
    · rw [q]; exact h2.1
theorem ntz_all : allB (fun n => n == 0 || (((iI (n : Int) ^^^ iI (-1)) &&& (iI (n : Int) - iI 1)) == iI (((2 ^ ctzN 13 n : Nat) : Int) - 1) && Nat.ble (ctzN 13 n) 12)) 8192 = true := by decide +kernel
theorem ntz_mask {x : Int} (h0 : 0 < x) (h1 : x < 8192) : iI ((iI x ^^^ iI (-1)).toInt) &&& iI (x - 1) = iI (p2 (ctz x) - 1) ∧ 0 ≤ ctz x ∧ ctz x ≤ 12 := by
  obtain ⟨n, rfl⟩ := Int.eq_ofNat_of_zero_le (by omega : 0 ≤ x)
  have h := allB_p ntz_all n (by omega)
  have hn : (n == 0) = false := by simp; omega
  simp only [hn, Bool.false_or, Bool.and_eq_true, beq_iff_eq] at h
  rw [← iI_of, ← iI_sub]
  have e : p2 (ctz (n : Int)) = ((2 ^ ctzN 13 n : Nat) : Int) := by unfold p2 ctz; rfl
  rw [e]
  refine ⟨h.1, by unfold ctz; omega, ?_⟩
  have h2 := Nat.le_of_ble_eq_true h.2
  unfold ctz
  rw [Int.toNat_natCast]
  omega
theorem s_u31 : ∀ n, n < 32 → (((nI n).toUInt32 &&& Int32.toUInt32 31).toBitVec % 32).toNat = n := by decide +kernel
theorem bit_ushr {x s : Int} (h0 : 0 ≤ x) (h1 : x < 4294967296) (h2 : 0 ≤ s) (h3 : s < 32) : ((iI x).toUInt32 >>> ((iI s).toUInt32 &&& Int32.toUInt32 31)).toInt32 = iI ((x.toNat / 2 ^ s.toNat : Nat) : Int) := by
  obtain ⟨n, rfl⟩ := Int.eq_ofNat_of_zero_le h0
  obtain ⟨j, rfl⟩ := Int.eq_ofNat_of_zero_le h2
  rw [iI_nat, iI_nat, iI_nat]
  exact pk_ushrN (by omega) _ j (s_u31 j (by omega))
theorem bit_ushrd {x s : Int} (D : Int) (hD : (2 : Int) ^ s.toNat = D) (h0 : 0 ≤ x) (h1 : x < 4294967296) (h2 : 0 ≤ s) (h3 : s < 32) : ((iI x).toUInt32 >>> ((iI s).toUInt32 &&& Int32.toUInt32 31)).toInt32 = iI (x / D) := by
  rw [bit_ushr h0 h1 h2 h3, ← hD, Int.natCast_ediv, Int.natCast_pow, Int.toNat_of_nonneg h0]
  rfl
theorem p2_lit : p2 0 = 1 ∧ p2 1 = 2 ∧ p2 2 = 4 ∧ p2 3 = 8 ∧ p2 4 = 16 ∧ p2 5 = 32 ∧ p2 6 = 64 ∧ p2 7 = 128 ∧ p2 8 = 256 ∧ p2 9 = 512 ∧ p2 10 = 1024 ∧ p2 11 = 2048 ∧ p2 12 = 4096 := by decide +kernel
def popc (n : Nat) : Nat := n % 2 + n / 2 % 2 + n / 4 % 2 + n / 8 % 2 + n / 16 % 2 + n / 32 % 2 + n / 64 % 2 + n / 128 % 2 + n / 256 % 2 + n / 512 % 2 + n / 1024 % 2 + n / 2048 % 2 + n / 4096 % 2
def nxt (n : Nat) : Nat := (n + 2 ^ ctzN 13 n) ||| (((n + 2 ^ ctzN 13 n) ^^^ n) / 2 ^ (2 + ctzN 13 n))
theorem nxt_all : allB (fun n => n == 0 || (Nat.blt n (nxt n) && Nat.blt (nxt n) 8192 && popc (nxt n) == popc n && allB (fun j => popc (n + 1 + j) != popc n) (nxt n - n - 1))) 4096 = true := by decide +kernel
theorem nxt_ok {n : Nat} (h0 : 0 < n) (h1 : n < 4096) : n < nxt n ∧ nxt n < 8192 ∧ popc (nxt n) = popc n ∧ ∀ s, n < s → s < nxt n → popc s ≠ popc n := by
  have h := allB_p nxt_all n h1
  have hn : (n == 0) = false := by simp; omega
  simp only [hn, Bool.false_or, Bool.and_eq_true, beq_iff_eq] at h
  obtain ⟨⟨⟨a1, a2⟩, a3⟩, a4⟩ := h
  have b1 : n < nxt n := Nat.le_of_ble_eq_true a1
  have b2 : nxt n < 8192 := Nat.le_of_ble_eq_true a2
  refine ⟨b1, b2, a3, fun s g0 g1 => ?_⟩
  have := allB_p a4 (s - n - 1) (by omega)
  rw [show n + 1 + (s - n - 1) = s by omega] at this
  simpa using this
theorem pop_least : allB (fun s => Nat.ble (2 ^ popc s) (s + 1)) 4096 = true := by decide +kernel
theorem pop_all : ∀ c, c ≤ 12 → popc (2 ^ c - 1) = c := by decide +kernel
theorem pop_0 : allB (fun s => s == 0 || popc s != 0) 8192 = true := by decide +kernel
theorem low_all : allB (fun n => n == 0 || ((iI (n : Int) &&& iI (-(n : Int))) == iI ((2 ^ ctzN 13 n : Nat) : Int) && ctzN 13 (2 ^ ctzN 13 n) == ctzN 13 n)) 4096 = true := by decide +kernel
theorem low_ok {x : Int} (h0 : 0 < x) (h1 : x < 4096) : iI x &&& iI (-x) = iI (p2 (ctz x)) ∧ ctz (p2 (ctz x)) = ctz x := by
  obtain ⟨n, rfl⟩ := Int.eq_ofNat_of_zero_le (by omega : 0 ≤ x)
  have h := allB_p low_all n (by omega)
  have hn : (n == 0) = false := by simp; omega
  simp only [hn, Bool.false_or, Bool.and_eq_true, beq_iff_eq] at h
  have e : p2 (ctz (n : Int)) = ((2 ^ ctzN 13 n : Nat) : Int) := by unfold p2 ctz; rfl
  rw [e]
  refine ⟨h.1, ?_⟩
  unfold ctz
  rw [Int.toNat_natCast, Int.toNat_natCast, h.2]
def cnt (S : Int) : Int := ((popc S.toNat : Nat) : Int)
def sB (S : Int) : Nat → Int
  | 0 => 0
  | n + 1 => sB S n + ((S.toNat / 2 ^ n % 2 : Nat) : Int)
theorem sB_13 (S : Int) : sB S 13 = cnt S := by
  unfold cnt popc
  simp only [sB]
  simp
theorem sB_s (S : Int) {k : Int} (h : 0 ≤ k) : sB S (k + 1).toNat = sB S k.toNat + ((S.toNat / 2 ^ k.toNat % 2 : Nat) : Int) := by
  rw [show (k + 1).toNat = k.toNat + 1 by omega]
  rfl
/-- FALSE: the fewest, of like ones the least -/
def IsF (c : Int) (P : Int → Prop) (s : Int) : Prop := (0 ≤ s ∧ s < p2 c) ∧ ¬ P s ∧ ∀ t, 0 ≤ t → t < p2 c → ¬ P t → cnt s < cnt t ∨ (cnt s = cnt t ∧ s ≤ t)
theorem IsF.one {c : Int} {P : Int → Prop} {s t : Int} (h : IsF c P s) (h' : IsF c P t) : s = t := by
  have h1 := h.2.2 t h'.1.1 h'.1.2 h'.2.1
  have h2 := h'.2.2 s h.1.1 h.1.2 h.2.1
  omega
theorem IsF.zero {c : Int} {P : Int → Prop} (h : ¬ P 0) : IsF c P 0 := by
  refine ⟨⟨by omega, ?_⟩, h, fun t h0 _ _ => ?_⟩
  · unfold p2
    have := Nat.pow_pos (n := c.toNat) (by decide : 0 < 2)
    generalize 2 ^ c.toNat = q at this ⊢
    omega
  · have : cnt 0 = 0 := by decide +kernel
    unfold cnt at *
    omega
theorem Cl.congr {n c : Int} {U V Sm L Gm : Int → Int} {T T' : Int} (h : ∀ m, 0 ≤ m → m < c → tb T m = tb T' m) : Cl n c U V Sm L Gm T ↔ Cl n c U V Sm L Gm T' :=
  ⟨fun q => q.mono (fun m h0 h1 h2 => by rw [← h m h0 h1]; exact h2), fun q => q.mono (fun m h0 h1 h2 => by rw [h m h0 h1]; exact h2)⟩
theorem Cl.none {n c : Int} {U V Sm L Gm : Int → Int} {T : Int} (hU : ∀ k, 0 ≤ k → k < n → U k ≤ V k) (hT : ∀ m, 0 ≤ m → m < c → tb T m = false) : ¬ Cl n c U V Sm L Gm T := fun h => h ⟨U, V, fun k h0 h1 => ⟨Int.le_refl _, hU k h0 h1, Int.le_refl _⟩, fun m h0 h1 h2 => by rw [hT m h0 h1] at h2; exact absurd h2 (by decide)⟩
theorem tb_0 (m : Int) : tb 0 m = false := by show (0 : Nat).testBit m.toNat = false; exact Nat.zero_testBit _
set_option maxHeartbeats 4000000 in
set_option maxRecDepth 100000 in
theorem c_X8_bits {l : Launch} {G : GT} {S : Int} (hs : 0 ≤ S ∧ S < 2147483648) : ConF l G yX8_bits cX8_bits 3 (some .int) { frames := 0, cells := 0, slots := 0, locals := 0 } [.int (iI S)] [] (some (.int (iI (cnt S)))) := by
  refine Con.mk (by decide +kernel) [some (.int (iI S)), none, none] rfl (Nat.le_of_ble_eq_true rfl) rfl ?_
  intro V M EI EL EV EA
  refine M.iconst (pc := 0) dX8_bits_0 ?_
  refine M.istoren (pc := 1) 1 rfl (Nat.le_of_ble_eq_true rfl) rfl dX8_bits_1 ?_
  dsimp only [List.set_cons_zero, List.set_cons_succ]
  refine M.iconst (pc := 2) dX8_bits_2 ?_
  refine M.istoren (pc := 3) 2 rfl (Nat.le_of_ble_eq_true rfl) rfl dX8_bits_3 ?_
  dsimp only [List.set_cons_zero, List.set_cons_succ]
  have L4 : ∀ (fu : Nat) {k s : Int}, (0 ≤ k ∧ k ≤ 13) → (s = sB S k.toNat) → (13 - k).toNat < fu → V 0 0 4 [] [some (.int (iI S)), some (.int (iI s)), some (.int (iI k))] [] := by
    intro fu
    induction fu with
    | zero => intro k s hk hs2 hm; exact absurd hm (Nat.not_lt_zero _)
    | succ fu ih4 =>
      intro k s hk hs2 hm4
      refine M.iloadn (pc := 4) 2 rfl rfl dX8_bits_4 ?_
      refine M.bipush (pc := 5) (by decide +kernel) dX8_bits_5 ?_
      refine M.icmp_ge (pc := 7) (tgt := 24) dX8_bits_7 (by decide) (by omega) (by omega) (fun c7 => ?_) (fun c7 => ?_)
      · refine M.iloadn (pc := 24) 1 rfl rfl dX8_bits_24 ?_
        exact EI () _ _ _ _ dX8_bits_25 (Or.inl rfl) (eqI (by rw [hs2, show k.toNat = 13 by omega, sB_13])) rfl trivial
      · refine M.iloadn (pc := 10) 1 rfl rfl dX8_bits_10 ?_
        refine M.iloadn (pc := 11) 0 rfl rfl dX8_bits_11 ?_
        refine M.iloadn (pc := 12) 2 rfl rfl dX8_bits_12 ?_
        refine M.ishr (pc := 13) (bit_shr hs.1 hs.2 hk.1 (by omega)) dX8_bits_13 ?_
        refine M.iconst (pc := 14) dX8_bits_14 ?_
        refine M.iand (pc := 15) (bit_and1 (shr_lt _ hs.1 hs.2)) dX8_bits_15 ?_
        refine M.iadd (pc := 16) dX8_bits_16 ?_
        refine M.istoren (pc := 17) 1 rfl (Nat.le_of_ble_eq_true rfl) rfl dX8_bits_17 ?_
        dsimp only [List.set_cons_zero, List.set_cons_succ]
        refine M.iinc (pc := 18) (i := 2) rfl rfl dX8_bits_18 ?_
        dsimp only [List.set_cons_zero, List.set_cons_succ]
        refine M.goto (pc := 21) (tgt := 4) dX8_bits_21 (by decide) ?_
        exact ih4  (by first | assumption | omega) (by rw [sB_s S hk.1, hs2]) (by omega)
  exact L4 _  (by first | assumption | omega) (by rfl) (Nat.lt_succ_self _)
set_option maxHeartbeats 4000000 in
set_option maxRecDepth 100000 in
theorem c_X8_wrong {l : Launch} {G : GT} {m aBath aBather aMorn aText aRB aRN aLow aHigh aNeeds aLikes aHts aBook aImg aKept : Nat} {vb vn vo vm vs vt vf va vw vu vna vrb vrn vro vtr vbk vsd : Int} {vch : Bool} {gb : Int → Int} {gt : Int → Int} {gm : Int → Int} {gl : Int → Int} {gh : Int → Int} (hn : 0 ≤ vn ∧ vn ≤ 6) (hnb : 0 ≤ vb ∧ vb ≤ 2) (hc : 0 ≤ vm ∧ vm ≤ 12) (hV : HV gb vb) (hT : HVT gt vn) (hM : HM gm vm vb vn) (hRX : RX gl gh) : Con l G yX8_wrong cX8_wrong 3 (some .int) { frames := 4, cells := 0, slots := 0, locals := 99 } [.ref m] [(m, eO 8 [.int (iI vb), .ref aBath, .int (iI vn), .ref aBather, .int (iI vo), .int (iI vm), .ref aMorn, .int (iI vs), .ref aText, .int (iI vt), .int (iI vf), .int (iI va), .long (lI vsd), .int (iI vw), .int (iI vu), .int (iI vna), .int (iI vrb), .ref aRB, .int (iI vrn), .ref aRN, .int (iI vro), .ref aLow, .ref aHigh, .int (iI (pI (vch = true))), .ref aNeeds, .ref aLikes, .ref aHts, .int (iI vtr), .int (iI vbk), .ref aBook, .ref aImg, .ref aKept]), (aBath, eI G 8 gb), (aBather, eI G 24 gt), (aMorn, eI G 48 gm), (aLow, eI G 6 gl), (aHigh, eI G 6 gh)] (S := Int × Bool × (Int → Int) × (Int → Int)) (fun u => some (.int (iI u.1))) (fun u => [(m, eO 8 [.int (iI vb), .ref aBath, .int (iI vn), .ref aBather, .int (iI vo), .int (iI vm), .ref aMorn, .int (iI vs), .ref aText, .int (iI vt), .int (iI vf), .int (iI va), .long (lI vsd), .int (iI vw), .int (iI vu), .int (iI vna), .int (iI vrb), .ref aRB, .int (iI vrn), .ref aRN, .int (iI vro), .ref aLow, .ref aHigh, .int (iI (pI (u.2.1 = true))), .ref aNeeds, .ref aLikes, .ref aHts, .int (iI vtr), .int (iI vbk), .ref aBook, .ref aImg, .ref aKept]), (aBath, eI G 8 gb), (aBather, eI G 24 gt), (aMorn, eI G 48 gm), (aLow, eI G 6 u.2.2.1), (aHigh, eI G 6 u.2.2.2)]) (fun u => RX u.2.2.1 u.2.2.2 ∧ IsF vm (fun s => Cl vn vm (fU gt) (fV gt) (mS gm) (mL gb gm) (mG gb gm) (p2 vm - 1 - s)) u.1) := by
  refine Con.mk (by decide +kernel) [some (.ref m), none, none] rfl (Nat.le_of_ble_eq_true rfl) rfl ?_
  intro V M EI EL EV EA
  have hp12 := p2_12 hc.2
  have hUV : ∀ k, 0 ≤ k → k < vn → fU gt k ≤ fV gt k := fun k h0 h1 => (hT k h0 h1).2.2.2.2.1
  have hcb : ∀ s, 0 ≤ cnt s := fun s => by unfold cnt; omega
  have hall : cnt (p2 vm - 1) = vm := by
    have h := pop_all vm.toNat (by omega)
    unfold cnt p2
    rw [show (((2 ^ vm.toNat : Nat) : Int) - 1).toNat = 2 ^ vm.toNat - 1 by omega, h]
    omega
  refine M.iconst (pc := 0) dX8_wrong_0 ?_
  refine M.istoren (pc := 1) 1 rfl (Nat.le_of_ble_eq_true rfl) rfl dX8_wrong_1 ?_
  dsimp only [List.set_cons_zero, List.set_cons_succ]
  have L2 : ∀ (fu : Nat) {i : Int} {ch : Bool} {l u : Int → Int} , (0 ≤ i ∧ i ≤ vm + 1) → (RX l u) → (∀ t, 0 ≤ t → t < p2 vm → cnt t < i → Cl vn vm (fU gt) (fV gt) (mS gm) (mL gb gm) (mG gb gm) (p2 vm - 1 - t)) → (vm + 2 - i).toNat < fu → V 0 0 2 [(m, eO 8 [.int (iI vb), .ref aBath, .int (iI vn), .ref aBather, .int (iI vo), .int (iI vm), .ref aMorn, .int (iI vs), .ref aText, .int (iI vt), .int (iI vf), .int (iI va), .long (lI vsd), .int (iI vw), .int (iI vu), .int (iI vna), .int (iI vrb), .ref aRB, .int (iI vrn), .ref aRN, .int (iI vro), .ref aLow, .ref aHigh, .int (iI (pI (ch = true))), .ref aNeeds, .ref aLikes, .ref aHts, .int (iI vtr), .int (iI vbk), .ref aBook, .ref aImg, .ref aKept]), (aBath, eI G 8 gb), (aBather, eI G 24 gt), (aMorn, eI G 48 gm), (aLow, eI G 6 l), (aHigh, eI G 6 u)] [some (.ref m), some (.int (iI i)), none] [] := by
    intro fu
    induction fu with
    | zero => intro i ch l u hi hR hP hm; exact absurd hm (Nat.not_lt_zero _)
    | succ fu ih2 =>
      intro i ch l u hi hR hP hm2
      refine M.iloadn (pc := 2) 1 rfl rfl dX8_wrong_2 ?_
      refine M.aloadn (pc := 3) 0 rfl rfl dX8_wrong_3 ?_
      refine M.getf (pc := 4) fg_X8_160 0 rfl rfl dX8_wrong_4 ?_
      refine M.icmp_gt (pc := 7) (tgt := 52) dX8_wrong_7 (by decide) (by omega) (by omega) (fun c7 => ?_) (fun c7 => ?_)
      · refine M.iconst (pc := 52) dX8_wrong_52 ?_
        exact EI (0, ch, l, u) _ _ _ _ dX8_wrong_53 (Or.inl rfl) (rfl) (rfl) (absurd (hP (p2 vm - 1) (by omega) (by omega) (by omega)) (by rw [show p2 vm - 1 - (p2 vm - 1) = 0 by omega]; exact Cl.none hUV (fun m _ _ => tb_0 m)))
      · refine M.iconst (pc := 10) dX8_wrong_10 ?_
        refine M.istoren (pc := 11) 2 rfl (Nat.le_of_ble_eq_true rfl) rfl dX8_wrong_11 ?_
        dsimp only [List.set_cons_zero, List.set_cons_succ]
        have L12 : ∀ (fu : Nat) {s : Int} {ch2 : Bool} {l2 u2 : Int → Int}, (0 ≤ s ∧ s ≤ p2 vm) → (RX l2 u2) → (∀ t, 0 ≤ t → t < s → cnt t = i → Cl vn vm (fU gt) (fV gt) (mS gm) (mL gb gm) (mG gb gm) (p2 vm - 1 - t)) → (p2 vm + 1 - s).toNat < fu → V 0 0 12 [(m, eO 8 [.int (iI vb), .ref aBath, .int (iI vn), .ref aBather, .int (iI vo), .int (iI vm), .ref aMorn, .int (iI vs), .ref aText, .int (iI vt), .int (iI vf), .int (iI va), .long (lI vsd), .int (iI vw), .int (iI vu), .int (iI vna), .int (iI vrb), .ref aRB, .int (iI vrn), .ref aRN, .int (iI vro), .ref aLow, .ref aHigh, .int (iI (pI (ch2 = true))), .ref aNeeds, .ref aLikes, .ref aHts, .int (iI vtr), .int (iI vbk), .ref aBook, .ref aImg, .ref aKept]), (aBath, eI G 8 gb), (aBather, eI G 24 gt), (aMorn, eI G 48 gm), (aLow, eI G 6 l2), (aHigh, eI G 6 u2)] [some (.ref m), some (.int (iI i)), some (.int (iI s))] [] := by
          intro fu
          induction fu with
          | zero => intro s ch2 l2 u2 hs0 hR2 hQ hm; exact absurd hm (Nat.not_lt_zero _)
          | succ fu ih12 =>
            intro s ch2 l2 u2 hs0 hR2 hQ hm12
            refine M.iloadn (pc := 12) 2 rfl rfl dX8_wrong_12 ?_
            refine M.iconst (pc := 13) dX8_wrong_13 ?_
            refine M.aloadn (pc := 14) 0 rfl rfl dX8_wrong_14 ?_
            refine M.getf (pc := 15) fg_X8_160 0 rfl rfl dX8_wrong_15 ?_
            refine M.ishl (pc := 18) (bit_shl1 (by omega) (by omega)) dX8_wrong_18 ?_
            refine M.icmp_ge (pc := 19) (tgt := 46) dX8_wrong_19 (by decide) (by omega) (by omega) (fun c19 => ?_) (fun c19 => ?_)
            · refine M.iinc (pc := 46) (i := 1) rfl rfl dX8_wrong_46 ?_
              dsimp only [List.set_cons_zero, List.set_cons_succ]
              refine M.goto (pc := 49) (tgt := 2) dX8_wrong_49 (by decide) ?_
              refine M.forget 2 ?_
              dsimp only [List.set_cons_zero, List.set_cons_succ]
              exact ih2  (by first | assumption | omega) (by first | assumption | omega) (by intro t h0 h1 h2; rcases (by omega : cnt t < i ∨ cnt t = i) with q | q; exact hP t h0 h1 q; exact hQ t h0 (by omega) q) (by omega)
            · have L40 : ∀ {ch3 : Bool} {l3 u3 : Int → Int}, (RX l3 u3) → (cnt s = i → Cl vn vm (fU gt) (fV gt) (mS gm) (mL gb gm) (mG gb gm) (p2 vm - 1 - s)) → V 0 0 40 [(m, eO 8 [.int (iI vb), .ref aBath, .int (iI vn), .ref aBather, .int (iI vo), .int (iI vm), .ref aMorn, .int (iI vs), .ref aText, .int (iI vt), .int (iI vf), .int (iI va), .long (lI vsd), .int (iI vw), .int (iI vu), .int (iI vna), .int (iI vrb), .ref aRB, .int (iI vrn), .ref aRN, .int (iI vro), .ref aLow, .ref aHigh, .int (iI (pI (ch3 = true))), .ref aNeeds, .ref aLikes, .ref aHts, .int (iI vtr), .int (iI vbk), .ref aBook, .ref aImg, .ref aKept]), (aBath, eI G 8 gb), (aBather, eI G 24 gt), (aMorn, eI G 48 gm), (aLow, eI G 6 l3), (aHigh, eI G 6 u3)] [some (.ref m), some (.int (iI i)), some (.int (iI s))] [] := by
                intro ch3 l3 u3 hR3 hq3
                
                refine M.iinc (pc := 40) (i := 2) rfl rfl dX8_wrong_40 ?_
                dsimp only [List.set_cons_zero, List.set_cons_succ]
                refine M.goto (pc := 43) (tgt := 12) dX8_wrong_43 (by decide) ?_
                exact ih12  (by first | assumption | omega) (by first | assumption | omega) (by intro t h0 h1 h2; rcases (by omega : t < s ∨ t = s) with q | q; exact hQ t h0 q h2; rw [q]; exact hq3 (by rw [← q]; exact h2)) (by omega)
              refine M.iloadn (pc := 22) 2 rfl rfl dX8_wrong_22 ?_
              refine M.pS (pc := 23) (c_X8_bits  (by first | assumption | omega)) ms_X8_234 [] rfl rfl rfl rfl (Nat.le_of_ble_eq_true rfl) rfl ⟨(Nat.le_of_ble_eq_true rfl), (Nat.le_of_ble_eq_true rfl)⟩ ⟨(Nat.le_of_ble_eq_true rfl), (Nat.le_of_ble_eq_true rfl)⟩ rfl dX8_wrong_23 ?_
              refine M.iloadn (pc := 26) 1 rfl rfl dX8_wrong_26 ?_
              refine M.icmp_ne (pc := 27) (tgt := 40) dX8_wrong_27 (by decide) (by (have := hcb s; have : cnt s ≤ 13 := by unfold cnt popc; omega); omega) (by omega) (fun c27 => ?_) (fun c27 => ?_)
              · exact L40  (by first | assumption | omega) (by exact fun q => absurd q c27)
              · refine M.aloadn (pc := 30) 0 rfl rfl dX8_wrong_30 ?_
                refine M.iloadn (pc := 31) 2 rfl rfl dX8_wrong_31 ?_
                refine M.mV (pc := 32) (c_X8_isClash  (by first | assumption | omega) (by first | assumption | omega) (by first | assumption | omega) (by first | assumption | omega) (by first | assumption | omega) (by first | assumption | omega) (by assumption) (by first | assumption | omega)) mv_X8_166 [0, 1, 2, 3, 4, 5] rfl rfl rfl 0 rfl rfl rfl rfl (Nat.le_of_ble_eq_true rfl) rfl ⟨(Nat.le_of_ble_eq_true rfl), (Nat.le_of_ble_eq_true rfl)⟩ ⟨(Nat.le_of_ble_eq_true rfl), (Nat.le_of_ble_eq_true rfl)⟩ rfl (fun _ => rfl) dX8_wrong_32 (fun u32 hu32 => ?_)
                obtain ⟨t32, x32, l32, h32⟩ := u32
                dsimp only [putL, List.set_cons_zero, List.set_cons_succ, Option.toList, List.cons_append, List.nil_append] at hu32 ⊢
                refine M.if_neP (pc := 35) (tgt := 40) dX8_wrong_35 (by decide) (fun c35 => ?_) (fun c35 => ?_)
                · exact L40  (by exact hu32.1) (by exact fun _ => hu32.2.elim (fun z => z.2) (fun z => absurd (z.1.symm.trans c35) (by decide)))
                · refine M.iloadn (pc := 38) 2 rfl rfl dX8_wrong_38 ?_
                  have hF : IsF vm (fun s => Cl vn vm (fU gt) (fV gt) (mS gm) (mL gb gm) (mG gb gm) (p2 vm - 1 - s)) s := by
                    refine ⟨⟨hs0.1, by omega⟩, hu32.2.elim (fun z => absurd z.1 c35) (fun z => fun hz => hz ⟨_, _, z.2.1⟩), fun t h0 h1 h2 => ?_⟩
                    rcases (by omega : cnt t < i ∨ i < cnt t ∨ cnt t = i) with q | q | q
                    · exact absurd (hP t h0 h1 q) h2
                    · exact Or.inl (by omega)
                    · refine Or.inr ⟨by omega, ?_⟩
                      rcases (by omega : t < s ∨ s ≤ t) with w | w
                      · exact absurd (hQ t h0 w q) h2
                      · exact w
                  exact EI (s, x32, l32, h32) _ _ _ _ dX8_wrong_39 (Or.inl rfl) (rfl) (rfl) (⟨hu32.1, hF⟩)
        exact L12 _  (by first | assumption | omega) (by first | assumption | omega) (by intro t _ _ _; omega) (Nat.lt_succ_self _)
  exact L2 _  (by first | assumption | omega) (by first | assumption | omega) (by intro t _ _ h; exact absurd h (by have := hcb t; omega)) (Nat.lt_succ_self _)
theorem lc_J6_264 : Cond.constant RJ6 264 (65536 : Int32) ∈ big := (mem_big (tk_3 (List.mem_of_getElem? (i := 98) rfl)) rfl)
set_option maxHeartbeats 4000000 in
set_option maxRecDepth 100000 in
theorem c_J6_numberOfTrailingZeros_0f7a4 {l : Launch} {G : GT} {x : Int} (hx : 0 < x ∧ x < 8192) : ConF l G yJ6_numberOfTrailingZeros_0f7a4 cJ6_numberOfTrailingZeros_0f7a4 2 (some .int) { frames := 0, cells := 0, slots := 0, locals := 0 } [.int (iI x)] [] (some (.int (iI (ctz x)))) := by
  refine Con.mk (by decide +kernel) [some (.int (iI x)), none] rfl (Nat.le_of_ble_eq_true rfl) rfl ?_
  intro V M EI EL EV EA
  obtain ⟨hm1, hm2, hm3⟩ := ntz_mask hx.1 hx.2
  obtain ⟨q0, q1, q2, q3, q4, q5, q6, q7, q8, q9, q10, q11, q12⟩ := p2_lit
  have hpb := p2_12 hm3
  have hall : (ctz x = 0 ∧ p2 (ctz x) = 1) ∨ (ctz x = 1 ∧ p2 (ctz x) = 2) ∨ (ctz x = 2 ∧ p2 (ctz x) = 4) ∨ (ctz x = 3 ∧ p2 (ctz x) = 8) ∨ (ctz x = 4 ∧ p2 (ctz x) = 16) ∨ (ctz x = 5 ∧ p2 (ctz x) = 32) ∨ (ctz x = 6 ∧ p2 (ctz x) = 64) ∨ (ctz x = 7 ∧ p2 (ctz x) = 128) ∨ (ctz x = 8 ∧ p2 (ctz x) = 256) ∨ (ctz x = 9 ∧ p2 (ctz x) = 512) ∨ (ctz x = 10 ∧ p2 (ctz x) = 1024) ∨ (ctz x = 11 ∧ p2 (ctz x) = 2048) ∨ (ctz x = 12 ∧ p2 (ctz x) = 4096) := by
    rcases (by omega : ctz x = 0 ∨ ctz x = 1 ∨ ctz x = 2 ∨ ctz x = 3 ∨ ctz x = 4 ∨ ctz x = 5 ∨ ctz x = 6 ∨ ctz x = 7 ∨ ctz x = 8 ∨ ctz x = 9 ∨ ctz x = 10 ∨ ctz x = 11 ∨ ctz x = 12) with e | e | e | e | e | e | e | e | e | e | e | e | e <;> (rw [e]; simp [q0, q1, q2, q3, q4, q5, q6, q7, q8, q9, q10, q11, q12])
  refine M.iloadn (pc := 0) 0 rfl rfl dJ6_numberOfTrailingZeros_0f7a4_0 ?_
  refine M.iconst (pc := 1) dJ6_numberOfTrailingZeros_0f7a4_1 ?_
  refine M.ixor (pc := 2) (iI_of _) dJ6_numberOfTrailingZeros_0f7a4_2 ?_
  refine M.iloadn (pc := 3) 0 rfl rfl dJ6_numberOfTrailingZeros_0f7a4_3 ?_
  refine M.iconst (pc := 4) dJ6_numberOfTrailingZeros_0f7a4_4 ?_
  refine M.isub (pc := 5) dJ6_numberOfTrailingZeros_0f7a4_5 ?_
  refine M.iand (pc := 6) (hm1) dJ6_numberOfTrailingZeros_0f7a4_6 ?_
  refine M.istoren (pc := 7) 0 rfl (Nat.le_of_ble_eq_true rfl) rfl dJ6_numberOfTrailingZeros_0f7a4_7 ?_
  dsimp only [List.set_cons_zero, List.set_cons_succ]
  refine M.iloadn (pc := 8) 0 rfl rfl dJ6_numberOfTrailingZeros_0f7a4_8 ?_
  refine M.if_gt (pc := 9) (tgt := 17) dJ6_numberOfTrailingZeros_0f7a4_9 (by decide) (by omega) (fun c9 => ?_) (fun c9 => ?_)
  · refine M.iconst (pc := 17) dJ6_numberOfTrailingZeros_0f7a4_17 ?_
    refine M.istoren (pc := 18) 1 rfl (Nat.le_of_ble_eq_true rfl) rfl dJ6_numberOfTrailingZeros_0f7a4_18 ?_
    dsimp only [List.set_cons_zero, List.set_cons_succ]
    refine M.iloadn (pc := 19) 0 rfl rfl dJ6_numberOfTrailingZeros_0f7a4_19 ?_
    refine M.ldcw (pc := 20) (65536) lc_J6_264 (by decide +kernel) dJ6_numberOfTrailingZeros_0f7a4_20 ?_
    refine M.icmp_le (pc := 23) (tgt := 34) dJ6_numberOfTrailingZeros_0f7a4_23 (by decide) (by omega) (by omega) (fun c23 => ?_) (fun c23 => ?_)
    · refine M.iloadn (pc := 34) 0 rfl rfl dJ6_numberOfTrailingZeros_0f7a4_34 ?_
      refine M.sipush (pc := 35) (by decide +kernel) dJ6_numberOfTrailingZeros_0f7a4_35 ?_
      refine M.icmp_le (pc := 38) (tgt := 49) dJ6_numberOfTrailingZeros_0f7a4_38 (by decide) (by omega) (by omega) (fun c38 => ?_) (fun c38 => ?_)
      · refine M.iloadn (pc := 49) 0 rfl rfl dJ6_numberOfTrailingZeros_0f7a4_49 ?_
        refine M.bipush (pc := 50) (by decide +kernel) dJ6_numberOfTrailingZeros_0f7a4_50 ?_
        refine M.icmp_le (pc := 52) (tgt := 62) dJ6_numberOfTrailingZeros_0f7a4_52 (by decide) (by omega) (by omega) (fun c52 => ?_) (fun c52 => ?_)
        · refine M.iloadn (pc := 62) 0 rfl rfl dJ6_numberOfTrailingZeros_0f7a4_62 ?_
          refine M.iconst (pc := 63) dJ6_numberOfTrailingZeros_0f7a4_63 ?_
          refine M.icmp_le (pc := 64) (tgt := 74) dJ6_numberOfTrailingZeros_0f7a4_64 (by decide) (by omega) (by omega) (fun c64 => ?_) (fun c64 => ?_)
          · refine M.iloadn (pc := 74) 1 rfl rfl dJ6_numberOfTrailingZeros_0f7a4_74 ?_
            refine M.iloadn (pc := 75) 0 rfl rfl dJ6_numberOfTrailingZeros_0f7a4_75 ?_
            refine M.iconst (pc := 76) dJ6_numberOfTrailingZeros_0f7a4_76 ?_
            refine M.iushr (pc := 77) (bit_ushrd 2 (by decide) (by omega) (by omega) (by omega) (by omega)) dJ6_numberOfTrailingZeros_0f7a4_77 ?_
            refine M.iadd (pc := 78) dJ6_numberOfTrailingZeros_0f7a4_78 ?_
            exact EI () _ _ _ _ dJ6_numberOfTrailingZeros_0f7a4_79 (Or.inl rfl) (eqI (by omega)) rfl trivial
          · refine M.iinc (pc := 67) (i := 1) rfl rfl dJ6_numberOfTrailingZeros_0f7a4_67 ?_
            dsimp only [List.set_cons_zero, List.set_cons_succ]
            refine M.iloadn (pc := 70) 0 rfl rfl dJ6_numberOfTrailingZeros_0f7a4_70 ?_
            refine M.iconst (pc := 71) dJ6_numberOfTrailingZeros_0f7a4_71 ?_
            refine M.iushr (pc := 72) (bit_ushrd 4 (by decide) (by omega) (by omega) (by omega) (by omega)) dJ6_numberOfTrailingZeros_0f7a4_72 ?_
            refine M.istoren (pc := 73) 0 rfl (Nat.le_of_ble_eq_true rfl) rfl dJ6_numberOfTrailingZeros_0f7a4_73 ?_
            dsimp only [List.set_cons_zero, List.set_cons_succ]
            refine M.iloadn (pc := 74) 1 rfl rfl dJ6_numberOfTrailingZeros_0f7a4_74 ?_
            refine M.iloadn (pc := 75) 0 rfl rfl dJ6_numberOfTrailingZeros_0f7a4_75 ?_
            refine M.iconst (pc := 76) dJ6_numberOfTrailingZeros_0f7a4_76 ?_
            refine M.iushr (pc := 77) (bit_ushrd 2 (by decide) (by omega) (by omega) (by omega) (by omega)) dJ6_numberOfTrailingZeros_0f7a4_77 ?_
            refine M.iadd (pc := 78) dJ6_numberOfTrailingZeros_0f7a4_78 ?_
            exact EI () _ _ _ _ dJ6_numberOfTrailingZeros_0f7a4_79 (Or.inl rfl) (eqI (by omega)) rfl trivial
        · refine M.iinc (pc := 55) (i := 1) rfl rfl dJ6_numberOfTrailingZeros_0f7a4_55 ?_
          dsimp only [List.set_cons_zero, List.set_cons_succ]
          refine M.iloadn (pc := 58) 0 rfl rfl dJ6_numberOfTrailingZeros_0f7a4_58 ?_
          refine M.iconst (pc := 59) dJ6_numberOfTrailingZeros_0f7a4_59 ?_
          refine M.iushr (pc := 60) (bit_ushrd 16 (by decide) (by omega) (by omega) (by omega) (by omega)) dJ6_numberOfTrailingZeros_0f7a4_60 ?_
          refine M.istoren (pc := 61) 0 rfl (Nat.le_of_ble_eq_true rfl) rfl dJ6_numberOfTrailingZeros_0f7a4_61 ?_
          dsimp only [List.set_cons_zero, List.set_cons_succ]
          refine M.iloadn (pc := 62) 0 rfl rfl dJ6_numberOfTrailingZeros_0f7a4_62 ?_
          refine M.iconst (pc := 63) dJ6_numberOfTrailingZeros_0f7a4_63 ?_
          refine M.icmp_le (pc := 64) (tgt := 74) dJ6_numberOfTrailingZeros_0f7a4_64 (by decide) (by omega) (by omega) (fun c64 => ?_) (fun c64 => ?_)
          · refine M.iloadn (pc := 74) 1 rfl rfl dJ6_numberOfTrailingZeros_0f7a4_74 ?_
            refine M.iloadn (pc := 75) 0 rfl rfl dJ6_numberOfTrailingZeros_0f7a4_75 ?_
            refine M.iconst (pc := 76) dJ6_numberOfTrailingZeros_0f7a4_76 ?_
            refine M.iushr (pc := 77) (bit_ushrd 2 (by decide) (by omega) (by omega) (by omega) (by omega)) dJ6_numberOfTrailingZeros_0f7a4_77 ?_
            refine M.iadd (pc := 78) dJ6_numberOfTrailingZeros_0f7a4_78 ?_
            exact EI () _ _ _ _ dJ6_numberOfTrailingZeros_0f7a4_79 (Or.inl rfl) (eqI (by omega)) rfl trivial
          · refine M.iinc (pc := 67) (i := 1) rfl rfl dJ6_numberOfTrailingZeros_0f7a4_67 ?_
            dsimp only [List.set_cons_zero, List.set_cons_succ]
            refine M.iloadn (pc := 70) 0 rfl rfl dJ6_numberOfTrailingZeros_0f7a4_70 ?_
            refine M.iconst (pc := 71) dJ6_numberOfTrailingZeros_0f7a4_71 ?_
            refine M.iushr (pc := 72) (bit_ushrd 4 (by decide) (by omega) (by omega) (by omega) (by omega)) dJ6_numberOfTrailingZeros_0f7a4_72 ?_
            refine M.istoren (pc := 73) 0 rfl (Nat.le_of_ble_eq_true rfl) rfl dJ6_numberOfTrailingZeros_0f7a4_73 ?_
            dsimp only [List.set_cons_zero, List.set_cons_succ]
            refine M.iloadn (pc := 74) 1 rfl rfl dJ6_numberOfTrailingZeros_0f7a4_74 ?_
            refine M.iloadn (pc := 75) 0 rfl rfl dJ6_numberOfTrailingZeros_0f7a4_75 ?_
            refine M.iconst (pc := 76) dJ6_numberOfTrailingZeros_0f7a4_76 ?_
            refine M.iushr (pc := 77) (bit_ushrd 2 (by decide) (by omega) (by omega) (by omega) (by omega)) dJ6_numberOfTrailingZeros_0f7a4_77 ?_
            refine M.iadd (pc := 78) dJ6_numberOfTrailingZeros_0f7a4_78 ?_
            exact EI () _ _ _ _ dJ6_numberOfTrailingZeros_0f7a4_79 (Or.inl rfl) (eqI (by omega)) rfl trivial
      · refine M.iinc (pc := 41) (i := 1) rfl rfl dJ6_numberOfTrailingZeros_0f7a4_41 ?_
        dsimp only [List.set_cons_zero, List.set_cons_succ]
        refine M.iloadn (pc := 44) 0 rfl rfl dJ6_numberOfTrailingZeros_0f7a4_44 ?_
        refine M.bipush (pc := 45) (by decide +kernel) dJ6_numberOfTrailingZeros_0f7a4_45 ?_
        refine M.iushr (pc := 47) (bit_ushrd 256 (by decide) (by omega) (by omega) (by omega) (by omega)) dJ6_numberOfTrailingZeros_0f7a4_47 ?_
        refine M.istoren (pc := 48) 0 rfl (Nat.le_of_ble_eq_true rfl) rfl dJ6_numberOfTrailingZeros_0f7a4_48 ?_
        dsimp only [List.set_cons_zero, List.set_cons_succ]
        refine M.iloadn (pc := 49) 0 rfl rfl dJ6_numberOfTrailingZeros_0f7a4_49 ?_
        refine M.bipush (pc := 50) (by decide +kernel) dJ6_numberOfTrailingZeros_0f7a4_50 ?_
        refine M.icmp_le (pc := 52) (tgt := 62) dJ6_numberOfTrailingZeros_0f7a4_52 (by decide) (by omega) (by omega) (fun c52 => ?_) (fun c52 => ?_)
        · refine M.iloadn (pc := 62) 0 rfl rfl dJ6_numberOfTrailingZeros_0f7a4_62 ?_
          refine M.iconst (pc := 63) dJ6_numberOfTrailingZeros_0f7a4_63 ?_
          refine M.icmp_le (pc := 64) (tgt := 74) dJ6_numberOfTrailingZeros_0f7a4_64 (by decide) (by omega) (by omega) (fun c64 => ?_) (fun c64 => ?_)
          · refine M.iloadn (pc := 74) 1 rfl rfl dJ6_numberOfTrailingZeros_0f7a4_74 ?_
            refine M.iloadn (pc := 75) 0 rfl rfl dJ6_numberOfTrailingZeros_0f7a4_75 ?_
            refine M.iconst (pc := 76) dJ6_numberOfTrailingZeros_0f7a4_76 ?_
            refine M.iushr (pc := 77) (bit_ushrd 2 (by decide) (by omega) (by omega) (by omega) (by omega)) dJ6_numberOfTrailingZeros_0f7a4_77 ?_
            refine M.iadd (pc := 78) dJ6_numberOfTrailingZeros_0f7a4_78 ?_
            exact EI () _ _ _ _ dJ6_numberOfTrailingZeros_0f7a4_79 (Or.inl rfl) (eqI (by omega)) rfl trivial
          · refine M.iinc (pc := 67) (i := 1) rfl rfl dJ6_numberOfTrailingZeros_0f7a4_67 ?_
            dsimp only [List.set_cons_zero, List.set_cons_succ]
            refine M.iloadn (pc := 70) 0 rfl rfl dJ6_numberOfTrailingZeros_0f7a4_70 ?_
            refine M.iconst (pc := 71) dJ6_numberOfTrailingZeros_0f7a4_71 ?_
            refine M.iushr (pc := 72) (bit_ushrd 4 (by decide) (by omega) (by omega) (by omega) (by omega)) dJ6_numberOfTrailingZeros_0f7a4_72 ?_
            refine M.istoren (pc := 73) 0 rfl (Nat.le_of_ble_eq_true rfl) rfl dJ6_numberOfTrailingZeros_0f7a4_73 ?_
            dsimp only [List.set_cons_zero, List.set_cons_succ]
            refine M.iloadn (pc := 74) 1 rfl rfl dJ6_numberOfTrailingZeros_0f7a4_74 ?_
            refine M.iloadn (pc := 75) 0 rfl rfl dJ6_numberOfTrailingZeros_0f7a4_75 ?_
            refine M.iconst (pc := 76) dJ6_numberOfTrailingZeros_0f7a4_76 ?_
            refine M.iushr (pc := 77) (bit_ushrd 2 (by decide) (by omega) (by omega) (by omega) (by omega)) dJ6_numberOfTrailingZeros_0f7a4_77 ?_
            refine M.iadd (pc := 78) dJ6_numberOfTrailingZeros_0f7a4_78 ?_
            exact EI () _ _ _ _ dJ6_numberOfTrailingZeros_0f7a4_79 (Or.inl rfl) (eqI (by omega)) rfl trivial
        · refine M.iinc (pc := 55) (i := 1) rfl rfl dJ6_numberOfTrailingZeros_0f7a4_55 ?_
          dsimp only [List.set_cons_zero, List.set_cons_succ]
          refine M.iloadn (pc := 58) 0 rfl rfl dJ6_numberOfTrailingZeros_0f7a4_58 ?_
          refine M.iconst (pc := 59) dJ6_numberOfTrailingZeros_0f7a4_59 ?_
          refine M.iushr (pc := 60) (bit_ushrd 16 (by decide) (by omega) (by omega) (by omega) (by omega)) dJ6_numberOfTrailingZeros_0f7a4_60 ?_
          refine M.istoren (pc := 61) 0 rfl (Nat.le_of_ble_eq_true rfl) rfl dJ6_numberOfTrailingZeros_0f7a4_61 ?_
          dsimp only [List.set_cons_zero, List.set_cons_succ]
          refine M.iloadn (pc := 62) 0 rfl rfl dJ6_numberOfTrailingZeros_0f7a4_62 ?_
          refine M.iconst (pc := 63) dJ6_numberOfTrailingZeros_0f7a4_63 ?_
          refine M.icmp_le (pc := 64) (tgt := 74) dJ6_numberOfTrailingZeros_0f7a4_64 (by decide) (by omega) (by omega) (fun c64 => ?_) (fun c64 => ?_)
          · refine M.iloadn (pc := 74) 1 rfl rfl dJ6_numberOfTrailingZeros_0f7a4_74 ?_
            refine M.iloadn (pc := 75) 0 rfl rfl dJ6_numberOfTrailingZeros_0f7a4_75 ?_
            refine M.iconst (pc := 76) dJ6_numberOfTrailingZeros_0f7a4_76 ?_
            refine M.iushr (pc := 77) (bit_ushrd 2 (by decide) (by omega) (by omega) (by omega) (by omega)) dJ6_numberOfTrailingZeros_0f7a4_77 ?_
            refine M.iadd (pc := 78) dJ6_numberOfTrailingZeros_0f7a4_78 ?_
            exact EI () _ _ _ _ dJ6_numberOfTrailingZeros_0f7a4_79 (Or.inl rfl) (eqI (by omega)) rfl trivial
          · refine M.iinc (pc := 67) (i := 1) rfl rfl dJ6_numberOfTrailingZeros_0f7a4_67 ?_
            dsimp only [List.set_cons_zero, List.set_cons_succ]
            refine M.iloadn (pc := 70) 0 rfl rfl dJ6_numberOfTrailingZeros_0f7a4_70 ?_
            refine M.iconst (pc := 71) dJ6_numberOfTrailingZeros_0f7a4_71 ?_
            refine M.iushr (pc := 72) (bit_ushrd 4 (by decide) (by omega) (by omega) (by omega) (by omega)) dJ6_numberOfTrailingZeros_0f7a4_72 ?_
            refine M.istoren (pc := 73) 0 rfl (Nat.le_of_ble_eq_true rfl) rfl dJ6_numberOfTrailingZeros_0f7a4_73 ?_
            dsimp only [List.set_cons_zero, List.set_cons_succ]
            refine M.iloadn (pc := 74) 1 rfl rfl dJ6_numberOfTrailingZeros_0f7a4_74 ?_
            refine M.iloadn (pc := 75) 0 rfl rfl dJ6_numberOfTrailingZeros_0f7a4_75 ?_
            refine M.iconst (pc := 76) dJ6_numberOfTrailingZeros_0f7a4_76 ?_
            refine M.iushr (pc := 77) (bit_ushrd 2 (by decide) (by omega) (by omega) (by omega) (by omega)) dJ6_numberOfTrailingZeros_0f7a4_77 ?_
            refine M.iadd (pc := 78) dJ6_numberOfTrailingZeros_0f7a4_78 ?_
            exact EI () _ _ _ _ dJ6_numberOfTrailingZeros_0f7a4_79 (Or.inl rfl) (eqI (by omega)) rfl trivial
    · exact absurd c23 (by omega)
  · have hz : p2 (ctz x) = 1 := by omega
    rw [show p2 (ctz x) - 1 = 0 by omega]
    refine M.iloadn (pc := 12) 0 rfl rfl dJ6_numberOfTrailingZeros_0f7a4_12 ?_
    refine M.bipush (pc := 13) (by decide +kernel) dJ6_numberOfTrailingZeros_0f7a4_13 ?_
    refine M.iand (pc := 15) (land_ok (by omega) (by omega)) dJ6_numberOfTrailingZeros_0f7a4_15 ?_
    have e : land 0 32 = 0 := by decide +kernel
    exact EI () _ _ _ _ dJ6_numberOfTrailingZeros_0f7a4_16 (Or.inl rfl) (eqI (by rw [e]; omega)) rfl trivial
