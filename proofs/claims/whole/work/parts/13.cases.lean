/-! THE THEORY OF CASES: H t c: the height that try t tells in case c; vt: the tries that there are; sets of cases as whole numbers below 8192 -/
def cm (p : Int → Bool) : Nat → Int
  | 0 => 0
  | k + 1 => cm p k + (if p (k : Int) = true then p2 (k : Int) else 0)
theorem p2_s (k : Nat) : p2 ((k : Int) + 1) = 2 * p2 (k : Int) := by
  unfold p2
  rw [show ((k : Int) + 1).toNat = k + 1 by omega, Int.toNat_natCast, Nat.pow_succ]
  generalize 2 ^ k = q
  omega
theorem cm_b (p : Int → Bool) : ∀ k : Nat, 0 ≤ cm p k ∧ cm p k < p2 (k : Int) := by
  intro k
  induction k with
  | zero => exact ⟨Int.le_refl _, (by decide +kernel : (0 : Int) < p2 0)⟩
  | succ k ih =>
    have h := p2_s k
    have hn := p2_nn (k : Int)
    rw [show ((k + 1 : Nat) : Int) = (k : Int) + 1 by omega, h]
    show 0 ≤ cm p k + _ ∧ cm p k + _ < _
    split <;> omega
theorem cm_tb (p : Int → Bool) : ∀ (k : Nat) (d : Int), 0 ≤ d → tb (cm p k) d = (decide (d < (k : Int)) && p d) := by
  intro k
  induction k with
  | zero =>
    intro d h
    rw [show decide (d < ((0 : Nat) : Int)) = false by simp; omega]
    exact tb_0 d
  | succ k ih =>
    intro d hd
    obtain ⟨j, rfl⟩ := Int.eq_ofNat_of_zero_le hd
    have hb := cm_b p k
    have h := ih (j : Int) hd
    show (cm p k + (if p (k : Int) = true then p2 (k : Int) else 0)).toNat.testBit ((j : Int)).toNat = _
    have h2 : (cm p k).toNat.testBit j = (decide ((j : Int) < (k : Int)) && p (j : Int)) := by
      have := h
      rwa [show tb (cm p k) (j : Int) = (cm p k).toNat.testBit j from rfl] at this
    rw [Int.toNat_natCast]
    have hlt : (cm p k).toNat < 2 ^ k := by
      have := hb.2
      unfold p2 at this
      rw [Int.toNat_natCast] at this
      generalize 2 ^ k = q at this ⊢
      omega
    by_cases hp : p (k : Int) = true
    · rw [if_pos hp]
      have e : (cm p k + p2 (k : Int)).toNat = 2 ^ k + (cm p k).toNat := by
        unfold p2
        rw [Int.toNat_natCast]
        generalize 2 ^ k = q
        omega
      rw [e]
      rcases (by omega : j < k ∨ j = k ∨ k < j) with q | q | q
      · rw [Nat.testBit_two_pow_add_gt q, h2]
        have a1 : decide ((j : Int) < (k : Int)) = true := by simp; omega
        have a2 : decide ((j : Int) < ((k + 1 : Nat) : Int)) = true := by simp; omega
        rw [a1, a2]
      · subst q
        rw [Nat.testBit_two_pow_add_eq, h2, hp]
        have a2 : decide ((j : Int) < ((j + 1 : Nat) : Int)) = true := by simp; omega
        rw [a2]
        simp
      · have a2 : decide ((j : Int) < ((k + 1 : Nat) : Int)) = false := by simp; omega
        rw [a2, Bool.false_and]
        refine Nat.testBit_lt_two_pow (Nat.lt_of_lt_of_le (m := 2 ^ (k + 1)) ?_ (Nat.pow_le_pow_right (by omega) (by omega)))
        rw [Nat.pow_succ]
        generalize 2 ^ k = w at hlt ⊢
        omega
    · rw [if_neg hp, Int.add_zero, h2]
      rcases (by omega : j < k ∨ j = k ∨ k < j) with q | q | q
      · have a1 : decide ((j : Int) < (k : Int)) = true := by simp; omega
        have a2 : decide ((j : Int) < ((k + 1 : Nat) : Int)) = true := by simp; omega
        rw [a1, a2]
      · subst q
        simp [hp]
      · have a1 : decide ((j : Int) < (k : Int)) = false := by simp; omega
        have a2 : decide ((j : Int) < ((k + 1 : Nat) : Int)) = false := by simp; omega
        rw [a1, a2]
theorem cm_13 (p : Int → Bool) {d : Int} (h0 : 0 ≤ d) (h1 : d < 13) : tb (cm p 13) d = p d := by
  rw [cm_tb p 13 d h0]
  have : decide (d < ((13 : Nat) : Int)) = true := by simp; omega
  rw [this, Bool.true_and]
theorem cm_13b (p : Int → Bool) : 0 ≤ cm p 13 ∧ cm p 13 < 8192 := by
  have := cm_b p 13
  have e : p2 ((13 : Nat) : Int) = 8192 := by decide +kernel
  omega
theorem mask_ext {a b : Int} (ha : 0 ≤ a ∧ a < 8192) (hb : 0 ≤ b ∧ b < 8192) (h : ∀ d, 0 ≤ d → d < 13 → tb a d = tb b d) : a = b := by
  have e : a.toNat = b.toNat := by
    apply Nat.eq_of_testBit_eq
    intro i
    rcases (by omega : i < 13 ∨ 13 ≤ i) with q | q
    · have := h (i : Int) (by omega) (by omega)
      exact this
    · have w : 2 ^ 13 ≤ 2 ^ i := Nat.pow_le_pow_right (by omega) q
      have w2 : (2 : Nat) ^ 13 = 8192 := by decide
      rw [Nat.testBit_lt_two_pow (by omega), Nat.testBit_lt_two_pow (by omega)]
  omega
theorem or_p2 {x k : Int} (h0 : 0 ≤ x) (h1 : x < p2 k) : iI x ||| iI (p2 k) = iI (x + p2 k) := by
  obtain ⟨n, rfl⟩ := Int.eq_ofNat_of_zero_le h0
  have e : p2 k = ((2 ^ k.toNat : Nat) : Int) := rfl
  rw [e] at h1 ⊢
  rw [iI_nat, iI_nat, nI_or, ← iI_nat]
  have h2 := Nat.two_pow_add_eq_or_of_lt (i := k.toNat) (b := n) (by generalize 2 ^ k.toNat = q at h1 ⊢; omega) 1
  rw [Nat.mul_one] at h2
  rw [Nat.or_comm, ← h2]
  congr 1
  generalize 2 ^ k.toNat = q
  omega
theorem cm_s (p : Int → Bool) {k : Int} (h : 0 ≤ k) : cm p (k + 1).toNat = cm p k.toNat + (if p k = true then p2 k else 0) := by
  obtain ⟨j, rfl⟩ := Int.eq_ofNat_of_zero_le h
  rw [show ((j : Int) + 1).toNat = j + 1 by omega]
  rfl
theorem cm_o1 {p : Int → Bool} {s k : Int} (hs : s = cm p k.toNat) (hk : 0 ≤ k) (hp : p k = true) : iI s ||| iI (p2 k) = iI (cm p (k + 1).toNat) := by
  have hb := cm_b p k.toNat
  rw [show ((k.toNat : Nat) : Int) = k by omega] at hb
  rw [cm_s p hk, if_pos hp, hs]
  exact or_p2 hb.1 hb.2
theorem cm_o0 {p : Int → Bool} {s k : Int} (hs : s = cm p k.toNat) (hk : 0 ≤ k) (hp : p k = false) : iI s ||| iI 0 = iI (cm p (k + 1).toNat) := by
  have hb := cm_b p k.toNat
  rw [cm_s p hk, if_neg (by rw [hp]; decide), Int.add_zero, hs]
  obtain ⟨n, hn⟩ := Int.eq_ofNat_of_zero_le hb.1
  rw [hn, iI_nat, show iI 0 = nI 0 from iI_nat 0, nI_or, Nat.or_zero]
def me (S d : Int) : Prop := (0 ≤ d ∧ d < 13) ∧ tb S d = true
def AL (vt : Int → Prop) (H : Int → Int → Int) (c d : Int) : Prop := ∀ t, vt t → H t c = H t d
def PT (H : Int → Int → Int) (t S c : Int) : Int := cm (fun d => tb S d && decide (H t d = H t c)) 13
def SPL (H : Int → Int → Int) (t S : Int) : Prop := ∃ c d, me S c ∧ me S d ∧ H t c ≠ H t d
def NL0 (vt : Int → Prop) (H : Int → Int → Int) (S : Int) : Prop := ∀ c d, me S c → me S d → AL vt H c d
def NL (vt : Int → Prop) (H : Int → Int → Int) : Nat → Int → Prop
  | 0, S => NL0 vt H S
  | k + 1, S => NL0 vt H S ∨ ∃ t, vt t ∧ SPL H t S ∧ ∀ c, me S c → NL vt H k (PT H t S c)
section CASES
variable {vt : Int → Prop} {H : Int → Int → Int}
theorem me_PT {t S c d : Int} : me (PT H t S c) d ↔ me S d ∧ H t d = H t c := by
  unfold me
  constructor
  · rintro ⟨h, h2⟩
    unfold PT at h2
    rw [cm_13 _ h.1 h.2] at h2
    simp only [Bool.and_eq_true, decide_eq_true_eq] at h2
    exact ⟨⟨h, h2.1⟩, h2.2⟩
  · rintro ⟨⟨h, h2⟩, h3⟩
    refine ⟨h, ?_⟩
    unfold PT
    rw [cm_13 _ h.1 h.2]
    simp [h2, h3]
theorem NL.of0 {S : Int} (h : NL0 vt H S) : ∀ k, NL vt H k S
  | 0 => h
  | _ + 1 => Or.inl h
theorem NL.s : ∀ (k : Nat) {S : Int}, NL vt H k S → NL vt H (k + 1) S := by
  intro k
  induction k with
  | zero => intro S h; exact Or.inl h
  | succ k ih =>
    intro S h
    rcases h with h | ⟨t, h1, h2, h3⟩
    · exact Or.inl h
    · exact Or.inr ⟨t, h1, h2, fun c hc => ih (h3 c hc)⟩
theorem NL.up {j k : Nat} {S : Int} (hjk : j ≤ k) (h : NL vt H j S) : NL vt H k S := by
  obtain ⟨d, rfl⟩ := Nat.exists_eq_add_of_le hjk
  clear hjk
  induction d with
  | zero => exact h
  | succ d ih => exact NL.s _ ih
/-- sets that have the same cases but for alike ones -/
def EQV (vt : Int → Prop) (H : Int → Int → Int) (S S' : Int) : Prop := (∀ c, me S c → ∃ d, me S' d ∧ AL vt H c d) ∧ (∀ d, me S' d → ∃ c, me S c ∧ AL vt H d c)
theorem EQV.symm {S S' : Int} (h : EQV vt H S S') : EQV vt H S' S := ⟨h.2, h.1⟩
theorem EQV.pt {S S' t c d : Int} (ht : vt t) (h : EQV vt H S S') (hcd : H t c = H t d) : EQV vt H (PT H t S c) (PT H t S' d) := by
  constructor
  · intro x hx
    obtain ⟨h1, h2⟩ := me_PT.mp hx
    obtain ⟨y, h3, h4⟩ := h.1 x h1
    exact ⟨y, me_PT.mpr ⟨h3, by rw [← h4 t ht, h2, hcd]⟩, h4⟩
  · intro x hx
    obtain ⟨h1, h2⟩ := me_PT.mp hx
    obtain ⟨y, h3, h4⟩ := h.2 x h1
    exact ⟨y, me_PT.mpr ⟨h3, by rw [← h4 t ht, h2, hcd]⟩, h4⟩
theorem EQV.nl0 {S S' : Int} (h : EQV vt H S S') (h0 : NL0 vt H S) : NL0 vt H S' := by
  intro c d hc hd t ht
  obtain ⟨c2, h1, h2⟩ := h.2 c hc
  obtain ⟨d2, h3, h4⟩ := h.2 d hd
  rw [h2 t ht, h4 t ht]
  exact h0 c2 d2 h1 h3 t ht
theorem EQV.spl {S S' t : Int} (ht : vt t) (h : EQV vt H S S') (h0 : SPL H t S) : SPL H t S' := by
  obtain ⟨c, d, h1, h2, h3⟩ := h0
  obtain ⟨c2, h4, h5⟩ := h.1 c h1
  obtain ⟨d2, h6, h7⟩ := h.1 d h2
  exact ⟨c2, d2, h4, h6, by rw [← h5 t ht, ← h7 t ht]; exact h3⟩
theorem EQV.nl : ∀ (k : Nat) {S S' : Int}, EQV vt H S S' → NL vt H k S → NL vt H k S' := by
  intro k
  induction k with
  | zero => intro S S' h h0; exact h.nl0 h0
  | succ k ih =>
    intro S S' h h0
    rcases h0 with h0 | ⟨t, h1, h2, h3⟩
    · exact Or.inl (h.nl0 h0)
    · refine Or.inr ⟨t, h1, h.spl h1 h2, fun d hd => ?_⟩
      obtain ⟨c, hc, hcd⟩ := h.2 d hd
      exact ih (h.pt h1 (hcd t h1).symm) (h3 c hc)
/-- how many -/
def car (S : Int) : Int := sumT (fun _ => 1) S 13
theorem car_lt {S P : Int} (hsub : ∀ d, me P d → me S d) {x : Int} (hx : me S x) (hn : ¬ me P x) : car P < car S := by
  have key : ∀ N : Nat, N ≤ 13 → sumT (fun _ => 1) P N + (if x < (N : Int) then 1 else 0) ≤ sumT (fun _ => 1) S N := by
    intro N
    induction N with
    | zero => intro _; rw [if_neg (by have := hx.1.1; omega)]; exact Int.le_refl _
    | succ N ih =>
      intro hN
      have h := ih (by omega)
      show sumT (fun _ => 1) P N + (if tb P (N : Int) = true then (1 : Int) else 0) + _ ≤ sumT (fun _ => 1) S N + (if tb S (N : Int) = true then (1 : Int) else 0)
      by_cases e : x = (N : Int)
      · subst e
        have h1 : ¬ tb P (N : Int) = true := fun z => hn ⟨hx.1, z⟩
        rw [if_neg h1, if_pos hx.2, if_pos (by omega)]
        rw [if_neg (by omega)] at h
        omega
      · have q : (x < ((N + 1 : Nat) : Int)) ↔ (x < (N : Int)) := by omega
        simp only [q]
        by_cases hp : tb P (N : Int) = true
        · have := (hsub (N : Int) ⟨by omega, hp⟩).2
          rw [if_pos hp, if_pos this]
          omega
        · rw [if_neg hp]
          split <;> omega
  have := key 13 (by omega)
  rw [if_pos (by have := hx.1.2; omega)] at this
  unfold car
  omega
theorem car_nn (S : Int) : 0 ≤ car S ∧ car S ≤ 13 := by
  have := sumT_b (f := fun _ => 1) (S := S) (A := 0) (B := 1) (by omega) (by omega) 13 (fun _ _ _ => by omega)
  unfold car
  omega
theorem NL.all : ∀ (k : Nat) (S : Int), car S ≤ (k : Int) → NL vt H k S := by
  intro k
  induction k with
  | zero =>
    intro S h c d hc _
    have : car 0 < car S := car_lt (fun d hd => by have := hd.2; rw [tb_0] at this; exact absurd this (by decide)) hc (fun z => by have := z.2; rw [tb_0] at this; exact absurd this (by decide))
    have e : car 0 = 0 := by decide +kernel
    omega
  | succ k ih =>
    intro S h
    by_cases h0 : NL0 vt H S
    · exact Or.inl h0
    · right
      have : ∃ c d, me S c ∧ me S d ∧ ¬ AL vt H c d := by
        refine Classical.byContradiction (fun z => h0 (fun c d hc hd => Classical.byContradiction (fun w => z ⟨c, d, hc, hd, w⟩)))
      obtain ⟨c, d, hc, hd, hn⟩ := this
      have : ∃ t, vt t ∧ H t c ≠ H t d := Classical.byContradiction (fun z => hn (fun t ht => Classical.byContradiction (fun w => z ⟨t, ht, w⟩)))
      obtain ⟨t, ht, hcd⟩ := this
      refine ⟨t, ht, ⟨c, d, hc, hd, hcd⟩, fun e he => ih _ ?_⟩
      have : ∃ x, me S x ∧ ¬ me (PT H t S e) x := by
        by_cases q : H t c = H t e
        · exact ⟨d, hd, fun z => hcd (by rw [q, (me_PT.mp z).2])⟩
        · exact ⟨c, hc, fun z => q (me_PT.mp z).2⟩
      obtain ⟨x, h1, h2⟩ := this
      have := car_lt (fun y hy => (me_PT.mp hy).1) h1 h2
      omega
theorem NL.t13 (S : Int) : NL vt H 13 S := NL.all 13 S (car_nn S).2
end CASES
/-- how many tries are needed -/
def ND (vt : Int → Prop) (H : Int → Int → Int) (S v : Int) : Prop := (0 ≤ v ∧ v ≤ 13) ∧ NL vt H v.toNat S ∧ ∀ j, 0 ≤ j → j < v → ¬ NL vt H j.toNat S
theorem ND.one {vt : Int → Prop} {H : Int → Int → Int} {S v w : Int} (h : ND vt H S v) (h' : ND vt H S w) : v = w := by
  rcases (by omega : v < w ∨ v = w ∨ w < v) with q | q | q
  · exact absurd h.2.1 (h'.2.2 v h.1.1 q)
  · exact q
  · exact absurd h'.2.1 (h.2.2 w h'.1.1 q)
theorem ND.eqv {vt : Int → Prop} {H : Int → Int → Int} {S S' v : Int} (he : EQV vt H S S') (h : ND vt H S v) : ND vt H S' v := ⟨h.1, he.nl _ h.2.1, fun j h0 h1 hj => h.2.2 j h0 h1 (he.symm.nl _ hj)⟩
theorem ND.le {vt : Int → Prop} {H : Int → Int → Int} {S v k : Int} (h : ND vt H S v) (hk : 0 ≤ k) : NL vt H k.toNat S ↔ v ≤ k := by
  constructor
  · intro hn
    rcases (by omega : v ≤ k ∨ k < v) with q | q
    · exact q
    · exact absurd hn (h.2.2 k hk q)
  · intro hv
    exact h.2.1.up (by omega)
/-- the first try: by it v - 1 tries more are enough, and by none before it -/
def GOODT (vt : Int → Prop) (H : Int → Int → Int) (S v t : Int) : Prop := vt t ∧ SPL H t S ∧ ∀ c, me S c → NL vt H (v - 1).toNat (PT H t S c)
def FST (vt : Int → Prop) (H : Int → Int → Int) (S v t : Int) : Prop := GOODT vt H S v t ∧ ∀ t', t' < t → ¬ GOODT vt H S v t'
theorem FST.one {vt : Int → Prop} {H : Int → Int → Int} {S v t t' : Int} (h : FST vt H S v t) (h' : FST vt H S v t') : t = t' := by
  rcases (by omega : t < t' ∨ t = t' ∨ t' < t) with q | q | q
  · exact absurd h.1 (h'.2 t q)
  · exact q
  · exact absurd h'.1 (h.2 t' q)
theorem GOODT.eqv {vt : Int → Prop} {H : Int → Int → Int} {S S' v t : Int} (he : EQV vt H S S') (h : GOODT vt H S v t) : GOODT vt H S' v t := by
  refine ⟨h.1, he.spl h.1 h.2.1, fun d hd => ?_⟩
  obtain ⟨c, hc, hcd⟩ := he.2 d hd
  exact (he.pt h.1 (hcd t h.1).symm).nl _ (h.2.2 c hc)
theorem FST.eqv {vt : Int → Prop} {H : Int → Int → Int} {S S' v t : Int} (he : EQV vt H S S') (h : FST vt H S v t) : FST vt H S' v t := ⟨h.1.eqv he, fun t' ht hg => h.2 t' ht (hg.eqv he.symm)⟩
/-- the least case of like height -/
def leadG (pr : Int → Bool) (f : Int → Int) (c : Int) : Nat → Int
  | 0 => c
  | k + 1 => if leadG pr f c k = c ∧ pr (k : Int) = true ∧ f (k : Int) = f c then (k : Int) else leadG pr f c k
def leadOf (pr : Int → Bool) (f : Int → Int) (c : Int) : Int := leadG pr f c c.toNat
def LEAD (pr : Int → Bool) (f : Int → Int) (c r : Int) : Prop := (0 ≤ r ∧ r ≤ c) ∧ (r = c ∨ (pr r = true ∧ f r = f c)) ∧ ∀ d, 0 ≤ d → d < r → ¬ (pr d = true ∧ f d = f c)
theorem leadOf_ok (pr : Int → Bool) (f : Int → Int) {c : Int} (hc : 0 ≤ c) : LEAD pr f c (leadOf pr f c) := by
  have key : ∀ k : Nat, (k : Int) ≤ c → (0 ≤ leadG pr f c k ∧ leadG pr f c k ≤ c) ∧ ((leadG pr f c k = c ∧ ∀ d, 0 ≤ d → d < (k : Int) → ¬ (pr d = true ∧ f d = f c)) ∨ (leadG pr f c k < (k : Int) ∧ pr (leadG pr f c k) = true ∧ f (leadG pr f c k) = f c ∧ ∀ d, 0 ≤ d → d < leadG pr f c k → ¬ (pr d = true ∧ f d = f c))) := by
    intro k
    induction k with
    | zero => intro _; exact ⟨⟨hc, Int.le_refl _⟩, Or.inl ⟨rfl, fun d _ _ => by omega⟩⟩
    | succ k ih =>
      intro hk
      obtain ⟨h1, h2⟩ := ih (by omega)
      by_cases q : leadG pr f c k = c ∧ pr (k : Int) = true ∧ f (k : Int) = f c
      · have e : leadG pr f c (k + 1) = (k : Int) := if_pos q
        rw [e]
        refine ⟨⟨by omega, by omega⟩, Or.inr ⟨by omega, q.2.1, q.2.2, ?_⟩⟩
        rcases h2 with ⟨_, h2⟩ | ⟨h2, _⟩
        · exact h2
        · omega
      · have e : leadG pr f c (k + 1) = leadG pr f c k := if_neg q
        rw [e]
        refine ⟨h1, ?_⟩
        rcases h2 with ⟨h2, h3⟩ | ⟨h2, h3⟩
        · refine Or.inl ⟨h2, fun d d0 d1 d2 => ?_⟩
          rcases (by omega : d < (k : Int) ∨ d = (k : Int)) with w | w
          · exact h3 d d0 w d2
          · subst w; exact q ⟨h2, d2⟩
        · exact Or.inr ⟨by omega, h3⟩
  obtain ⟨h1, h2⟩ := key c.toNat (by omega)
  unfold leadOf
  refine ⟨h1, ?_, ?_⟩
  · rcases h2 with ⟨h2, _⟩ | ⟨_, h2, h3, _⟩
    · exact Or.inl h2
    · exact Or.inr ⟨h2, h3⟩
  · rcases h2 with ⟨h2, h3⟩ | ⟨_, _, _, h3⟩
    · intro d d0 d1
      exact h3 d d0 (by omega)
    · exact h3
theorem LEAD.one {pr : Int → Bool} {f : Int → Int} {c r r' : Int} (h : LEAD pr f c r) (h' : LEAD pr f c r') : r = r' := by
  rcases (by omega : r < r' ∨ r = r' ∨ r' < r) with q | q | q
  · rcases h.2.1 with w | w
    · have := h'.1.2; omega
    · exact absurd w (h'.2.2 r h.1.1 q)
  · exact q
  · rcases h'.2.1 with w | w
    · have := h.1.2; omega
    · exact absurd w (h.2.2 r' h'.1.1 q)
theorem leadOf_eq {pr : Int → Bool} {f : Int → Int} {c d : Int} (hc : 0 ≤ c) (hd : 0 ≤ d) (pc : pr c = true) (pd : pr d = true) : leadOf pr f c = leadOf pr f d ↔ f c = f d := by
  have h1 := leadOf_ok pr f hc
  have h2 := leadOf_ok pr f hd
  have f1 : f (leadOf pr f c) = f c := by rcases h1.2.1 with q | q; rw [q]; exact q.2
  have f2 : f (leadOf pr f d) = f d := by rcases h2.2.1 with q | q; rw [q]; exact q.2
  have g1 : pr (leadOf pr f c) = true := by rcases h1.2.1 with q | q; rw [q]; exact pc; exact q.1
  have g2 : pr (leadOf pr f d) = true := by rcases h2.2.1 with q | q; rw [q]; exact pd; exact q.1
  constructor
  · intro h
    rw [← f1, ← f2, h]
  · intro h
    rcases (by omega : leadOf pr f c < leadOf pr f d ∨ leadOf pr f c = leadOf pr f d ∨ leadOf pr f d < leadOf pr f c) with q | q | q
    · exact absurd ⟨g1, by rw [f1, h]⟩ (h2.2.2 _ h1.1.1 q)
    · exact q
    · exact absurd ⟨g2, by rw [f2, h]⟩ (h1.2.2 _ h2.1.1 q)
