/-! READING A TEXT: what both readers do; s i: the sign at i, -1 behind the end -/
def TXT (s : Int → Int) (L : Int) : Prop := (0 ≤ L ∧ L ≤ 400) ∧ (∀ i, 0 ≤ i → i < L → 0 ≤ s i ∧ s i < 256) ∧ ∀ i, ¬ (0 ≤ i ∧ i < L) → s i = -1
theorem TXT.r {s : Int → Int} {L : Int} (h : TXT s L) (i : Int) : -1 ≤ s i ∧ s i < 256 := by
  by_cases q : 0 ≤ i ∧ i < L
  · have := h.2.1 i q.1 q.2; omega
  · have := h.2.2 i q; omega
theorem TXT.in {s : Int → Int} {L i : Int} (h : TXT s L) (hi : s i ≠ -1) : 0 ≤ i ∧ i < L := Classical.byContradiction (fun z => hi (h.2.2 i z))
def isB (z : Int) : Bool := decide (z = 32)
def isLt (z : Int) : Bool := decide (97 ≤ z ∧ z ≤ 122)
def isFg (z : Int) : Bool := decide (48 ≤ z ∧ z ≤ 57)
def runF (P : Int → Bool) (s : Int → Int) : Nat → Int → Int
  | 0, i => i
  | n + 1, i => if P (s i) = true then runF P s n (i + 1) else i
/-- where a run of signs of a kind ends -/
def run (P : Int → Bool) (s : Int → Int) (i : Int) : Int := runF P s 401 i
def RUNS (P : Int → Bool) (s : Int → Int) (i j : Int) : Prop := i ≤ j ∧ (∀ k, i ≤ k → k < j → P (s k) = true) ∧ P (s j) = false
theorem RUNS.one {P : Int → Bool} {s : Int → Int} {i j j' : Int} (h : RUNS P s i j) (h' : RUNS P s i j') : j = j' := by
  rcases (by omega : j < j' ∨ j = j' ∨ j' < j) with q | q | q
  · have h1 := h'.2.1 j h.1 q
    rw [h.2.2] at h1; exact absurd h1 (by decide)
  · exact q
  · have h1 := h.2.1 j' h'.1 q
    rw [h'.2.2] at h1; exact absurd h1 (by decide)
theorem runF_ok {P : Int → Bool} {s : Int → Int} {L : Int} (hT : TXT s L) (hP : P (-1) = false) : ∀ (n : Nat) (i : Int), 0 ≤ i → L - i < (n : Int) → RUNS P s i (runF P s n i) ∧ (runF P s n i ≤ i ∨ runF P s n i ≤ L) := by
  intro n
  induction n with
  | zero =>
    intro i h0 h
    have e : s i = -1 := hT.2.2 i (by omega)
    refine ⟨⟨Int.le_refl _, fun k h1 h2 => ?_, ?_⟩, Or.inl (Int.le_refl _)⟩
    · have : runF P s 0 i = i := rfl
      omega
    · show P (s i) = false
      rw [e]; exact hP
  | succ n ih =>
    intro i h0 h
    by_cases q : P (s i) = true
    · have hi : i < L := (hT.in (fun z => by rw [z, hP] at q; exact absurd q (by decide))).2
      have e : runF P s (n + 1) i = runF P s n (i + 1) := if_pos q
      obtain ⟨⟨h1, h2, h3⟩, h4⟩ := ih (i + 1) (by omega) (by omega)
      rw [e]
      refine ⟨⟨by omega, fun k k0 k1 => ?_, h3⟩, by omega⟩
      rcases (by omega : k = i ∨ i + 1 ≤ k) with w | w
      · rw [w]; exact q
      · exact h2 k w k1
    · have e : runF P s (n + 1) i = i := if_neg q
      rw [e]
      exact ⟨⟨Int.le_refl _, fun k h1 h2 => by omega, Bool.eq_false_iff.mpr q⟩, Or.inl (Int.le_refl _)⟩
theorem run_ok {P : Int → Bool} {s : Int → Int} {L i : Int} (hT : TXT s L) (hP : P (-1) = false) (h0 : 0 ≤ i) : RUNS P s i (run P s i) ∧ (run P s i ≤ i ∨ run P s i ≤ L) := runF_ok hT hP 401 i h0 (by have := hT.1; omega)
theorem run_eq {P : Int → Bool} {s : Int → Int} {L i j : Int} (hT : TXT s L) (hP : P (-1) = false) (h0 : 0 ≤ i) (hij : i ≤ j) (h : ∀ k, i ≤ k → k < j → P (s k) = true) (hj : ¬ P (s j) = true) : run P s i = j := RUNS.one (run_ok hT hP h0).1 ⟨hij, h, Bool.eq_false_iff.mpr hj⟩
theorem isB1 : isB (-1) = false := by decide
theorem isLt1 : isLt (-1) = false := by decide
theorem isFg1 : isFg (-1) = false := by decide
/-- a number: where it starts, where it ends, its value, its fault -/
def nS (s : Int → Int) (i : Int) : Int := run isB s i
def nE (s : Int → Int) (i : Int) : Int := run isFg s (nS s i)
def nv (s : Int → Int) (i : Int) : Nat → Int
  | 0 => 0
  | k + 1 => nv s i k * 10 + (s (i + (k : Int)) - 48)
def nV (s : Int → Int) (i : Int) : Int := nv s (nS s i) (nE s i - nS s i).toNat
def nF (s : Int → Int) (lo hi i : Int) : Int := if nE s i = nS s i then 1 else if 4 < nE s i - nS s i ∨ nV s i < lo ∨ hi < nV s i then 2 else 0
theorem nS_ok {s : Int → Int} {L i : Int} (hT : TXT s L) (h0 : 0 ≤ i) (h1 : i ≤ L) : RUNS isB s i (nS s i) ∧ i ≤ nS s i ∧ nS s i ≤ L := by
  have h := run_ok (i := i) hT isB1 h0
  exact ⟨h.1, h.1.1, by have := h.2; show run isB s i ≤ L; omega⟩
theorem nE_ok {s : Int → Int} {L i : Int} (hT : TXT s L) (h0 : 0 ≤ i) (h1 : i ≤ L) : RUNS isFg s (nS s i) (nE s i) ∧ nS s i ≤ nE s i ∧ nE s i ≤ L := by
  have hs := nS_ok hT h0 h1
  have h := run_ok (i := nS s i) hT isFg1 (by omega)
  exact ⟨h.1, h.1.1, by have := h.2; show run isFg s (nS s i) ≤ L; omega⟩
theorem nv_s (s : Int → Int) (i : Int) {k : Int} (h : 0 ≤ k) : nv s i (k + 1).toNat = nv s i k.toNat * 10 + (s (i + k) - 48) := by
  obtain ⟨j, rfl⟩ := Int.eq_ofNat_of_zero_le h
  rw [show ((j : Int) + 1).toNat = j + 1 by omega]
  rfl
theorem nv_b {s : Int → Int} {i : Int} : ∀ k : Nat, (∀ j, i ≤ j → j < i + (k : Int) → isFg (s j) = true) → 0 ≤ nv s i k ∧ nv s i k < ((10 ^ k : Nat) : Int) := by
  intro k
  induction k with
  | zero => intro _; exact ⟨Int.le_refl _, (by decide : (0 : Int) < ((10 ^ 0 : Nat) : Int))⟩
  | succ k ih =>
    intro h
    have h1 := ih (fun j j0 j1 => h j j0 (by omega))
    have h2 := of_decide_eq_true (h (i + (k : Int)) (by omega) (by omega))
    rw [Nat.pow_succ]
    show 0 ≤ nv s i k * 10 + (s (i + (k : Int)) - 48) ∧ nv s i k * 10 + (s (i + (k : Int)) - 48) < _
    generalize 10 ^ k = q at h1 ⊢
    omega
theorem nv_4 {s : Int → Int} {i k : Int} (h0 : 0 ≤ k) (h4 : k ≤ 4) (h : ∀ j, i ≤ j → j < i + k → isFg (s j) = true) : 0 ≤ nv s i k.toNat ∧ nv s i k.toNat ≤ 9999 := by
  have h1 := nv_b (s := s) (i := i) k.toNat (fun j j0 j1 => h j j0 (by omega))
  have h2 : 10 ^ k.toNat ≤ 10 ^ 4 := Nat.pow_le_pow_right (by omega) (by omega)
  have h3 : 10 ^ 4 = 10000 := by decide
  rw [h3] at h2
  generalize 10 ^ k.toNat = q at h1 h2
  omega
theorem nV_ok {s : Int → Int} {lo hi i : Int} (h : nF s lo hi i = 0) : lo ≤ nV s i ∧ nV s i ≤ hi := by
  unfold nF at h
  split at h
  · omega
  · split at h
    · omega
    · omega
/-- faults, one behind another: the first one is told -/
def fl (q : Int × Int) (f p : Int) : Int × Int := if q.1 = 0 then (if f = 0 then q else (f, p)) else q
theorem fl_n {q : Int × Int} {f p : Int} (h : q.1 ≠ 0) : fl q f p = q := if_neg h
theorem fl_z {q : Int × Int} {f p : Int} (h : q.1 = 0) (hf : f = 0) : fl q f p = q := by unfold fl; rw [if_pos h, if_pos hf]
theorem fl_f {q : Int × Int} {f p : Int} (h : q.1 = 0) (hf : f ≠ 0) : fl q f p = (f, p) := by unfold fl; rw [if_pos h, if_neg hf]
theorem fl_0 {q : Int × Int} {f p : Int} (h : (fl q f p).1 = 0) : q.1 = 0 ∧ f = 0 ∧ fl q f p = q := by
  by_cases h1 : q.1 = 0
  · by_cases h2 : f = 0
    · exact ⟨h1, h2, fl_z h1 h2⟩
    · rw [fl_f h1 h2] at h; exact absurd h h2
  · rw [fl_n h1] at h; exact absurd h h1
def FOK (q : Int × Int) : Prop := (0 ≤ q.1 ∧ q.1 ≤ 4) ∧ (-1 ≤ q.2 ∧ q.2 ≤ 400)
theorem fl_ok {q : Int × Int} {f p : Int} (h : FOK q) (hf : 0 ≤ f ∧ f ≤ 4) (hp : 0 ≤ p ∧ p ≤ 400) : FOK (fl q f p) := by
  by_cases h1 : q.1 = 0
  · by_cases h2 : f = 0
    · rw [fl_z h1 h2]; exact h
    · rw [fl_f h1 h2]; exact ⟨hf, show -1 ≤ p ∧ p ≤ 400 by omega⟩
  · rw [fl_n h1]; exact h
theorem nF_b (s : Int → Int) (lo hi i : Int) : 0 ≤ nF s lo hi i ∧ nF s lo hi i ≤ 2 := by
  unfold nF
  split
  · omega
  · split <;> omega
def q0 : Int × Int := (0, -1)
/-- behind the last number of a clause -/
def edQ (s : Int → Int) (q : Int × Int) (j : Int) : Int × Int := fl q (if s (nS s j) = 59 then 0 else 1) (nS s j)
def bthQ (s : Int → Int) (q : Int × Int) (e : Int) : Int × Int :=
  edQ s (fl (fl (fl (fl q (nF s 1 99 e) (nS s e)) (nF s 1 99 (nE s e)) (nS s (nE s e))) (nF s 0 9999 (nE s (nE s e))) (nS s (nE s (nE s e)))) (nF s 0 99 (nE s (nE s (nE s e)))) (nS s (nE s (nE s (nE s e))))) (nE s (nE s (nE s (nE s e))))
def brQ (s : Int → Int) (q : Int × Int) (e : Int) : Int × Int :=
  edQ s (fl (fl (fl (fl (fl (fl q (nF s 1 999 e) (nS s e)) (nF s 1 999 (nE s e)) (nS s (nE s e))) (if nV s (nE s e) < nV s e then 4 else 0) (nS s (nE s e)))
    (nF s 1 999 (nE s (nE s e))) (nS s (nE s (nE s e)))) (if nV s (nE s (nE s e)) < nV s e ∨ nV s (nE s e) < nV s (nE s (nE s e)) then 4 else 0) (nS s (nE s (nE s e))))
    (nF s 0 100 (nE s (nE s (nE s e)))) (nS s (nE s (nE s (nE s e))))) (nE s (nE s (nE s (nE s e))))
def odQ (s : Int → Int) (q : Int × Int) (e : Int) : Int × Int := edQ s (fl q (nF s 1 999 e) (nS s e)) (nE s e)
def aft (s : Int → Int) (j : Int) : Int := nS s j + 1
/-- which word: 0 bath, 1 bather, 2 odd, else -1 -/
def kdW (s : Int → Int) (i e : Int) : Int :=
  if e - i = 4 ∧ s i = 98 ∧ s (i + 1) = 97 ∧ s (i + 2) = 116 ∧ s (i + 3) = 104 then 0
  else if e - i = 6 ∧ s i = 98 ∧ s (i + 1) = 97 ∧ s (i + 2) = 116 ∧ s (i + 3) = 104 ∧ s (i + 4) = 101 ∧ s (i + 5) = 114 then 1
  else if e - i = 3 ∧ s i = 111 ∧ s (i + 1) = 100 ∧ s (i + 2) = 100 then 2 else -1
def clQ (s : Int → Int) (i nb n o : Int) : Int × Int :=
  if kdW s i (run isLt s i) = 0 then bthQ s (fl q0 (if nb = 2 then 3 else 0) i) (run isLt s i)
  else if kdW s i (run isLt s i) = 1 then brQ s (fl q0 (if n = 6 then 3 else 0) i) (run isLt s i)
  else if kdW s i (run isLt s i) = 2 then odQ s (fl q0 (if o = 0 then 0 else 3) i) (run isLt s i)
  else fl q0 1 i
def ad4 (g : Int → Int) (k a b c d : Int) : Int → Int := upZ (upZ (upZ (upZ g (k * 4) a) (k * 4 + 1) b) (k * 4 + 2) c) (k * 4 + 3) d
theorem ad4_at (g : Int → Int) (k a b c d : Int) : ad4 g k a b c d (k * 4) = a ∧ ad4 g k a b c d (k * 4 + 1) = b ∧ ad4 g k a b c d (k * 4 + 2) = c ∧ ad4 g k a b c d (k * 4 + 3) = d := by
  unfold ad4
  refine ⟨?_, ?_, ?_, upZ_s _ _ _⟩
  · rw [upZ_n (by omega), upZ_n (by omega), upZ_n (by omega), upZ_s]
  · rw [upZ_n (by omega), upZ_n (by omega), upZ_s]
  · rw [upZ_n (by omega), upZ_s]
theorem ad4_n {g : Int → Int} {k a b c d x : Int} (h : x < k * 4 ∨ k * 4 + 3 < x) : ad4 g k a b c d x = g x := by
  unfold ad4
  rw [upZ_n (by omega), upZ_n (by omega), upZ_n (by omega), upZ_n (by omega)]
/-- alike up to n rows -/
def EQ4 (g g' : Int → Int) (n : Int) : Prop := ∀ x, 0 ≤ x → x < n * 4 → g x = g' x
theorem EQ4.add {g g' : Int → Int} {n a b c d : Int} (h : EQ4 g g' n) : EQ4 (ad4 g n a b c d) (ad4 g' n a b c d) (n + 1) := by
  intro x h0 h1
  have e1 := ad4_at g n a b c d
  have e2 := ad4_at g' n a b c d
  rcases (by omega : x < n * 4 ∨ x = n * 4 ∨ x = n * 4 + 1 ∨ x = n * 4 + 2 ∨ x = n * 4 + 3) with q | q | q | q | q
  · rw [ad4_n (Or.inl q), ad4_n (Or.inl q)]; exact h x h0 q
  · rw [q, e1.1, e2.1]
  · rw [q, e1.2.1, e2.2.1]
  · rw [q, e1.2.2.1, e2.2.2.1]
  · rw [q, e1.2.2.2, e2.2.2.2]
/-- what has been read: place, baths, bathers, D (0: not told), their rows -/
abbrev PSt : Type := Int × Int × Int × Int × (Int → Int) × (Int → Int)
def nextP (s : Int → Int) (q : PSt) : PSt :=
  if kdW s q.1 (run isLt s q.1) = 0 then (nS s (aft s (nE s (nE s (nE s (nE s (run isLt s q.1)))))), q.2.1 + 1, q.2.2.1, q.2.2.2.1, ad4 q.2.2.2.2.1 q.2.1 (nV s (run isLt s q.1)) (nV s (nE s (run isLt s q.1))) (nV s (nE s (nE s (run isLt s q.1)))) (nV s (nE s (nE s (nE s (run isLt s q.1))))), q.2.2.2.2.2)
  else if kdW s q.1 (run isLt s q.1) = 1 then (nS s (aft s (nE s (nE s (nE s (nE s (run isLt s q.1)))))), q.2.1, q.2.2.1 + 1, q.2.2.2.1, q.2.2.2.2.1, ad4 q.2.2.2.2.2 q.2.2.1 (nV s (run isLt s q.1)) (nV s (nE s (run isLt s q.1))) (nV s (nE s (nE s (run isLt s q.1)))) (nV s (nE s (nE s (nE s (run isLt s q.1))))))
  else (nS s (aft s (nE s (run isLt s q.1))), q.2.1, q.2.2.1, nV s (run isLt s q.1), q.2.2.2.2.1, q.2.2.2.2.2)
def pst (s : Int → Int) : Nat → PSt
  | 0 => (nS s 0, 0, 0, 0, fun _ => 0, fun _ => 0)
  | k + 1 => nextP s (pst s k)
def pA (s : Int → Int) (k : Nat) : Int := (pst s k).1
def pB (s : Int → Int) (k : Nat) : Int := (pst s k).2.1
def pN (s : Int → Int) (k : Nat) : Int := (pst s k).2.2.1
def pO (s : Int → Int) (k : Nat) : Int := (pst s k).2.2.2.1
def pFB (s : Int → Int) (k : Nat) : Int → Int := (pst s k).2.2.2.2.1
def pFT (s : Int → Int) (k : Nat) : Int → Int := (pst s k).2.2.2.2.2
def cQ (s : Int → Int) (k : Nat) : Int × Int := clQ s (pA s k) (pB s k) (pN s k) (pO s k)
def GO (s : Int → Int) (k : Nat) : Prop := s (pA s k) ≠ -1 ∧ (cQ s k).1 = 0
/-- reading ends behind K clauses: there is no more, or a fault -/
def PEND (s : Int → Int) (K : Nat) : Prop := (∀ k : Nat, k < K → GO s k) ∧ ¬ GO s K
theorem PEND.one {s : Int → Int} {K K' : Nat} (h : PEND s K) (h' : PEND s K') : K = K' := by
  rcases (by omega : K < K' ∨ K = K' ∨ K' < K) with q | q | q
  · exact absurd (h'.1 K q) h.2
  · exact q
  · exact absurd (h.1 K' q) h'.2
/-- the fault at the end -/
def endQ (s : Int → Int) (K : Nat) : Int × Int := if s (pA s K) = -1 then q0 else cQ s K
/-- a clause without fault -/
theorem edQ_0 {s : Int → Int} {q : Int × Int} {j : Int} (h : (edQ s q j).1 = 0) : q.1 = 0 ∧ s (nS s j) = 59 ∧ edQ s q j = q := by
  have h2 := fl_0 h
  refine ⟨h2.1, ?_, h2.2.2⟩
  have := h2.2.1
  by_cases e : s (nS s j) = 59
  · exact e
  · rw [if_neg e] at this; omega
theorem bthQ_0 {s : Int → Int} {q : Int × Int} {e : Int} (h : (bthQ s q e).1 = 0) : q.1 = 0 ∧ nF s 1 99 e = 0 ∧ nF s 1 99 (nE s e) = 0 ∧ nF s 0 9999 (nE s (nE s e)) = 0 ∧ nF s 0 99 (nE s (nE s (nE s e))) = 0 ∧ s (nS s (nE s (nE s (nE s (nE s e))))) = 59 := by
  have h1 := edQ_0 h
  have h2 := fl_0 h1.1
  have h3 := fl_0 h2.1
  have h4 := fl_0 h3.1
  have h5 := fl_0 h4.1
  exact ⟨h5.1, h5.2.1, h4.2.1, h3.2.1, h2.2.1, h1.2.1⟩
theorem brQ_0 {s : Int → Int} {q : Int × Int} {e : Int} (h : (brQ s q e).1 = 0) : q.1 = 0 ∧ nF s 1 999 e = 0 ∧ nF s 1 999 (nE s e) = 0 ∧ nV s e ≤ nV s (nE s e) ∧ nF s 1 999 (nE s (nE s e)) = 0 ∧ (nV s e ≤ nV s (nE s (nE s e)) ∧ nV s (nE s (nE s e)) ≤ nV s (nE s e)) ∧ nF s 0 100 (nE s (nE s (nE s e))) = 0 ∧ s (nS s (nE s (nE s (nE s (nE s e))))) = 59 := by
  have h1 := edQ_0 h
  have h2 := fl_0 h1.1
  have h3 := fl_0 h2.1
  have h4 := fl_0 h3.1
  have h5 := fl_0 h4.1
  have h6 := fl_0 h5.1
  have h7 := fl_0 h6.1
  refine ⟨h7.1, h7.2.1, h6.2.1, ?_, h4.2.1, ?_, h2.2.1, h1.2.1⟩
  · have := h5.2.1
    split at this <;> omega
  · have := h3.2.1
    split at this
    · omega
    · rename_i z
      omega
theorem odQ_0 {s : Int → Int} {q : Int × Int} {e : Int} (h : (odQ s q e).1 = 0) : q.1 = 0 ∧ nF s 1 999 e = 0 ∧ s (nS s (nE s e)) = 59 := by
  have h1 := edQ_0 h
  have h2 := fl_0 h1.1
  exact ⟨h2.1, h2.2.1, h1.2.1⟩
/-- a state while reading -/
def POK (s : Int → Int) (L : Int) (q : PSt) : Prop := (0 ≤ q.1 ∧ q.1 ≤ L) ∧ (0 ≤ q.2.1 ∧ q.2.1 ≤ 2) ∧ (0 ≤ q.2.2.1 ∧ q.2.2.1 ≤ 6) ∧ (0 ≤ q.2.2.2.1 ∧ q.2.2.2.1 ≤ 999)
theorem wd_ok {s : Int → Int} {L i : Int} (hT : TXT s L) (h0 : 0 ≤ i) (h1 : i ≤ L) : RUNS isLt s i (run isLt s i) ∧ i ≤ run isLt s i ∧ run isLt s i ≤ L := by
  have h := run_ok (i := i) hT isLt1 h0
  exact ⟨h.1, h.1.1, by have := h.2; omega⟩
theorem aft_ok {s : Int → Int} {L j : Int} (hT : TXT s L) (h0 : 0 ≤ j) (h1 : j ≤ L) (h : s (nS s j) = 59) : j < aft s j ∧ aft s j ≤ L := by
  have h2 := nS_ok hT h0 h1
  have h3 := hT.in (i := nS s j) (by omega)
  unfold aft
  omega
theorem fl_q0 {f p : Int} (h : (fl q0 f p).1 = 0) : f = 0 := (fl_0 h).2.1
theorem next_ok {s : Int → Int} {L : Int} (hT : TXT s L) {q : PSt} (h : POK s L q) (hg : (clQ s q.1 q.2.1 q.2.2.1 q.2.2.2.1).1 = 0) : POK s L (nextP s q) ∧ q.1 < (nextP s q).1 := by
  obtain ⟨i, nb, n, o, fb, ft⟩ := q
  obtain ⟨h1, h2, h3, h4⟩ := h
  have h1 : 0 ≤ i ∧ i ≤ L := h1
  have h2 : 0 ≤ nb ∧ nb ≤ 2 := h2
  have h3 : 0 ≤ n ∧ n ≤ 6 := h3
  have h4 : 0 ≤ o ∧ o ≤ 999 := h4
  have hg : (clQ s i nb n o).1 = 0 := hg
  have hw := wd_ok hT h1.1 h1.2
  have e1 := nE_ok (i := run isLt s i) hT (by omega) (by omega)
  have s1 := nS_ok (i := run isLt s i) hT (by omega) (by omega)
  have s2 := nS_ok (i := nE s (run isLt s i)) hT (by omega) (by omega)
  have e2 := nE_ok (i := nE s (run isLt s i)) hT (by omega) (by omega)
  have s3 := nS_ok (i := nE s (nE s (run isLt s i))) hT (by omega) (by omega)
  have e3 := nE_ok (i := nE s (nE s (run isLt s i))) hT (by omega) (by omega)
  have s4 := nS_ok (i := nE s (nE s (nE s (run isLt s i)))) hT (by omega) (by omega)
  have e4 := nE_ok (i := nE s (nE s (nE s (run isLt s i)))) hT (by omega) (by omega)
  unfold clQ at hg
  by_cases k0 : kdW s i (run isLt s i) = 0
  · rw [if_pos k0] at hg
    have hb := bthQ_0 hg
    have ha := aft_ok (j := nE s (nE s (nE s (nE s (run isLt s i))))) hT (by omega) (by omega) hb.2.2.2.2.2
    have hs := nS_ok (i := aft s (nE s (nE s (nE s (nE s (run isLt s i)))))) hT (by omega) (by omega)
    have hf := fl_q0 hb.1
    have hnb : nb ≠ 2 := fun z => by rw [if_pos z] at hf; omega
    have en : nextP s (i, nb, n, o, fb, ft) = (nS s (aft s (nE s (nE s (nE s (nE s (run isLt s i)))))), nb + 1, n, o, ad4 fb nb (nV s (run isLt s i)) (nV s (nE s (run isLt s i))) (nV s (nE s (nE s (run isLt s i)))) (nV s (nE s (nE s (nE s (run isLt s i))))), ft) := if_pos k0
    rw [en]
    refine ⟨⟨?_, ?_, ?_, ?_⟩, ?_⟩
    · show 0 ≤ nS s (aft s _) ∧ nS s (aft s _) ≤ L; omega
    · show 0 ≤ nb + 1 ∧ nb + 1 ≤ 2; omega
    · show 0 ≤ n ∧ n ≤ 6; omega
    · show 0 ≤ o ∧ o ≤ 999; omega
    · show i < nS s (aft s _); omega
  · rw [if_neg k0] at hg
    by_cases k1 : kdW s i (run isLt s i) = 1
    · rw [if_pos k1] at hg
      have hb := brQ_0 hg
      have ha := aft_ok (j := nE s (nE s (nE s (nE s (run isLt s i))))) hT (by omega) (by omega) hb.2.2.2.2.2.2.2
      have hs := nS_ok (i := aft s (nE s (nE s (nE s (nE s (run isLt s i)))))) hT (by omega) (by omega)
      have hf := fl_q0 hb.1
      have hnb : n ≠ 6 := fun z => by rw [if_pos z] at hf; omega
      have en : nextP s (i, nb, n, o, fb, ft) = (nS s (aft s (nE s (nE s (nE s (nE s (run isLt s i)))))), nb, n + 1, o, fb, ad4 ft n (nV s (run isLt s i)) (nV s (nE s (run isLt s i))) (nV s (nE s (nE s (run isLt s i)))) (nV s (nE s (nE s (nE s (run isLt s i)))))) := (if_neg k0).trans (if_pos k1)
      rw [en]
      refine ⟨⟨?_, ?_, ?_, ?_⟩, ?_⟩
      · show 0 ≤ nS s (aft s _) ∧ nS s (aft s _) ≤ L; omega
      · show 0 ≤ nb ∧ nb ≤ 2; omega
      · show 0 ≤ n + 1 ∧ n + 1 ≤ 6; omega
      · show 0 ≤ o ∧ o ≤ 999; omega
      · show i < nS s (aft s _); omega
    · rw [if_neg k1] at hg
      by_cases k2 : kdW s i (run isLt s i) = 2
      · rw [if_pos k2] at hg
        have hb := odQ_0 hg
        have ha := aft_ok (j := nE s (run isLt s i)) hT (by omega) (by omega) hb.2.2
        have hs := nS_ok (i := aft s (nE s (run isLt s i))) hT (by omega) (by omega)
        have hv := nV_ok hb.2.1
        have en : nextP s (i, nb, n, o, fb, ft) = (nS s (aft s (nE s (run isLt s i))), nb, n, nV s (run isLt s i), fb, ft) := (if_neg k0).trans (if_neg k1)
        rw [en]
        refine ⟨⟨?_, ?_, ?_, ?_⟩, ?_⟩
        · show 0 ≤ nS s (aft s _) ∧ nS s (aft s _) ≤ L; omega
        · show 0 ≤ nb ∧ nb ≤ 2; omega
        · show 0 ≤ n ∧ n ≤ 6; omega
        · show 0 ≤ nV s _ ∧ nV s _ ≤ 999; omega
        · show i < nS s (aft s _); omega
      · rw [if_neg k2] at hg
        have : (fl q0 1 i).1 = 1 := by rw [fl_f rfl (by omega)]
        omega
theorem pst_ok {s : Int → Int} {L : Int} (hT : TXT s L) : ∀ K : Nat, (∀ k : Nat, k < K → GO s k) → POK s L (pst s K) ∧ (K : Int) ≤ (pst s K).1 := by
  intro K
  induction K with
  | zero =>
    intro _
    have h := nS_ok (i := 0) hT (by omega) hT.1.1
    refine ⟨⟨?_, ?_, ?_, ?_⟩, ?_⟩
    · show 0 ≤ nS s 0 ∧ nS s 0 ≤ L; omega
    · show (0 : Int) ≤ 0 ∧ (0 : Int) ≤ 2; omega
    · show (0 : Int) ≤ 0 ∧ (0 : Int) ≤ 6; omega
    · show (0 : Int) ≤ 0 ∧ (0 : Int) ≤ 999; omega
    · show ((0 : Nat) : Int) ≤ nS s 0; omega
  | succ K ih =>
    intro h
    have h1 := ih (fun k hk => h k (by omega))
    have h2 := next_ok hT h1.1 (h K (by omega)).2
    refine ⟨h2.1, ?_⟩
    show ((K + 1 : Nat) : Int) ≤ (nextP s (pst s K)).1
    omega
