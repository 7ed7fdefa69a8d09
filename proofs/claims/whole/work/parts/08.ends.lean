/-! THE THEORY OF ENDS. n bathers with ends U, V at first; c mornings: sets Sm, least L, greatest Gm; T: the set of mornings told; a box (l, u) -/
def Bx (n : Int) (U V l u : Int → Int) : Prop := ∀ k, 0 ≤ k → k < n → U k ≤ l k ∧ l k ≤ u k ∧ u k ≤ V k
/-- morning m moves no end of bather k -/
def Cn (Sm L Gm l u : Int → Int) (m k : Int) : Prop := L m - (sumT u (Sm m) 6 - u k) ≤ l k ∧ u k ≤ Gm m - (sumT l (Sm m) 6 - l k)
def Bad (Sm L Gm : Int → Int) (m : Int) : Prop := Gm m < 0 ∨ (Sm m = 0 ∧ 0 < L m)
def Okm (n : Int) (Sm L Gm l u : Int → Int) (m : Int) : Prop := ¬ Bad Sm L Gm m ∧ ∀ k, 0 ≤ k → k < n → tb (Sm m) k = true → Cn Sm L Gm l u m k
def Sta (n c : Int) (U V Sm L Gm : Int → Int) (T : Int) (l u : Int → Int) : Prop := Bx n U V l u ∧ ∀ m, 0 ≤ m → m < c → tb T m = true → Okm n Sm L Gm l u m
def Cl (n c : Int) (U V Sm L Gm : Int → Int) (T : Int) : Prop := ¬ ∃ l u, Sta n c U V Sm L Gm T l u
/-- every stable box lies in this one -/
def Enc (n c : Int) (U V Sm L Gm : Int → Int) (T : Int) (l u : Int → Int) : Prop := ∀ l' u', Sta n c U V Sm L Gm T l' u' → ∀ k, 0 ≤ k → k < n → l k ≤ l' k ∧ u' k ≤ u k
def RG (l u : Int → Int) : Prop := ∀ k, 0 ≤ k → k < 6 → (0 ≤ l k ∧ l k ≤ 999) ∧ (0 ≤ u k ∧ u k ≤ 999)
def wid (l u : Int → Int) : Int := sumT (fun k => u k - l k) 63 6
theorem tb63 : ∀ k : Nat, k < 6 → tb 63 (k : Int) = true := by decide +kernel
theorem tb63i {k : Int} (h0 : 0 ≤ k) (h1 : k < 6) : tb 63 k = true := by
  obtain ⟨j, rfl⟩ := Int.eq_ofNat_of_zero_le h0
  exact tb63 j (by omega)
theorem sumT_le {f g : Int → Int} {S : Int} : ∀ N : Nat, (∀ j : Nat, j < N → tb S (j : Int) = true → f (j : Int) ≤ g (j : Int)) → sumT f S N ≤ sumT g S N := by
  intro N
  induction N with
  | zero => intro _; exact Int.le_refl _
  | succ N ih =>
    intro h
    have h1 := ih (fun j hj => h j (by omega))
    show sumT f S N + _ ≤ sumT g S N + _
    split
    · next hq => have := h N (by omega) hq; omega
    · omega
theorem sumT_ex {f g : Int → Int} {S k : Int} (h0 : 0 ≤ k) (hk : tb S k = true) : ∀ N : Nat, k < (N : Int) → (∀ j : Nat, j < N → tb S (j : Int) = true → f (j : Int) ≤ g (j : Int)) → sumT f S N - f k ≤ sumT g S N - g k := by
  intro N
  induction N with
  | zero => intro h; omega
  | succ N ih =>
    intro hN h
    show sumT f S N + _ - f k ≤ sumT g S N + _ - g k
    by_cases e : k = (N : Int)
    · subst e
      have h1 := sumT_le (f := f) (g := g) (S := S) N (fun j hj => h j (by omega))
      rw [if_pos hk, if_pos hk]
      omega
    · have h1 := ih (by omega) (fun j hj => h j (by omega))
      split
      · next hq => have := h N (by omega) hq; omega
      · omega
theorem sumT_up {f : Int → Int} {S k x : Int} (h0 : 0 ≤ k) : ∀ N : Nat, sumT (upZ f k x) S N = sumT f S N + (if k < (N : Int) ∧ tb S k = true then x - f k else 0) := by
  intro N
  induction N with
  | zero => rw [if_neg (by omega)]; rfl
  | succ N ih =>
    show sumT (upZ f k x) S N + _ = sumT f S N + _ + _
    rw [ih]
    by_cases e : k = (N : Int)
    · subst e
      rw [upZ_s, if_neg (by omega : ¬ ((N : Int) < (N : Int) ∧ tb S (N : Int) = true))]
      by_cases ht : tb S (N : Int) = true
      · rw [if_pos ht, if_pos ht, if_pos (⟨by omega, ht⟩ : (N : Int) < ((N + 1 : Nat) : Int) ∧ tb S (N : Int) = true)]; omega
      · rw [if_neg ht, if_neg ht, if_neg (fun z => ht z.2)]
    · rw [upZ_n (Ne.symm e)]
      have q : (k < ((N + 1 : Nat) : Int) ∧ tb S k = true) ↔ (k < (N : Int) ∧ tb S k = true) := by
        constructor <;> (intro ⟨z1, z2⟩; exact ⟨by omega, z2⟩)
      simp only [q]
      omega
/-- members at and beyond n: none -/
theorem sumT_cut {f : Int → Int} {S n : Int} (h0 : 0 ≤ S) (h1 : S < p2 n) (hn : 0 ≤ n) : ∀ d : Nat, sumT f S (n.toNat + d) = sumT f S n.toNat := by
  intro d
  induction d with
  | zero => rfl
  | succ d ih =>
    show sumT f S (n.toNat + d) + (if tb S ((n.toNat + d : Nat) : Int) = true then f ((n.toNat + d : Nat) : Int) else 0) = _
    rw [ih, tb_lt h0 h1 (by omega : n ≤ ((n.toNat + d : Nat) : Int)) hn, if_neg (by decide)]
    omega
theorem sumT_6 {f : Int → Int} {S n : Int} (h0 : 0 ≤ S) (h1 : S < p2 n) (hn : 0 ≤ n) (h6 : n ≤ 6) : sumT f S 6 = sumT f S n.toNat := by
  have h := sumT_cut (f := f) h0 h1 hn (6 - n.toNat)
  rw [show n.toNat + (6 - n.toNat) = 6 by omega] at h
  exact h
theorem wid_up {l u : Int → Int} {k a b : Int} (h0 : 0 ≤ k) (h1 : k < 6) : wid (upZ l k a) (upZ u k b) = wid l u + (b - u k) - (a - l k) := by
  have e : (fun j => upZ u k b j - upZ l k a j) = upZ (fun j => u j - l j) k (b - a) := by
    funext j
    by_cases hj : j = k
    · subst hj; rw [upZ_s, upZ_s, upZ_s]
    · rw [upZ_n hj, upZ_n hj, upZ_n hj]
  unfold wid
  rw [e, sumT_up h0, if_pos ⟨by omega, tb63i h0 h1⟩]
  omega
theorem wid_b {l u : Int → Int} (h : RG l u) : -5994 ≤ wid l u ∧ wid l u ≤ 5994 := by
  have := sumT_b (f := fun k => u k - l k) (S := 63) (A := -999) (B := 999) (by omega) (by omega) 6 (fun k hk _ => by
    have := h k (by omega) (by omega)
    show -999 ≤ u k - l k ∧ u k - l k ≤ 999
    omega)
  unfold wid
  omega
section THEORY
variable {n c : Int} {U V Sm L Gm : Int → Int} {T : Int}
theorem Enc.first (h : ∀ k, 0 ≤ k → k < n → True) : Enc n c U V Sm L Gm T U V := fun l' u' hs k h0 h1 => ⟨(hs.1 k h0 h1).1, (hs.1 k h0 h1).2.2⟩
theorem Enc.k {l u : Int → Int} {m k : Int} (hE : Enc n c U V Sm L Gm T l u) (hT : tb T m = true) (hm : 0 ≤ m ∧ m < c) (hk : 0 ≤ k ∧ k < n) (hn : n ≤ 6) (ht : tb (Sm m) k = true) (hS : 0 ≤ Sm m ∧ Sm m < p2 n) {l' u' : Int → Int} (hs : Sta n c U V Sm L Gm T l' u') :
    max (l k) (L m - (sumT u (Sm m) 6 - u k)) ≤ l' k ∧ u' k ≤ min (u k) (Gm m - (sumT l (Sm m) 6 - l k)) := by
  have h1 := hE l' u' hs k hk.1 hk.2
  obtain ⟨h2, h3⟩ := (hs.2 m hm.1 hm.2 hT).2 k hk.1 hk.2 ht
  have hin : ∀ j : Nat, j < 6 → tb (Sm m) (j : Int) = true → (j : Int) < n := fun j hj hq => by
    rcases (by omega : (j : Int) < n ∨ n ≤ (j : Int)) with z | z
    · exact z
    · rw [tb_lt hS.1 hS.2 z (by omega)] at hq
      exact absurd hq (by decide)
  have h4 := sumT_ex (f := u') (g := u) hk.1 ht 6 (by omega) (fun j hj hq => (hE l' u' hs j (by omega) (hin j hj hq)).2)
  have h5 := sumT_ex (f := l) (g := l') hk.1 ht 6 (by omega) (fun j hj hq => (hE l' u' hs j (by omega) (hin j hj hq)).1)
  omega
theorem Enc.up {l u : Int → Int} {m k a b : Int} (hE : Enc n c U V Sm L Gm T l u) (hT : tb T m = true) (hm : 0 ≤ m ∧ m < c) (hk : 0 ≤ k ∧ k < n) (hn : n ≤ 6) (ht : tb (Sm m) k = true) (hS : 0 ≤ Sm m ∧ Sm m < p2 n) (ha : a = max (l k) (L m - (sumT u (Sm m) 6 - u k))) (hb : b = min (u k) (Gm m - (sumT l (Sm m) 6 - l k))) : Enc n c U V Sm L Gm T (upZ l k a) (upZ u k b) := by
  intro l' u' hs j h0 h1
  by_cases e : j = k
  · subst e
    rw [upZ_s, upZ_s, ha, hb]
    exact hE.k hT hm hk hn ht hS hs
  · rw [upZ_n e, upZ_n e]
    exact hE l' u' hs j h0 h1
theorem Enc.clash {l u : Int → Int} {k : Int} (hE : Enc n c U V Sm L Gm T l u) (hk : 0 ≤ k ∧ k < n) (h : u k < l k) : Cl n c U V Sm L Gm T := by
  rintro ⟨l', u', hs⟩
  have h1 := hE l' u' hs k hk.1 hk.2
  have h2 := hs.1 k hk.1 hk.2
  omega
theorem Bad.clash {m : Int} (hm : 0 ≤ m ∧ m < c) (hT : tb T m = true) (h : Bad Sm L Gm m) : Cl n c U V Sm L Gm T := by
  rintro ⟨l', u', hs⟩
  exact (hs.2 m hm.1 hm.2 hT).1 h
/-- fewer mornings: no clash either -/
theorem Cl.mono {T' : Int} (hsub : ∀ m, 0 ≤ m → m < c → tb T m = true → tb T' m = true) (h : Cl n c U V Sm L Gm T) : Cl n c U V Sm L Gm T' := by
  rintro ⟨l, u, hs⟩
  exact h ⟨l, u, hs.1, fun m h0 h1 h2 => hs.2 m h0 h1 (hsub m h0 h1 h2)⟩
/-- the ends: the greatest stable box, or the first ends of a clash; they are told by this -/
def EndsOf (n c : Int) (U V Sm L Gm : Int → Int) (T : Int) (cl : Bool) (l u : Int → Int) : Prop := (cl = true ∧ Cl n c U V Sm L Gm T ∧ ∀ k, 0 ≤ k → k < n → l k = U k ∧ u k = V k) ∨ (cl = false ∧ Sta n c U V Sm L Gm T l u ∧ Enc n c U V Sm L Gm T l u)
theorem EndsOf.one {cl cl' : Bool} {l u l' u' : Int → Int} (h : EndsOf n c U V Sm L Gm T cl l u) (h' : EndsOf n c U V Sm L Gm T cl' l' u') : cl = cl' ∧ ∀ k, 0 ≤ k → k < n → l k = l' k ∧ u k = u' k := by
  rcases h with ⟨a1, a2, a3⟩ | ⟨a1, a2, a3⟩ <;> rcases h' with ⟨b1, b2, b3⟩ | ⟨b1, b2, b3⟩
  · exact ⟨by rw [a1, b1], fun k h0 h1 => ⟨by rw [(a3 k h0 h1).1, (b3 k h0 h1).1], by rw [(a3 k h0 h1).2, (b3 k h0 h1).2]⟩⟩
  · exact absurd ⟨_, _, b2⟩ a2
  · exact absurd ⟨_, _, a2⟩ b2
  · refine ⟨by rw [a1, b1], fun k h0 h1 => ?_⟩
    have h2 := a3 _ _ b2 k h0 h1
    have h3 := b3 _ _ a2 k h0 h1
    omega
end THEORY
/-! a morning's data out of the rows -/
def mS (gm : Int → Int) : Int → Int := fun m => gm (m * 4 + 2)
def mL (fb gm : Int → Int) : Int → Int := fun m => hLst fb (gm (m * 4 + 0)) (gm (m * 4 + 1)) (gm (m * 4 + 3))
def mG (fb gm : Int → Int) : Int → Int := fun m => hMos fb (gm (m * 4 + 0)) (gm (m * 4 + 1)) (gm (m * 4 + 3))
def fU (ft : Int → Int) : Int → Int := fun k => ft (k * 4 + 0)
def fV (ft : Int → Int) : Int → Int := fun k => ft (k * 4 + 1)
/-- rows that are in bounds: mornings, entries -/
def HM (gm : Int → Int) (c nb n : Int) : Prop := ∀ m, 0 ≤ m → m < c → (0 ≤ gm (m * 4 + 0) ∧ gm (m * 4 + 0) < nb) ∧ (0 ≤ gm (m * 4 + 1) ∧ gm (m * 4 + 1) < 100) ∧ (0 ≤ gm (m * 4 + 2) ∧ gm (m * 4 + 2) < p2 n) ∧ (0 ≤ gm (m * 4 + 3) ∧ gm (m * 4 + 3) < 100000)
